theorem t_isHoe {L : Nat} {h : Int} {θ : ZT} {σ : ZI} {Q : ZO → ZT → ZI → Prop} (hk : zkd L = 2) (h1 : -2147483648 ≤ h) (h2 : h < 2147483648) (h3 : 0 ≤ σ L 10) (h4 : σ L 10 ≤ 4) :
    WM 16 [.inr (.inl (some L)), .inl h] θ σ Q = Q (.inl (some (.inl (if 0 ≤ h ∧ h < σ L 10 then 1 else 0)))) θ σ := by
  show Wp 16 0 [some (.inr (.inl (some L))), some (.inl h)] [] θ σ Q = _
  simp (disch := first | assumption | omega | rfl) only [e16_0, e16_1, e16_4, e16_5, e16_6, e16_9, e16_12, e16_13, e16_14, e16_17, e16_18, e16_21, e16_22, p_il1, p_iflt, p_al0, p_getI, p_cge, p_push, p_goto, p_ret1, WN_nx, WN_nrt, WN_ite]
  by_cases a : h < 0
  · rw [if_pos a, if_neg (by omega)]
  · rw [if_neg a]
    by_cases b : h < σ L 10
    · rw [if_pos b, if_pos (by omega), if_pos (by omega)]
    · rw [if_neg b, if_neg (by omega)]
