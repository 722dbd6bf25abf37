/-! BOTH: append; the text's orders exist -/
section
variable {σ τ : ZI} {θ : ZT} {Q : ZO → ZT → ZI → Prop} {x n : Nat} {w : zW} {N : Int} {ts : Nat → Int} {tl : Nat} {c : Int}
theorem zTt_a (hs : zTt ts tl) (h : tl < 60) (hc : 0 ≤ c ∧ c < 65536) : zTt (wu ts tl c) (tl + 1) := by
  refine ⟨by omega, fun i hi => ?_⟩
  by_cases e : i = tl
  · subst e; rw [wu_s]; exact hc
  · rw [wu_o e]; exact hs.2 i (by omega)
theorem t_put (hs : zTt ts tl) (hT : zTc σ ts tl) (h : tl < 60) (hc : 0 ≤ c ∧ c < 65536) : WM 56 [.inr (.inl (some 3550)), .inl c] (3565, x, zrho) σ Q = Q (.inl (some (.inl ((tl : Int) + 1)))) (3565, x, zrho) (zup (zup σ 3551 tl c) 3550 1 ((tl : Int) + 1)) := by
  show Wp 56 0 [some (.inr (.inl (some 3550))), some (.inl c)] [] _ _ Q = _
  have k := zt_k
  have k1 := zt_k1
  have n1 := zt_n1
  have h1 := hT.1
  obtain ⟨hc1, hc2⟩ := hc
  have d0 : ((tl : Int) < 0) = False := eq_false (by omega)
  have d1 : ((tl : Int) < 60) = True := eq_true (by omega)
  have z1 : ∀ v, zup σ 3551 tl v 3550 1 = (tl : Int) := fun v => by rw [zup_f (by omega)]; exact h1
  simp (disch := first | assumption | exact p_c2i | exact p_c2r | exact p_c2n | omega | ((repeat (first | refine p_a1i.trans ?_ | refine p_a1r.trans ?_)); exact p_a10) | ((repeat (first | refine p_wI ?_ | refine p_wR ?_)); exact p_w0) | decide) only [reduceIte, Int.reduceLT, Int.reduceLE, Int.reduceEq, Int.reduceToNat, Int.reduceAdd, Int.reduceSub, Int.reduceMul, Int.reduceNeg, e56_0, e56_1, e56_4, e56_7, e56_8, e56_11, e56_13, e56_16, e56_17, e56_20, e56_21, e56_24, e56_25, e56_26, e56_27, e56_28, e56_31, e56_32, e56_33, e56_36, e56_37, e56_40, p_al0, p_getI, p_iflt, p_push, p_cge, p_getR, p_il1, p_cast, p_dupi, p_dupr, p_bin, p_putI, p_ret0, WN_nx, WN_nrt, WN_ite, h1, d0, d1, zt_r, Int.toNat_natCast, z1, zup_s]
theorem t_appendC (hs : zTt ts tl) (hT : zTc σ ts tl) (hc : 0 ≤ c ∧ c < 65536) (K1 : tl = 60 → Q (.inr 4) (3565, x + 1, zrho) σ) (K0 : tl < 60 → ∀ σ', zTc σ' (wu ts tl c) (tl + 1) → (∀ a, a ≠ 3550 → a ≠ 3551 → σ' a = σ a) → Q (.inl (some (.inl ((tl : Int) + 1)))) (3565, x, zrho) σ') : WM 94 [.inr (.inl (some 100)), .inl c] (3565, x, zrho) σ Q := by
  show Wp 94 0 [some (.inr (.inl (some 100))), some (.inl c)] [] _ _ Q
  have k := zx_k
  have k50 := zt_k
  have h1 := hT.1
  have h60 := hs.1
  by_cases e : tl < 60
  · have d1 : ((tl : Int) < 60) = True := eq_true (by omega)
    have tp := fun (Q : ZO → ZT → ZI → Prop) => t_put (x := x) (Q := Q) hs hT e hc
    simp (disch := first | assumption | exact p_c2i | exact p_c2r | exact p_c2n | omega | ((repeat (first | refine p_a1i.trans ?_ | refine p_a1r.trans ?_)); exact p_a10) | ((repeat (first | refine p_wI ?_ | refine p_wR ?_)); exact p_w0) | decide) only [reduceIte, Int.reduceLT, Int.reduceLE, Int.reduceEq, Int.reduceToNat, Int.reduceAdd, Int.reduceSub, Int.reduceMul, Int.reduceNeg, e94_0, e94_1, e94_4, e94_7, e94_9, e94_12, e94_23, e94_24, e94_27, e94_28, e94_31, p_al0, p_getR, p_getI, p_push, p_clt, o_throw, p_il1, p_cv1_0, p_cv1_1, p_cv1_2, p_cv1_3, p_cv1_4, zK_v, zK_0, WN_ncl, p_ret0, WN_nx, WN_nrt, WN_ite, zx_r8, h1, d1, tp]
    refine K0 e _ ⟨zup_s, fun i hi => ?_⟩ (fun a a1 a2 => by rw [zup_f a1, zup_f a2])
    rw [zup_f (by omega)]
    by_cases q : i = tl
    · subst q; rw [zup_s, wu_s]
    · rw [zup_j q, wu_o q]; exact hT.2 i (by omega)
  · have d1 : ((tl : Int) < 60) = False := eq_false (by omega)
    simp (disch := first | assumption | exact p_c2i | exact p_c2r | exact p_c2n | omega | ((repeat (first | refine p_a1i.trans ?_ | refine p_a1r.trans ?_)); exact p_a10) | ((repeat (first | refine p_wI ?_ | refine p_wR ?_)); exact p_w0) | decide) only [reduceIte, Int.reduceLT, Int.reduceLE, Int.reduceEq, Int.reduceToNat, Int.reduceAdd, Int.reduceSub, Int.reduceMul, Int.reduceNeg, e94_0, e94_1, e94_4, e94_7, e94_9, e94_12, e94_23, e94_24, e94_27, e94_28, e94_31, p_al0, p_getR, p_getI, p_push, p_clt, o_throw, p_il1, p_cv1_0, p_cv1_1, p_cv1_2, p_cv1_3, p_cv1_4, zK_v, zK_0, WN_ncl, p_ret0, WN_nx, WN_nrt, WN_ite, zx_r8, h1, d1, p_throw]
    exact K1 (by omega)
theorem t_appendM (hs : zTt ts tl) (hT : zTm τ ts tl) (hc : 0 ≤ c ∧ c < 65536) (K1 : tl = 60 → ∀ τ' b, zQy τ τ' 1 → Q (.inl (some (.inl b))) (3565, x, zrho) (zg τ' w)) (K0 : tl < 60 → ∀ τ', zTm τ' (wu ts tl c) (tl + 1) → τ' 3553 8 = 0 → (∀ k, k ≠ 8 → k ≠ 12 → τ' 3553 k = τ 3553 k) → (∀ a, a ≠ 3553 → a ≠ 3559 → τ' a = τ a) → Q (.inl (some (.inl ((tl : Int) + 1)))) (3565, x, zrho) (zg τ' w)) : WM 200 [.inr (.inl (some 3553)), .inl c] (3565, x, zrho) (zg τ w) Q := by
  show Wp 200 0 [some (.inr (.inl (some 3553))), some (.inl c)] [] _ _ Q
  have k := zm_k
  have k1 := zt_m1
  have n1 := zt_m2
  have h1 := hT.1
  have h60 := hs.1
  by_cases e : tl = 60
  · have d1 : ((tl : Int) = 60) = True := eq_true (by omega)
    simp (disch := first | assumption | exact p_c2i | exact p_c2r | exact p_c2n | omega | ((repeat (first | refine p_a1i.trans ?_ | refine p_a1r.trans ?_)); exact p_a10) | ((repeat (first | refine p_wI ?_ | refine p_wR ?_)); exact p_w0) | decide) only [reduceIte, Int.reduceLT, Int.reduceLE, Int.reduceEq, Int.reduceToNat, Int.reduceAdd, Int.reduceSub, Int.reduceMul, Int.reduceNeg, e200_0, e200_1, e200_2, e200_5, e200_7, e200_10, e200_11, e200_14, e200_15, e200_18, e200_21, e200_22, e200_23, e200_24, e200_27, e200_28, e200_31, e200_32, e200_33, e200_34, e200_35, e200_38, e200_39, e200_40, e200_43, e200_44, e200_47, p_al0, p_getI, p_push, p_cne, p_goto, p_cv1_0, p_cv1_1, p_cv1_2, p_cv1_3, p_cv1_4, zK_v, zK_0, WN_ncl, p_ifeq, p_ret0, p_getR, p_il1, p_iast, p_dupi, p_dupr, p_bin, p_putI, WN_nx, WN_nrt, WN_ite, zg_o3, h1, d1, tf_1]
    exact K1 e _ _ zQy_f
  · have d1 : ((tl : Int) = 60) = False := eq_false (by omega)
    have z12 : ∀ v, zup τ 3553 8 v 3553 12 = (tl : Int) := fun v => (zup_j (by omega)).trans h1
    have zz : ∀ (v u : Int), zup (zg (zup τ 3553 8 u) w) 3559 tl v = zg (zup (zup τ 3553 8 u) 3559 tl v) w := fun v u => zg_c (by omega)
    have z13 : ∀ v u, zup (zup τ 3553 8 u) 3559 tl v 3553 12 = (tl : Int) := fun v u => by rw [zup_f (by omega)]; exact z12 u
    simp (disch := first | assumption | exact p_c2i | exact p_c2r | exact p_c2n | omega | ((repeat (first | refine p_a1i.trans ?_ | refine p_a1r.trans ?_)); exact p_a10) | ((repeat (first | refine p_wI ?_ | refine p_wR ?_)); exact p_w0) | decide) only [reduceIte, Int.reduceLT, Int.reduceLE, Int.reduceEq, Int.reduceToNat, Int.reduceAdd, Int.reduceSub, Int.reduceMul, Int.reduceNeg, e200_0, e200_1, e200_2, e200_5, e200_7, e200_10, e200_11, e200_14, e200_15, e200_18, e200_21, e200_22, e200_23, e200_24, e200_27, e200_28, e200_31, e200_32, e200_33, e200_34, e200_35, e200_38, e200_39, e200_40, e200_43, e200_44, e200_47, p_al0, p_getI, p_push, p_cne, p_goto, p_cv1_0, p_cv1_1, p_cv1_2, p_cv1_3, p_cv1_4, zK_v, zK_0, WN_ncl, p_ifeq, p_ret0, p_getR, p_il1, p_iast, p_dupi, p_dupr, p_bin, p_putI, WN_nx, WN_nrt, WN_ite, zg_o3, h1, d1, tf_0, z12, zt_m3, Int.toNat_natCast, zz, z13, zg_c3, zup_s]
    refine K0 (by omega) _ ⟨zup_s, fun i hi => ?_⟩ ?_ (fun k k1 k2 => ?_) (fun a a1 a2 => ?_)
    · rw [zup_f (by omega)]
      by_cases q : i = tl
      · subst q; rw [zup_s, wu_s]
      · rw [zup_j q, wu_o q, zup_f (by omega)]; exact hT.2 i (by omega)
    · rw [zup_j (by omega), zup_f (by omega), zup_s]
    · rw [zup_j k2, zup_f (by omega), zup_j k1]
    · rw [zup_f a1, zup_f a2, zup_f a1]
theorem zPar_x (hs : zTt ts tl) : ∀ n j : Nat, j + n = 61 → zPre ts tl j → (fO ts tl n (sO ts tl j) = -1 ∧ ∃ M, zPar ts tl M ∧ M ≤ 31) ∨ (0 ≤ fO ts tl n (sO ts tl j) ∧ fO ts tl n (sO ts tl j) ≤ 100) := by
  have h60 := hs.1
  intro n
  induction n with
  | zero =>
    intro j hj hp
    have := zPre_in j hp
    omega
  | succ n ih =>
    intro j hj hp
    have hb := zPre_in j hp
    obtain ⟨b1, b2, b3⟩ := eO_in (ts := ts) (tl := tl) (s := sO ts tl j)
    rw [fO_s]
    by_cases c1 : eO ts tl (sO ts tl j) < 0
    · rw [if_pos c1]
      right
      omega
    · rw [if_neg c1]
      have hle := eO_le (show 0 ≤ eO ts tl (sO ts tl j) by omega)
      by_cases c2 : (tl : Int) ≤ eO ts tl (sO ts tl j)
      · rw [if_pos c2]
        left
        exact ⟨rfl, j + 1, ⟨j, rfl, hp, by omega⟩, by omega⟩
      · rw [if_neg c2]
        by_cases c3 : sA ts tl (eO ts tl (sO ts tl j)).toNat = 59
        · rw [if_neg (fun z => z c3)]
          refine ih (j + 1) (by omega) (fun i hi => ?_)
          by_cases e : i = j
          · subst e; exact ⟨by omega, by omega, c3⟩
          · exact hp i (by omega)
        · rw [if_pos c3]
          right
          omega
theorem fO_x (hs : zTt ts tl) : (fO ts tl 61 0 = -1 → ∃ M, zPar ts tl M ∧ M ≤ 31) ∧ (fO ts tl 61 0 = -1 ∨ (0 ≤ fO ts tl 61 0 ∧ fO ts tl 61 0 ≤ 100)) := by
  rcases zPar_x hs 61 0 rfl (fun i hi => absurd hi (Nat.not_lt_zero i)) with ⟨h1, h2⟩ | h
  · exact ⟨fun _ => h2, Or.inl h1⟩
  · have h' : 0 ≤ fO ts tl 61 0 ∧ fO ts tl 61 0 ≤ 100 := h
    exact ⟨fun z => by omega, Or.inr h'⟩
theorem zPre_u {a b : Nat} (ha : zPre ts tl a) (hA : eO ts tl (sO ts tl a) = (tl : Int)) (hb : zPre ts tl b) (hB : eO ts tl (sO ts tl b) = (tl : Int)) : a = b := by
  rcases Nat.lt_trichotomy a b with h | h | h
  · have := hb a h
    omega
  · exact h
  · have := ha b h
    omega
theorem zPar_u {M M' : Nat} (h : zPar ts tl M) (h' : zPar ts tl M') : M = M' := by
  obtain ⟨m, e, h1, h2⟩ := h
  obtain ⟨m', e', h1', h2'⟩ := h'
  have := zPre_u h1 h2 h1' h2'
  omega
end
