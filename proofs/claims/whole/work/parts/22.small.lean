/-! SMALL METHODS: of numbers, of one lawn's rows -/
section
variable {L : Nat} {θ : ZT} {σ : ZI} {Q : ZO → ZT → ZI → Prop} {x : Nat}
theorem t_cellOf {a b : Int} : WM 106 [.inl a, .inl b] θ σ Q = Q (.inl (some (.inl (9 * a + b)))) θ σ := by
  show Wp 106 0 [some (.inl a), some (.inl b)] [] θ σ Q = _
  simp (disch := first | assumption | exact p_c2i | exact p_c2r | exact p_c2n | omega | ((repeat (first | refine p_a1i.trans ?_ | refine p_a1r.trans ?_)); exact p_a10) | ((repeat (first | refine p_wI ?_ | refine p_wR ?_)); exact p_w0) | decide) only [reduceIte, Int.reduceLT, Int.reduceLE, Int.reduceEq, Int.reduceToNat, Int.reduceAdd, Int.reduceSub, Int.reduceMul, Int.reduceNeg, e106_0, e106_2, e106_3, e106_4, e106_5, e106_6, p_push, p_il0, p_bin, p_il1, p_ret0, WN_nx, WN_nrt, WN_ite]
theorem t_min {a b : Int} (h1 : -2147483648 ≤ a) (h2 : a < 2147483648) (h3 : -2147483648 ≤ b) (h4 : b < 2147483648) : WM 223 [.inl a, .inl b] θ σ Q = Q (.inl (some (.inl (min a b)))) θ σ := by
  show Wp 223 0 [some (.inl a), some (.inl b)] [] θ σ Q = _
  simp (disch := first | assumption | exact p_c2i | exact p_c2r | exact p_c2n | omega | ((repeat (first | refine p_a1i.trans ?_ | refine p_a1r.trans ?_)); exact p_a10) | ((repeat (first | refine p_wI ?_ | refine p_wR ?_)); exact p_w0) | decide) only [reduceIte, Int.reduceLT, Int.reduceLE, Int.reduceEq, Int.reduceToNat, Int.reduceAdd, Int.reduceSub, Int.reduceMul, Int.reduceNeg, e223_0, e223_1, e223_2, e223_5, e223_6, e223_9, e223_10, p_il0, p_il1, p_cgt, p_goto, p_ret0, WN_nx, WN_nrt, WN_ite]
  split
  · rw [show min a b = b by omega]
  · rw [show min a b = a by omega]
theorem t_max {a b : Int} (h1 : -2147483648 ≤ a) (h2 : a < 2147483648) (h3 : -2147483648 ≤ b) (h4 : b < 2147483648) : WM 222 [.inl a, .inl b] θ σ Q = Q (.inl (some (.inl (max a b)))) θ σ := by
  show Wp 222 0 [some (.inl a), some (.inl b)] [] θ σ Q = _
  simp (disch := first | assumption | exact p_c2i | exact p_c2r | exact p_c2n | omega | ((repeat (first | refine p_a1i.trans ?_ | refine p_a1r.trans ?_)); exact p_a10) | ((repeat (first | refine p_wI ?_ | refine p_wR ?_)); exact p_w0) | decide) only [reduceIte, Int.reduceLT, Int.reduceLE, Int.reduceEq, Int.reduceToNat, Int.reduceAdd, Int.reduceSub, Int.reduceMul, Int.reduceNeg, e222_0, e222_1, e222_2, e222_5, e222_6, e222_9, e222_10, p_il0, p_il1, p_clt, p_goto, p_ret0, WN_nx, WN_nrt, WN_ite]
  split
  · rw [show max a b = b by omega]
  · rw [show max a b = a by omega]
theorem zxor_nn {a b : Int} (h1 : 0 ≤ a) (h2 : a < 2147483648) (h3 : 0 ≤ b) (h4 : b < 2147483648) : 0 ≤ z_xor a b ∧ z_xor a b < 2147483648 := by
  have key : ∀ u v : BitVec 32, u.msb = false → v.msb = false → (u ^^^ v).msb = false := by
    intro u v hu hv
    rw [BitVec.msb_xor, hu, hv]; rfl
  have hm : ∀ y : Int, 0 ≤ y → y < 2147483648 → (Int32.ofInt y).toBitVec.msb = false := by
    intro y hy1 hy2
    show (BitVec.ofInt 32 y).msb = false
    rw [BitVec.msb_eq_toInt, BitVec.toInt_ofInt]
    have : y.bmod (2 ^ 32) = y := by rw [Int.bmod_eq_of_le] <;> omega
    rw [this]
    simpa using hy1
  have hx := key _ _ (hm a h1 h2) (hm b h3 h4)
  have hr : z_xor a b = ((Int32.ofInt a).toBitVec ^^^ (Int32.ofInt b).toBitVec).toInt := rfl
  rw [hr]
  rw [BitVec.msb_eq_toInt] at hx
  have h5 := BitVec.toInt_lt (x := (Int32.ofInt a).toBitVec ^^^ (Int32.ofInt b).toBitVec)
  have h6 : ¬ ((Int32.ofInt a).toBitVec ^^^ (Int32.ofInt b).toBitVec).toInt < 0 := by simpa using hx
  exact ⟨by omega, by simpa using h5⟩
theorem t_floorMod {a b : Int} (h1 : 0 ≤ a) (h2 : a < 2147483648) (h3 : 0 < b) (h4 : b < 2147483648) : WM 221 [.inl a, .inl b] θ σ Q = Q (.inl (some (.inl (a % b)))) θ σ := by
  show Wp 221 0 [some (.inl a), some (.inl b), none] [] θ σ Q = _
  obtain ⟨g1, g2⟩ := zxor_nn h1 h2 (Int.le_of_lt h3) h4
  simp (disch := first | assumption | exact p_c2i | exact p_c2r | exact p_c2n | omega | ((repeat (first | refine p_a1i.trans ?_ | refine p_a1r.trans ?_)); exact p_a10) | ((repeat (first | refine p_wI ?_ | refine p_wR ?_)); exact p_w0) | decide) only [reduceIte, Int.reduceLT, Int.reduceLE, Int.reduceEq, Int.reduceToNat, Int.reduceAdd, Int.reduceSub, Int.reduceMul, Int.reduceNeg, e221_0, e221_1, e221_2, e221_3, e221_4, e221_5, e221_6, e221_7, p_il0, p_il1, p_rem, p_is2, p_c2n, p_c2i, p_c2r, p_bin, p_ifge, WN_nx, WN_nrt, WN_ite]
  rw [if_neg (by omega)]
  simp (disch := first | assumption | exact p_c2i | exact p_c2r | exact p_c2n | omega | ((repeat (first | refine p_a1i.trans ?_ | refine p_a1r.trans ?_)); exact p_a10) | ((repeat (first | refine p_wI ?_ | refine p_wR ?_)); exact p_w0) | decide) only [reduceIte, Int.reduceLT, Int.reduceLE, Int.reduceEq, Int.reduceToNat, Int.reduceAdd, Int.reduceSub, Int.reduceMul, Int.reduceNeg, e221_18, e221_19, p_il2, p_ret0, WN_nx, WN_nrt, WN_ite]
  rw [Int.tmod_eq_emod_of_nonneg h1]
theorem t_isCell {a b : Int} (h1 : -2147483648 ≤ a) (h2 : a < 2147483648) (h3 : -2147483648 ≤ b) (h4 : b < 2147483648) : WM 105 [.inl a, .inl b] θ σ Q = Q (.inl (some (.inl (if (0 ≤ a ∧ a < 9) ∧ (0 ≤ b ∧ b < 9) then 1 else 0)))) θ σ := by
  show Wp 105 0 [some (.inl a), some (.inl b)] [] θ σ Q = _
  simp (disch := first | assumption | exact p_c2i | exact p_c2r | exact p_c2n | omega | ((repeat (first | refine p_a1i.trans ?_ | refine p_a1r.trans ?_)); exact p_a10) | ((repeat (first | refine p_wI ?_ | refine p_wR ?_)); exact p_w0) | decide) only [reduceIte, Int.reduceLT, Int.reduceLE, Int.reduceEq, Int.reduceToNat, Int.reduceAdd, Int.reduceSub, Int.reduceMul, Int.reduceNeg, e105_0, e105_1, e105_4, e105_5, e105_7, e105_10, e105_11, e105_14, e105_15, e105_17, e105_20, e105_21, e105_24, e105_25, p_il0, p_iflt, p_push, p_cge, p_il1, p_goto, p_ret1, WN_nx, WN_nrt, WN_ite]
  by_cases c1 : a < 0
  · rw [if_pos c1, if_neg (by omega)]
  rw [if_neg c1]
  by_cases c2 : a < 9
  · by_cases c3 : b < 0
    · rw [if_pos c2, if_pos c3, if_neg (by omega)]
    · by_cases c4 : b < 9
      · simp [c2, c3, c4]
        rw [if_pos (by omega)]
      · simp [c2, c3, c4]
  · simp [c2]
/-- the cell beside -/
def aTo (c d : Int) : Int := if d = 0 then 9 * (if 0 < c / 9 then c / 9 - 1 else 8) + c % 9 else if d = 1 then 9 * (c / 9) + (if c % 9 < 8 then c % 9 + 1 else 0) else if d = 2 then 9 * (if c / 9 < 8 then c / 9 + 1 else 0) + c % 9 else 9 * (c / 9) + (if 0 < c % 9 then c % 9 - 1 else 8)
theorem aTo_in {c d : Int} (h1 : 0 ≤ c) (h2 : c < 81) : 0 ≤ aTo c d ∧ aTo c d < 81 := by
  unfold aTo
  repeat' split
  all_goals omega
theorem aTo_ne {c d : Int} (h1 : 0 ≤ c) (h2 : c < 81) : aTo c d ≠ c := by
  unfold aTo
  repeat' split
  all_goals omega
theorem t_cellBeside {c d : Int} (h1 : 0 ≤ c) (h2 : c < 81) (h3 : 0 ≤ d) (h4 : d < 4) : WM 107 [.inl c, .inl d] θ σ Q = Q (.inl (some (.inl (aTo c d)))) θ σ := by
  show Wp 107 0 [some (.inl c), some (.inl d), none, none] [] θ σ Q = _
  simp (disch := first | assumption | exact p_c2i | exact p_c2r | exact p_c2n | omega | ((repeat (first | refine p_a1i.trans ?_ | refine p_a1r.trans ?_)); exact p_a10) | ((repeat (first | refine p_wI ?_ | refine p_wR ?_)); exact p_w0) | decide) only [reduceIte, Int.reduceLT, Int.reduceLE, Int.reduceEq, Int.reduceToNat, Int.reduceAdd, Int.reduceSub, Int.reduceMul, Int.reduceNeg, e107_0, e107_1, e107_3, e107_4, e107_5, e107_6, e107_8, e107_9, e107_10, p_il0, p_push, p_div, p_is2, p_c2n, p_c2i, p_c2r, p_rem, p_is3, p_il1, WN_nx, WN_nrt, WN_ite]
  rw [Int.tdiv_eq_ediv_of_nonneg h1, Int.tmod_eq_emod_of_nonneg h1]
  have hd : d = 0 ∨ d = 1 ∨ d = 2 ∨ d = 3 := by omega
  unfold aTo
  rcases hd with rfl | rfl | rfl | rfl <;> simp (disch := first | assumption | exact p_c2i | exact p_c2r | exact p_c2n | omega | ((repeat (first | refine p_a1i.trans ?_ | refine p_a1r.trans ?_)); exact p_a10) | ((repeat (first | refine p_wI ?_ | refine p_wR ?_)); exact p_w0) | decide) only [reduceIte, Int.reduceLT, Int.reduceLE, Int.reduceEq, Int.reduceToNat, Int.reduceAdd, Int.reduceSub, Int.reduceMul, Int.reduceNeg, e107_0, e107_1, e107_3, e107_4, e107_5, e107_6, e107_8, e107_9, e107_10, e107_11, e107_36, e107_37, e107_40, e107_41, e107_42, e107_43, e107_46, e107_48, e107_49, e107_52, e107_53, e107_54, e107_55, e107_57, e107_60, e107_61, e107_62, e107_63, e107_66, e107_67, e107_70, e107_71, e107_72, e107_74, e107_77, e107_78, e107_79, e107_80, e107_83, e107_84, e107_85, e107_88, e107_89, e107_90, e107_91, e107_94, e107_95, e107_96, e107_97, e107_100, e107_102, e107_105, p_il0, p_push, p_div, p_is2, p_c2n, p_c2i, p_c2r, p_rem, p_is3, p_il1, p_sw, p_il2, p_ifle, p_bin, p_goto, p_il3, p_cs2_0, p_cs2_1, p_cs2_2, p_cs2_3, p_cs2_4, zK_v, zK_0, WN_ncl, p_ret0, p_cge, WN_nx, WN_nrt, WN_ite, zsw, t_cellOf] <;> (simp; split <;> first | rfl | simp)
def aQ (t : Int) : Int := if t = 1 then 1 else if t = 2 then 3 else if t = 3 then 2 else 0
theorem aQ_in (t : Int) : 0 ≤ aQ t ∧ aQ t < 4 := by
  unfold aQ
  repeat' split
  all_goals omega
theorem t_quarters {t : Int} (h1 : 0 ≤ t) (h2 : t < 4) : WM 108 [.inl t] θ σ Q = Q (.inl (some (.inl (aQ t)))) θ σ := by
  show Wp 108 0 [some (.inl t)] [] θ σ Q = _
  have hd : t = 0 ∨ t = 1 ∨ t = 2 ∨ t = 3 := by omega
  rcases hd with rfl | rfl | rfl | rfl <;> simp (disch := first | assumption | exact p_c2i | exact p_c2r | exact p_c2n | omega | ((repeat (first | refine p_a1i.trans ?_ | refine p_a1r.trans ?_)); exact p_a10) | ((repeat (first | refine p_wI ?_ | refine p_wR ?_)); exact p_w0) | decide) only [reduceIte, Int.reduceLT, Int.reduceLE, Int.reduceEq, Int.reduceToNat, Int.reduceAdd, Int.reduceSub, Int.reduceMul, Int.reduceNeg, e108_0, e108_1, e108_28, e108_29, e108_30, e108_31, e108_32, e108_33, e108_34, e108_35, p_il0, p_sw, p_push, p_ret0, WN_nx, WN_nrt, WN_ite, zsw] <;> rfl
theorem t_isHoe {h : Int} (hk : zkd L = 2) (h1 : -2147483648 ≤ h) (h2 : h < 2147483648) (h3 : 0 ≤ σ L 10) (h4 : σ L 10 ≤ 4) :
    WM 16 [.inr (.inl (some L)), .inl h] θ σ Q = Q (.inl (some (.inl (if 0 ≤ h ∧ h < σ L 10 then 1 else 0)))) θ σ := by
  show Wp 16 0 [some (.inr (.inl (some L))), some (.inl h)] [] θ σ Q = _
  simp (disch := first | assumption | exact p_c2i | exact p_c2r | exact p_c2n | omega | ((repeat (first | refine p_a1i.trans ?_ | refine p_a1r.trans ?_)); exact p_a10) | ((repeat (first | refine p_wI ?_ | refine p_wR ?_)); exact p_w0) | decide) only [reduceIte, Int.reduceLT, Int.reduceLE, Int.reduceEq, Int.reduceToNat, Int.reduceAdd, Int.reduceSub, Int.reduceMul, Int.reduceNeg, e16_0, e16_1, e16_4, e16_5, e16_6, e16_9, e16_12, e16_13, e16_14, e16_17, e16_18, e16_21, e16_22, p_il1, p_iflt, p_al0, p_getI, p_cge, p_push, p_goto, p_ret1, WN_nx, WN_nrt, WN_ite]
  by_cases a : h < 0
  · rw [if_pos a, if_neg (by omega)]
  · rw [if_neg a]
    by_cases b : h < σ L 10
    · rw [if_pos b, if_pos (by omega), if_pos (by omega)]
    · rw [if_neg b, if_neg (by omega)]
theorem t_colourOf {c : Int} (hk : zkd L = 2) (h1 : 0 ≤ c) (h2 : c < 81) : WM 22 [.inr (.inl (some L)), .inl c] (3565, x, zrho) σ Q = Q (.inl (some (.inl (σ (L + 1) c.toNat)))) (3565, x, zrho) σ := by
  show Wp 22 0 [some (.inr (.inl (some L))), some (.inl c)] [] _ σ Q = _
  have k1 := zkL1 hk
  have n1 := znL1 hk
  simp (disch := first | assumption | exact p_c2i | exact p_c2r | exact p_c2n | omega | ((repeat (first | refine p_a1i.trans ?_ | refine p_a1r.trans ?_)); exact p_a10) | ((repeat (first | refine p_wI ?_ | refine p_wR ?_)); exact p_w0) | decide) only [reduceIte, Int.reduceLT, Int.reduceLE, Int.reduceEq, Int.reduceToNat, Int.reduceAdd, Int.reduceSub, Int.reduceMul, Int.reduceNeg, e22_0, e22_1, e22_4, e22_5, e22_7, e22_10, e22_11, e22_14, e22_15, e22_16, e22_19, e22_20, p_il1, p_iflt, p_push, p_cge, p_al0, p_getR, p_iald, p_goto, p_ret0, WN_nx, WN_nrt, WN_ite, zrL0 hk]
  rw [if_neg (by omega), if_pos (by omega)]
theorem t_paintingsOf {c : Int} (hk : zkd L = 2) (h1 : 0 ≤ c) (h2 : c < 81) : WM 23 [.inr (.inl (some L)), .inl c] (3565, x, zrho) σ Q = Q (.inl (some (.inl (σ (L + 2) c.toNat)))) (3565, x, zrho) σ := by
  show Wp 23 0 [some (.inr (.inl (some L))), some (.inl c)] [] _ σ Q = _
  have k1 := zkL2 hk
  have n1 := znL2 hk
  simp (disch := first | assumption | exact p_c2i | exact p_c2r | exact p_c2n | omega | ((repeat (first | refine p_a1i.trans ?_ | refine p_a1r.trans ?_)); exact p_a10) | ((repeat (first | refine p_wI ?_ | refine p_wR ?_)); exact p_w0) | decide) only [reduceIte, Int.reduceLT, Int.reduceLE, Int.reduceEq, Int.reduceToNat, Int.reduceAdd, Int.reduceSub, Int.reduceMul, Int.reduceNeg, e23_0, e23_1, e23_4, e23_5, e23_7, e23_10, e23_11, e23_14, e23_15, e23_16, e23_19, e23_20, p_il1, p_iflt, p_push, p_cge, p_al0, p_getR, p_iald, p_goto, p_ret0, WN_nx, WN_nrt, WN_ite, zrL1 hk]
  rw [if_neg (by omega), if_pos (by omega)]
theorem t_turnOf {c : Int} (hk : zkd L = 2) (h1 : 0 ≤ c) (h2 : c < 4) : WM 24 [.inr (.inl (some L)), .inl c] (3565, x, zrho) σ Q = Q (.inl (some (.inl (σ (L + 3) c.toNat)))) (3565, x, zrho) σ := by
  show Wp 24 0 [some (.inr (.inl (some L))), some (.inl c)] [] _ σ Q = _
  have k1 := zkL3 hk
  have n1 := znL3 hk
  simp (disch := first | assumption | exact p_c2i | exact p_c2r | exact p_c2n | omega | ((repeat (first | refine p_a1i.trans ?_ | refine p_a1r.trans ?_)); exact p_a10) | ((repeat (first | refine p_wI ?_ | refine p_wR ?_)); exact p_w0) | decide) only [reduceIte, Int.reduceLT, Int.reduceLE, Int.reduceEq, Int.reduceToNat, Int.reduceAdd, Int.reduceSub, Int.reduceMul, Int.reduceNeg, e24_0, e24_1, e24_4, e24_5, e24_6, e24_9, e24_10, e24_13, e24_14, e24_15, e24_18, e24_19, p_il1, p_iflt, p_push, p_cge, p_al0, p_getR, p_iald, p_goto, p_ret0, WN_nx, WN_nrt, WN_ite, zrL2 hk]
  rw [if_neg (by omega), if_pos (by omega)]
theorem t_trailAt {c : Int} (hk : zkd L = 2) (h1 : 0 ≤ c) (h2 : c < 12) : WM 25 [.inr (.inl (some L)), .inl c] (3565, x, zrho) σ Q = Q (.inl (some (.inl (σ (L + 4) c.toNat)))) (3565, x, zrho) σ := by
  show Wp 25 0 [some (.inr (.inl (some L))), some (.inl c)] [] _ σ Q = _
  have k1 := zkL4 hk
  have n1 := znL4 hk
  simp (disch := first | assumption | exact p_c2i | exact p_c2r | exact p_c2n | omega | ((repeat (first | refine p_a1i.trans ?_ | refine p_a1r.trans ?_)); exact p_a10) | ((repeat (first | refine p_wI ?_ | refine p_wR ?_)); exact p_w0) | decide) only [reduceIte, Int.reduceLT, Int.reduceLE, Int.reduceEq, Int.reduceToNat, Int.reduceAdd, Int.reduceSub, Int.reduceMul, Int.reduceNeg, e25_0, e25_1, e25_4, e25_5, e25_7, e25_10, e25_11, e25_14, e25_15, e25_16, e25_19, e25_20, p_il1, p_iflt, p_push, p_cge, p_al0, p_getR, p_iald, p_goto, p_ret0, WN_nx, WN_nrt, WN_ite, zrL3 hk]
  rw [if_neg (by omega), if_pos (by omega)]
theorem t_cellOfHoe {h : Int} (hk : zkd L = 2) (h1 : 0 ≤ h) (h2 : h < σ L 10) (h4 : σ L 10 ≤ 4) : WM 17 [.inr (.inl (some L)), .inl h] (3565, x, zrho) σ Q = Q (.inl (some (.inl (σ (L + 5) h.toNat)))) (3565, x, zrho) σ := by
  show Wp 17 0 [some (.inr (.inl (some L))), some (.inl h)] [] _ σ Q = _
  have k1 := zkL5 hk
  have n1 := znL5 hk
  simp (disch := first | assumption | exact p_c2i | exact p_c2r | exact p_c2n | omega | ((repeat (first | refine p_a1i.trans ?_ | refine p_a1r.trans ?_)); exact p_a10) | ((repeat (first | refine p_wI ?_ | refine p_wR ?_)); exact p_w0) | decide) only [reduceIte, Int.reduceLT, Int.reduceLE, Int.reduceEq, Int.reduceToNat, Int.reduceAdd, Int.reduceSub, Int.reduceMul, Int.reduceNeg, e17_0, e17_1, e17_2, p_al0, p_il1, p_cv1_0, p_cv1_1, p_cv1_2, p_cv1_3, p_cv1_4, zK_v, zK_0, WN_ncl, WN_nx, WN_nrt, WN_ite, t_isHoe]
  rw [if_pos ⟨h1, h2⟩]
  simp (disch := first | assumption | exact p_c2i | exact p_c2r | exact p_c2n | omega | ((repeat (first | refine p_a1i.trans ?_ | refine p_a1r.trans ?_)); exact p_a10) | ((repeat (first | refine p_wI ?_ | refine p_wR ?_)); exact p_w0) | decide) only [reduceIte, Int.reduceLT, Int.reduceLE, Int.reduceEq, Int.reduceToNat, Int.reduceAdd, Int.reduceSub, Int.reduceMul, Int.reduceNeg, e17_0, e17_1, e17_2, e17_5, e17_8, e17_9, e17_12, e17_13, e17_14, e17_17, e17_18, p_al0, p_il1, p_cv1_0, p_cv1_1, p_cv1_2, p_cv1_3, p_cv1_4, zK_v, zK_0, WN_ncl, p_ifeq, p_getR, p_iald, p_goto, p_push, p_ret0, WN_nx, WN_nrt, WN_ite, zrL4 hk]
theorem t_headingOfHoe {h : Int} (hk : zkd L = 2) (h1 : 0 ≤ h) (h2 : h < σ L 10) (h4 : σ L 10 ≤ 4) : WM 18 [.inr (.inl (some L)), .inl h] (3565, x, zrho) σ Q = Q (.inl (some (.inl (σ (L + 6) h.toNat)))) (3565, x, zrho) σ := by
  show Wp 18 0 [some (.inr (.inl (some L))), some (.inl h)] [] _ σ Q = _
  have k1 := zkL6 hk
  have n1 := znL6 hk
  simp (disch := first | assumption | exact p_c2i | exact p_c2r | exact p_c2n | omega | ((repeat (first | refine p_a1i.trans ?_ | refine p_a1r.trans ?_)); exact p_a10) | ((repeat (first | refine p_wI ?_ | refine p_wR ?_)); exact p_w0) | decide) only [reduceIte, Int.reduceLT, Int.reduceLE, Int.reduceEq, Int.reduceToNat, Int.reduceAdd, Int.reduceSub, Int.reduceMul, Int.reduceNeg, e18_0, e18_1, e18_2, p_al0, p_il1, p_cv1_0, p_cv1_1, p_cv1_2, p_cv1_3, p_cv1_4, zK_v, zK_0, WN_ncl, WN_nx, WN_nrt, WN_ite, t_isHoe]
  rw [if_pos ⟨h1, h2⟩]
  simp (disch := first | assumption | exact p_c2i | exact p_c2r | exact p_c2n | omega | ((repeat (first | refine p_a1i.trans ?_ | refine p_a1r.trans ?_)); exact p_a10) | ((repeat (first | refine p_wI ?_ | refine p_wR ?_)); exact p_w0) | decide) only [reduceIte, Int.reduceLT, Int.reduceLE, Int.reduceEq, Int.reduceToNat, Int.reduceAdd, Int.reduceSub, Int.reduceMul, Int.reduceNeg, e18_0, e18_1, e18_2, e18_5, e18_8, e18_9, e18_12, e18_13, e18_14, e18_17, e18_18, p_al0, p_il1, p_cv1_0, p_cv1_1, p_cv1_2, p_cv1_3, p_cv1_4, zK_v, zK_0, WN_ncl, p_ifeq, p_getR, p_iald, p_goto, p_push, p_ret0, WN_nx, WN_nrt, WN_ite, zrL5 hk]
theorem t_goingsOfHoe {h : Int} (hk : zkd L = 2) (h1 : 0 ≤ h) (h2 : h < σ L 10) (h4 : σ L 10 ≤ 4) : WM 19 [.inr (.inl (some L)), .inl h] (3565, x, zrho) σ Q = Q (.inl (some (.inl (σ (L + 7) h.toNat)))) (3565, x, zrho) σ := by
  show Wp 19 0 [some (.inr (.inl (some L))), some (.inl h)] [] _ σ Q = _
  have k1 := zkL7 hk
  have n1 := znL7 hk
  simp (disch := first | assumption | exact p_c2i | exact p_c2r | exact p_c2n | omega | ((repeat (first | refine p_a1i.trans ?_ | refine p_a1r.trans ?_)); exact p_a10) | ((repeat (first | refine p_wI ?_ | refine p_wR ?_)); exact p_w0) | decide) only [reduceIte, Int.reduceLT, Int.reduceLE, Int.reduceEq, Int.reduceToNat, Int.reduceAdd, Int.reduceSub, Int.reduceMul, Int.reduceNeg, e19_0, e19_1, e19_2, p_al0, p_il1, p_cv1_0, p_cv1_1, p_cv1_2, p_cv1_3, p_cv1_4, zK_v, zK_0, WN_ncl, WN_nx, WN_nrt, WN_ite, t_isHoe]
  rw [if_pos ⟨h1, h2⟩]
  simp (disch := first | assumption | exact p_c2i | exact p_c2r | exact p_c2n | omega | ((repeat (first | refine p_a1i.trans ?_ | refine p_a1r.trans ?_)); exact p_a10) | ((repeat (first | refine p_wI ?_ | refine p_wR ?_)); exact p_w0) | decide) only [reduceIte, Int.reduceLT, Int.reduceLE, Int.reduceEq, Int.reduceToNat, Int.reduceAdd, Int.reduceSub, Int.reduceMul, Int.reduceNeg, e19_0, e19_1, e19_2, e19_5, e19_8, e19_9, e19_12, e19_13, e19_14, e19_17, e19_18, p_al0, p_il1, p_cv1_0, p_cv1_1, p_cv1_2, p_cv1_3, p_cv1_4, zK_v, zK_0, WN_ncl, p_ifeq, p_getR, p_iald, p_goto, p_push, p_ret0, WN_nx, WN_nrt, WN_ite, zrL6 hk]
theorem t_meetingsOfHoe {h : Int} (hk : zkd L = 2) (h1 : 0 ≤ h) (h2 : h < σ L 10) (h4 : σ L 10 ≤ 4) : WM 20 [.inr (.inl (some L)), .inl h] (3565, x, zrho) σ Q = Q (.inl (some (.inl (σ (L + 8) h.toNat)))) (3565, x, zrho) σ := by
  show Wp 20 0 [some (.inr (.inl (some L))), some (.inl h)] [] _ σ Q = _
  have k1 := zkL8 hk
  have n1 := znL8 hk
  simp (disch := first | assumption | exact p_c2i | exact p_c2r | exact p_c2n | omega | ((repeat (first | refine p_a1i.trans ?_ | refine p_a1r.trans ?_)); exact p_a10) | ((repeat (first | refine p_wI ?_ | refine p_wR ?_)); exact p_w0) | decide) only [reduceIte, Int.reduceLT, Int.reduceLE, Int.reduceEq, Int.reduceToNat, Int.reduceAdd, Int.reduceSub, Int.reduceMul, Int.reduceNeg, e20_0, e20_1, e20_2, p_al0, p_il1, p_cv1_0, p_cv1_1, p_cv1_2, p_cv1_3, p_cv1_4, zK_v, zK_0, WN_ncl, WN_nx, WN_nrt, WN_ite, t_isHoe]
  rw [if_pos ⟨h1, h2⟩]
  simp (disch := first | assumption | exact p_c2i | exact p_c2r | exact p_c2n | omega | ((repeat (first | refine p_a1i.trans ?_ | refine p_a1r.trans ?_)); exact p_a10) | ((repeat (first | refine p_wI ?_ | refine p_wR ?_)); exact p_w0) | decide) only [reduceIte, Int.reduceLT, Int.reduceLE, Int.reduceEq, Int.reduceToNat, Int.reduceAdd, Int.reduceSub, Int.reduceMul, Int.reduceNeg, e20_0, e20_1, e20_2, e20_5, e20_8, e20_9, e20_12, e20_13, e20_14, e20_17, e20_18, p_al0, p_il1, p_cv1_0, p_cv1_1, p_cv1_2, p_cv1_3, p_cv1_4, zK_v, zK_0, WN_ncl, p_ifeq, p_getR, p_iald, p_goto, p_push, p_ret0, WN_nx, WN_nrt, WN_ite, zrL7 hk]
theorem t_latestTurnOfHoe {h : Int} (hk : zkd L = 2) (h1 : 0 ≤ h) (h2 : h < σ L 10) (h4 : σ L 10 ≤ 4) : WM 21 [.inr (.inl (some L)), .inl h] (3565, x, zrho) σ Q = Q (.inl (some (.inl (σ (L + 9) h.toNat)))) (3565, x, zrho) σ := by
  show Wp 21 0 [some (.inr (.inl (some L))), some (.inl h)] [] _ σ Q = _
  have k1 := zkL9 hk
  have n1 := znL9 hk
  simp (disch := first | assumption | exact p_c2i | exact p_c2r | exact p_c2n | omega | ((repeat (first | refine p_a1i.trans ?_ | refine p_a1r.trans ?_)); exact p_a10) | ((repeat (first | refine p_wI ?_ | refine p_wR ?_)); exact p_w0) | decide) only [reduceIte, Int.reduceLT, Int.reduceLE, Int.reduceEq, Int.reduceToNat, Int.reduceAdd, Int.reduceSub, Int.reduceMul, Int.reduceNeg, e21_0, e21_1, e21_2, p_al0, p_il1, p_cv1_0, p_cv1_1, p_cv1_2, p_cv1_3, p_cv1_4, zK_v, zK_0, WN_ncl, WN_nx, WN_nrt, WN_ite, t_isHoe]
  rw [if_pos ⟨h1, h2⟩]
  simp (disch := first | assumption | exact p_c2i | exact p_c2r | exact p_c2n | omega | ((repeat (first | refine p_a1i.trans ?_ | refine p_a1r.trans ?_)); exact p_a10) | ((repeat (first | refine p_wI ?_ | refine p_wR ?_)); exact p_w0) | decide) only [reduceIte, Int.reduceLT, Int.reduceLE, Int.reduceEq, Int.reduceToNat, Int.reduceAdd, Int.reduceSub, Int.reduceMul, Int.reduceNeg, e21_0, e21_1, e21_2, e21_5, e21_8, e21_9, e21_12, e21_13, e21_14, e21_17, e21_18, p_al0, p_il1, p_cv1_0, p_cv1_1, p_cv1_2, p_cv1_3, p_cv1_4, zK_v, zK_0, WN_ncl, p_ifeq, p_getR, p_iald, p_goto, p_push, p_ret0, WN_nx, WN_nrt, WN_ite, zrL8 hk]
end
