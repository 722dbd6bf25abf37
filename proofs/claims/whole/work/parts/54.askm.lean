/-! THE MODEL: small questions -/
section
variable {τ : ZI} {Q : ZO → ZT → ZI → Prop} {x : Nat} {w : zW} {N : Int}
theorem t_atM {r c : Int} (ok : zok N w) (hr : -2147483648 ≤ r ∧ r < 2147483648) (hc : -2147483648 ≤ c ∧ c < 2147483648) (K1 : ¬ ((0 ≤ r ∧ r < 9) ∧ (0 ≤ c ∧ c < 9)) → ∀ τ' b, zQy τ τ' 1 → Q (.inl (some (.inl b))) (3565, x, zrho) (zg τ' w)) (K0 : ((0 ≤ r ∧ r < 9) ∧ (0 ≤ c ∧ c < 9)) → ∀ τ', zQy τ τ' 0 → Q (.inl (some (.inl (w (10 + (9 * r + c).toNat))))) (3565, x, zrho) (zg τ' w)) : WM 162 [.inr (.inl (some 3553)), .inl r, .inl c] (3565, x, zrho) (zg τ w) Q := by
  show Wp 162 0 [some (.inr (.inl (some 3553))), some (.inl r), some (.inl c)] [] _ _ Q
  have k := zm_k
  have k4 := zm_4
  have n4 := zm_n4
  have ti := fun (Q : ZO → ZT → ZI → Prop) (σ : ZI) (θ : ZT) => t_isCellM (Q := Q) (θ := θ) (σ := σ) hr hc
  by_cases c1 : (0 ≤ r ∧ r < 9) ∧ (0 ≤ c ∧ c < 9)
  · rw [if_pos c1] at ti
    have e6 : (10 + (9 * r + c)).toNat = 10 + (9 * r + c).toNat := by omega
    simp (disch := first | assumption | exact p_c2i | exact p_c2r | exact p_c2n | omega | ((repeat (first | refine p_a1i.trans ?_ | refine p_a1r.trans ?_)); exact p_a10) | ((repeat (first | refine p_wI ?_ | refine p_wR ?_)); exact p_w0) | decide) only [reduceIte, Int.reduceLT, Int.reduceLE, Int.reduceEq, Int.reduceToNat, Int.reduceAdd, Int.reduceSub, Int.reduceMul, Int.reduceNeg, e162_0, e162_1, e162_2, e162_3, e162_6, e162_9, e162_10, e162_13, e162_14, e162_17, e162_20, e162_21, e162_24, e162_25, e162_28, e162_30, e162_31, e162_32, e162_35, e162_36, e162_37, p_al0, p_il1, p_il2, p_cs2_0, p_cs2_1, p_cs2_2, p_cs2_3, p_cs2_4, zK_v, zK_0, WN_ncl, p_ifeq, p_push, p_goto, p_cv1_0, p_cv1_1, p_cv1_2, p_cv1_3, p_cv1_4, p_getR, p_bin, p_iald, p_ret0, WN_nx, WN_nrt, WN_ite, ti, tf_0, zm_r0, zg_s, t_place, e6]
    exact K0 c1 _ zQy_f
  · rw [if_neg c1] at ti
    simp (disch := first | assumption | exact p_c2i | exact p_c2r | exact p_c2n | omega | ((repeat (first | refine p_a1i.trans ?_ | refine p_a1r.trans ?_)); exact p_a10) | ((repeat (first | refine p_wI ?_ | refine p_wR ?_)); exact p_w0) | decide) only [reduceIte, Int.reduceLT, Int.reduceLE, Int.reduceEq, Int.reduceToNat, Int.reduceAdd, Int.reduceSub, Int.reduceMul, Int.reduceNeg, e162_0, e162_1, e162_2, e162_3, e162_6, e162_9, e162_10, e162_13, e162_14, e162_17, e162_20, e162_21, e162_24, e162_25, e162_28, e162_30, e162_31, e162_32, e162_35, e162_36, e162_37, p_al0, p_il1, p_il2, p_cs2_0, p_cs2_1, p_cs2_2, p_cs2_3, p_cs2_4, zK_v, zK_0, WN_ncl, p_ifeq, p_push, p_goto, p_cv1_0, p_cv1_1, p_cv1_2, p_cv1_3, p_cv1_4, p_getR, p_bin, p_iald, p_ret0, WN_nx, WN_nrt, WN_ite, ti, tf_1]
    exact K1 c1 _ _ zQy_f
theorem t_paintedM {r c : Int} (ok : zok N w) (hr : -2147483648 ≤ r ∧ r < 2147483648) (hc : -2147483648 ≤ c ∧ c < 2147483648) (K1 : ¬ ((0 ≤ r ∧ r < 9) ∧ (0 ≤ c ∧ c < 9)) → ∀ τ' b, zQy τ τ' 1 → Q (.inl (some (.inl b))) (3565, x, zrho) (zg τ' w)) (K0 : ((0 ≤ r ∧ r < 9) ∧ (0 ≤ c ∧ c < 9)) → ∀ τ', zQy τ τ' 0 → Q (.inl (some (.inl (w (91 + (9 * r + c).toNat))))) (3565, x, zrho) (zg τ' w)) : WM 178 [.inr (.inl (some 3553)), .inl r, .inl c] (3565, x, zrho) (zg τ w) Q := by
  show Wp 178 0 [some (.inr (.inl (some 3553))), some (.inl r), some (.inl c)] [] _ _ Q
  have k := zm_k
  have k4 := zm_4
  have n4 := zm_n4
  have ti := fun (Q : ZO → ZT → ZI → Prop) (σ : ZI) (θ : ZT) => t_isCellM (Q := Q) (θ := θ) (σ := σ) hr hc
  by_cases c1 : (0 ≤ r ∧ r < 9) ∧ (0 ≤ c ∧ c < 9)
  · rw [if_pos c1] at ti
    have e6 : (91 + (9 * r + c)).toNat = 91 + (9 * r + c).toNat := by omega
    simp (disch := first | assumption | exact p_c2i | exact p_c2r | exact p_c2n | omega | ((repeat (first | refine p_a1i.trans ?_ | refine p_a1r.trans ?_)); exact p_a10) | ((repeat (first | refine p_wI ?_ | refine p_wR ?_)); exact p_w0) | decide) only [reduceIte, Int.reduceLT, Int.reduceLE, Int.reduceEq, Int.reduceToNat, Int.reduceAdd, Int.reduceSub, Int.reduceMul, Int.reduceNeg, e178_0, e178_1, e178_2, e178_3, e178_6, e178_9, e178_10, e178_13, e178_14, e178_17, e178_20, e178_21, e178_24, e178_25, e178_28, e178_30, e178_31, e178_32, e178_35, e178_36, e178_37, p_al0, p_il1, p_il2, p_cs2_0, p_cs2_1, p_cs2_2, p_cs2_3, p_cs2_4, zK_v, zK_0, WN_ncl, p_ifeq, p_push, p_goto, p_cv1_0, p_cv1_1, p_cv1_2, p_cv1_3, p_cv1_4, p_getR, p_bin, p_iald, p_ret0, WN_nx, WN_nrt, WN_ite, ti, tf_0, zm_r0, zg_s, t_place, e6]
    exact K0 c1 _ zQy_f
  · rw [if_neg c1] at ti
    simp (disch := first | assumption | exact p_c2i | exact p_c2r | exact p_c2n | omega | ((repeat (first | refine p_a1i.trans ?_ | refine p_a1r.trans ?_)); exact p_a10) | ((repeat (first | refine p_wI ?_ | refine p_wR ?_)); exact p_w0) | decide) only [reduceIte, Int.reduceLT, Int.reduceLE, Int.reduceEq, Int.reduceToNat, Int.reduceAdd, Int.reduceSub, Int.reduceMul, Int.reduceNeg, e178_0, e178_1, e178_2, e178_3, e178_6, e178_9, e178_10, e178_13, e178_14, e178_17, e178_20, e178_21, e178_24, e178_25, e178_28, e178_30, e178_31, e178_32, e178_35, e178_36, e178_37, p_al0, p_il1, p_il2, p_cs2_0, p_cs2_1, p_cs2_2, p_cs2_3, p_cs2_4, zK_v, zK_0, WN_ncl, p_ifeq, p_push, p_goto, p_cv1_0, p_cv1_1, p_cv1_2, p_cv1_3, p_cv1_4, p_getR, p_bin, p_iald, p_ret0, WN_nx, WN_nrt, WN_ite, ti, tf_1]
    exact K1 c1 _ _ zQy_f
theorem t_onM {r c : Int} (ok : zok N w) (hr : -2147483648 ≤ r ∧ r < 2147483648) (hc : -2147483648 ≤ c ∧ c < 2147483648) (K1 : ¬ ((0 ≤ r ∧ r < 9) ∧ (0 ≤ c ∧ c < 9)) → ∀ τ' b, zQy τ τ' 1 → Q (.inl (some (.inl b))) (3565, x, zrho) (zg τ' w)) (K0 : ((0 ≤ r ∧ r < 9) ∧ (0 ≤ c ∧ c < 9)) → ∀ τ', zQy τ τ' 0 → Q (.inl (some (.inl (aOn w (9 * r + c))))) (3565, x, zrho) (zg τ' w)) : WM 165 [.inr (.inl (some 3553)), .inl r, .inl c] (3565, x, zrho) (zg τ w) Q := by
  show Wp 165 0 [some (.inr (.inl (some 3553))), some (.inl r), some (.inl c)] [] _ _ Q
  have k := zm_k
  have ti := fun (Q : ZO → ZT → ZI → Prop) (σ : ZI) (θ : ZT) => t_isCellM (Q := Q) (θ := θ) (σ := σ) hr hc
  by_cases c1 : (0 ≤ r ∧ r < 9) ∧ (0 ≤ c ∧ c < 9)
  · rw [if_pos c1] at ti
    have th := fun (Q : ZO → ZT → ZI → Prop) (τ : ZI) => t_hoesOnM (Q := Q) (x := x) (τ := τ) (c := 9 * r + c) ok (by omega)
    simp (disch := first | assumption | exact p_c2i | exact p_c2r | exact p_c2n | omega | ((repeat (first | refine p_a1i.trans ?_ | refine p_a1r.trans ?_)); exact p_a10) | ((repeat (first | refine p_wI ?_ | refine p_wR ?_)); exact p_w0) | decide) only [reduceIte, Int.reduceLT, Int.reduceLE, Int.reduceEq, Int.reduceToNat, Int.reduceAdd, Int.reduceSub, Int.reduceMul, Int.reduceNeg, e165_0, e165_1, e165_2, e165_3, e165_6, e165_9, e165_10, e165_13, e165_14, e165_17, e165_20, e165_21, e165_24, e165_25, e165_26, e165_27, e165_30, e165_33, p_al0, p_il1, p_il2, p_cs2_0, p_cs2_1, p_cs2_2, p_cs2_3, p_cs2_4, zK_v, zK_0, WN_ncl, p_ifeq, p_push, p_goto, p_cv1_0, p_cv1_1, p_cv1_2, p_cv1_3, p_cv1_4, p_ret0, WN_nx, WN_nrt, WN_ite, ti, tf_0, t_place, th]
    exact K0 c1 _ zQy_f
  · rw [if_neg c1] at ti
    simp (disch := first | assumption | exact p_c2i | exact p_c2r | exact p_c2n | omega | ((repeat (first | refine p_a1i.trans ?_ | refine p_a1r.trans ?_)); exact p_a10) | ((repeat (first | refine p_wI ?_ | refine p_wR ?_)); exact p_w0) | decide) only [reduceIte, Int.reduceLT, Int.reduceLE, Int.reduceEq, Int.reduceToNat, Int.reduceAdd, Int.reduceSub, Int.reduceMul, Int.reduceNeg, e165_0, e165_1, e165_2, e165_3, e165_6, e165_9, e165_10, e165_13, e165_14, e165_17, e165_20, e165_21, e165_24, e165_25, e165_26, e165_27, e165_30, e165_33, p_al0, p_il1, p_il2, p_cs2_0, p_cs2_1, p_cs2_2, p_cs2_3, p_cs2_4, zK_v, zK_0, WN_ncl, p_ifeq, p_push, p_goto, p_cv1_0, p_cv1_1, p_cv1_2, p_cv1_3, p_cv1_4, p_ret0, WN_nx, WN_nrt, WN_ite, ti, tf_1]
    exact K1 c1 _ _ zQy_f
theorem t_trailM {p : Int} (ok : zok N w) (hp : -2147483648 ≤ p ∧ p < 2147483648) (K1 : ¬ (0 ≤ p ∧ p < w 4) → ∀ τ' b, zQy τ τ' 1 → Q (.inl (some (.inl b))) (3565, x, zrho) (zg τ' w)) (K0 : (0 ≤ p ∧ p < w 4) → ∀ τ', zQy τ τ' 0 → Q (.inl (some (.inl (w (188 + p.toNat))))) (3565, x, zrho) (zg τ' w)) : WM 177 [.inr (.inl (some 3553)), .inl p] (3565, x, zrho) (zg τ w) Q := by
  show Wp 177 0 [some (.inr (.inl (some 3553))), some (.inl p)] [] _ _ Q
  have k := zm_k
  have k4 := zm_4
  have n4 := zm_n4
  have o4 := ok.2.2.2.2.1
  have ti := fun (Q : ZO → ZT → ZI → Prop) (σ : ZI) (θ : ZT) => t_in (Q := Q) (θ := θ) (σ := σ) (a := p) (b := 0) (c := w 4 - 1) hp (by omega) (by omega)
  by_cases c1 : 0 ≤ p ∧ p < w 4
  · rw [if_pos (by omega)] at ti
    have e6 : (188 + p).toNat = 188 + p.toNat := by omega
    simp (disch := first | assumption | exact p_c2i | exact p_c2r | exact p_c2n | omega | ((repeat (first | refine p_a1i.trans ?_ | refine p_a1r.trans ?_)); exact p_a10) | ((repeat (first | refine p_wI ?_ | refine p_wR ?_)); exact p_w0) | decide) only [reduceIte, Int.reduceLT, Int.reduceLE, Int.reduceEq, Int.reduceToNat, Int.reduceAdd, Int.reduceSub, Int.reduceMul, Int.reduceNeg, e177_0, e177_1, e177_2, e177_3, e177_4, e177_7, e177_8, e177_9, e177_10, e177_11, e177_14, e177_17, e177_18, e177_21, e177_22, e177_25, e177_28, e177_29, e177_32, e177_33, e177_36, e177_39, e177_40, e177_41, e177_42, p_al0, p_il1, p_push, p_getR, p_iald, p_bin, p_cs3_0, p_cs3_1, p_cs3_2, p_cs3_3, p_cs3_4, zK_v, zK_0, WN_ncl, p_ifeq, p_goto, p_cv1_0, p_cv1_1, p_cv1_2, p_cv1_3, p_cv1_4, p_ret0, WN_nx, WN_nrt, WN_ite, zm_r0, zg_s, ti, tf_0, e6]
    exact K0 c1 _ zQy_f
  · rw [if_neg (by omega)] at ti
    simp (disch := first | assumption | exact p_c2i | exact p_c2r | exact p_c2n | omega | ((repeat (first | refine p_a1i.trans ?_ | refine p_a1r.trans ?_)); exact p_a10) | ((repeat (first | refine p_wI ?_ | refine p_wR ?_)); exact p_w0) | decide) only [reduceIte, Int.reduceLT, Int.reduceLE, Int.reduceEq, Int.reduceToNat, Int.reduceAdd, Int.reduceSub, Int.reduceMul, Int.reduceNeg, e177_0, e177_1, e177_2, e177_3, e177_4, e177_7, e177_8, e177_9, e177_10, e177_11, e177_14, e177_17, e177_18, e177_21, e177_22, e177_25, e177_28, e177_29, e177_32, e177_33, e177_36, e177_39, e177_40, e177_41, e177_42, p_al0, p_il1, p_push, p_getR, p_iald, p_bin, p_cs3_0, p_cs3_1, p_cs3_2, p_cs3_3, p_cs3_4, zK_v, zK_0, WN_ncl, p_ifeq, p_goto, p_cv1_0, p_cv1_1, p_cv1_2, p_cv1_3, p_cv1_4, p_ret0, WN_nx, WN_nrt, WN_ite, zm_r0, zg_s, ti, tf_1]
    exact K1 c1 _ _ zQy_f
theorem l_cellsOf {v : Int} (hv : -2147483648 ≤ v ∧ v < 2147483648) (ok : zok N w) : ∀ n i : Nat, i + n = 81 → Wp 180 4 [some (.inr (.inl (some 3553))), some (.inl v), some (.inl (zct (fun c => decide (w (10 + c) = v)) i)), some (.inl ((i : Int)))] [] (3565, x, zrho) (zg τ w) Q = Q (.inl (some (.inl (zct (fun c => decide (w (10 + c) = v)) 81)))) (3565, x, zrho) (zg τ w) := by
  have k := zm_k
  have k4 := zm_4
  have n4 := zm_n4
  have o1 := ok.2.1
  obtain ⟨hv1, hv2⟩ := hv
  intro n
  induction n with
  | zero =>
    intro i hi
    have e : i = 81 := by omega
    subst e
    simp (disch := first | assumption | exact p_c2i | exact p_c2r | exact p_c2n | omega | ((repeat (first | refine p_a1i.trans ?_ | refine p_a1r.trans ?_)); exact p_a10) | ((repeat (first | refine p_wI ?_ | refine p_wR ?_)); exact p_w0) | decide) only [reduceIte, Int.reduceLT, Int.reduceLE, Int.reduceEq, Int.reduceToNat, Int.reduceAdd, Int.reduceSub, Int.reduceMul, Int.reduceNeg, e180_0, e180_1, e180_2, e180_3, e180_4, e180_5, e180_7, e180_10, e180_11, e180_12, e180_15, e180_17, e180_18, e180_19, e180_20, e180_21, e180_24, e180_25, e180_28, e180_29, e180_30, e180_31, e180_34, e180_37, e180_38, p_push, p_is2, p_c2n, p_c2i, p_c2r, p_is3, p_il3, p_cge, p_il2, p_al0, p_getR, p_bin, p_iald, p_il1, p_cne, p_goto, p_ii3, p_ret0, WN_nx, WN_nrt, WN_ite, show ((81 : Nat) : Int) = 81 from rfl]
  | succ n ih =>
    intro i hi
    have hi8 : ((i : Int) < 81) = True := eq_true (by omega)
    have e1 : (i : Int) + 1 = ((i + 1 : Nat) : Int) := by omega
    have ei : (10 + (i : Int)).toNat = 10 + i := by omega
    have ih2 := ih (i + 1) (by omega)
    have b1 := ok.2.2.2.2.2.2.2.1 i (by omega)
    have ci := zct_in (p := fun c => decide (w (10 + c) = v)) i
    by_cases hcc : w (10 + i) = v
    · rw [e180_4]
      simp (disch := first | assumption | exact p_c2i | exact p_c2r | exact p_c2n | omega | ((repeat (first | refine p_a1i.trans ?_ | refine p_a1r.trans ?_)); exact p_a10) | ((repeat (first | refine p_wI ?_ | refine p_wR ?_)); exact p_w0) | decide) only [reduceIte, Int.reduceLT, Int.reduceLE, Int.reduceEq, Int.reduceToNat, Int.reduceAdd, Int.reduceSub, Int.reduceMul, Int.reduceNeg, e180_5, e180_7, e180_10, e180_11, e180_12, e180_15, e180_17, e180_18, e180_19, e180_20, e180_21, e180_24, e180_25, e180_28, e180_29, e180_30, e180_31, e180_34, p_il3, p_push, p_cge, p_il2, p_al0, p_getR, p_bin, p_iald, p_il1, p_cne, p_goto, p_is2, p_c2n, p_c2i, p_c2r, p_ii3, WN_nx, WN_nrt, WN_ite, zm_r0, zg_s, hi8, ei, hcc, e1]
      rw [← ih2, zct_s, if_pos (decide_eq_true hcc)]
    · rw [e180_4]
      simp (disch := first | assumption | exact p_c2i | exact p_c2r | exact p_c2n | omega | ((repeat (first | refine p_a1i.trans ?_ | refine p_a1r.trans ?_)); exact p_a10) | ((repeat (first | refine p_wI ?_ | refine p_wR ?_)); exact p_w0) | decide) only [reduceIte, Int.reduceLT, Int.reduceLE, Int.reduceEq, Int.reduceToNat, Int.reduceAdd, Int.reduceSub, Int.reduceMul, Int.reduceNeg, e180_5, e180_7, e180_10, e180_11, e180_12, e180_15, e180_17, e180_18, e180_19, e180_20, e180_21, e180_24, e180_25, e180_28, e180_29, e180_30, e180_31, e180_34, p_il3, p_push, p_cge, p_il2, p_al0, p_getR, p_bin, p_iald, p_il1, p_cne, p_goto, p_is2, p_c2n, p_c2i, p_c2r, p_ii3, WN_nx, WN_nrt, WN_ite, zm_r0, zg_s, hi8, ei, hcc, e1]
      rw [← ih2, zct_s, if_neg (by rw [decide_eq_true_iff]; exact hcc)]
theorem t_cellsOf {v : Int} (hv : -2147483648 ≤ v ∧ v < 2147483648) (ok : zok N w) : WM 180 [.inr (.inl (some 3553)), .inl v] (3565, x, zrho) (zg τ w) Q = Q (.inl (some (.inl (zct (fun c => decide (w (10 + c) = v)) 81)))) (3565, x, zrho) (zg τ w) := by
  show Wp 180 0 [some (.inr (.inl (some 3553))), some (.inl v), none, none] [] _ _ Q = _
  simp (disch := first | assumption | exact p_c2i | exact p_c2r | exact p_c2n | omega | ((repeat (first | refine p_a1i.trans ?_ | refine p_a1r.trans ?_)); exact p_a10) | ((repeat (first | refine p_wI ?_ | refine p_wR ?_)); exact p_w0) | decide) only [reduceIte, Int.reduceLT, Int.reduceLE, Int.reduceEq, Int.reduceToNat, Int.reduceAdd, Int.reduceSub, Int.reduceMul, Int.reduceNeg, e180_0, e180_1, e180_2, e180_3, p_push, p_is2, p_c2n, p_c2i, p_c2r, p_is3, WN_nx, WN_nrt, WN_ite]
  exact l_cellsOf hv ok 81 0 rfl
theorem t_countM {v : Int} (ok : zok N w) (hv : -2147483648 ≤ v ∧ v < 2147483648) (K1 : ¬ (0 ≤ v ∧ v ≤ 3) → ∀ τ' b, zQy τ τ' 1 → Q (.inl (some (.inl b))) (3565, x, zrho) (zg τ' w)) (K0 : (0 ≤ v ∧ v ≤ 3) → ∀ τ', zQy τ τ' 0 → Q (.inl (some (.inl (zct (fun c => decide (w (10 + c) = v)) 81)))) (3565, x, zrho) (zg τ' w)) : WM 181 [.inr (.inl (some 3553)), .inl v] (3565, x, zrho) (zg τ w) Q := by
  show Wp 181 0 [some (.inr (.inl (some 3553))), some (.inl v)] [] _ _ Q
  have k := zm_k
  have ti := fun (Q : ZO → ZT → ZI → Prop) (σ : ZI) (θ : ZT) => t_in (Q := Q) (θ := θ) (σ := σ) (a := v) (b := 0) (c := 3) hv (by omega) (by omega)
  have tc := fun (Q : ZO → ZT → ZI → Prop) (τ : ZI) => t_cellsOf (Q := Q) (x := x) (τ := τ) hv ok
  by_cases c1 : 0 ≤ v ∧ v ≤ 3
  · rw [if_pos c1] at ti
    simp (disch := first | assumption | exact p_c2i | exact p_c2r | exact p_c2n | omega | ((repeat (first | refine p_a1i.trans ?_ | refine p_a1r.trans ?_)); exact p_a10) | ((repeat (first | refine p_wI ?_ | refine p_wR ?_)); exact p_w0) | decide) only [reduceIte, Int.reduceLT, Int.reduceLE, Int.reduceEq, Int.reduceToNat, Int.reduceAdd, Int.reduceSub, Int.reduceMul, Int.reduceNeg, e181_0, e181_1, e181_2, e181_3, e181_4, e181_7, e181_10, e181_11, e181_14, e181_15, e181_18, e181_21, e181_22, e181_25, e181_26, e181_27, e181_30, p_al0, p_il1, p_push, p_cs3_0, p_cs3_1, p_cs3_2, p_cs3_3, p_cs3_4, zK_v, zK_0, WN_ncl, p_ifeq, p_goto, p_cv1_0, p_cv1_1, p_cv1_2, p_cv1_3, p_cv1_4, p_ret0, WN_nx, WN_nrt, WN_ite, ti, tf_0, tc]
    exact K0 c1 _ zQy_f
  · rw [if_neg c1] at ti
    simp (disch := first | assumption | exact p_c2i | exact p_c2r | exact p_c2n | omega | ((repeat (first | refine p_a1i.trans ?_ | refine p_a1r.trans ?_)); exact p_a10) | ((repeat (first | refine p_wI ?_ | refine p_wR ?_)); exact p_w0) | decide) only [reduceIte, Int.reduceLT, Int.reduceLE, Int.reduceEq, Int.reduceToNat, Int.reduceAdd, Int.reduceSub, Int.reduceMul, Int.reduceNeg, e181_0, e181_1, e181_2, e181_3, e181_4, e181_7, e181_10, e181_11, e181_14, e181_15, e181_18, e181_21, e181_22, e181_25, e181_26, e181_27, e181_30, p_al0, p_il1, p_push, p_cs3_0, p_cs3_1, p_cs3_2, p_cs3_3, p_cs3_4, zK_v, zK_0, WN_ncl, p_ifeq, p_goto, p_cv1_0, p_cv1_1, p_cv1_2, p_cv1_3, p_cv1_4, p_ret0, WN_nx, WN_nrt, WN_ite, ti, tf_1]
    exact K1 c1 _ _ zQy_f
theorem l_paintedMany (ok : zok N w) (hN : N ≤ 100000000) : ∀ n i : Nat, i + n = 81 → Wp 213 4 [some (.inr (.inl (some 3553))), some (.inl (zct (fun c => decide (0 < w (91 + c))) i)), some (.inl ((i : Int)))] [] (3565, x, zrho) (zg τ w) Q = Q (.inl (some (.inl (zct (fun c => decide (0 < w (91 + c))) 81)))) (3565, x, zrho) (zg τ w) := by
  have k := zm_k
  have k4 := zm_4
  have n4 := zm_n4
  intro n
  induction n with
  | zero =>
    intro i hi
    have e : i = 81 := by omega
    subst e
    simp (disch := first | assumption | exact p_c2i | exact p_c2r | exact p_c2n | omega | ((repeat (first | refine p_a1i.trans ?_ | refine p_a1r.trans ?_)); exact p_a10) | ((repeat (first | refine p_wI ?_ | refine p_wR ?_)); exact p_w0) | decide) only [reduceIte, Int.reduceLT, Int.reduceLE, Int.reduceEq, Int.reduceToNat, Int.reduceAdd, Int.reduceSub, Int.reduceMul, Int.reduceNeg, e213_0, e213_1, e213_2, e213_3, e213_4, e213_5, e213_7, e213_10, e213_11, e213_12, e213_15, e213_17, e213_18, e213_19, e213_20, e213_23, e213_24, e213_27, e213_28, e213_29, e213_30, e213_33, e213_36, e213_37, p_push, p_is1, p_c2n, p_c2i, p_c2r, p_is2, p_il2, p_cge, p_il1, p_al0, p_getR, p_bin, p_iald, p_ifle, p_goto, p_ii2, p_ret0, WN_nx, WN_nrt, WN_ite, show ((81 : Nat) : Int) = 81 from rfl]
  | succ n ih =>
    intro i hi
    have hi8 : ((i : Int) < 81) = True := eq_true (by omega)
    have e1 : (i : Int) + 1 = ((i + 1 : Nat) : Int) := by omega
    have ei : (91 + (i : Int)).toNat = 91 + i := by omega
    have ih2 := ih (i + 1) (by omega)
    have b1 := ok.2.2.2.2.2.2.2.2.1 i (by omega)
    have ci := zct_in (p := fun c => decide (0 < w (91 + c))) i
    by_cases hcc : 0 < w (91 + i)
    · have h1 : (0 < w (91 + i)) = True := eq_true hcc
      rw [e213_4]
      simp (disch := first | assumption | exact p_c2i | exact p_c2r | exact p_c2n | omega | ((repeat (first | refine p_a1i.trans ?_ | refine p_a1r.trans ?_)); exact p_a10) | ((repeat (first | refine p_wI ?_ | refine p_wR ?_)); exact p_w0) | decide) only [reduceIte, Int.reduceLT, Int.reduceLE, Int.reduceEq, Int.reduceToNat, Int.reduceAdd, Int.reduceSub, Int.reduceMul, Int.reduceNeg, e213_5, e213_7, e213_10, e213_11, e213_12, e213_15, e213_17, e213_18, e213_19, e213_20, e213_23, e213_24, e213_27, e213_28, e213_29, e213_30, e213_33, p_il2, p_push, p_cge, p_il1, p_al0, p_getR, p_bin, p_iald, p_ifle, p_goto, p_is1, p_c2n, p_c2i, p_c2r, p_ii2, WN_nx, WN_nrt, WN_ite, zm_r0, zg_s, hi8, ei, h1, e1]
      rw [← ih2, zct_s, if_pos (decide_eq_true hcc)]
    · have h1 : (0 < w (91 + i)) = False := eq_false hcc
      rw [e213_4]
      simp (disch := first | assumption | exact p_c2i | exact p_c2r | exact p_c2n | omega | ((repeat (first | refine p_a1i.trans ?_ | refine p_a1r.trans ?_)); exact p_a10) | ((repeat (first | refine p_wI ?_ | refine p_wR ?_)); exact p_w0) | decide) only [reduceIte, Int.reduceLT, Int.reduceLE, Int.reduceEq, Int.reduceToNat, Int.reduceAdd, Int.reduceSub, Int.reduceMul, Int.reduceNeg, e213_5, e213_7, e213_10, e213_11, e213_12, e213_15, e213_17, e213_18, e213_19, e213_20, e213_23, e213_24, e213_27, e213_28, e213_29, e213_30, e213_33, p_il2, p_push, p_cge, p_il1, p_al0, p_getR, p_bin, p_iald, p_ifle, p_goto, p_is1, p_c2n, p_c2i, p_c2r, p_ii2, WN_nx, WN_nrt, WN_ite, zm_r0, zg_s, hi8, ei, h1, e1]
      rw [← ih2, zct_s, if_neg (by rw [decide_eq_true_iff]; exact hcc)]
theorem t_paintedManyM (ok : zok N w) (hN : N ≤ 100000000) : WM 213 [.inr (.inl (some 3553))] (3565, x, zrho) (zg τ w) Q = Q (.inl (some (.inl (zct (fun c => decide (0 < w (91 + c))) 81)))) (3565, x, zrho) (zg τ w) := by
  show Wp 213 0 [some (.inr (.inl (some 3553))), none, none] [] _ _ Q = _
  simp (disch := first | assumption | exact p_c2i | exact p_c2r | exact p_c2n | omega | ((repeat (first | refine p_a1i.trans ?_ | refine p_a1r.trans ?_)); exact p_a10) | ((repeat (first | refine p_wI ?_ | refine p_wR ?_)); exact p_w0) | decide) only [reduceIte, Int.reduceLT, Int.reduceLE, Int.reduceEq, Int.reduceToNat, Int.reduceAdd, Int.reduceSub, Int.reduceMul, Int.reduceNeg, e213_0, e213_1, e213_2, e213_3, p_push, p_is1, p_c2n, p_c2i, p_c2r, p_is2, WN_nx, WN_nrt, WN_ite]
  exact l_paintedMany ok hN 81 0 rfl
theorem l_meetingsM (ok : zok N w) (hN : N ≤ 100000000) : ∀ n i : Nat, ((i + n : Nat) : Int) = w 0 → Wp 212 4 [some (.inr (.inl (some 3553))), some (.inl (aSm w 3 i)), some (.inl ((i : Int)))] [] (3565, x, zrho) (zg τ w) Q = Q (.inl (some (.inl (aSm w 3 (w 0).toNat)))) (3565, x, zrho) (zg τ w) := by
  have k := zm_k
  have k4 := zm_4
  have n4 := zm_n4
  have o0 := ok.1
  intro n
  induction n with
  | zero =>
    intro i hi
    have ei : i = (w 0).toNat := by omega
    have c0 : ((i : Int) < w 0) = False := eq_false (by omega)
    simp (disch := first | assumption | exact p_c2i | exact p_c2r | exact p_c2n | omega | ((repeat (first | refine p_a1i.trans ?_ | refine p_a1r.trans ?_)); exact p_a10) | ((repeat (first | refine p_wI ?_ | refine p_wR ?_)); exact p_w0) | decide) only [reduceIte, Int.reduceLT, Int.reduceLE, Int.reduceEq, Int.reduceToNat, Int.reduceAdd, Int.reduceSub, Int.reduceMul, Int.reduceNeg, e212_0, e212_1, e212_2, e212_3, e212_4, e212_5, e212_6, e212_9, e212_10, e212_11, e212_14, e212_15, e212_16, e212_17, e212_18, e212_21, e212_22, e212_23, e212_26, e212_29, e212_30, p_push, p_is1, p_c2n, p_c2i, p_c2r, p_is2, p_il2, p_al0, p_getR, p_iald, p_cge, p_il1, p_cv2_0, p_cv2_1, p_cv2_2, p_cv2_3, p_cv2_4, zK_v, zK_0, WN_ncl, p_bin, p_ii2, p_goto, p_ret0, WN_nx, WN_nrt, WN_ite, zm_r0, zg_s, c0]
    rw [ei]
  | succ n ih =>
    intro i hi
    have c0 : ((i : Int) < w 0) = True := eq_true (by omega)
    have e1 : (i : Int) + 1 = ((i + 1 : Nat) : Int) := by omega
    have to := fun (Q : ZO → ZT → ZI → Prop) => t_ofM (Q := Q) (x := x) (τ := τ) (w := w) (h := i) (j := 3) (by omega) (by omega) (by omega)
    rw [show Int.toNat 3 = 3 from rfl] at to
    have ih2 := ih (i + 1) (by omega)
    rw [e212_4]
    simp (disch := first | assumption | exact p_c2i | exact p_c2r | exact p_c2n | omega | ((repeat (first | refine p_a1i.trans ?_ | refine p_a1r.trans ?_)); exact p_a10) | ((repeat (first | refine p_wI ?_ | refine p_wR ?_)); exact p_w0) | decide) only [reduceIte, Int.reduceLT, Int.reduceLE, Int.reduceEq, Int.reduceToNat, Int.reduceAdd, Int.reduceSub, Int.reduceMul, Int.reduceNeg, e212_5, e212_6, e212_9, e212_10, e212_11, e212_14, e212_15, e212_16, e212_17, e212_18, e212_21, e212_22, e212_23, e212_26, p_il2, p_al0, p_getR, p_push, p_iald, p_cge, p_il1, p_cv2_0, p_cv2_1, p_cv2_2, p_cv2_3, p_cv2_4, zK_v, zK_0, WN_ncl, p_bin, p_is1, p_c2n, p_c2i, p_c2r, p_ii2, p_goto, WN_nx, WN_nrt, WN_ite, zm_r0, zg_s, c0, to, e1]
    rw [← ih2]
    rfl
theorem t_meetingsM (ok : zok N w) (hN : N ≤ 100000000) : WM 212 [.inr (.inl (some 3553))] (3565, x, zrho) (zg τ w) Q = Q (.inl (some (.inl (aSm w 3 (w 0).toNat)))) (3565, x, zrho) (zg τ w) := by
  show Wp 212 0 [some (.inr (.inl (some 3553))), none, none] [] _ _ Q = _
  have o0 := ok.1
  simp (disch := first | assumption | exact p_c2i | exact p_c2r | exact p_c2n | omega | ((repeat (first | refine p_a1i.trans ?_ | refine p_a1r.trans ?_)); exact p_a10) | ((repeat (first | refine p_wI ?_ | refine p_wR ?_)); exact p_w0) | decide) only [reduceIte, Int.reduceLT, Int.reduceLE, Int.reduceEq, Int.reduceToNat, Int.reduceAdd, Int.reduceSub, Int.reduceMul, Int.reduceNeg, e212_0, e212_1, e212_2, e212_3, p_push, p_is1, p_c2n, p_c2i, p_c2r, p_is2, WN_nx, WN_nrt, WN_ite]
  exact l_meetingsM ok hN (w 0).toNat 0 (by omega)
theorem t_hoeOfM {h v : Int} (ok : zok N w) (hh : -2147483648 ≤ h ∧ h < 2147483648) (hv : -2147483648 ≤ v ∧ v < 2147483648) (K1 : ¬ (0 ≤ h ∧ h < w 0) → ∀ τ' b, zQy τ τ' 1 → Q (.inl (some (.inl b))) (3565, x, zrho) (zg τ' w)) (K2 : (0 ≤ h ∧ h < w 0) → ¬ (0 ≤ v ∧ v ≤ 4) → ∀ τ' b, zQy τ τ' 2 → Q (.inl (some (.inl b))) (3565, x, zrho) (zg τ' w)) (K0 : (0 ≤ h ∧ h < w 0) → (0 ≤ v ∧ v ≤ 4) → ∀ τ', zQy τ τ' 0 → Q (.inl (some (.inl (if v = 0 then w (172 + 4 * h.toNat) / 9 else if v = 1 then w (172 + 4 * h.toNat) % 9 else w (172 + 4 * h.toNat + (v - 1).toNat))))) (3565, x, zrho) (zg τ' w)) : WM 163 [.inr (.inl (some 3553)), .inl h, .inl v] (3565, x, zrho) (zg τ w) Q := by
  show Wp 163 0 [some (.inr (.inl (some 3553))), some (.inl h), some (.inl v)] [] _ _ Q
  have k := zm_k
  have o0 := ok.1
  have ti := fun (Q : ZO → ZT → ZI → Prop) (τ : ZI) => t_isHoeM (Q := Q) (τ := τ) (x := x) (w := w) (h := h) hh o0
  have tj := fun (Q : ZO → ZT → ZI → Prop) (σ : ZI) (θ : ZT) => t_in (Q := Q) (θ := θ) (σ := σ) (a := v) (b := 0) (c := 4) hv (by omega) (by omega)
  by_cases c1 : 0 ≤ h ∧ h < w 0
  · rw [if_pos c1] at ti
    by_cases c2 : 0 ≤ v ∧ v ≤ 4
    · rw [if_pos c2] at tj
      obtain ⟨i, hi⟩ : ∃ i : Nat, h = (i : Int) := ⟨h.toNat, by omega⟩
      subst hi
      have o := (ok.2.2.2.2.2.2.2.2.2.1 i c1.2).1
      have to := fun (Q : ZO → ZT → ZI → Prop) (τ : ZI) => t_ofM (Q := Q) (x := x) (τ := τ) (w := w) (h := i) (j := 0) (by omega) (by omega) (by omega)
      rw [show 172 + 4 * i + Int.toNat 0 = 172 + 4 * i from rfl] at to
      have e1 : Int.tdiv (w (172 + 4 * i)) 9 = w (172 + 4 * i) / 9 := Int.tdiv_eq_ediv_of_nonneg o.1
      have e2 : Int.tmod (w (172 + 4 * i)) 9 = w (172 + 4 * i) % 9 := Int.tmod_eq_emod_of_nonneg o.1
      have e := K0 c1 c2 _ (zQy_f (τ := τ))
      rw [Int.toNat_natCast] at e
      by_cases v0 : v = 0
      · rw [if_pos v0] at e
        subst v0
        simp (disch := first | assumption | exact p_c2i | exact p_c2r | exact p_c2n | omega | ((repeat (first | refine p_a1i.trans ?_ | refine p_a1r.trans ?_)); exact p_a10) | ((repeat (first | refine p_wI ?_ | refine p_wR ?_)); exact p_w0) | decide) only [reduceIte, Int.reduceLT, Int.reduceLE, Int.reduceEq, Int.reduceToNat, Int.reduceAdd, Int.reduceSub, Int.reduceMul, Int.reduceNeg, e163_0, e163_1, e163_2, e163_3, e163_6, e163_9, e163_10, e163_13, e163_14, e163_15, e163_16, e163_19, e163_22, e163_23, e163_26, e163_27, e163_30, e163_33, e163_34, e163_35, e163_36, e163_39, e163_40, e163_41, e163_42, e163_45, e163_47, e163_48, e163_51, e163_52, e163_53, e163_56, e163_57, e163_58, e163_59, e163_62, e163_64, e163_65, e163_68, e163_69, e163_70, e163_71, e163_72, e163_73, e163_76, p_al0, p_il1, p_cv1_0, p_cv1_1, p_cv1_2, p_cv1_3, p_cv1_4, zK_v, zK_0, WN_ncl, p_ifne, p_push, p_goto, p_il2, p_cs3_0, p_cs3_1, p_cs3_2, p_cs3_3, p_cs3_4, p_ifeq, p_ret0, p_cv2_0, p_cv2_1, p_cv2_2, p_cv2_3, p_cv2_4, p_div, p_cne, p_rem, p_bin, WN_nx, WN_nrt, WN_ite, ti, tj, tf_0, to, e1]
        exact e
      · rw [if_neg v0] at e
        by_cases v1 : v = 1
        · rw [if_pos v1] at e
          have c3 : ((1 : Int) = 0) = False := eq_false (by omega)
          subst v1
          simp (disch := first | assumption | exact p_c2i | exact p_c2r | exact p_c2n | omega | ((repeat (first | refine p_a1i.trans ?_ | refine p_a1r.trans ?_)); exact p_a10) | ((repeat (first | refine p_wI ?_ | refine p_wR ?_)); exact p_w0) | decide) only [reduceIte, Int.reduceLT, Int.reduceLE, Int.reduceEq, Int.reduceToNat, Int.reduceAdd, Int.reduceSub, Int.reduceMul, Int.reduceNeg, e163_0, e163_1, e163_2, e163_3, e163_6, e163_9, e163_10, e163_13, e163_14, e163_15, e163_16, e163_19, e163_22, e163_23, e163_26, e163_27, e163_30, e163_33, e163_34, e163_35, e163_36, e163_39, e163_40, e163_41, e163_42, e163_45, e163_47, e163_48, e163_51, e163_52, e163_53, e163_56, e163_57, e163_58, e163_59, e163_62, e163_64, e163_65, e163_68, e163_69, e163_70, e163_71, e163_72, e163_73, e163_76, p_al0, p_il1, p_cv1_0, p_cv1_1, p_cv1_2, p_cv1_3, p_cv1_4, zK_v, zK_0, WN_ncl, p_ifne, p_push, p_goto, p_il2, p_cs3_0, p_cs3_1, p_cs3_2, p_cs3_3, p_cs3_4, p_ifeq, p_ret0, p_cv2_0, p_cv2_1, p_cv2_2, p_cv2_3, p_cv2_4, p_div, p_cne, p_rem, p_bin, WN_nx, WN_nrt, WN_ite, ti, tj, tf_0, c3, to, e2]
          exact e
        · rw [if_neg v1] at e
          have tv := fun (Q : ZO → ZT → ZI → Prop) (τ : ZI) => t_ofM (Q := Q) (x := x) (τ := τ) (w := w) (h := i) (j := v - 1) (by omega) (by omega) (by omega)
          simp (disch := first | assumption | exact p_c2i | exact p_c2r | exact p_c2n | omega | ((repeat (first | refine p_a1i.trans ?_ | refine p_a1r.trans ?_)); exact p_a10) | ((repeat (first | refine p_wI ?_ | refine p_wR ?_)); exact p_w0) | decide) only [reduceIte, Int.reduceLT, Int.reduceLE, Int.reduceEq, Int.reduceToNat, Int.reduceAdd, Int.reduceSub, Int.reduceMul, Int.reduceNeg, e163_0, e163_1, e163_2, e163_3, e163_6, e163_9, e163_10, e163_13, e163_14, e163_15, e163_16, e163_19, e163_22, e163_23, e163_26, e163_27, e163_30, e163_33, e163_34, e163_35, e163_36, e163_39, e163_40, e163_41, e163_42, e163_45, e163_47, e163_48, e163_51, e163_52, e163_53, e163_56, e163_57, e163_58, e163_59, e163_62, e163_64, e163_65, e163_68, e163_69, e163_70, e163_71, e163_72, e163_73, e163_76, p_al0, p_il1, p_cv1_0, p_cv1_1, p_cv1_2, p_cv1_3, p_cv1_4, zK_v, zK_0, WN_ncl, p_ifne, p_push, p_goto, p_il2, p_cs3_0, p_cs3_1, p_cs3_2, p_cs3_3, p_cs3_4, p_ifeq, p_ret0, p_cv2_0, p_cv2_1, p_cv2_2, p_cv2_3, p_cv2_4, p_div, p_cne, p_rem, p_bin, WN_nx, WN_nrt, WN_ite, ti, tj, tf_0, v0, v1, tv]
          exact e
    · rw [if_neg c2] at tj
      simp (disch := first | assumption | exact p_c2i | exact p_c2r | exact p_c2n | omega | ((repeat (first | refine p_a1i.trans ?_ | refine p_a1r.trans ?_)); exact p_a10) | ((repeat (first | refine p_wI ?_ | refine p_wR ?_)); exact p_w0) | decide) only [reduceIte, Int.reduceLT, Int.reduceLE, Int.reduceEq, Int.reduceToNat, Int.reduceAdd, Int.reduceSub, Int.reduceMul, Int.reduceNeg, e163_0, e163_1, e163_2, e163_3, e163_6, e163_9, e163_10, e163_13, e163_14, e163_15, e163_16, e163_19, e163_22, e163_23, e163_26, e163_27, e163_30, e163_33, e163_34, e163_35, e163_36, e163_39, e163_40, e163_41, e163_42, e163_45, e163_47, e163_48, e163_51, e163_52, e163_53, e163_56, e163_57, e163_58, e163_59, e163_62, e163_64, e163_65, e163_68, e163_69, e163_70, e163_71, e163_72, e163_73, e163_76, p_al0, p_il1, p_cv1_0, p_cv1_1, p_cv1_2, p_cv1_3, p_cv1_4, zK_v, zK_0, WN_ncl, p_ifne, p_push, p_goto, p_il2, p_cs3_0, p_cs3_1, p_cs3_2, p_cs3_3, p_cs3_4, p_ifeq, p_ret0, p_cv2_0, p_cv2_1, p_cv2_2, p_cv2_3, p_cv2_4, p_div, p_cne, p_rem, p_bin, WN_nx, WN_nrt, WN_ite, ti, tj, tf_2]
      exact K2 c1 c2 _ _ zQy_f
  · rw [if_neg c1] at ti
    simp (disch := first | assumption | exact p_c2i | exact p_c2r | exact p_c2n | omega | ((repeat (first | refine p_a1i.trans ?_ | refine p_a1r.trans ?_)); exact p_a10) | ((repeat (first | refine p_wI ?_ | refine p_wR ?_)); exact p_w0) | decide) only [reduceIte, Int.reduceLT, Int.reduceLE, Int.reduceEq, Int.reduceToNat, Int.reduceAdd, Int.reduceSub, Int.reduceMul, Int.reduceNeg, e163_0, e163_1, e163_2, e163_3, e163_6, e163_9, e163_10, e163_13, e163_14, e163_15, e163_16, e163_19, e163_22, e163_23, e163_26, e163_27, e163_30, e163_33, e163_34, e163_35, e163_36, e163_39, e163_40, e163_41, e163_42, e163_45, e163_47, e163_48, e163_51, e163_52, e163_53, e163_56, e163_57, e163_58, e163_59, e163_62, e163_64, e163_65, e163_68, e163_69, e163_70, e163_71, e163_72, e163_73, e163_76, p_al0, p_il1, p_cv1_0, p_cv1_1, p_cv1_2, p_cv1_3, p_cv1_4, zK_v, zK_0, WN_ncl, p_ifne, p_push, p_goto, p_il2, p_cs3_0, p_cs3_1, p_cs3_2, p_cs3_3, p_cs3_4, p_ifeq, p_ret0, p_cv2_0, p_cv2_1, p_cv2_2, p_cv2_3, p_cv2_4, p_div, p_cne, p_rem, p_bin, WN_nx, WN_nrt, WN_ite, ti, tf_1]
    exact K1 c1 _ _ zQy_f
theorem t_refusalM {d : Int} (hd : d = 0 ∨ d = 1) (h9 : -2147483648 ≤ τ 3553 9 ∧ τ 3553 9 < 2147483648) (K1 : τ 3553 9 = 0 → ∀ τ' b, zQy τ τ' 1 → Q (.inl (some (.inl b))) (3565, x, zrho) (zg τ' w)) (K0 : τ 3553 9 ≠ 0 → ∀ τ', zQy τ τ' 0 → Q (.inl (some (.inl (if d = 1 then τ 3553 10 else τ 3553 9)))) (3565, x, zrho) (zg τ' w)) : WM 211 [.inr (.inl (some 3553)), .inl d] (3565, x, zrho) (zg τ w) Q := by
  show Wp 211 0 [some (.inr (.inl (some 3553))), some (.inl d)] [] _ _ Q
  have k := zm_k
  obtain ⟨h91, h92⟩ := h9
  have z9 : ∀ c, zup τ 3553 8 c 3553 9 = τ 3553 9 := fun c => zup_j (by omega)
  have z10 : ∀ c, zup τ 3553 8 c 3553 10 = τ 3553 10 := fun c => zup_j (by omega)
  by_cases c1 : τ 3553 9 = 0
  · simp (disch := first | assumption | exact p_c2i | exact p_c2r | exact p_c2n | omega | ((repeat (first | refine p_a1i.trans ?_ | refine p_a1r.trans ?_)); exact p_a10) | ((repeat (first | refine p_wI ?_ | refine p_wR ?_)); exact p_w0) | decide) only [reduceIte, Int.reduceLT, Int.reduceLE, Int.reduceEq, Int.reduceToNat, Int.reduceAdd, Int.reduceSub, Int.reduceMul, Int.reduceNeg, e211_0, e211_1, e211_2, e211_5, e211_8, e211_9, e211_12, e211_13, e211_16, e211_19, e211_20, e211_23, e211_24, e211_27, e211_28, e211_31, e211_34, e211_35, e211_38, p_al0, p_getI, p_ifne, p_push, p_goto, p_cv1_0, p_cv1_1, p_cv1_2, p_cv1_3, p_cv1_4, zK_v, zK_0, WN_ncl, p_ifeq, p_il1, p_ret0, WN_nx, WN_nrt, WN_ite, zg_o3, c1, tf_1]
    exact K1 c1 _ _ zQy_f
  · rcases hd with rfl | rfl
    · simp (disch := first | assumption | exact p_c2i | exact p_c2r | exact p_c2n | omega | ((repeat (first | refine p_a1i.trans ?_ | refine p_a1r.trans ?_)); exact p_a10) | ((repeat (first | refine p_wI ?_ | refine p_wR ?_)); exact p_w0) | decide) only [reduceIte, Int.reduceLT, Int.reduceLE, Int.reduceEq, Int.reduceToNat, Int.reduceAdd, Int.reduceSub, Int.reduceMul, Int.reduceNeg, e211_0, e211_1, e211_2, e211_5, e211_8, e211_9, e211_12, e211_13, e211_16, e211_19, e211_20, e211_23, e211_24, e211_27, e211_28, e211_31, e211_34, e211_35, e211_38, p_al0, p_getI, p_ifne, p_push, p_goto, p_cv1_0, p_cv1_1, p_cv1_2, p_cv1_3, p_cv1_4, zK_v, zK_0, WN_ncl, p_ifeq, p_il1, p_ret0, WN_nx, WN_nrt, WN_ite, zg_o3, c1, tf_0, z9]
      exact K0 c1 _ zQy_f
    · simp (disch := first | assumption | exact p_c2i | exact p_c2r | exact p_c2n | omega | ((repeat (first | refine p_a1i.trans ?_ | refine p_a1r.trans ?_)); exact p_a10) | ((repeat (first | refine p_wI ?_ | refine p_wR ?_)); exact p_w0) | decide) only [reduceIte, Int.reduceLT, Int.reduceLE, Int.reduceEq, Int.reduceToNat, Int.reduceAdd, Int.reduceSub, Int.reduceMul, Int.reduceNeg, e211_0, e211_1, e211_2, e211_5, e211_8, e211_9, e211_12, e211_13, e211_16, e211_19, e211_20, e211_23, e211_24, e211_27, e211_28, e211_31, e211_34, e211_35, e211_38, p_al0, p_getI, p_ifne, p_push, p_goto, p_cv1_0, p_cv1_1, p_cv1_2, p_cv1_3, p_cv1_4, zK_v, zK_0, WN_ncl, p_ifeq, p_il1, p_ret0, WN_nx, WN_nrt, WN_ite, zg_o3, c1, tf_0, z10]
      exact K0 c1 _ zQy_f
end
