/-! THE CLASS: what is asked of cells and hoes -/
theorem zSr.l {σ : ZI} {w : zW} (h : zSr σ 101 w) : zLr σ 102 w := h.lw
/-- outside the class's scratch nothing differs -/
def zfq (σ σ' : ZI) : Prop := ∀ a : Nat, (a < 3535 ∨ 3550 ≤ a) → σ' a = σ a
theorem zfq_r {σ : ZI} : zfq σ σ := fun _ _ => rfl
section
variable {σ : ZI} {Q : ZO → ZT → ZI → Prop} {x n : Nat} {w : zW} {N : Int}
theorem t_tuc1 {r c : Int} (hr : -2147483648 ≤ r ∧ r < 2147483648) (hc : -2147483648 ≤ c ∧ c < 2147483648) (h : (0 ≤ r ∧ r < 9) ∧ (0 ≤ c ∧ c < 9)) : WM 114 [.inl r, .inl c] (3565, x, zrho) σ Q = Q (.inl none) (3565, x, zrho) σ := by
  show Wp 114 0 [some (.inl r), some (.inl c)] [] _ _ Q = _
  have ti := fun (Q : ZO → ZT → ZI → Prop) (σ : ZI) (θ : ZT) => t_isCell (Q := Q) (θ := θ) (σ := σ) hr.1 hr.2 hc.1 hc.2
  rw [if_pos h] at ti
  simp (disch := first | assumption | exact p_c2i | exact p_c2r | exact p_c2n | omega | ((repeat (first | refine p_a1i.trans ?_ | refine p_a1r.trans ?_)); exact p_a10) | ((repeat (first | refine p_wI ?_ | refine p_wR ?_)); exact p_w0) | decide) only [reduceIte, Int.reduceLT, Int.reduceLE, Int.reduceEq, Int.reduceToNat, Int.reduceAdd, Int.reduceSub, Int.reduceMul, Int.reduceNeg, e114_0, e114_1, e114_2, e114_5, e114_8, e114_19, p_il0, p_il1, p_cs2_0, p_cs2_1, p_cs2_2, p_cs2_3, p_cs2_4, zK_v, zK_0, WN_ncl, p_ifne, o_throw, p_vret, WN_nx, WN_nrt, WN_ite, ti, p_throw]
theorem t_tuc0 {r c : Int} (hr : -2147483648 ≤ r ∧ r < 2147483648) (hc : -2147483648 ≤ c ∧ c < 2147483648) (h : ¬ ((0 ≤ r ∧ r < 9) ∧ (0 ≤ c ∧ c < 9))) : WM 114 [.inl r, .inl c] (3565, x, zrho) σ Q = Q (.inr 0) (3565, x + 1, zrho) σ := by
  show Wp 114 0 [some (.inl r), some (.inl c)] [] _ _ Q = _
  have ti := fun (Q : ZO → ZT → ZI → Prop) (σ : ZI) (θ : ZT) => t_isCell (Q := Q) (θ := θ) (σ := σ) hr.1 hr.2 hc.1 hc.2
  rw [if_neg h] at ti
  simp (disch := first | assumption | exact p_c2i | exact p_c2r | exact p_c2n | omega | ((repeat (first | refine p_a1i.trans ?_ | refine p_a1r.trans ?_)); exact p_a10) | ((repeat (first | refine p_wI ?_ | refine p_wR ?_)); exact p_w0) | decide) only [reduceIte, Int.reduceLT, Int.reduceLE, Int.reduceEq, Int.reduceToNat, Int.reduceAdd, Int.reduceSub, Int.reduceMul, Int.reduceNeg, e114_0, e114_1, e114_2, e114_5, e114_8, e114_19, p_il0, p_il1, p_cs2_0, p_cs2_1, p_cs2_2, p_cs2_3, p_cs2_4, zK_v, zK_0, WN_ncl, p_ifne, o_throw, p_vret, WN_nx, WN_nrt, WN_ite, ti, p_throw]
theorem t_tuh1 {h : Int} (hR : zLr σ 102 w) (o0 : 0 ≤ w 0 ∧ w 0 ≤ 4) (hh : -2147483648 ≤ h ∧ h < 2147483648) (c1 : 0 ≤ h ∧ h < w 0) : WM 115 [.inr (.inl (some 100)), .inl h] (3565, x, zrho) σ Q = Q (.inl none) (3565, x, zrho) σ := by
  show Wp 115 0 [some (.inr (.inl (some 100))), some (.inl h)] [] _ _ Q = _
  have k := zx_k
  have k1 := zx_k1
  have k2 := zx_k2
  have h0 := hR.h0
  have ti := fun (Q : ZO → ZT → ZI → Prop) (θ : ZT) => t_isHoe (L := 102) (Q := Q) (θ := θ) (σ := σ) k2 hh.1 hh.2 (by omega) (by omega)
  rw [if_pos (by omega)] at ti
  simp (disch := first | assumption | exact p_c2i | exact p_c2r | exact p_c2n | omega | ((repeat (first | refine p_a1i.trans ?_ | refine p_a1r.trans ?_)); exact p_a10) | ((repeat (first | refine p_wI ?_ | refine p_wR ?_)); exact p_w0) | decide) only [reduceIte, Int.reduceLT, Int.reduceLE, Int.reduceEq, Int.reduceToNat, Int.reduceAdd, Int.reduceSub, Int.reduceMul, Int.reduceNeg, e115_0, e115_1, e115_4, e115_7, e115_8, e115_11, e115_14, e115_25, p_al0, p_getR, p_il1, p_cv1_0, p_cv1_1, p_cv1_2, p_cv1_3, p_cv1_4, zK_v, zK_0, WN_ncl, p_ifne, o_throw, p_vret, WN_nx, WN_nrt, WN_ite, zx_r0, zx_l, ti, p_throw]
theorem t_tuh0 {h : Int} (hR : zLr σ 102 w) (o0 : 0 ≤ w 0 ∧ w 0 ≤ 4) (hh : -2147483648 ≤ h ∧ h < 2147483648) (c1 : ¬ (0 ≤ h ∧ h < w 0)) : WM 115 [.inr (.inl (some 100)), .inl h] (3565, x, zrho) σ Q = Q (.inr 0) (3565, x + 1, zrho) σ := by
  show Wp 115 0 [some (.inr (.inl (some 100))), some (.inl h)] [] _ _ Q = _
  have k := zx_k
  have k1 := zx_k1
  have k2 := zx_k2
  have h0 := hR.h0
  have ti := fun (Q : ZO → ZT → ZI → Prop) (θ : ZT) => t_isHoe (L := 102) (Q := Q) (θ := θ) (σ := σ) k2 hh.1 hh.2 (by omega) (by omega)
  rw [if_neg (by omega)] at ti
  simp (disch := first | assumption | exact p_c2i | exact p_c2r | exact p_c2n | omega | ((repeat (first | refine p_a1i.trans ?_ | refine p_a1r.trans ?_)); exact p_a10) | ((repeat (first | refine p_wI ?_ | refine p_wR ?_)); exact p_w0) | decide) only [reduceIte, Int.reduceLT, Int.reduceLE, Int.reduceEq, Int.reduceToNat, Int.reduceAdd, Int.reduceSub, Int.reduceMul, Int.reduceNeg, e115_0, e115_1, e115_4, e115_7, e115_8, e115_11, e115_14, e115_25, p_al0, p_getR, p_il1, p_cv1_0, p_cv1_1, p_cv1_2, p_cv1_3, p_cv1_4, zK_v, zK_0, WN_ncl, p_ifne, o_throw, p_vret, WN_nx, WN_nrt, WN_ite, zx_r0, zx_l, ti, p_throw]
theorem t_tuv1 {v : Int} (h : 0 ≤ v ∧ v ≤ 3) : WM 116 [.inl v] (3565, x, zrho) σ Q = Q (.inl none) (3565, x, zrho) σ := by
  show Wp 116 0 [some (.inl v)] [] _ _ Q = _
  have c1 : (v < 0) = False := eq_false (by omega)
  have c2 : (v < 4) = True := eq_true (by omega)
  simp (disch := first | assumption | exact p_c2i | exact p_c2r | exact p_c2n | omega | ((repeat (first | refine p_a1i.trans ?_ | refine p_a1r.trans ?_)); exact p_a10) | ((repeat (first | refine p_wI ?_ | refine p_wR ?_)); exact p_w0) | decide) only [reduceIte, Int.reduceLT, Int.reduceLE, Int.reduceEq, Int.reduceToNat, Int.reduceAdd, Int.reduceSub, Int.reduceMul, Int.reduceNeg, e116_0, e116_1, e116_4, e116_5, e116_6, e116_9, e116_20, p_il0, p_iflt, p_push, p_clt, o_throw, p_vret, WN_nx, WN_nrt, WN_ite, c1, c2, p_throw]
theorem t_tuv0 {v : Int} (hv : -2147483648 ≤ v ∧ v < 2147483648) (h : ¬ (0 ≤ v ∧ v ≤ 3)) : WM 116 [.inl v] (3565, x, zrho) σ Q = Q (.inr 1) (3565, x + 1, zrho) σ := by
  show Wp 116 0 [some (.inl v)] [] _ _ Q = _
  by_cases z : v < 0
  · have c1 : (v < 0) = True := eq_true z
    simp (disch := first | assumption | exact p_c2i | exact p_c2r | exact p_c2n | omega | ((repeat (first | refine p_a1i.trans ?_ | refine p_a1r.trans ?_)); exact p_a10) | ((repeat (first | refine p_wI ?_ | refine p_wR ?_)); exact p_w0) | decide) only [reduceIte, Int.reduceLT, Int.reduceLE, Int.reduceEq, Int.reduceToNat, Int.reduceAdd, Int.reduceSub, Int.reduceMul, Int.reduceNeg, e116_0, e116_1, e116_4, e116_5, e116_6, e116_9, e116_20, p_il0, p_iflt, p_push, p_clt, o_throw, p_vret, WN_nx, WN_nrt, WN_ite, c1, p_throw]
  · have c1 : (v < 0) = False := eq_false z
    have c2 : (v < 4) = False := eq_false (by omega)
    simp (disch := first | assumption | exact p_c2i | exact p_c2r | exact p_c2n | omega | ((repeat (first | refine p_a1i.trans ?_ | refine p_a1r.trans ?_)); exact p_a10) | ((repeat (first | refine p_wI ?_ | refine p_wR ?_)); exact p_w0) | decide) only [reduceIte, Int.reduceLT, Int.reduceLE, Int.reduceEq, Int.reduceToNat, Int.reduceAdd, Int.reduceSub, Int.reduceMul, Int.reduceNeg, e116_0, e116_1, e116_4, e116_5, e116_6, e116_9, e116_20, p_il0, p_iflt, p_push, p_clt, o_throw, p_vret, WN_nx, WN_nrt, WN_ite, c1, c2, p_throw]
theorem t_tua1 {v : Int} (h : 0 ≤ v ∧ v ≤ 200) : WM 117 [.inl v] (3565, x, zrho) σ Q = Q (.inl none) (3565, x, zrho) σ := by
  show Wp 117 0 [some (.inl v)] [] _ _ Q = _
  have c1 : (v < 0) = False := eq_false (by omega)
  have c2 : (200 < v) = False := eq_false (by omega)
  simp (disch := first | assumption | exact p_c2i | exact p_c2r | exact p_c2n | omega | ((repeat (first | refine p_a1i.trans ?_ | refine p_a1r.trans ?_)); exact p_a10) | ((repeat (first | refine p_wI ?_ | refine p_wR ?_)); exact p_w0) | decide) only [reduceIte, Int.reduceLT, Int.reduceLE, Int.reduceEq, Int.reduceToNat, Int.reduceAdd, Int.reduceSub, Int.reduceMul, Int.reduceNeg, e117_0, e117_1, e117_4, e117_5, e117_8, e117_11, e117_22, p_il0, p_iflt, p_push, p_cle, o_throw, p_vret, WN_nx, WN_nrt, WN_ite, c1, c2, p_throw]
theorem t_tua0 {v : Int} (hv : -2147483648 ≤ v ∧ v < 2147483648) (h : ¬ (0 ≤ v ∧ v ≤ 200)) : WM 117 [.inl v] (3565, x, zrho) σ Q = Q (.inr 1) (3565, x + 1, zrho) σ := by
  show Wp 117 0 [some (.inl v)] [] _ _ Q = _
  by_cases z : v < 0
  · have c1 : (v < 0) = True := eq_true z
    simp (disch := first | assumption | exact p_c2i | exact p_c2r | exact p_c2n | omega | ((repeat (first | refine p_a1i.trans ?_ | refine p_a1r.trans ?_)); exact p_a10) | ((repeat (first | refine p_wI ?_ | refine p_wR ?_)); exact p_w0) | decide) only [reduceIte, Int.reduceLT, Int.reduceLE, Int.reduceEq, Int.reduceToNat, Int.reduceAdd, Int.reduceSub, Int.reduceMul, Int.reduceNeg, e117_0, e117_1, e117_4, e117_5, e117_8, e117_11, e117_22, p_il0, p_iflt, p_push, p_cle, o_throw, p_vret, WN_nx, WN_nrt, WN_ite, c1, p_throw]
  · have c1 : (v < 0) = False := eq_false z
    have c2 : (200 < v) = True := eq_true (by omega)
    simp (disch := first | assumption | exact p_c2i | exact p_c2r | exact p_c2n | omega | ((repeat (first | refine p_a1i.trans ?_ | refine p_a1r.trans ?_)); exact p_a10) | ((repeat (first | refine p_wI ?_ | refine p_wR ?_)); exact p_w0) | decide) only [reduceIte, Int.reduceLT, Int.reduceLE, Int.reduceEq, Int.reduceToNat, Int.reduceAdd, Int.reduceSub, Int.reduceMul, Int.reduceNeg, e117_0, e117_1, e117_4, e117_5, e117_8, e117_11, e117_22, p_il0, p_iflt, p_push, p_cle, o_throw, p_vret, WN_nx, WN_nrt, WN_ite, c1, c2, p_throw]
theorem t_atC {r c : Int} (hR : zSr σ 101 w) (ok : zSok N w) (hr : -2147483648 ≤ r ∧ r < 2147483648) (hc : -2147483648 ≤ c ∧ c < 2147483648) (K1 : ¬ ((0 ≤ r ∧ r < 9) ∧ (0 ≤ c ∧ c < 9)) → Q (.inr 0) (3565, x + 1, zrho) σ) (K0 : ((0 ≤ r ∧ r < 9) ∧ (0 ≤ c ∧ c < 9)) → ∀ σ', zfq σ σ' → Q (.inl (some (.inl (w (10 + (9 * r + c).toNat))))) (3565, x, zrho) σ') : WM 72 [.inr (.inl (some 100)), .inl r, .inl c] (3565, x, zrho) σ Q := by
  show Wp 72 0 [some (.inr (.inl (some 100))), some (.inl r), some (.inl c)] [] _ _ Q
  have k := zx_k
  have k1 := zx_k1
  have k2 := zx_k2
  by_cases c1 : (0 ≤ r ∧ r < 9) ∧ (0 ≤ c ∧ c < 9)
  · have t1 := fun (Q : ZO → ZT → ZI → Prop) => t_tuc1 (x := x) (σ := σ) (Q := Q) hr hc c1
    have t2 := fun (Q : ZO → ZT → ZI → Prop) => t_colourOf (L := 102) (c := 9 * r + c) (x := x) (σ := σ) (Q := Q) k2 (by omega) (by omega)
    rw [hR.l.2.2.1 _ (by omega)] at t2
    simp (disch := first | assumption | exact p_c2i | exact p_c2r | exact p_c2n | omega | ((repeat (first | refine p_a1i.trans ?_ | refine p_a1r.trans ?_)); exact p_a10) | ((repeat (first | refine p_wI ?_ | refine p_wR ?_)); exact p_w0) | decide) only [reduceIte, Int.reduceLT, Int.reduceLE, Int.reduceEq, Int.reduceToNat, Int.reduceAdd, Int.reduceSub, Int.reduceMul, Int.reduceNeg, e72_0, e72_1, e72_2, e72_5, e72_6, e72_9, e72_12, e72_13, e72_14, e72_17, e72_20, p_il1, p_il2, p_cs2_0, p_cs2_1, p_cs2_2, p_cs2_3, p_cs2_4, zK_v, zK_0, WN_ncl, p_al0, p_getR, p_cv1_0, p_cv1_1, p_cv1_2, p_cv1_3, p_cv1_4, p_ret0, WN_nx, WN_nrt, WN_ite, t1, t2, zx_r0, zx_l, t_cellOf]
    exact K0 c1 σ zfq_r
  · have t1 := fun (Q : ZO → ZT → ZI → Prop) => t_tuc0 (x := x) (σ := σ) (Q := Q) hr hc c1
    have hz : zhnd 72 2 0 = none := rfl
    simp (disch := first | assumption | exact p_c2i | exact p_c2r | exact p_c2n | omega | ((repeat (first | refine p_a1i.trans ?_ | refine p_a1r.trans ?_)); exact p_a10) | ((repeat (first | refine p_wI ?_ | refine p_wR ?_)); exact p_w0) | decide) only [reduceIte, Int.reduceLT, Int.reduceLE, Int.reduceEq, Int.reduceToNat, Int.reduceAdd, Int.reduceSub, Int.reduceMul, Int.reduceNeg, e72_0, e72_1, e72_2, e72_5, e72_6, e72_9, e72_12, e72_13, e72_14, e72_17, e72_20, p_il1, p_il2, p_cs2_0, p_cs2_1, p_cs2_2, p_cs2_3, p_cs2_4, zK_v, zK_0, WN_ncl, p_al0, p_getR, p_cv1_0, p_cv1_1, p_cv1_2, p_cv1_3, p_cv1_4, p_ret0, WN_nx, WN_nrt, WN_ite, t1, zK_n hz]
    exact K1 c1
theorem t_paintedC {r c : Int} (hR : zSr σ 101 w) (ok : zSok N w) (hr : -2147483648 ≤ r ∧ r < 2147483648) (hc : -2147483648 ≤ c ∧ c < 2147483648) (K1 : ¬ ((0 ≤ r ∧ r < 9) ∧ (0 ≤ c ∧ c < 9)) → Q (.inr 0) (3565, x + 1, zrho) σ) (K0 : ((0 ≤ r ∧ r < 9) ∧ (0 ≤ c ∧ c < 9)) → ∀ σ', zfq σ σ' → Q (.inl (some (.inl (w (91 + (9 * r + c).toNat))))) (3565, x, zrho) σ') : WM 79 [.inr (.inl (some 100)), .inl r, .inl c] (3565, x, zrho) σ Q := by
  show Wp 79 0 [some (.inr (.inl (some 100))), some (.inl r), some (.inl c)] [] _ _ Q
  have k := zx_k
  have k1 := zx_k1
  have k2 := zx_k2
  by_cases c1 : (0 ≤ r ∧ r < 9) ∧ (0 ≤ c ∧ c < 9)
  · have t1 := fun (Q : ZO → ZT → ZI → Prop) => t_tuc1 (x := x) (σ := σ) (Q := Q) hr hc c1
    have t2 := fun (Q : ZO → ZT → ZI → Prop) => t_paintingsOf (L := 102) (c := 9 * r + c) (x := x) (σ := σ) (Q := Q) k2 (by omega) (by omega)
    rw [hR.l.2.2.2.1 _ (by omega)] at t2
    simp (disch := first | assumption | exact p_c2i | exact p_c2r | exact p_c2n | omega | ((repeat (first | refine p_a1i.trans ?_ | refine p_a1r.trans ?_)); exact p_a10) | ((repeat (first | refine p_wI ?_ | refine p_wR ?_)); exact p_w0) | decide) only [reduceIte, Int.reduceLT, Int.reduceLE, Int.reduceEq, Int.reduceToNat, Int.reduceAdd, Int.reduceSub, Int.reduceMul, Int.reduceNeg, e79_0, e79_1, e79_2, e79_5, e79_6, e79_9, e79_12, e79_13, e79_14, e79_17, e79_20, p_il1, p_il2, p_cs2_0, p_cs2_1, p_cs2_2, p_cs2_3, p_cs2_4, zK_v, zK_0, WN_ncl, p_al0, p_getR, p_cv1_0, p_cv1_1, p_cv1_2, p_cv1_3, p_cv1_4, p_ret0, WN_nx, WN_nrt, WN_ite, t1, t2, zx_r0, zx_l, t_cellOf]
    exact K0 c1 σ zfq_r
  · have t1 := fun (Q : ZO → ZT → ZI → Prop) => t_tuc0 (x := x) (σ := σ) (Q := Q) hr hc c1
    have hz : zhnd 79 2 0 = none := rfl
    simp (disch := first | assumption | exact p_c2i | exact p_c2r | exact p_c2n | omega | ((repeat (first | refine p_a1i.trans ?_ | refine p_a1r.trans ?_)); exact p_a10) | ((repeat (first | refine p_wI ?_ | refine p_wR ?_)); exact p_w0) | decide) only [reduceIte, Int.reduceLT, Int.reduceLE, Int.reduceEq, Int.reduceToNat, Int.reduceAdd, Int.reduceSub, Int.reduceMul, Int.reduceNeg, e79_0, e79_1, e79_2, e79_5, e79_6, e79_9, e79_12, e79_13, e79_14, e79_17, e79_20, p_il1, p_il2, p_cs2_0, p_cs2_1, p_cs2_2, p_cs2_3, p_cs2_4, zK_v, zK_0, WN_ncl, p_al0, p_getR, p_cv1_0, p_cv1_1, p_cv1_2, p_cv1_3, p_cv1_4, p_ret0, WN_nx, WN_nrt, WN_ite, t1, zK_n hz]
    exact K1 c1
theorem t_onC {r c : Int} (hR : zSr σ 101 w) (ok : zSok N w) (hr : -2147483648 ≤ r ∧ r < 2147483648) (hc : -2147483648 ≤ c ∧ c < 2147483648) (K1 : ¬ ((0 ≤ r ∧ r < 9) ∧ (0 ≤ c ∧ c < 9)) → Q (.inr 0) (3565, x + 1, zrho) σ) (K0 : ((0 ≤ r ∧ r < 9) ∧ (0 ≤ c ∧ c < 9)) → ∀ σ', zfq σ σ' → Q (.inl (some (.inl (aOn w (9 * r + c))))) (3565, x, zrho) σ') : WM 74 [.inr (.inl (some 100)), .inl r, .inl c] (3565, x, zrho) σ Q := by
  show Wp 74 0 [some (.inr (.inl (some 100))), some (.inl r), some (.inl c)] [] _ _ Q
  have k := zx_k
  have k1 := zx_k1
  have k2 := zx_k2
  by_cases c1 : (0 ≤ r ∧ r < 9) ∧ (0 ≤ c ∧ c < 9)
  · have t1 := fun (Q : ZO → ZT → ZI → Prop) => t_tuc1 (x := x) (σ := σ) (Q := Q) hr hc c1
    have t2 := fun (Q : ZO → ZT → ZI → Prop) => t_hoesOn (L := 102) (c := 9 * r + c) (x := x) (σ := σ) (Q := Q) k2 hR.l ok.2.2.1 (by omega)
    simp (disch := first | assumption | exact p_c2i | exact p_c2r | exact p_c2n | omega | ((repeat (first | refine p_a1i.trans ?_ | refine p_a1r.trans ?_)); exact p_a10) | ((repeat (first | refine p_wI ?_ | refine p_wR ?_)); exact p_w0) | decide) only [reduceIte, Int.reduceLT, Int.reduceLE, Int.reduceEq, Int.reduceToNat, Int.reduceAdd, Int.reduceSub, Int.reduceMul, Int.reduceNeg, e74_0, e74_1, e74_2, e74_5, e74_6, e74_9, e74_12, e74_13, e74_14, e74_17, e74_20, p_il1, p_il2, p_cs2_0, p_cs2_1, p_cs2_2, p_cs2_3, p_cs2_4, zK_v, zK_0, WN_ncl, p_al0, p_getR, p_cv1_0, p_cv1_1, p_cv1_2, p_cv1_3, p_cv1_4, p_ret0, WN_nx, WN_nrt, WN_ite, t1, t2, zx_r0, zx_l, t_cellOf]
    exact K0 c1 σ zfq_r
  · have t1 := fun (Q : ZO → ZT → ZI → Prop) => t_tuc0 (x := x) (σ := σ) (Q := Q) hr hc c1
    have hz : zhnd 74 2 0 = none := rfl
    simp (disch := first | assumption | exact p_c2i | exact p_c2r | exact p_c2n | omega | ((repeat (first | refine p_a1i.trans ?_ | refine p_a1r.trans ?_)); exact p_a10) | ((repeat (first | refine p_wI ?_ | refine p_wR ?_)); exact p_w0) | decide) only [reduceIte, Int.reduceLT, Int.reduceLE, Int.reduceEq, Int.reduceToNat, Int.reduceAdd, Int.reduceSub, Int.reduceMul, Int.reduceNeg, e74_0, e74_1, e74_2, e74_5, e74_6, e74_9, e74_12, e74_13, e74_14, e74_17, e74_20, p_il1, p_il2, p_cs2_0, p_cs2_1, p_cs2_2, p_cs2_3, p_cs2_4, zK_v, zK_0, WN_ncl, p_al0, p_getR, p_cv1_0, p_cv1_1, p_cv1_2, p_cv1_3, p_cv1_4, p_ret0, WN_nx, WN_nrt, WN_ite, t1, zK_n hz]
    exact K1 c1
theorem t_fieldC {r c : Int} (hR : zSr σ 101 w) (ok : zSok N w) (hr : -2147483648 ≤ r ∧ r < 2147483648) (hc : -2147483648 ≤ c ∧ c < 2147483648) (K1 : ¬ ((0 ≤ r ∧ r < 9) ∧ (0 ≤ c ∧ c < 9)) → Q (.inr 0) (3565, x + 1, zrho) σ) (K0 : ((0 ≤ r ∧ r < 9) ∧ (0 ≤ c ∧ c < 9)) → ∀ σ', zfq σ σ' → Q (.inl (some (.inl (fSize w (9 * r + c).toNat)))) (3565, x, zrho) σ') : WM 83 [.inr (.inl (some 100)), .inl r, .inl c] (3565, x, zrho) σ Q := by
  show Wp 83 0 [some (.inr (.inl (some 100))), some (.inl r), some (.inl c)] [] _ _ Q
  have k := zx_k
  have k1 := zx_k1
  have k2 := zx_k2
  by_cases c1 : (0 ≤ r ∧ r < 9) ∧ (0 ≤ c ∧ c < 9)
  · have t1 := fun (Q : ZO → ZT → ZI → Prop) => t_tuc1 (x := x) (σ := σ) (Q := Q) hr hc c1
    obtain ⟨a, ea⟩ : ∃ a : Nat, 9 * r + c = (a : Int) := ⟨(9 * r + c).toNat, by omega⟩
    simp (disch := first | assumption | exact p_c2i | exact p_c2r | exact p_c2n | omega | ((repeat (first | refine p_a1i.trans ?_ | refine p_a1r.trans ?_)); exact p_a10) | ((repeat (first | refine p_wI ?_ | refine p_wR ?_)); exact p_w0) | decide) only [reduceIte, Int.reduceLT, Int.reduceLE, Int.reduceEq, Int.reduceToNat, Int.reduceAdd, Int.reduceSub, Int.reduceMul, Int.reduceNeg, e83_0, e83_1, e83_2, e83_5, e83_6, e83_9, e83_10, e83_13, e83_16, e83_17, e83_18, e83_21, p_il1, p_il2, p_cs2_0, p_cs2_1, p_cs2_2, p_cs2_3, p_cs2_4, zK_v, zK_0, WN_ncl, p_al0, p_getR, p_cv2_0, p_cv2_1, p_cv2_2, p_cv2_3, p_cv2_4, WN_nx, WN_nrt, WN_ite, t1, zx_r0, zx_l, zx_r6, t_cellOf, ea]
    refine t_sizeOfC (by omega) k2 hR.l ok.2.2.1 (fun σ' f => ?_)
    rw [zK_v]
    simp (disch := first | assumption | exact p_c2i | exact p_c2r | exact p_c2n | omega | ((repeat (first | refine p_a1i.trans ?_ | refine p_a1r.trans ?_)); exact p_a10) | ((repeat (first | refine p_wI ?_ | refine p_wR ?_)); exact p_w0) | decide) only [reduceIte, Int.reduceLT, Int.reduceLE, Int.reduceEq, Int.reduceToNat, Int.reduceAdd, Int.reduceSub, Int.reduceMul, Int.reduceNeg, e83_24, p_ret0, WN_nx, WN_nrt, WN_ite]
    have e := K0 c1 σ' (fun a ha => f a (by omega) (by omega) (by omega))
    rw [ea, Int.toNat_natCast] at e
    exact e
  · have t1 := fun (Q : ZO → ZT → ZI → Prop) => t_tuc0 (x := x) (σ := σ) (Q := Q) hr hc c1
    have hz : zhnd 83 2 0 = none := rfl
    simp (disch := first | assumption | exact p_c2i | exact p_c2r | exact p_c2n | omega | ((repeat (first | refine p_a1i.trans ?_ | refine p_a1r.trans ?_)); exact p_a10) | ((repeat (first | refine p_wI ?_ | refine p_wR ?_)); exact p_w0) | decide) only [reduceIte, Int.reduceLT, Int.reduceLE, Int.reduceEq, Int.reduceToNat, Int.reduceAdd, Int.reduceSub, Int.reduceMul, Int.reduceNeg, e83_0, e83_1, e83_2, p_il1, p_il2, p_cs2_0, p_cs2_1, p_cs2_2, p_cs2_3, p_cs2_4, zK_v, zK_0, WN_ncl, WN_nx, WN_nrt, WN_ite, t1, zK_n hz]
    exact K1 c1
theorem t_countC {v : Int} (hR : zSr σ 101 w) (ok : zSok N w) (hv : -2147483648 ≤ v ∧ v < 2147483648) (K1 : ¬ (0 ≤ v ∧ v ≤ 3) → Q (.inr 1) (3565, x + 1, zrho) σ) (K0 : (0 ≤ v ∧ v ≤ 3) → ∀ σ', zfq σ σ' → Q (.inl (some (.inl (zct (fun c => decide (w (10 + c) = v)) 81)))) (3565, x, zrho) σ') : WM 80 [.inr (.inl (some 100)), .inl v] (3565, x, zrho) σ Q := by
  show Wp 80 0 [some (.inr (.inl (some 100))), some (.inl v)] [] _ _ Q
  have k := zx_k
  have k1 := zx_k1
  have k2 := zx_k2
  by_cases c1 : 0 ≤ v ∧ v ≤ 3
  · have t1 := fun (Q : ZO → ZT → ZI → Prop) => t_tuv1 (x := x) (σ := σ) (Q := Q) c1
    have t2 := fun (Q : ZO → ZT → ZI → Prop) => t_cellsWith (L := 102) (x := x) (σ := σ) (Q := Q) k2 hv hR.l ok.2.2.1
    simp (disch := first | assumption | exact p_c2i | exact p_c2r | exact p_c2n | omega | ((repeat (first | refine p_a1i.trans ?_ | refine p_a1r.trans ?_)); exact p_a10) | ((repeat (first | refine p_wI ?_ | refine p_wR ?_)); exact p_w0) | decide) only [reduceIte, Int.reduceLT, Int.reduceLE, Int.reduceEq, Int.reduceToNat, Int.reduceAdd, Int.reduceSub, Int.reduceMul, Int.reduceNeg, e80_0, e80_1, e80_4, e80_5, e80_8, e80_11, e80_12, e80_15, p_il1, p_cs1_0, p_cs1_1, p_cs1_2, p_cs1_3, p_cs1_4, zK_v, zK_0, WN_ncl, p_al0, p_getR, p_cv1_0, p_cv1_1, p_cv1_2, p_cv1_3, p_cv1_4, p_ret0, WN_nx, WN_nrt, WN_ite, t1, t2, zx_r0, zx_l]
    exact K0 c1 σ zfq_r
  · have t1 := fun (Q : ZO → ZT → ZI → Prop) => t_tuv0 (x := x) (σ := σ) (Q := Q) hv c1
    have hz : zhnd 80 1 1 = none := rfl
    simp (disch := first | assumption | exact p_c2i | exact p_c2r | exact p_c2n | omega | ((repeat (first | refine p_a1i.trans ?_ | refine p_a1r.trans ?_)); exact p_a10) | ((repeat (first | refine p_wI ?_ | refine p_wR ?_)); exact p_w0) | decide) only [reduceIte, Int.reduceLT, Int.reduceLE, Int.reduceEq, Int.reduceToNat, Int.reduceAdd, Int.reduceSub, Int.reduceMul, Int.reduceNeg, e80_0, e80_1, e80_4, e80_5, e80_8, e80_11, e80_12, e80_15, p_il1, p_cs1_0, p_cs1_1, p_cs1_2, p_cs1_3, p_cs1_4, zK_v, zK_0, WN_ncl, p_al0, p_getR, p_cv1_0, p_cv1_1, p_cv1_2, p_cv1_3, p_cv1_4, p_ret0, WN_nx, WN_nrt, WN_ite, t1, zK_n hz]
    exact K1 c1
theorem t_fieldsC {v : Int} (hR : zSr σ 101 w) (ok : zSok N w) (hv : -2147483648 ≤ v ∧ v < 2147483648) (K1 : ¬ (0 ≤ v ∧ v ≤ 3) → Q (.inr 1) (3565, x + 1, zrho) σ) (K0 : (0 ≤ v ∧ v ≤ 3) → ∀ σ', zfq σ σ' → Q (.inl (some (.inl (fMany w v)))) (3565, x, zrho) σ') : WM 81 [.inr (.inl (some 100)), .inl v] (3565, x, zrho) σ Q := by
  show Wp 81 0 [some (.inr (.inl (some 100))), some (.inl v)] [] _ _ Q
  have k := zx_k
  have k1 := zx_k1
  have k2 := zx_k2
  by_cases c1 : 0 ≤ v ∧ v ≤ 3
  · have t1 := fun (Q : ZO → ZT → ZI → Prop) => t_tuv1 (x := x) (σ := σ) (Q := Q) c1
    simp (disch := first | assumption | exact p_c2i | exact p_c2r | exact p_c2n | omega | ((repeat (first | refine p_a1i.trans ?_ | refine p_a1r.trans ?_)); exact p_a10) | ((repeat (first | refine p_wI ?_ | refine p_wR ?_)); exact p_w0) | decide) only [reduceIte, Int.reduceLT, Int.reduceLE, Int.reduceEq, Int.reduceToNat, Int.reduceAdd, Int.reduceSub, Int.reduceMul, Int.reduceNeg, e81_0, e81_1, e81_4, e81_5, e81_8, e81_9, e81_12, e81_15, e81_16, p_il1, p_cs1_0, p_cs1_1, p_cs1_2, p_cs1_3, p_cs1_4, zK_v, zK_0, WN_ncl, p_al0, p_getR, p_cv2_0, p_cv2_1, p_cv2_2, p_cv2_3, p_cv2_4, WN_nx, WN_nrt, WN_ite, t1, zx_r0, zx_l, zx_r6]
    refine t_going hv k2 hR.l ok.2.2.1 (fun σ' f => ?_)
    rw [zK_v]
    simp (disch := first | assumption | exact p_c2i | exact p_c2r | exact p_c2n | omega | ((repeat (first | refine p_a1i.trans ?_ | refine p_a1r.trans ?_)); exact p_a10) | ((repeat (first | refine p_wI ?_ | refine p_wR ?_)); exact p_w0) | decide) only [reduceIte, Int.reduceLT, Int.reduceLE, Int.reduceEq, Int.reduceToNat, Int.reduceAdd, Int.reduceSub, Int.reduceMul, Int.reduceNeg, e81_19, p_ret0, WN_nx, WN_nrt, WN_ite]
    exact K0 c1 σ' (fun a ha => f a (by omega) (by omega) (by omega))
  · have t1 := fun (Q : ZO → ZT → ZI → Prop) => t_tuv0 (x := x) (σ := σ) (Q := Q) hv c1
    have hz : zhnd 81 1 1 = none := rfl
    simp (disch := first | assumption | exact p_c2i | exact p_c2r | exact p_c2n | omega | ((repeat (first | refine p_a1i.trans ?_ | refine p_a1r.trans ?_)); exact p_a10) | ((repeat (first | refine p_wI ?_ | refine p_wR ?_)); exact p_w0) | decide) only [reduceIte, Int.reduceLT, Int.reduceLE, Int.reduceEq, Int.reduceToNat, Int.reduceAdd, Int.reduceSub, Int.reduceMul, Int.reduceNeg, e81_0, e81_1, p_il1, p_cs1_0, p_cs1_1, p_cs1_2, p_cs1_3, p_cs1_4, zK_v, zK_0, WN_ncl, WN_nx, WN_nrt, WN_ite, t1, zK_n hz]
    exact K1 c1
theorem t_fieldsAgainC {v : Int} (hR : zSr σ 101 w) (ok : zSok N w) (hv : -2147483648 ≤ v ∧ v < 2147483648) (K1 : ¬ (0 ≤ v ∧ v ≤ 3) → Q (.inr 1) (3565, x + 1, zrho) σ) (K0 : (0 ≤ v ∧ v ≤ 3) → ∀ σ', zfq σ σ' → Q (.inl (some (.inl (fMany w v)))) (3565, x, zrho) σ') : WM 82 [.inr (.inl (some 100)), .inl v] (3565, x, zrho) σ Q := by
  show Wp 82 0 [some (.inr (.inl (some 100))), some (.inl v)] [] _ _ Q
  have k := zx_k
  have k1 := zx_k1
  have k2 := zx_k2
  by_cases c1 : 0 ≤ v ∧ v ≤ 3
  · have t1 := fun (Q : ZO → ZT → ZI → Prop) => t_tuv1 (x := x) (σ := σ) (Q := Q) c1
    simp (disch := first | assumption | exact p_c2i | exact p_c2r | exact p_c2n | omega | ((repeat (first | refine p_a1i.trans ?_ | refine p_a1r.trans ?_)); exact p_a10) | ((repeat (first | refine p_wI ?_ | refine p_wR ?_)); exact p_w0) | decide) only [reduceIte, Int.reduceLT, Int.reduceLE, Int.reduceEq, Int.reduceToNat, Int.reduceAdd, Int.reduceSub, Int.reduceMul, Int.reduceNeg, e82_0, e82_1, e82_4, e82_5, e82_8, e82_9, e82_12, e82_15, e82_16, p_il1, p_cs1_0, p_cs1_1, p_cs1_2, p_cs1_3, p_cs1_4, zK_v, zK_0, WN_ncl, p_al0, p_getR, p_cv2_0, p_cv2_1, p_cv2_2, p_cv2_3, p_cv2_4, WN_nx, WN_nrt, WN_ite, t1, zx_r0, zx_l, zx_r6]
    refine t_bynum hv k2 hR.l ok.2.2.1 (fun σ' f => ?_)
    rw [zK_v]
    simp (disch := first | assumption | exact p_c2i | exact p_c2r | exact p_c2n | omega | ((repeat (first | refine p_a1i.trans ?_ | refine p_a1r.trans ?_)); exact p_a10) | ((repeat (first | refine p_wI ?_ | refine p_wR ?_)); exact p_w0) | decide) only [reduceIte, Int.reduceLT, Int.reduceLE, Int.reduceEq, Int.reduceToNat, Int.reduceAdd, Int.reduceSub, Int.reduceMul, Int.reduceNeg, e82_19, p_ret0, WN_nx, WN_nrt, WN_ite]
    exact K0 c1 σ' (fun a ha => f a (by omega))
  · have t1 := fun (Q : ZO → ZT → ZI → Prop) => t_tuv0 (x := x) (σ := σ) (Q := Q) hv c1
    have hz : zhnd 82 1 1 = none := rfl
    simp (disch := first | assumption | exact p_c2i | exact p_c2r | exact p_c2n | omega | ((repeat (first | refine p_a1i.trans ?_ | refine p_a1r.trans ?_)); exact p_a10) | ((repeat (first | refine p_wI ?_ | refine p_wR ?_)); exact p_w0) | decide) only [reduceIte, Int.reduceLT, Int.reduceLE, Int.reduceEq, Int.reduceToNat, Int.reduceAdd, Int.reduceSub, Int.reduceMul, Int.reduceNeg, e82_0, e82_1, p_il1, p_cs1_0, p_cs1_1, p_cs1_2, p_cs1_3, p_cs1_4, zK_v, zK_0, WN_ncl, WN_nx, WN_nrt, WN_ite, t1, zK_n hz]
    exact K1 c1
theorem t_greatestC {v : Int} (hR : zSr σ 101 w) (ok : zSok N w) (hv : -2147483648 ≤ v ∧ v < 2147483648) (K1 : ¬ (0 ≤ v ∧ v ≤ 3) → Q (.inr 1) (3565, x + 1, zrho) σ) (K0 : (0 ≤ v ∧ v ≤ 3) → ∀ σ', zfq σ σ' → Q (.inl (some (.inl (fGreat w v 81)))) (3565, x, zrho) σ') : WM 84 [.inr (.inl (some 100)), .inl v] (3565, x, zrho) σ Q := by
  show Wp 84 0 [some (.inr (.inl (some 100))), some (.inl v)] [] _ _ Q
  have k := zx_k
  have k1 := zx_k1
  have k2 := zx_k2
  by_cases c1 : 0 ≤ v ∧ v ≤ 3
  · have t1 := fun (Q : ZO → ZT → ZI → Prop) => t_tuv1 (x := x) (σ := σ) (Q := Q) c1
    simp (disch := first | assumption | exact p_c2i | exact p_c2r | exact p_c2n | omega | ((repeat (first | refine p_a1i.trans ?_ | refine p_a1r.trans ?_)); exact p_a10) | ((repeat (first | refine p_wI ?_ | refine p_wR ?_)); exact p_w0) | decide) only [reduceIte, Int.reduceLT, Int.reduceLE, Int.reduceEq, Int.reduceToNat, Int.reduceAdd, Int.reduceSub, Int.reduceMul, Int.reduceNeg, e84_0, e84_1, e84_4, e84_5, e84_8, e84_9, e84_12, e84_15, e84_16, p_il1, p_cs1_0, p_cs1_1, p_cs1_2, p_cs1_3, p_cs1_4, zK_v, zK_0, WN_ncl, p_al0, p_getR, p_cv2_0, p_cv2_1, p_cv2_2, p_cv2_3, p_cv2_4, WN_nx, WN_nrt, WN_ite, t1, zx_r0, zx_l, zx_r6]
    refine t_greatC hv k2 hR.l ok.2.2.1 (fun σ' f => ?_)
    rw [zK_v]
    simp (disch := first | assumption | exact p_c2i | exact p_c2r | exact p_c2n | omega | ((repeat (first | refine p_a1i.trans ?_ | refine p_a1r.trans ?_)); exact p_a10) | ((repeat (first | refine p_wI ?_ | refine p_wR ?_)); exact p_w0) | decide) only [reduceIte, Int.reduceLT, Int.reduceLE, Int.reduceEq, Int.reduceToNat, Int.reduceAdd, Int.reduceSub, Int.reduceMul, Int.reduceNeg, e84_19, p_ret0, WN_nx, WN_nrt, WN_ite]
    exact K0 c1 σ' (fun a ha => f a (by omega) (by omega) (by omega))
  · have t1 := fun (Q : ZO → ZT → ZI → Prop) => t_tuv0 (x := x) (σ := σ) (Q := Q) hv c1
    have hz : zhnd 84 1 1 = none := rfl
    simp (disch := first | assumption | exact p_c2i | exact p_c2r | exact p_c2n | omega | ((repeat (first | refine p_a1i.trans ?_ | refine p_a1r.trans ?_)); exact p_a10) | ((repeat (first | refine p_wI ?_ | refine p_wR ?_)); exact p_w0) | decide) only [reduceIte, Int.reduceLT, Int.reduceLE, Int.reduceEq, Int.reduceToNat, Int.reduceAdd, Int.reduceSub, Int.reduceMul, Int.reduceNeg, e84_0, e84_1, p_il1, p_cs1_0, p_cs1_1, p_cs1_2, p_cs1_3, p_cs1_4, zK_v, zK_0, WN_ncl, WN_nx, WN_nrt, WN_ite, t1, zK_n hz]
    exact K1 c1
theorem t_hoeOfC {h v : Int} (hR : zSr σ 101 w) (ok : zSok N w) (hh : -2147483648 ≤ h ∧ h < 2147483648) (hv : -2147483648 ≤ v ∧ v < 2147483648) (K1 : ¬ (0 ≤ h ∧ h < w 0) → Q (.inr 0) (3565, x + 1, zrho) σ) (K2 : (0 ≤ h ∧ h < w 0) → ¬ (0 ≤ v ∧ v ≤ 4) → Q (.inr 1) (3565, x + 1, zrho) σ) (K0 : (0 ≤ h ∧ h < w 0) → (0 ≤ v ∧ v ≤ 4) → ∀ σ', zfq σ σ' → Q (.inl (some (.inl (if v = 0 then w (172 + 4 * h.toNat) / 9 else if v = 1 then w (172 + 4 * h.toNat) % 9 else w (172 + 4 * h.toNat + (v - 1).toNat))))) (3565, x, zrho) σ') : WM 73 [.inr (.inl (some 100)), .inl h, .inl v] (3565, x, zrho) σ Q := by
  show Wp 73 0 [some (.inr (.inl (some 100))), some (.inl h), some (.inl v)] [] _ _ Q
  have k := zx_k
  have k1 := zx_k1
  have k2 := zx_k2
  have o0 := ok.2.2.1.1
  have h0 := hR.l.h0
  by_cases c1 : 0 ≤ h ∧ h < w 0
  · have t1 := fun (Q : ZO → ZT → ZI → Prop) => t_tuh1 (x := x) (Q := Q) hR.l o0 hh c1
    by_cases c2 : 0 ≤ v ∧ v ≤ 4
    · obtain ⟨i, hi⟩ : ∃ i : Nat, h = (i : Int) := ⟨h.toNat, by omega⟩
      subst hi
      have o := (ok.2.2.1.2.2.2.2.2.2.2.2.2.1 i c1.2)
      have r := hR.l.2.2.2.2.1 i c1.2
      have e := K0 c1 c2 σ zfq_r
      rw [Int.toNat_natCast] at e
      have g1 := fun (Q : ZO → ZT → ZI → Prop) => t_cellOfHoe (L := 102) (x := x) (σ := σ) (Q := Q) (h := (i : Int)) k2 (by omega) (by omega) (by omega)
      have g2 := fun (Q : ZO → ZT → ZI → Prop) => t_headingOfHoe (L := 102) (x := x) (σ := σ) (Q := Q) (h := (i : Int)) k2 (by omega) (by omega) (by omega)
      have g3 := fun (Q : ZO → ZT → ZI → Prop) => t_goingsOfHoe (L := 102) (x := x) (σ := σ) (Q := Q) (h := (i : Int)) k2 (by omega) (by omega) (by omega)
      have g4 := fun (Q : ZO → ZT → ZI → Prop) => t_meetingsOfHoe (L := 102) (x := x) (σ := σ) (Q := Q) (h := (i : Int)) k2 (by omega) (by omega) (by omega)
      rw [Int.toNat_natCast] at g1 g2 g3 g4
      rw [r.1] at g1
      rw [r.2.1] at g2
      rw [r.2.2.1] at g3
      rw [r.2.2.2] at g4
      have e1 : Int.tdiv (w (172 + 4 * i)) 9 = w (172 + 4 * i) / 9 := Int.tdiv_eq_ediv_of_nonneg o.1.1
      have e2 : Int.tmod (w (172 + 4 * i)) 9 = w (172 + 4 * i) % 9 := Int.tmod_eq_emod_of_nonneg o.1.1
      rcases (show v = 0 ∨ v = 1 ∨ v = 2 ∨ v = 3 ∨ v = 4 by omega) with z | z | z | z | z
      · subst z
        simp (disch := first | assumption | exact p_c2i | exact p_c2r | exact p_c2n | omega | ((repeat (first | refine p_a1i.trans ?_ | refine p_a1r.trans ?_)); exact p_a10) | ((repeat (first | refine p_wI ?_ | refine p_wR ?_)); exact p_w0) | decide) only [reduceIte, Int.reduceLT, Int.reduceLE, Int.reduceEq, Int.reduceToNat, Int.reduceAdd, Int.reduceSub, Int.reduceMul, Int.reduceNeg, e73_0, e73_1, e73_2, e73_5, e73_6, e73_40, e73_41, e73_44, e73_47, e73_48, e73_51, e73_53, e73_54, e73_55, e73_56, e73_59, e73_62, e73_63, e73_66, e73_68, e73_69, e73_70, e73_71, e73_74, e73_77, e73_78, e73_81, e73_82, e73_83, e73_86, e73_89, e73_90, e73_93, e73_94, e73_95, e73_98, e73_101, e73_102, e73_105, e73_106, p_al0, p_il1, p_cv1_0, p_cv1_1, p_cv1_2, p_cv1_3, p_cv1_4, zK_v, zK_0, WN_ncl, p_il2, p_sw, zsw, p_getR, p_push, p_div, p_ret0, p_rem, o_throw, WN_nx, WN_nrt, WN_ite, t1, g1, e1, zx_r0, zx_l, p_throw]
        exact e
      · subst z
        simp (disch := first | assumption | exact p_c2i | exact p_c2r | exact p_c2n | omega | ((repeat (first | refine p_a1i.trans ?_ | refine p_a1r.trans ?_)); exact p_a10) | ((repeat (first | refine p_wI ?_ | refine p_wR ?_)); exact p_w0) | decide) only [reduceIte, Int.reduceLT, Int.reduceLE, Int.reduceEq, Int.reduceToNat, Int.reduceAdd, Int.reduceSub, Int.reduceMul, Int.reduceNeg, e73_0, e73_1, e73_2, e73_5, e73_6, e73_40, e73_41, e73_44, e73_47, e73_48, e73_51, e73_53, e73_54, e73_55, e73_56, e73_59, e73_62, e73_63, e73_66, e73_68, e73_69, e73_70, e73_71, e73_74, e73_77, e73_78, e73_81, e73_82, e73_83, e73_86, e73_89, e73_90, e73_93, e73_94, e73_95, e73_98, e73_101, e73_102, e73_105, e73_106, p_al0, p_il1, p_cv1_0, p_cv1_1, p_cv1_2, p_cv1_3, p_cv1_4, zK_v, zK_0, WN_ncl, p_il2, p_sw, zsw, p_getR, p_push, p_div, p_ret0, p_rem, o_throw, WN_nx, WN_nrt, WN_ite, t1, g1, e2, zx_r0, zx_l, p_throw]
        exact e
      · subst z
        simp (disch := first | assumption | exact p_c2i | exact p_c2r | exact p_c2n | omega | ((repeat (first | refine p_a1i.trans ?_ | refine p_a1r.trans ?_)); exact p_a10) | ((repeat (first | refine p_wI ?_ | refine p_wR ?_)); exact p_w0) | decide) only [reduceIte, Int.reduceLT, Int.reduceLE, Int.reduceEq, Int.reduceToNat, Int.reduceAdd, Int.reduceSub, Int.reduceMul, Int.reduceNeg, e73_0, e73_1, e73_2, e73_5, e73_6, e73_40, e73_41, e73_44, e73_47, e73_48, e73_51, e73_53, e73_54, e73_55, e73_56, e73_59, e73_62, e73_63, e73_66, e73_68, e73_69, e73_70, e73_71, e73_74, e73_77, e73_78, e73_81, e73_82, e73_83, e73_86, e73_89, e73_90, e73_93, e73_94, e73_95, e73_98, e73_101, e73_102, e73_105, e73_106, p_al0, p_il1, p_cv1_0, p_cv1_1, p_cv1_2, p_cv1_3, p_cv1_4, zK_v, zK_0, WN_ncl, p_il2, p_sw, zsw, p_getR, p_push, p_div, p_ret0, p_rem, o_throw, WN_nx, WN_nrt, WN_ite, t1, g2, zx_r0, zx_l, p_throw]
        rw [show 173 + 4 * i = 172 + 4 * i + (2 - 1 : Int).toNat by rw [show (2 - 1 : Int).toNat = 1 from rfl]; omega]
        exact e
      · subst z
        simp (disch := first | assumption | exact p_c2i | exact p_c2r | exact p_c2n | omega | ((repeat (first | refine p_a1i.trans ?_ | refine p_a1r.trans ?_)); exact p_a10) | ((repeat (first | refine p_wI ?_ | refine p_wR ?_)); exact p_w0) | decide) only [reduceIte, Int.reduceLT, Int.reduceLE, Int.reduceEq, Int.reduceToNat, Int.reduceAdd, Int.reduceSub, Int.reduceMul, Int.reduceNeg, e73_0, e73_1, e73_2, e73_5, e73_6, e73_40, e73_41, e73_44, e73_47, e73_48, e73_51, e73_53, e73_54, e73_55, e73_56, e73_59, e73_62, e73_63, e73_66, e73_68, e73_69, e73_70, e73_71, e73_74, e73_77, e73_78, e73_81, e73_82, e73_83, e73_86, e73_89, e73_90, e73_93, e73_94, e73_95, e73_98, e73_101, e73_102, e73_105, e73_106, p_al0, p_il1, p_cv1_0, p_cv1_1, p_cv1_2, p_cv1_3, p_cv1_4, zK_v, zK_0, WN_ncl, p_il2, p_sw, zsw, p_getR, p_push, p_div, p_ret0, p_rem, o_throw, WN_nx, WN_nrt, WN_ite, t1, g3, zx_r0, zx_l, p_throw]
        rw [show 174 + 4 * i = 172 + 4 * i + (3 - 1 : Int).toNat by rw [show (3 - 1 : Int).toNat = 2 from rfl]; omega]
        exact e
      · subst z
        simp (disch := first | assumption | exact p_c2i | exact p_c2r | exact p_c2n | omega | ((repeat (first | refine p_a1i.trans ?_ | refine p_a1r.trans ?_)); exact p_a10) | ((repeat (first | refine p_wI ?_ | refine p_wR ?_)); exact p_w0) | decide) only [reduceIte, Int.reduceLT, Int.reduceLE, Int.reduceEq, Int.reduceToNat, Int.reduceAdd, Int.reduceSub, Int.reduceMul, Int.reduceNeg, e73_0, e73_1, e73_2, e73_5, e73_6, e73_40, e73_41, e73_44, e73_47, e73_48, e73_51, e73_53, e73_54, e73_55, e73_56, e73_59, e73_62, e73_63, e73_66, e73_68, e73_69, e73_70, e73_71, e73_74, e73_77, e73_78, e73_81, e73_82, e73_83, e73_86, e73_89, e73_90, e73_93, e73_94, e73_95, e73_98, e73_101, e73_102, e73_105, e73_106, p_al0, p_il1, p_cv1_0, p_cv1_1, p_cv1_2, p_cv1_3, p_cv1_4, zK_v, zK_0, WN_ncl, p_il2, p_sw, zsw, p_getR, p_push, p_div, p_ret0, p_rem, o_throw, WN_nx, WN_nrt, WN_ite, t1, g4, zx_r0, zx_l, p_throw]
        rw [show 175 + 4 * i = 172 + 4 * i + (4 - 1 : Int).toNat by rw [show (4 - 1 : Int).toNat = 3 from rfl]; omega]
        exact e
    · have d0 : (v = 0) = False := eq_false (by omega)
      have d1 : (v = 1) = False := eq_false (by omega)
      have d2 : (v = 2) = False := eq_false (by omega)
      have d3 : (v = 3) = False := eq_false (by omega)
      have d4 : (v = 4) = False := eq_false (by omega)
      simp (disch := first | assumption | exact p_c2i | exact p_c2r | exact p_c2n | omega | ((repeat (first | refine p_a1i.trans ?_ | refine p_a1r.trans ?_)); exact p_a10) | ((repeat (first | refine p_wI ?_ | refine p_wR ?_)); exact p_w0) | decide) only [reduceIte, Int.reduceLT, Int.reduceLE, Int.reduceEq, Int.reduceToNat, Int.reduceAdd, Int.reduceSub, Int.reduceMul, Int.reduceNeg, e73_0, e73_1, e73_2, e73_5, e73_6, e73_40, e73_41, e73_44, e73_47, e73_48, e73_51, e73_53, e73_54, e73_55, e73_56, e73_59, e73_62, e73_63, e73_66, e73_68, e73_69, e73_70, e73_71, e73_74, e73_77, e73_78, e73_81, e73_82, e73_83, e73_86, e73_89, e73_90, e73_93, e73_94, e73_95, e73_98, e73_101, e73_102, e73_105, e73_106, p_al0, p_il1, p_cv1_0, p_cv1_1, p_cv1_2, p_cv1_3, p_cv1_4, zK_v, zK_0, WN_ncl, p_il2, p_sw, zsw, p_getR, p_push, p_div, p_ret0, p_rem, o_throw, WN_nx, WN_nrt, WN_ite, t1, p_throw, d0, d1, d2, d3, d4]
      exact K2 c1 c2
  · have t1 := fun (Q : ZO → ZT → ZI → Prop) => t_tuh0 (x := x) (Q := Q) hR.l o0 hh c1
    have hz : zhnd 73 2 0 = none := rfl
    simp (disch := first | assumption | exact p_c2i | exact p_c2r | exact p_c2n | omega | ((repeat (first | refine p_a1i.trans ?_ | refine p_a1r.trans ?_)); exact p_a10) | ((repeat (first | refine p_wI ?_ | refine p_wR ?_)); exact p_w0) | decide) only [reduceIte, Int.reduceLT, Int.reduceLE, Int.reduceEq, Int.reduceToNat, Int.reduceAdd, Int.reduceSub, Int.reduceMul, Int.reduceNeg, e73_0, e73_1, e73_2, p_al0, p_il1, p_cv1_0, p_cv1_1, p_cv1_2, p_cv1_3, p_cv1_4, zK_v, zK_0, WN_ncl, WN_nx, WN_nrt, WN_ite, t1, zK_n hz]
    exact K1 c1
theorem t_trailC {p : Int} (hR : zSr σ 101 w) (ok : zSok N w) (hp : -2147483648 ≤ p ∧ p < 2147483648) (K1 : ¬ (0 ≤ p ∧ p < w 4) → Q (.inr 3) (3565, x + 1, zrho) σ) (K0 : (0 ≤ p ∧ p < w 4) → ∀ σ', zfq σ σ' → Q (.inl (some (.inl (w (188 + p.toNat))))) (3565, x, zrho) σ') : WM 78 [.inr (.inl (some 100)), .inl p] (3565, x, zrho) σ Q := by
  show Wp 78 0 [some (.inr (.inl (some 100))), some (.inl p)] [] _ _ Q
  have k := zx_k
  have k1 := zx_k1
  have k2 := zx_k2
  have o4 := ok.2.2.1.2.2.2.2.1
  have h4 := hR.l.h4
  by_cases c1 : 0 ≤ p ∧ p < w 4
  · have d0 : (p < 0) = False := eq_false (by omega)
    have d1 : (p < w 4) = True := eq_true (by omega)
    have t2 := fun (Q : ZO → ZT → ZI → Prop) => t_trailAt (L := 102) (x := x) (σ := σ) (Q := Q) (c := p) k2 (by omega) (by omega)
    rw [hR.l.2.2.2.2.2 _ (by omega)] at t2
    simp (disch := first | assumption | exact p_c2i | exact p_c2r | exact p_c2n | omega | ((repeat (first | refine p_a1i.trans ?_ | refine p_a1r.trans ?_)); exact p_a10) | ((repeat (first | refine p_wI ?_ | refine p_wR ?_)); exact p_w0) | decide) only [reduceIte, Int.reduceLT, Int.reduceLE, Int.reduceEq, Int.reduceToNat, Int.reduceAdd, Int.reduceSub, Int.reduceMul, Int.reduceNeg, e78_0, e78_1, e78_4, e78_5, e78_6, e78_9, e78_12, e78_15, e78_18, e78_28, e78_29, e78_32, e78_35, e78_36, e78_39, p_il1, p_iflt, p_al0, p_getR, p_getI, p_clt, o_throw, p_cv1_0, p_cv1_1, p_cv1_2, p_cv1_3, p_cv1_4, zK_v, zK_0, WN_ncl, p_ret0, WN_nx, WN_nrt, WN_ite, d0, d1, t2, h4, zx_r0, zx_l, p_throw]
    exact K0 c1 σ zfq_r
  · by_cases z : p < 0
    · have d0 : (p < 0) = True := eq_true z
      simp (disch := first | assumption | exact p_c2i | exact p_c2r | exact p_c2n | omega | ((repeat (first | refine p_a1i.trans ?_ | refine p_a1r.trans ?_)); exact p_a10) | ((repeat (first | refine p_wI ?_ | refine p_wR ?_)); exact p_w0) | decide) only [reduceIte, Int.reduceLT, Int.reduceLE, Int.reduceEq, Int.reduceToNat, Int.reduceAdd, Int.reduceSub, Int.reduceMul, Int.reduceNeg, e78_0, e78_1, e78_4, e78_5, e78_6, e78_9, e78_12, e78_15, e78_18, e78_28, e78_29, e78_32, e78_35, e78_36, e78_39, p_il1, p_iflt, p_al0, p_getR, p_getI, p_clt, o_throw, p_cv1_0, p_cv1_1, p_cv1_2, p_cv1_3, p_cv1_4, zK_v, zK_0, WN_ncl, p_ret0, WN_nx, WN_nrt, WN_ite, d0, p_throw]
      exact K1 c1
    · have d0 : (p < 0) = False := eq_false z
      have d1 : (p < w 4) = False := eq_false (by omega)
      simp (disch := first | assumption | exact p_c2i | exact p_c2r | exact p_c2n | omega | ((repeat (first | refine p_a1i.trans ?_ | refine p_a1r.trans ?_)); exact p_a10) | ((repeat (first | refine p_wI ?_ | refine p_wR ?_)); exact p_w0) | decide) only [reduceIte, Int.reduceLT, Int.reduceLE, Int.reduceEq, Int.reduceToNat, Int.reduceAdd, Int.reduceSub, Int.reduceMul, Int.reduceNeg, e78_0, e78_1, e78_4, e78_5, e78_6, e78_9, e78_12, e78_15, e78_18, e78_28, e78_29, e78_32, e78_35, e78_36, e78_39, p_il1, p_iflt, p_al0, p_getR, p_getI, p_clt, o_throw, p_cv1_0, p_cv1_1, p_cv1_2, p_cv1_3, p_cv1_4, zK_v, zK_0, WN_ncl, p_ret0, WN_nx, WN_nrt, WN_ite, d0, d1, h4, zx_r0, zx_l, p_throw]
      exact K1 c1
theorem t_rankedC {p : Int} (hR : zSr σ 101 w) (ok : zSok N w) (hN : N ≤ 100000000) (hp : -2147483648 ≤ p ∧ p < 2147483648) (K1 : ¬ (0 ≤ p ∧ p < w 0) → Q (.inr 3) (3565, x + 1, zrho) σ) (K0 : (0 ≤ p ∧ p < w 0) → ∀ σ', zfq σ σ' → Q (.inl (some (.inl (aRanked w p)))) (3565, x, zrho) σ') : WM 90 [.inr (.inl (some 100)), .inl p] (3565, x, zrho) σ Q := by
  show Wp 90 0 [some (.inr (.inl (some 100))), some (.inl p)] [] _ _ Q
  have k := zx_k
  have k1 := zx_k1
  have k2 := zx_k2
  have o0 := ok.2.2.1.1
  have h0 := hR.l.h0
  by_cases c1 : 0 ≤ p ∧ p < w 0
  · have d0 : (p < 0) = False := eq_false (by omega)
    have d1 : (p < w 0) = True := eq_true (by omega)
    have t2 := fun (Q : ZO → ZT → ZI → Prop) => t_hoeRanked (L := 102) (x := x) (σ := σ) (Q := Q) (p := p) k2 hp hR.l ok.2.2.1 hN
    simp (disch := first | assumption | exact p_c2i | exact p_c2r | exact p_c2n | omega | ((repeat (first | refine p_a1i.trans ?_ | refine p_a1r.trans ?_)); exact p_a10) | ((repeat (first | refine p_wI ?_ | refine p_wR ?_)); exact p_w0) | decide) only [reduceIte, Int.reduceLT, Int.reduceLE, Int.reduceEq, Int.reduceToNat, Int.reduceAdd, Int.reduceSub, Int.reduceMul, Int.reduceNeg, e90_0, e90_1, e90_4, e90_5, e90_6, e90_9, e90_12, e90_15, e90_18, e90_28, e90_29, e90_32, e90_35, e90_36, e90_39, p_il1, p_iflt, p_al0, p_getR, p_getI, p_clt, o_throw, p_cv1_0, p_cv1_1, p_cv1_2, p_cv1_3, p_cv1_4, zK_v, zK_0, WN_ncl, p_ret0, WN_nx, WN_nrt, WN_ite, d0, d1, t2, h0, zx_r0, zx_l, p_throw]
    exact K0 c1 σ zfq_r
  · by_cases z : p < 0
    · have d0 : (p < 0) = True := eq_true z
      simp (disch := first | assumption | exact p_c2i | exact p_c2r | exact p_c2n | omega | ((repeat (first | refine p_a1i.trans ?_ | refine p_a1r.trans ?_)); exact p_a10) | ((repeat (first | refine p_wI ?_ | refine p_wR ?_)); exact p_w0) | decide) only [reduceIte, Int.reduceLT, Int.reduceLE, Int.reduceEq, Int.reduceToNat, Int.reduceAdd, Int.reduceSub, Int.reduceMul, Int.reduceNeg, e90_0, e90_1, e90_4, e90_5, e90_6, e90_9, e90_12, e90_15, e90_18, e90_28, e90_29, e90_32, e90_35, e90_36, e90_39, p_il1, p_iflt, p_al0, p_getR, p_getI, p_clt, o_throw, p_cv1_0, p_cv1_1, p_cv1_2, p_cv1_3, p_cv1_4, zK_v, zK_0, WN_ncl, p_ret0, WN_nx, WN_nrt, WN_ite, d0, p_throw]
      exact K1 c1
    · have d0 : (p < 0) = False := eq_false z
      have d1 : (p < w 0) = False := eq_false (by omega)
      simp (disch := first | assumption | exact p_c2i | exact p_c2r | exact p_c2n | omega | ((repeat (first | refine p_a1i.trans ?_ | refine p_a1r.trans ?_)); exact p_a10) | ((repeat (first | refine p_wI ?_ | refine p_wR ?_)); exact p_w0) | decide) only [reduceIte, Int.reduceLT, Int.reduceLE, Int.reduceEq, Int.reduceToNat, Int.reduceAdd, Int.reduceSub, Int.reduceMul, Int.reduceNeg, e90_0, e90_1, e90_4, e90_5, e90_6, e90_9, e90_12, e90_15, e90_18, e90_28, e90_29, e90_32, e90_35, e90_36, e90_39, p_il1, p_iflt, p_al0, p_getR, p_getI, p_clt, o_throw, p_cv1_0, p_cv1_1, p_cv1_2, p_cv1_3, p_cv1_4, zK_v, zK_0, WN_ncl, p_ret0, WN_nx, WN_nrt, WN_ite, d0, d1, h0, zx_r0, zx_l, p_throw]
      exact K1 c1
end
