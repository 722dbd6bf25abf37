/-! THE CLASS: the other orders -/
section
variable {σ : ZI} {Q : ZO → ZT → ZI → Prop} {x n : Nat} {w : zW} {N : Int} {kp : Nat → zW}
theorem oTurn_c {t v : Int} : ((oTurn w t v).1 = 0 ∧ oTurn w t v = (0, 0, 0) ∧ ((0 ≤ t ∧ t ≤ 3) ∧ (0 ≤ v ∧ v ≤ 3))) ∨ (oTurn w t v).1 = 1 ∨ (oTurn w t v).1 = 2 := by
  unfold oTurn
  by_cases c1 : (0 ≤ t ∧ t ≤ 3) ∧ (0 ≤ v ∧ v ≤ 3)
  · rw [if_neg (fun z => z c1)]
    split
    · exact Or.inr (Or.inr rfl)
    · exact Or.inl ⟨rfl, rfl, c1⟩
  · rw [if_pos c1]
    exact Or.inr (Or.inl rfl)
theorem t_turnC {t v : Int} (ht : -2147483648 ≤ t ∧ t < 2147483648) (hv : -2147483648 ≤ v ∧ v < 2147483648) (hR : zSr σ 101 w) (ok : zSok N w) (hC : zCr σ kp n) (hn : n ≤ 8) (K1 : ∀ E : Nat, (oTurn w t v).1 = (E : Int) → 0 < E → Q (.inr E) (3565, x + 1, zrho) (zref σ (oTurn w t v))) (K0 : (oTurn w t v).1 = 0 → ∀ σ', zSr σ' 101 (wu (wu w 201 0) (6 + t.toNat) v) → zCr σ' (aPushK kp n w) (aPushN n) → (∀ a, a < 101 ∨ (413 ≤ a ∧ a < 1037) ∨ 3535 ≤ a → σ' a = σ a) → Q (.inl (some (.inl (w (6 + t.toNat))))) (3565, x, zrho) σ') : WM 69 [.inr (.inl (some 100)), .inl t, .inl v] (3565, x, zrho) σ Q := by
  show Wp 69 0 [some (.inr (.inl (some 100))), some (.inl t), some (.inl v)] [] _ _ Q
  have k := zx_k
  have k0 : zkd 1037 = 0 := rfl
  have tf := fun (Q : ZO → ZT → ZI → Prop) => t_faultTurn (Q := Q) (x := x) hR.lw ok.2.2.1 ht hv
  rcases oTurn_c (w := w) (t := t) (v := v) with ⟨e, e2, hz⟩ | e | e
  · rw [show cF1 (oTurn w t v) = 0 by rw [e2]; rfl, e2, zref_0] at tf
    simp (disch := first | assumption | exact p_c2i | exact p_c2r | exact p_c2n | omega | ((repeat (first | refine p_a1i.trans ?_ | refine p_a1r.trans ?_)); exact p_a10) | ((repeat (first | refine p_wI ?_ | refine p_wR ?_)); exact p_w0) | decide) only [reduceIte, Int.reduceLT, Int.reduceLE, Int.reduceEq, Int.reduceToNat, Int.reduceAdd, Int.reduceSub, Int.reduceMul, Int.reduceNeg, e69_0, e69_1, e69_2, e69_3, e69_6, e69_9, e69_10, e69_13, e69_14, e69_17, p_al0, p_il1, p_il2, p_cv2_0, p_cv2_1, p_cv2_2, p_cv2_3, p_cv2_4, zK_v, zK_0, WN_ncl, p_cs1_0, p_cs1_1, p_cs1_2, p_cs1_3, p_cs1_4, p_getR, p_cv1_0, p_cv1_1, p_cv1_2, p_cv1_3, p_cv1_4, WN_nx, WN_nrt, WN_ite, tf, t_tf0, zx_r4, zx_r0]
    refine t_push zx_s (by omega) hR ok hC hn (fun σ1 h1 f1 => ?_)
    rw [zK_0]
    simp (disch := first | assumption | exact p_c2i | exact p_c2r | exact p_c2n | omega | ((repeat (first | refine p_a1i.trans ?_ | refine p_a1r.trans ?_)); exact p_a10) | ((repeat (first | refine p_wI ?_ | refine p_wR ?_)); exact p_w0) | decide) only [reduceIte, Int.reduceLT, Int.reduceLE, Int.reduceEq, Int.reduceToNat, Int.reduceAdd, Int.reduceSub, Int.reduceMul, Int.reduceNeg, e69_20, e69_21, e69_22, e69_23, p_al0, p_il1, p_il2, p_cv2_0, p_cv2_1, p_cv2_2, p_cv2_3, p_cv2_4, zK_v, zK_0, WN_ncl, WN_nx, WN_nrt, WN_ite]
    refine t_setTurn (hR.frame (fun a _ _ => f1 a (by omega))) ok (by omega) (fun σ2 h2 f2 => ?_)
    rw [zK_v]
    have ci := zct_in (p := fun c => decide (w 0 ≤ w (10 + c))) 81
    simp (disch := first | assumption | exact p_c2i | exact p_c2r | exact p_c2n | omega | ((repeat (first | refine p_a1i.trans ?_ | refine p_a1r.trans ?_)); exact p_a10) | ((repeat (first | refine p_wI ?_ | refine p_wR ?_)); exact p_w0) | decide) only [reduceIte, Int.reduceLT, Int.reduceLE, Int.reduceEq, Int.reduceToNat, Int.reduceAdd, Int.reduceSub, Int.reduceMul, Int.reduceNeg, e69_26, p_ret0, WN_nx, WN_nrt, WN_ite]
    exact K0 e σ2 h2 (h1.frame (fun a _ _ => f2 a (by omega))) (fun a ha => (f2 a (by omega)).trans (f1 a (by omega)))
  · rw [show cF1 (oTurn w t v) = 2 by unfold cF1; rw [e]; rfl] at tf
    have hz : zhnd 69 6 1 = none := rfl
    simp (disch := first | assumption | exact p_c2i | exact p_c2r | exact p_c2n | omega | ((repeat (first | refine p_a1i.trans ?_ | refine p_a1r.trans ?_)); exact p_a10) | ((repeat (first | refine p_wI ?_ | refine p_wR ?_)); exact p_w0) | decide) only [reduceIte, Int.reduceLT, Int.reduceLE, Int.reduceEq, Int.reduceToNat, Int.reduceAdd, Int.reduceSub, Int.reduceMul, Int.reduceNeg, e69_0, e69_1, e69_2, e69_3, e69_6, e69_9, e69_10, e69_13, e69_14, e69_17, e69_20, e69_21, e69_22, e69_23, e69_26, p_al0, p_il1, p_il2, p_cv2_0, p_cv2_1, p_cv2_2, p_cv2_3, p_cv2_4, zK_v, zK_0, WN_ncl, p_cs1_0, p_cs1_1, p_cs1_2, p_cs1_3, p_cs1_4, p_getR, p_cv1_0, p_cv1_1, p_cv1_2, p_cv1_3, p_cv1_4, p_ret0, WN_nx, WN_nrt, WN_ite, tf, t_tf2, zK_n hz]
    exact K1 1 (by rw [e]; rfl) (by omega)
  · rw [show cF1 (oTurn w t v) = 3 by unfold cF1; rw [e]; rfl] at tf
    have hz : zhnd 69 6 2 = none := rfl
    simp (disch := first | assumption | exact p_c2i | exact p_c2r | exact p_c2n | omega | ((repeat (first | refine p_a1i.trans ?_ | refine p_a1r.trans ?_)); exact p_a10) | ((repeat (first | refine p_wI ?_ | refine p_wR ?_)); exact p_w0) | decide) only [reduceIte, Int.reduceLT, Int.reduceLE, Int.reduceEq, Int.reduceToNat, Int.reduceAdd, Int.reduceSub, Int.reduceMul, Int.reduceNeg, e69_0, e69_1, e69_2, e69_3, e69_6, e69_9, e69_10, e69_13, e69_14, e69_17, e69_20, e69_21, e69_22, e69_23, e69_26, p_al0, p_il1, p_il2, p_cv2_0, p_cv2_1, p_cv2_2, p_cv2_3, p_cv2_4, zK_v, zK_0, WN_ncl, p_cs1_0, p_cs1_1, p_cs1_2, p_cs1_3, p_cs1_4, p_getR, p_cv1_0, p_cv1_1, p_cv1_2, p_cv1_3, p_cv1_4, p_ret0, WN_nx, WN_nrt, WN_ite, tf, t_tf3, zK_n hz]
    exact K1 2 (by rw [e]; rfl) (by omega)
theorem oMany_c {v : Int} : ((oMany w v).1 = 0 ∧ oMany w v = (0, 0, 0) ∧ (2 ≤ v ∧ v ≤ 4)) ∨ (oMany w v).1 = 1 ∨ (oMany w v).1 = 2 := by
  unfold oMany
  by_cases c1 : 2 ≤ v ∧ v ≤ 4
  · rw [if_neg (fun z => z c1)]
    split
    · exact Or.inr (Or.inr rfl)
    · exact Or.inl ⟨rfl, rfl, c1⟩
  · rw [if_pos c1]
    exact Or.inr (Or.inl rfl)
theorem t_coloursC {v : Int} (hv : -2147483648 ≤ v ∧ v < 2147483648) (hR : zSr σ 101 w) (ok : zSok N w) (hC : zCr σ kp n) (hn : n ≤ 8) (K1 : ∀ E : Nat, (oMany w v).1 = (E : Int) → 0 < E → Q (.inr E) (3565, x + 1, zrho) (zref σ (oMany w v))) (K0 : (oMany w v).1 = 0 → ∀ σ', zSr σ' 101 (aMany v (wu w 201 0)) → zCr σ' (aPushK kp n w) (aPushN n) → (∀ a, a < 101 ∨ (413 ≤ a ∧ a < 1037) ∨ 3535 ≤ a → σ' a = σ a) → Q (.inl (some (.inl (zct (fun c => decide (v ≤ w (10 + c))) 81)))) (3565, x, zrho) σ') : WM 68 [.inr (.inl (some 100)), .inl v] (3565, x, zrho) σ Q := by
  show Wp 68 0 [some (.inr (.inl (some 100))), some (.inl v)] [] _ _ Q
  have k := zx_k
  have k0 : zkd 1037 = 0 := rfl
  have tf := fun (Q : ZO → ZT → ZI → Prop) => t_faultColours (Q := Q) (x := x) hR.lw ok.2.2.1 hv
  rcases oMany_c (w := w) (v := v) with ⟨e, e2, hz⟩ | e | e
  · rw [show cF1 (oMany w v) = 0 by rw [e2]; rfl, e2, zref_0] at tf
    simp (disch := first | assumption | exact p_c2i | exact p_c2r | exact p_c2n | omega | ((repeat (first | refine p_a1i.trans ?_ | refine p_a1r.trans ?_)); exact p_a10) | ((repeat (first | refine p_wI ?_ | refine p_wR ?_)); exact p_w0) | decide) only [reduceIte, Int.reduceLT, Int.reduceLE, Int.reduceEq, Int.reduceToNat, Int.reduceAdd, Int.reduceSub, Int.reduceMul, Int.reduceNeg, e68_0, e68_1, e68_2, e68_5, e68_8, e68_9, e68_12, e68_13, e68_16, p_al0, p_il1, p_cv1_0, p_cv1_1, p_cv1_2, p_cv1_3, p_cv1_4, zK_v, zK_0, WN_ncl, p_cs1_0, p_cs1_1, p_cs1_2, p_cs1_3, p_cs1_4, p_getR, WN_nx, WN_nrt, WN_ite, tf, t_tf0, zx_r4, zx_r0]
    refine t_push zx_s (by omega) hR ok hC hn (fun σ1 h1 f1 => ?_)
    rw [zK_0]
    simp (disch := first | assumption | exact p_c2i | exact p_c2r | exact p_c2n | omega | ((repeat (first | refine p_a1i.trans ?_ | refine p_a1r.trans ?_)); exact p_a10) | ((repeat (first | refine p_wI ?_ | refine p_wR ?_)); exact p_w0) | decide) only [reduceIte, Int.reduceLT, Int.reduceLE, Int.reduceEq, Int.reduceToNat, Int.reduceAdd, Int.reduceSub, Int.reduceMul, Int.reduceNeg, e68_19, e68_20, e68_21, p_al0, p_il1, p_cv1_0, p_cv1_1, p_cv1_2, p_cv1_3, p_cv1_4, zK_v, zK_0, WN_ncl, WN_nx, WN_nrt, WN_ite]
    refine t_setColours (hR.frame (fun a _ _ => f1 a (by omega))) ok hz (fun σ2 h2 f2 => ?_)
    rw [zK_v]
    have ci := zct_in (p := fun c => decide (w 0 ≤ w (10 + c))) 81
    simp (disch := first | assumption | exact p_c2i | exact p_c2r | exact p_c2n | omega | ((repeat (first | refine p_a1i.trans ?_ | refine p_a1r.trans ?_)); exact p_a10) | ((repeat (first | refine p_wI ?_ | refine p_wR ?_)); exact p_w0) | decide) only [reduceIte, Int.reduceLT, Int.reduceLE, Int.reduceEq, Int.reduceToNat, Int.reduceAdd, Int.reduceSub, Int.reduceMul, Int.reduceNeg, e68_24, p_ret0, WN_nx, WN_nrt, WN_ite]
    exact K0 e σ2 h2 (h1.frame (fun a _ _ => f2 a (by omega))) (fun a ha => (f2 a (by omega)).trans (f1 a (by omega)))
  · rw [show cF1 (oMany w v) = 2 by unfold cF1; rw [e]; rfl] at tf
    have hz : zhnd 68 5 1 = none := rfl
    simp (disch := first | assumption | exact p_c2i | exact p_c2r | exact p_c2n | omega | ((repeat (first | refine p_a1i.trans ?_ | refine p_a1r.trans ?_)); exact p_a10) | ((repeat (first | refine p_wI ?_ | refine p_wR ?_)); exact p_w0) | decide) only [reduceIte, Int.reduceLT, Int.reduceLE, Int.reduceEq, Int.reduceToNat, Int.reduceAdd, Int.reduceSub, Int.reduceMul, Int.reduceNeg, e68_0, e68_1, e68_2, e68_5, e68_8, e68_9, e68_12, e68_13, e68_16, e68_19, e68_20, e68_21, e68_24, p_al0, p_il1, p_cv1_0, p_cv1_1, p_cv1_2, p_cv1_3, p_cv1_4, zK_v, zK_0, WN_ncl, p_cs1_0, p_cs1_1, p_cs1_2, p_cs1_3, p_cs1_4, p_getR, p_ret0, WN_nx, WN_nrt, WN_ite, tf, t_tf2, zK_n hz]
    exact K1 1 (by rw [e]; rfl) (by omega)
  · rw [show cF1 (oMany w v) = 3 by unfold cF1; rw [e]; rfl] at tf
    have hz : zhnd 68 5 2 = none := rfl
    simp (disch := first | assumption | exact p_c2i | exact p_c2r | exact p_c2n | omega | ((repeat (first | refine p_a1i.trans ?_ | refine p_a1r.trans ?_)); exact p_a10) | ((repeat (first | refine p_wI ?_ | refine p_wR ?_)); exact p_w0) | decide) only [reduceIte, Int.reduceLT, Int.reduceLE, Int.reduceEq, Int.reduceToNat, Int.reduceAdd, Int.reduceSub, Int.reduceMul, Int.reduceNeg, e68_0, e68_1, e68_2, e68_5, e68_8, e68_9, e68_12, e68_13, e68_16, e68_19, e68_20, e68_21, e68_24, p_al0, p_il1, p_cv1_0, p_cv1_1, p_cv1_2, p_cv1_3, p_cv1_4, zK_v, zK_0, WN_ncl, p_cs1_0, p_cs1_1, p_cs1_2, p_cs1_3, p_cs1_4, p_getR, p_ret0, WN_nx, WN_nrt, WN_ite, tf, t_tf3, zK_n hz]
    exact K1 2 (by rw [e]; rfl) (by omega)
theorem oManner_c {v : Int} : ((oManner w v).1 = 0 ∧ oManner w v = (0, 0, 0) ∧ (0 ≤ v ∧ v ≤ 2)) ∨ (oManner w v).1 = 1 ∨ (oManner w v).1 = 2 := by
  unfold oManner
  by_cases c1 : 0 ≤ v ∧ v ≤ 2
  · rw [if_neg (fun z => z c1)]
    split
    · exact Or.inr (Or.inr rfl)
    · exact Or.inl ⟨rfl, rfl, c1⟩
  · rw [if_pos c1]
    exact Or.inr (Or.inl rfl)
theorem t_mannerC {v : Int} (hv : -2147483648 ≤ v ∧ v < 2147483648) (hR : zSr σ 101 w) (ok : zSok N w) (hC : zCr σ kp n) (hn : n ≤ 8) (K1 : ∀ E : Nat, (oManner w v).1 = (E : Int) → 0 < E → Q (.inr E) (3565, x + 1, zrho) (zref σ (oManner w v))) (K0 : (oManner w v).1 = 0 → ∀ σ', zSr σ' 101 (wu (wu w 201 0) 2 v) → zCr σ' (aPushK kp n w) (aPushN n) → (∀ a, a < 101 ∨ (413 ≤ a ∧ a < 1037) ∨ 3535 ≤ a → σ' a = σ a) → Q (.inl (some (.inl (w 2)))) (3565, x, zrho) σ') : WM 71 [.inr (.inl (some 100)), .inl v] (3565, x, zrho) σ Q := by
  show Wp 71 0 [some (.inr (.inl (some 100))), some (.inl v)] [] _ _ Q
  have k := zx_k
  have k0 : zkd 1037 = 0 := rfl
  have tf := fun (Q : ZO → ZT → ZI → Prop) => t_faultManner (Q := Q) (x := x) hR.lw ok.2.2.1 hv
  rcases oManner_c (w := w) (v := v) with ⟨e, e2, hz⟩ | e | e
  · rw [show cF1 (oManner w v) = 0 by rw [e2]; rfl, e2, zref_0] at tf
    simp (disch := first | assumption | exact p_c2i | exact p_c2r | exact p_c2n | omega | ((repeat (first | refine p_a1i.trans ?_ | refine p_a1r.trans ?_)); exact p_a10) | ((repeat (first | refine p_wI ?_ | refine p_wR ?_)); exact p_w0) | decide) only [reduceIte, Int.reduceLT, Int.reduceLE, Int.reduceEq, Int.reduceToNat, Int.reduceAdd, Int.reduceSub, Int.reduceMul, Int.reduceNeg, e71_0, e71_1, e71_2, e71_5, e71_8, e71_9, e71_12, e71_13, e71_16, p_al0, p_il1, p_cv1_0, p_cv1_1, p_cv1_2, p_cv1_3, p_cv1_4, zK_v, zK_0, WN_ncl, p_cs1_0, p_cs1_1, p_cs1_2, p_cs1_3, p_cs1_4, p_getR, WN_nx, WN_nrt, WN_ite, tf, t_tf0, zx_r4, zx_r0]
    refine t_push zx_s (by omega) hR ok hC hn (fun σ1 h1 f1 => ?_)
    rw [zK_0]
    simp (disch := first | assumption | exact p_c2i | exact p_c2r | exact p_c2n | omega | ((repeat (first | refine p_a1i.trans ?_ | refine p_a1r.trans ?_)); exact p_a10) | ((repeat (first | refine p_wI ?_ | refine p_wR ?_)); exact p_w0) | decide) only [reduceIte, Int.reduceLT, Int.reduceLE, Int.reduceEq, Int.reduceToNat, Int.reduceAdd, Int.reduceSub, Int.reduceMul, Int.reduceNeg, e71_19, e71_20, e71_21, p_al0, p_il1, p_cv1_0, p_cv1_1, p_cv1_2, p_cv1_3, p_cv1_4, zK_v, zK_0, WN_ncl, WN_nx, WN_nrt, WN_ite]
    refine t_setManner (hR.frame (fun a _ _ => f1 a (by omega))) ok  (fun σ2 h2 f2 => ?_)
    rw [zK_v]
    have ci := zct_in (p := fun c => decide (w 0 ≤ w (10 + c))) 81
    simp (disch := first | assumption | exact p_c2i | exact p_c2r | exact p_c2n | omega | ((repeat (first | refine p_a1i.trans ?_ | refine p_a1r.trans ?_)); exact p_a10) | ((repeat (first | refine p_wI ?_ | refine p_wR ?_)); exact p_w0) | decide) only [reduceIte, Int.reduceLT, Int.reduceLE, Int.reduceEq, Int.reduceToNat, Int.reduceAdd, Int.reduceSub, Int.reduceMul, Int.reduceNeg, e71_24, p_ret0, WN_nx, WN_nrt, WN_ite]
    exact K0 e σ2 h2 (h1.frame (fun a _ _ => f2 a (by omega))) (fun a ha => (f2 a (by omega)).trans (f1 a (by omega)))
  · rw [show cF1 (oManner w v) = 2 by unfold cF1; rw [e]; rfl] at tf
    have hz : zhnd 71 5 1 = none := rfl
    simp (disch := first | assumption | exact p_c2i | exact p_c2r | exact p_c2n | omega | ((repeat (first | refine p_a1i.trans ?_ | refine p_a1r.trans ?_)); exact p_a10) | ((repeat (first | refine p_wI ?_ | refine p_wR ?_)); exact p_w0) | decide) only [reduceIte, Int.reduceLT, Int.reduceLE, Int.reduceEq, Int.reduceToNat, Int.reduceAdd, Int.reduceSub, Int.reduceMul, Int.reduceNeg, e71_0, e71_1, e71_2, e71_5, e71_8, e71_9, e71_12, e71_13, e71_16, e71_19, e71_20, e71_21, e71_24, p_al0, p_il1, p_cv1_0, p_cv1_1, p_cv1_2, p_cv1_3, p_cv1_4, zK_v, zK_0, WN_ncl, p_cs1_0, p_cs1_1, p_cs1_2, p_cs1_3, p_cs1_4, p_getR, p_ret0, WN_nx, WN_nrt, WN_ite, tf, t_tf2, zK_n hz]
    exact K1 1 (by rw [e]; rfl) (by omega)
  · rw [show cF1 (oManner w v) = 3 by unfold cF1; rw [e]; rfl] at tf
    have hz : zhnd 71 5 2 = none := rfl
    simp (disch := first | assumption | exact p_c2i | exact p_c2r | exact p_c2n | omega | ((repeat (first | refine p_a1i.trans ?_ | refine p_a1r.trans ?_)); exact p_a10) | ((repeat (first | refine p_wI ?_ | refine p_wR ?_)); exact p_w0) | decide) only [reduceIte, Int.reduceLT, Int.reduceLE, Int.reduceEq, Int.reduceToNat, Int.reduceAdd, Int.reduceSub, Int.reduceMul, Int.reduceNeg, e71_0, e71_1, e71_2, e71_5, e71_8, e71_9, e71_12, e71_13, e71_16, e71_19, e71_20, e71_21, e71_24, p_al0, p_il1, p_cv1_0, p_cv1_1, p_cv1_2, p_cv1_3, p_cv1_4, zK_v, zK_0, WN_ncl, p_cs1_0, p_cs1_1, p_cs1_2, p_cs1_3, p_cs1_4, p_getR, p_ret0, WN_nx, WN_nrt, WN_ite, tf, t_tf3, zK_n hz]
    exact K1 2 (by rw [e]; rfl) (by omega)
end
