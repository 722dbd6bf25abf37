/-! THE CLASS: step, back, drop -/
section
variable {σ : ZI} {Q : ZO → ZT → ZI → Prop} {x n : Nat} {w : zW} {N : Int} {kp : Nat → zW}
theorem oStep_c {v : Int} : ((oStep w v).1 = 0 ∧ oStep w v = (0, 0, 0) ∧ (1 ≤ v ∧ v ≤ 40)) ∨ (oStep w v).1 = 1 ∨ (oStep w v).1 = 2 := by
  unfold oStep
  by_cases c1 : 1 ≤ v ∧ v ≤ 40
  · rw [if_neg (fun z => z c1)]
    split
    · exact Or.inr (Or.inr rfl)
    · exact Or.inl ⟨rfl, rfl, c1⟩
  · rw [if_pos c1]
    exact Or.inr (Or.inl rfl)
theorem t_stepC {v : Int} (hv : -2147483648 ≤ v ∧ v < 2147483648) (hR : zSr σ 101 w) (ok : zSok N w) (hN : N ≤ 80000000) (hC : zCr σ kp n) (hn : n ≤ 8) (K1 : ∀ E : Nat, (oStep w v).1 = (E : Int) → 0 < E → Q (.inr E) (3565, x + 1, zrho) (zref σ (oStep w v))) (K0 : (oStep w v).1 = 0 → ∀ σ', zSr σ' 101 (aStN v.toNat w) → zCr σ' (aPushK kp n w) (aPushN n) → (∀ a, a < 101 ∨ (413 ≤ a ∧ a < 1037) ∨ 3535 ≤ a → σ' a = σ a) → Q (.inl (some (.inl (aGS w v.toNat)))) (3565, x, zrho) σ') : WM 75 [.inr (.inl (some 100)), .inl v] (3565, x, zrho) σ Q := by
  show Wp 75 0 [some (.inr (.inl (some 100))), some (.inl v)] [] _ _ Q
  have k := zx_k
  have k0 : zkd 1037 = 0 := rfl
  have tf := fun (Q : ZO → ZT → ZI → Prop) => t_faultStep (Q := Q) (x := x) hR.lw ok.2.2.1 hv
  rcases oStep_c (w := w) (v := v) with ⟨e, e2, hz⟩ | e | e
  · rw [show cF1 (oStep w v) = 0 by rw [e2]; rfl, e2, zref_0] at tf
    simp (disch := first | assumption | exact p_c2i | exact p_c2r | exact p_c2n | omega | ((repeat (first | refine p_a1i.trans ?_ | refine p_a1r.trans ?_)); exact p_a10) | ((repeat (first | refine p_wI ?_ | refine p_wR ?_)); exact p_w0) | decide) only [reduceIte, Int.reduceLT, Int.reduceLE, Int.reduceEq, Int.reduceToNat, Int.reduceAdd, Int.reduceSub, Int.reduceMul, Int.reduceNeg, e75_0, e75_1, e75_2, e75_5, e75_8, e75_9, e75_12, e75_13, e75_16, p_al0, p_il1, p_cv1_0, p_cv1_1, p_cv1_2, p_cv1_3, p_cv1_4, zK_v, zK_0, WN_ncl, p_cs1_0, p_cs1_1, p_cs1_2, p_cs1_3, p_cs1_4, p_getR, WN_nx, WN_nrt, WN_ite, tf, t_tf0, zx_r4, zx_r0]
    refine t_push zx_s (by omega) hR ok hC hn (fun σ1 h1 f1 => ?_)
    rw [zK_0]
    simp (disch := first | assumption | exact p_c2i | exact p_c2r | exact p_c2n | omega | ((repeat (first | refine p_a1i.trans ?_ | refine p_a1r.trans ?_)); exact p_a10) | ((repeat (first | refine p_wI ?_ | refine p_wR ?_)); exact p_w0) | decide) only [reduceIte, Int.reduceLT, Int.reduceLE, Int.reduceEq, Int.reduceToNat, Int.reduceAdd, Int.reduceSub, Int.reduceMul, Int.reduceNeg, e75_19, e75_20, e75_21, p_al0, p_il1, p_cv1_0, p_cv1_1, p_cv1_2, p_cv1_3, p_cv1_4, zK_v, zK_0, WN_ncl, WN_nx, WN_nrt, WN_ite]
    refine t_makeSteps (hR.frame (fun a _ _ => f1 a (by omega))) ok hN hz (fun σ2 h2 f2 => ?_)
    rw [zK_v]
    simp (disch := first | assumption | exact p_c2i | exact p_c2r | exact p_c2n | omega | ((repeat (first | refine p_a1i.trans ?_ | refine p_a1r.trans ?_)); exact p_a10) | ((repeat (first | refine p_wI ?_ | refine p_wR ?_)); exact p_w0) | decide) only [reduceIte, Int.reduceLT, Int.reduceLE, Int.reduceEq, Int.reduceToNat, Int.reduceAdd, Int.reduceSub, Int.reduceMul, Int.reduceNeg, e75_24, p_ret0, WN_nx, WN_nrt, WN_ite]
    exact K0 e σ2 h2 (h1.frame (fun a _ _ => f2 a (by omega))) (fun a ha => (f2 a (by omega)).trans (f1 a (by omega)))
  · rw [show cF1 (oStep w v) = 2 by unfold cF1; rw [e]; rfl] at tf
    have hz : zhnd 75 5 1 = none := rfl
    simp (disch := first | assumption | exact p_c2i | exact p_c2r | exact p_c2n | omega | ((repeat (first | refine p_a1i.trans ?_ | refine p_a1r.trans ?_)); exact p_a10) | ((repeat (first | refine p_wI ?_ | refine p_wR ?_)); exact p_w0) | decide) only [reduceIte, Int.reduceLT, Int.reduceLE, Int.reduceEq, Int.reduceToNat, Int.reduceAdd, Int.reduceSub, Int.reduceMul, Int.reduceNeg, e75_0, e75_1, e75_2, e75_5, e75_8, e75_9, e75_12, e75_13, e75_16, e75_19, e75_20, e75_21, e75_24, p_al0, p_il1, p_cv1_0, p_cv1_1, p_cv1_2, p_cv1_3, p_cv1_4, zK_v, zK_0, WN_ncl, p_cs1_0, p_cs1_1, p_cs1_2, p_cs1_3, p_cs1_4, p_getR, p_ret0, WN_nx, WN_nrt, WN_ite, tf, t_tf2, zK_n hz]
    exact K1 1 (by rw [e]; rfl) (by omega)
  · rw [show cF1 (oStep w v) = 3 by unfold cF1; rw [e]; rfl] at tf
    have hz : zhnd 75 5 2 = none := rfl
    simp (disch := first | assumption | exact p_c2i | exact p_c2r | exact p_c2n | omega | ((repeat (first | refine p_a1i.trans ?_ | refine p_a1r.trans ?_)); exact p_a10) | ((repeat (first | refine p_wI ?_ | refine p_wR ?_)); exact p_w0) | decide) only [reduceIte, Int.reduceLT, Int.reduceLE, Int.reduceEq, Int.reduceToNat, Int.reduceAdd, Int.reduceSub, Int.reduceMul, Int.reduceNeg, e75_0, e75_1, e75_2, e75_5, e75_8, e75_9, e75_12, e75_13, e75_16, e75_19, e75_20, e75_21, e75_24, p_al0, p_il1, p_cv1_0, p_cv1_1, p_cv1_2, p_cv1_3, p_cv1_4, zK_v, zK_0, WN_ncl, p_cs1_0, p_cs1_1, p_cs1_2, p_cs1_3, p_cs1_4, p_getR, p_ret0, WN_nx, WN_nrt, WN_ite, tf, t_tf3, zK_n hz]
    exact K1 2 (by rw [e]; rfl) (by omega)
theorem t_backC (hR : zSr σ 101 w) (ok : zSok N w) (hN : N ≤ 80000000) (hC : zCr σ kp n) (hn : n ≤ 8) (K1 : w 201 = 0 → Q (.inr 2) (3565, x + 1, zrho) (zref σ (oBack w))) (K0 : 0 < w 201 → ∀ σ', zSr σ' 101 (aTake w) → zCr σ' (aPushK kp n w) (aPushN n) → (∀ a, a < 101 ∨ (413 ≤ a ∧ a < 1037) ∨ 3535 ≤ a → σ' a = σ a) → Q (.inl (some (.inl (w 201 - 1)))) (3565, x, zrho) σ') : WM 76 [.inr (.inl (some 100))] (3565, x, zrho) σ Q := by
  show Wp 76 0 [some (.inr (.inl (some 100)))] [] _ _ Q
  have k := zx_k
  have k1 := zx_k1
  have k0 : zkd 1037 = 0 := rfl
  have o1 := ok.1
  have tf := fun (Q : ZO → ZT → ZI → Prop) => t_faultBack (Q := Q) (x := x) hR.s3 hR.s4 ok
  by_cases c1 : w 201 = 0
  · have e : (if (oBack w).1 = 0 then (0 : Int) else 3) = 3 := by
      unfold oBack
      rw [if_pos c1]
      rfl
    rw [e] at tf
    have hz : zhnd 76 4 2 = none := rfl
    simp (disch := first | assumption | exact p_c2i | exact p_c2r | exact p_c2n | omega | ((repeat (first | refine p_a1i.trans ?_ | refine p_a1r.trans ?_)); exact p_a10) | ((repeat (first | refine p_wI ?_ | refine p_wR ?_)); exact p_w0) | decide) only [reduceIte, Int.reduceLT, Int.reduceLE, Int.reduceEq, Int.reduceToNat, Int.reduceAdd, Int.reduceSub, Int.reduceMul, Int.reduceNeg, e76_0, e76_1, e76_4, e76_7, e76_8, e76_11, e76_12, e76_15, e76_18, e76_19, e76_22, e76_25, p_al0, p_cv0_0, p_cv0_1, p_cv0_2, p_cv0_3, p_cv0_4, zK_v, zK_0, WN_ncl, p_cs1_0, p_cs1_1, p_cs1_2, p_cs1_3, p_cs1_4, p_getR, p_cv1_0, p_cv1_1, p_cv1_2, p_cv1_3, p_cv1_4, p_ret0, WN_nx, WN_nrt, WN_ite, tf, t_tf3, zK_n hz]
    exact K1 c1
  · have e2 : oBack w = (0, 0, 0) := by unfold oBack; rw [if_neg c1]
    rw [e2, zref_0, if_pos rfl] at tf
    simp (disch := first | assumption | exact p_c2i | exact p_c2r | exact p_c2n | omega | ((repeat (first | refine p_a1i.trans ?_ | refine p_a1r.trans ?_)); exact p_a10) | ((repeat (first | refine p_wI ?_ | refine p_wR ?_)); exact p_w0) | decide) only [reduceIte, Int.reduceLT, Int.reduceLE, Int.reduceEq, Int.reduceToNat, Int.reduceAdd, Int.reduceSub, Int.reduceMul, Int.reduceNeg, e76_0, e76_1, e76_4, e76_7, e76_8, e76_11, e76_12, e76_15, p_al0, p_cv0_0, p_cv0_1, p_cv0_2, p_cv0_3, p_cv0_4, zK_v, zK_0, WN_ncl, p_cs1_0, p_cs1_1, p_cs1_2, p_cs1_3, p_cs1_4, p_getR, p_cv1_0, p_cv1_1, p_cv1_2, p_cv1_3, p_cv1_4, WN_nx, WN_nrt, WN_ite, tf, t_tf0, zx_r4, zx_r0]
    refine t_push zx_s (by omega) hR ok hC hn (fun σ1 h1 f1 => ?_)
    rw [zK_0]
    simp (disch := first | assumption | exact p_c2i | exact p_c2r | exact p_c2n | omega | ((repeat (first | refine p_a1i.trans ?_ | refine p_a1r.trans ?_)); exact p_a10) | ((repeat (first | refine p_wI ?_ | refine p_wR ?_)); exact p_w0) | decide) only [reduceIte, Int.reduceLT, Int.reduceLE, Int.reduceEq, Int.reduceToNat, Int.reduceAdd, Int.reduceSub, Int.reduceMul, Int.reduceNeg, e76_18, e76_19, e76_22, p_al0, p_getR, p_cv0_0, p_cv0_1, p_cv0_2, p_cv0_3, p_cv0_4, zK_v, zK_0, WN_ncl, WN_nx, WN_nrt, WN_ite, zx_r0]
    refine t_takeStepBack zx_s (hR.frame (fun a _ _ => f1 a (by omega))) ok (by omega) (by omega) (fun σ2 h2 f2 => ?_)
    rw [zK_v]
    simp (disch := first | assumption | exact p_c2i | exact p_c2r | exact p_c2n | omega | ((repeat (first | refine p_a1i.trans ?_ | refine p_a1r.trans ?_)); exact p_a10) | ((repeat (first | refine p_wI ?_ | refine p_wR ?_)); exact p_w0) | decide) only [reduceIte, Int.reduceLT, Int.reduceLE, Int.reduceEq, Int.reduceToNat, Int.reduceAdd, Int.reduceSub, Int.reduceMul, Int.reduceNeg, e76_25, p_ret0, WN_nx, WN_nrt, WN_ite]
    exact K0 (by omega) σ2 h2 (h1.frame (fun a _ _ => f2 a (by omega))) (fun a ha => (f2 a (by omega)).trans (f1 a (by omega)))
theorem t_dropC {h : Int} (hv : -2147483648 ≤ h ∧ h < 2147483648) (hR : zSr σ 101 w) (ok : zSok N w) (hC : zCr σ kp n) (hn : n ≤ 8) (K1 : ¬ (0 ≤ h ∧ h < w 0) → Q (.inr 0) (3565, x + 1, zrho) σ) (K0 : (0 ≤ h ∧ h < w 0) → ∀ σ', zSr σ' 101 (aDrop h.toNat (wu w 201 0)) → zCr σ' (aPushK kp n w) (aPushN n) → (∀ a, a < 101 ∨ (413 ≤ a ∧ a < 1037) ∨ 3535 ≤ a → σ' a = σ a) → Q (.inl (some (.inl (w 0 - 1)))) (3565, x, zrho) σ') : WM 67 [.inr (.inl (some 100)), .inl h] (3565, x, zrho) σ Q := by
  show Wp 67 0 [some (.inr (.inl (some 100))), some (.inl h)] [] _ _ Q
  have k := zx_k
  have k0 : zkd 1037 = 0 := rfl
  have o0 := ok.2.2.1.1
  have tf := fun (Q : ZO → ZT → ZI → Prop) => t_faultDrop (Q := Q) (x := x) hR.lw ok.2.2.1 hv
  by_cases c1 : 0 ≤ h ∧ h < w 0
  · rw [if_pos c1] at tf
    obtain ⟨i, hi⟩ : ∃ i : Nat, h = (i : Int) := ⟨h.toNat, by omega⟩
    subst hi
    simp (disch := first | assumption | exact p_c2i | exact p_c2r | exact p_c2n | omega | ((repeat (first | refine p_a1i.trans ?_ | refine p_a1r.trans ?_)); exact p_a10) | ((repeat (first | refine p_wI ?_ | refine p_wR ?_)); exact p_w0) | decide) only [reduceIte, Int.reduceLT, Int.reduceLE, Int.reduceEq, Int.reduceToNat, Int.reduceAdd, Int.reduceSub, Int.reduceMul, Int.reduceNeg, e67_0, e67_1, e67_2, e67_5, e67_8, e67_9, e67_12, e67_13, e67_16, p_al0, p_il1, p_cv1_0, p_cv1_1, p_cv1_2, p_cv1_3, p_cv1_4, zK_v, zK_0, WN_ncl, p_cs1_0, p_cs1_1, p_cs1_2, p_cs1_3, p_cs1_4, p_getR, WN_nx, WN_nrt, WN_ite, tf, t_tf0, zx_r4, zx_r0]
    refine t_push zx_s (by omega) hR ok hC hn (fun σ1 h1 f1 => ?_)
    rw [zK_0]
    simp (disch := first | assumption | exact p_c2i | exact p_c2r | exact p_c2n | omega | ((repeat (first | refine p_a1i.trans ?_ | refine p_a1r.trans ?_)); exact p_a10) | ((repeat (first | refine p_wI ?_ | refine p_wR ?_)); exact p_w0) | decide) only [reduceIte, Int.reduceLT, Int.reduceLE, Int.reduceEq, Int.reduceToNat, Int.reduceAdd, Int.reduceSub, Int.reduceMul, Int.reduceNeg, e67_19, e67_20, e67_21, p_al0, p_il1, p_cv1_0, p_cv1_1, p_cv1_2, p_cv1_3, p_cv1_4, zK_v, zK_0, WN_ncl, WN_nx, WN_nrt, WN_ite]
    refine t_dropHoe (hR.frame (fun a _ _ => f1 a (by omega))) ok c1.2 (fun σ2 h2 f2 => ?_)
    rw [zK_v]
    simp (disch := first | assumption | exact p_c2i | exact p_c2r | exact p_c2n | omega | ((repeat (first | refine p_a1i.trans ?_ | refine p_a1r.trans ?_)); exact p_a10) | ((repeat (first | refine p_wI ?_ | refine p_wR ?_)); exact p_w0) | decide) only [reduceIte, Int.reduceLT, Int.reduceLE, Int.reduceEq, Int.reduceToNat, Int.reduceAdd, Int.reduceSub, Int.reduceMul, Int.reduceNeg, e67_24, p_ret0, WN_nx, WN_nrt, WN_ite]
    exact K0 c1 σ2 h2 (h1.frame (fun a _ _ => f2 a (by omega))) (fun a ha => (f2 a (by omega)).trans (f1 a (by omega)))
  · rw [if_neg c1] at tf
    have hz : zhnd 67 5 0 = none := rfl
    simp (disch := first | assumption | exact p_c2i | exact p_c2r | exact p_c2n | omega | ((repeat (first | refine p_a1i.trans ?_ | refine p_a1r.trans ?_)); exact p_a10) | ((repeat (first | refine p_wI ?_ | refine p_wR ?_)); exact p_w0) | decide) only [reduceIte, Int.reduceLT, Int.reduceLE, Int.reduceEq, Int.reduceToNat, Int.reduceAdd, Int.reduceSub, Int.reduceMul, Int.reduceNeg, e67_0, e67_1, e67_2, e67_5, e67_8, e67_9, e67_12, e67_13, e67_16, e67_19, e67_20, e67_21, e67_24, p_al0, p_il1, p_cv1_0, p_cv1_1, p_cv1_2, p_cv1_3, p_cv1_4, zK_v, zK_0, WN_ncl, p_cs1_0, p_cs1_1, p_cs1_2, p_cs1_3, p_cs1_4, p_getR, p_ret0, WN_nx, WN_nrt, WN_ite, tf, t_tf1, zK_n hz]
    exact K1 c1
end
