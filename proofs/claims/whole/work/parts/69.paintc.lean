/-! THE CLASS: paint -/
section
variable {σ : ZI} {Q : ZO → ZT → ZI → Prop} {x n : Nat} {w : zW} {N : Int} {kp : Nat → zW}
theorem oPaint_c {r c v : Int} : ((oPaint w r c v).1 = 0 ∧ oPaint w r c v = (0, 0, 0) ∧ ((0 ≤ r ∧ r < 9) ∧ (0 ≤ c ∧ c < 9)) ∧ (0 ≤ v ∧ v < w 1)) ∨ (oPaint w r c v).1 = 1 ∨ (oPaint w r c v).1 = 2 ∨ (oPaint w r c v).1 = 3 := by
  unfold oPaint
  by_cases c1 : (0 ≤ r ∧ r < 9) ∧ (0 ≤ c ∧ c < 9)
  · rw [if_neg (fun z => z c1)]
    by_cases c2 : 0 ≤ v ∧ v < w 1
    · rw [if_neg (fun z => z c2)]
      split
      · exact Or.inr (Or.inr (Or.inr rfl))
      · exact Or.inl ⟨rfl, rfl, c1, c2⟩
    · rw [if_pos c2]
      exact Or.inr (Or.inr (Or.inl rfl))
  · rw [if_pos c1]
    exact Or.inr (Or.inl rfl)
theorem t_paintC {r c v : Int} (hr : -2147483648 ≤ r ∧ r < 2147483648) (hc : -2147483648 ≤ c ∧ c < 2147483648) (hh : -2147483648 ≤ v ∧ v < 2147483648) (hR : zSr σ 101 w) (ok : zSok N w) (hC : zCr σ kp n) (hn : n ≤ 8) (K1 : ∀ E : Nat, (oPaint w r c v).1 = (E : Int) + 1 → Q (.inr E) (3565, x + 1, zrho) (zref σ (oPaint w r c v))) (K0 : (oPaint w r c v).1 = 0 → ∀ σ', zSr σ' 101 (wu (wu w 201 0) (10 + (9 * r + c).toNat) v) → zCr σ' (aPushK kp n w) (aPushN n) → (∀ a, a < 101 ∨ (413 ≤ a ∧ a < 1037) ∨ 3535 ≤ a → σ' a = σ a) → Q (.inl (some (.inl (w (10 + (9 * r + c).toNat))))) (3565, x, zrho) σ') : WM 70 [.inr (.inl (some 100)), .inl r, .inl c, .inl v] (3565, x, zrho) σ Q := by
  show Wp 70 0 [some (.inr (.inl (some 100))), some (.inl r), some (.inl c), some (.inl v)] [] _ _ Q
  have k := zx_k
  have k0 : zkd 1037 = 0 := rfl
  have tf := fun (Q : ZO → ZT → ZI → Prop) => t_faultPaint (Q := Q) (x := x) hR.lw ok.2.2.1 hr hc hh
  rcases oPaint_c (w := w) (r := r) (c := c) (v := v) with ⟨e, e2, hz, hz2⟩ | e | e | e
  · rw [e, e2, zref_0] at tf
    simp (disch := first | assumption | exact p_c2i | exact p_c2r | exact p_c2n | omega | ((repeat (first | refine p_a1i.trans ?_ | refine p_a1r.trans ?_)); exact p_a10) | ((repeat (first | refine p_wI ?_ | refine p_wR ?_)); exact p_w0) | decide) only [reduceIte, Int.reduceLT, Int.reduceLE, Int.reduceEq, Int.reduceToNat, Int.reduceAdd, Int.reduceSub, Int.reduceMul, Int.reduceNeg, e70_0, e70_1, e70_2, e70_3, e70_4, e70_7, e70_10, e70_11, e70_14, e70_15, e70_18, p_al0, p_il1, p_il2, p_il3, p_cv3_0, p_cv3_1, p_cv3_2, p_cv3_3, p_cv3_4, zK_v, zK_0, WN_ncl, p_cs1_0, p_cs1_1, p_cs1_2, p_cs1_3, p_cs1_4, p_getR, p_cv1_0, p_cv1_1, p_cv1_2, p_cv1_3, p_cv1_4, WN_nx, WN_nrt, WN_ite, tf, t_tf0, zx_r4, zx_r0]
    refine t_push zx_s (by omega) hR ok hC hn (fun σ1 h1 f1 => ?_)
    rw [zK_0]
    simp (disch := first | assumption | exact p_c2i | exact p_c2r | exact p_c2n | omega | ((repeat (first | refine p_a1i.trans ?_ | refine p_a1r.trans ?_)); exact p_a10) | ((repeat (first | refine p_wI ?_ | refine p_wR ?_)); exact p_w0) | decide) only [reduceIte, Int.reduceLT, Int.reduceLE, Int.reduceEq, Int.reduceToNat, Int.reduceAdd, Int.reduceSub, Int.reduceMul, Int.reduceNeg, e70_21, e70_22, e70_23, e70_24, e70_25, p_al0, p_il1, p_il2, p_il3, p_cv3_0, p_cv3_1, p_cv3_2, p_cv3_3, p_cv3_4, zK_v, zK_0, WN_ncl, WN_nx, WN_nrt, WN_ite]
    refine t_setColour (hR.frame (fun a _ _ => f1 a (by omega))) ok hz (fun σ2 h2 f2 => ?_)
    rw [zK_v]
    simp (disch := first | assumption | exact p_c2i | exact p_c2r | exact p_c2n | omega | ((repeat (first | refine p_a1i.trans ?_ | refine p_a1r.trans ?_)); exact p_a10) | ((repeat (first | refine p_wI ?_ | refine p_wR ?_)); exact p_w0) | decide) only [reduceIte, Int.reduceLT, Int.reduceLE, Int.reduceEq, Int.reduceToNat, Int.reduceAdd, Int.reduceSub, Int.reduceMul, Int.reduceNeg, e70_28, p_ret0, WN_nx, WN_nrt, WN_ite]
    exact K0 e σ2 h2 (h1.frame (fun a _ _ => f2 a (by omega))) (fun a ha => (f2 a (by omega)).trans (f1 a (by omega)))
  · rw [e] at tf
    have hz : zhnd 70 7 0 = none := rfl
    simp (disch := first | assumption | exact p_c2i | exact p_c2r | exact p_c2n | omega | ((repeat (first | refine p_a1i.trans ?_ | refine p_a1r.trans ?_)); exact p_a10) | ((repeat (first | refine p_wI ?_ | refine p_wR ?_)); exact p_w0) | decide) only [reduceIte, Int.reduceLT, Int.reduceLE, Int.reduceEq, Int.reduceToNat, Int.reduceAdd, Int.reduceSub, Int.reduceMul, Int.reduceNeg, e70_0, e70_1, e70_2, e70_3, e70_4, e70_7, e70_10, e70_11, e70_14, e70_15, e70_18, e70_21, e70_22, e70_23, e70_24, e70_25, e70_28, p_al0, p_il1, p_il2, p_il3, p_cv3_0, p_cv3_1, p_cv3_2, p_cv3_3, p_cv3_4, zK_v, zK_0, WN_ncl, p_cs1_0, p_cs1_1, p_cs1_2, p_cs1_3, p_cs1_4, p_getR, p_cv1_0, p_cv1_1, p_cv1_2, p_cv1_3, p_cv1_4, p_ret0, WN_nx, WN_nrt, WN_ite, tf, t_tf1, zK_n hz]
    exact K1 0 (by rw [e]; rfl)
  · rw [e] at tf
    have hz : zhnd 70 7 1 = none := rfl
    simp (disch := first | assumption | exact p_c2i | exact p_c2r | exact p_c2n | omega | ((repeat (first | refine p_a1i.trans ?_ | refine p_a1r.trans ?_)); exact p_a10) | ((repeat (first | refine p_wI ?_ | refine p_wR ?_)); exact p_w0) | decide) only [reduceIte, Int.reduceLT, Int.reduceLE, Int.reduceEq, Int.reduceToNat, Int.reduceAdd, Int.reduceSub, Int.reduceMul, Int.reduceNeg, e70_0, e70_1, e70_2, e70_3, e70_4, e70_7, e70_10, e70_11, e70_14, e70_15, e70_18, e70_21, e70_22, e70_23, e70_24, e70_25, e70_28, p_al0, p_il1, p_il2, p_il3, p_cv3_0, p_cv3_1, p_cv3_2, p_cv3_3, p_cv3_4, zK_v, zK_0, WN_ncl, p_cs1_0, p_cs1_1, p_cs1_2, p_cs1_3, p_cs1_4, p_getR, p_cv1_0, p_cv1_1, p_cv1_2, p_cv1_3, p_cv1_4, p_ret0, WN_nx, WN_nrt, WN_ite, tf, t_tf2, zK_n hz]
    exact K1 1 (by rw [e]; rfl)
  · rw [e] at tf
    have hz : zhnd 70 7 2 = none := rfl
    simp (disch := first | assumption | exact p_c2i | exact p_c2r | exact p_c2n | omega | ((repeat (first | refine p_a1i.trans ?_ | refine p_a1r.trans ?_)); exact p_a10) | ((repeat (first | refine p_wI ?_ | refine p_wR ?_)); exact p_w0) | decide) only [reduceIte, Int.reduceLT, Int.reduceLE, Int.reduceEq, Int.reduceToNat, Int.reduceAdd, Int.reduceSub, Int.reduceMul, Int.reduceNeg, e70_0, e70_1, e70_2, e70_3, e70_4, e70_7, e70_10, e70_11, e70_14, e70_15, e70_18, e70_21, e70_22, e70_23, e70_24, e70_25, e70_28, p_al0, p_il1, p_il2, p_il3, p_cv3_0, p_cv3_1, p_cv3_2, p_cv3_3, p_cv3_4, zK_v, zK_0, WN_ncl, p_cs1_0, p_cs1_1, p_cs1_2, p_cs1_3, p_cs1_4, p_getR, p_cv1_0, p_cv1_1, p_cv1_2, p_cv1_3, p_cv1_4, p_ret0, WN_nx, WN_nrt, WN_ite, tf, t_tf3, zK_n hz]
    exact K1 2 (by rw [e]; rfl)
end
