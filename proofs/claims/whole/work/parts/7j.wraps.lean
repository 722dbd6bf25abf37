/-! THE LAW: the calls of the class with what is caught -/
section
variable {σ : ZI} {Q : ZO → ZT → ZI → Prop} {x n : Nat} {w : zW} {N : Int} {ts : Nat → Int} {tl : Nat} {kp : Nat → zW} {c : Int}
theorem zo_k : zkd 3564 = 13 := rfl
theorem zo_n : zln 3564 = 1 := rfl
theorem t_hoeW {r c h : Int} (hr : -2147483648 ≤ r ∧ r < 2147483648) (hc : -2147483648 ≤ c ∧ c < 2147483648) (hh : -2147483648 ≤ h ∧ h < 2147483648) (hR : zSr σ 101 w) (ok : zSok N w) (hC : zCr σ kp n) (hn : n ≤ 8) (bK0 : (oHoe w r c h).1 = 0 → zi3 ((w 0))) (K1 : (oHoe w r c h).1 ≠ 0 → Q (.inl (some (.inl (oHoe w r c h).1))) (3565, x + 1, zrho) (zref σ (oHoe w r c h))) (K0 : (oHoe w r c h).1 = 0 → ∀ σ', zSr σ' 101 (aAdd (9 * r + c) h (wu w 201 0)) → zCr σ' (aPushK kp n w) (aPushN n) → (∀ a, a < 101 ∨ (413 ≤ a ∧ a < 1037) ∨ 3535 ≤ a → σ' a = σ a) → Q (.inl (some (.inl 0))) (3565, x, zrho) (zup σ' 3564 0 ((w 0)))) : WM 229 [.inr (.inl (some 100)), .inl r, .inl c, .inl h, .inr (.inl (some 3564))] (3565, x, zrho) σ Q := by
  show Wp 229 0 [some (.inr (.inl (some 100))), some (.inl r), some (.inl c), some (.inl h), some (.inr (.inl (some 3564))), none] [] _ _ Q
  have k64 := zo_k
  have n64 := zo_n
  simp (disch := first | assumption | exact p_c2i | exact p_c2r | exact p_c2n | omega | ((repeat (first | refine p_a1i.trans ?_ | refine p_a1r.trans ?_)); exact p_a10) | ((repeat (first | refine p_wI ?_ | refine p_wR ?_)); exact p_w0) | decide) only [reduceIte, Int.reduceLT, Int.reduceLE, Int.reduceEq, Int.reduceToNat, Int.reduceAdd, Int.reduceSub, Int.reduceMul, Int.reduceNeg, e229_0, e229_2, e229_3, e229_4, e229_5, e229_6, e229_7, p_al4, p_push, p_al0, p_il1, p_il2, p_il3, p_cv3_0, p_cv3_1, p_cv3_2, p_cv3_3, p_cv3_4, zK_v, zK_0, WN_ncl, WN_nx, WN_nrt, WN_ite]
  refine t_hoeC hr hc hh hR ok hC hn (fun z1 z2 => ?_) (fun z1 z2 z3 z4 z5 => ?_)
  · have ob := oHoe_b (w := w) (r := r) (c := c) (h := h)
    by_cases e0 : z1 = 0
    · subst e0
      have e2 : (oHoe w r c h).1 = 1 := by omega
      have hz1 : zhnd 229 7 0 = some (5, 17) := by decide +kernel
      rw [zK_h (ls := [some (.inr (.inl (some 100))), some (.inl r), some (.inl c), some (.inl h), some (.inr (.inl (some 3564))), none]) hz1 (show 5 < 6 from by decide) rfl]
      show Wp 229 17 [some (.inr (.inl (some 100))), some (.inl r), some (.inl c), some (.inl h), some (.inr (.inl (some 3564))), none] [] _ _ Q
      simp (disch := first | assumption | exact p_c2i | exact p_c2r | exact p_c2n | omega | ((repeat (first | refine p_a1i.trans ?_ | refine p_a1r.trans ?_)); exact p_a10) | ((repeat (first | refine p_wI ?_ | refine p_wR ?_)); exact p_w0) | decide) only [reduceIte, Int.reduceLT, Int.reduceLE, Int.reduceEq, Int.reduceToNat, Int.reduceAdd, Int.reduceSub, Int.reduceMul, Int.reduceNeg, e229_17, e229_18, p_push, p_ret0, WN_nx, WN_nrt, WN_ite]
      have kk := K1 (by omega)
      rw [e2] at kk
      exact kk
    by_cases e1 : z1 = 1
    · subst e1
      have e2 : (oHoe w r c h).1 = 2 := by omega
      have hz2 : zhnd 229 7 1 = some (5, 21) := by decide +kernel
      rw [zK_h (ls := [some (.inr (.inl (some 100))), some (.inl r), some (.inl c), some (.inl h), some (.inr (.inl (some 3564))), none]) hz2 (show 5 < 6 from by decide) rfl]
      show Wp 229 21 [some (.inr (.inl (some 100))), some (.inl r), some (.inl c), some (.inl h), some (.inr (.inl (some 3564))), none] [] _ _ Q
      simp (disch := first | assumption | exact p_c2i | exact p_c2r | exact p_c2n | omega | ((repeat (first | refine p_a1i.trans ?_ | refine p_a1r.trans ?_)); exact p_a10) | ((repeat (first | refine p_wI ?_ | refine p_wR ?_)); exact p_w0) | decide) only [reduceIte, Int.reduceLT, Int.reduceLE, Int.reduceEq, Int.reduceToNat, Int.reduceAdd, Int.reduceSub, Int.reduceMul, Int.reduceNeg, e229_21, e229_22, p_push, p_ret0, WN_nx, WN_nrt, WN_ite]
      have kk := K1 (by omega)
      rw [e2] at kk
      exact kk
    by_cases e2 : z1 = 2
    · subst e2
      have e2 : (oHoe w r c h).1 = 3 := by omega
      have hz3 : zhnd 229 7 2 = some (5, 25) := by decide +kernel
      rw [zK_h (ls := [some (.inr (.inl (some 100))), some (.inl r), some (.inl c), some (.inl h), some (.inr (.inl (some 3564))), none]) hz3 (show 5 < 6 from by decide) rfl]
      show Wp 229 25 [some (.inr (.inl (some 100))), some (.inl r), some (.inl c), some (.inl h), some (.inr (.inl (some 3564))), none] [] _ _ Q
      simp (disch := first | assumption | exact p_c2i | exact p_c2r | exact p_c2n | omega | ((repeat (first | refine p_a1i.trans ?_ | refine p_a1r.trans ?_)); exact p_a10) | ((repeat (first | refine p_wI ?_ | refine p_wR ?_)); exact p_w0) | decide) only [reduceIte, Int.reduceLT, Int.reduceLE, Int.reduceEq, Int.reduceToNat, Int.reduceAdd, Int.reduceSub, Int.reduceMul, Int.reduceNeg, e229_25, e229_26, p_push, p_ret0, WN_nx, WN_nrt, WN_ite]
      have kk := K1 (by omega)
      rw [e2] at kk
      exact kk
    exfalso
    omega
  · rw [zK_v]
    have bb := bK0 z1
    obtain ⟨bb1, bb2⟩ := bb
    simp (disch := first | assumption | exact p_c2i | exact p_c2r | exact p_c2n | omega | ((repeat (first | refine p_a1i.trans ?_ | refine p_a1r.trans ?_)); exact p_a10) | ((repeat (first | refine p_wI ?_ | refine p_wR ?_)); exact p_w0) | decide) only [reduceIte, Int.reduceLT, Int.reduceLE, Int.reduceEq, Int.reduceToNat, Int.reduceAdd, Int.reduceSub, Int.reduceMul, Int.reduceNeg, e229_10, e229_11, e229_12, e229_15, e229_17, e229_18, e229_19, e229_21, e229_22, e229_23, e229_25, e229_26, e229_27, e229_28, p_i2l, p_last, p_goto, p_as5, p_c2n, p_c2i, p_c2r, p_push, p_ret0, WN_nx, WN_nrt, WN_ite]
    exact K0 z1 z2 z3 z4 z5
theorem t_dropW {h : Int} (hv : -2147483648 ≤ h ∧ h < 2147483648) (hR : zSr σ 101 w) (ok : zSok N w) (hC : zCr σ kp n) (hn : n ≤ 8) (bK0 : (0 ≤ h ∧ h < w 0) → zi3 ((w 0 - 1))) (K1 : ¬ (0 ≤ h ∧ h < w 0) → Q (.inl (some (.inl 1))) (3565, x + 1, zrho) σ) (K0 : (0 ≤ h ∧ h < w 0) → ∀ σ', zSr σ' 101 (aDrop h.toNat (wu w 201 0)) → zCr σ' (aPushK kp n w) (aPushN n) → (∀ a, a < 101 ∨ (413 ≤ a ∧ a < 1037) ∨ 3535 ≤ a → σ' a = σ a) → Q (.inl (some (.inl 0))) (3565, x, zrho) (zup σ' 3564 0 ((w 0 - 1)))) : WM 230 [.inr (.inl (some 100)), .inl h, .inr (.inl (some 3564))] (3565, x, zrho) σ Q := by
  show Wp 230 0 [some (.inr (.inl (some 100))), some (.inl h), some (.inr (.inl (some 3564))), none] [] _ _ Q
  have k64 := zo_k
  have n64 := zo_n
  simp (disch := first | assumption | exact p_c2i | exact p_c2r | exact p_c2n | omega | ((repeat (first | refine p_a1i.trans ?_ | refine p_a1r.trans ?_)); exact p_a10) | ((repeat (first | refine p_wI ?_ | refine p_wR ?_)); exact p_w0) | decide) only [reduceIte, Int.reduceLT, Int.reduceLE, Int.reduceEq, Int.reduceToNat, Int.reduceAdd, Int.reduceSub, Int.reduceMul, Int.reduceNeg, e230_0, e230_1, e230_2, e230_3, e230_4, p_al2, p_push, p_al0, p_il1, p_cv1_0, p_cv1_1, p_cv1_2, p_cv1_3, p_cv1_4, zK_v, zK_0, WN_ncl, WN_nx, WN_nrt, WN_ite]
  refine t_dropC hv hR ok hC hn (fun z1 => ?_) (fun z1 z2 z3 z4 z5 => ?_)
  · have hz1 : zhnd 230 4 0 = some (3, 13) := by decide +kernel
    rw [zK_h (ls := [some (.inr (.inl (some 100))), some (.inl h), some (.inr (.inl (some 3564))), none]) hz1 (show 3 < 4 from by decide) rfl]
    show Wp 230 13 [some (.inr (.inl (some 100))), some (.inl h), some (.inr (.inl (some 3564))), none] [] _ _ Q
    simp (disch := first | assumption | exact p_c2i | exact p_c2r | exact p_c2n | omega | ((repeat (first | refine p_a1i.trans ?_ | refine p_a1r.trans ?_)); exact p_a10) | ((repeat (first | refine p_wI ?_ | refine p_wR ?_)); exact p_w0) | decide) only [reduceIte, Int.reduceLT, Int.reduceLE, Int.reduceEq, Int.reduceToNat, Int.reduceAdd, Int.reduceSub, Int.reduceMul, Int.reduceNeg, e230_13, e230_14, p_push, p_ret0, WN_nx, WN_nrt, WN_ite]
    exact K1 z1
  · rw [zK_v]
    have bb := bK0 z1
    obtain ⟨bb1, bb2⟩ := bb
    simp (disch := first | assumption | exact p_c2i | exact p_c2r | exact p_c2n | omega | ((repeat (first | refine p_a1i.trans ?_ | refine p_a1r.trans ?_)); exact p_a10) | ((repeat (first | refine p_wI ?_ | refine p_wR ?_)); exact p_w0) | decide) only [reduceIte, Int.reduceLT, Int.reduceLE, Int.reduceEq, Int.reduceToNat, Int.reduceAdd, Int.reduceSub, Int.reduceMul, Int.reduceNeg, e230_7, e230_8, e230_9, e230_12, e230_13, e230_14, e230_15, e230_16, p_i2l, p_last, p_goto, p_as3, p_c2n, p_c2i, p_c2r, p_push, p_ret0, WN_nx, WN_nrt, WN_ite]
    exact K0 z1 z2 z3 z4 z5
theorem t_coloursW {v : Int} (hv : -2147483648 ≤ v ∧ v < 2147483648) (hR : zSr σ 101 w) (ok : zSok N w) (hC : zCr σ kp n) (hn : n ≤ 8) (bK0 : (oMany w v).1 = 0 → zi3 ((zct (fun c => decide (v ≤ w (10 + c))) 81))) (K1 : (oMany w v).1 ≠ 0 → Q (.inl (some (.inl (oMany w v).1))) (3565, x + 1, zrho) (zref σ (oMany w v))) (K0 : (oMany w v).1 = 0 → ∀ σ', zSr σ' 101 (aMany v (wu w 201 0)) → zCr σ' (aPushK kp n w) (aPushN n) → (∀ a, a < 101 ∨ (413 ≤ a ∧ a < 1037) ∨ 3535 ≤ a → σ' a = σ a) → Q (.inl (some (.inl 0))) (3565, x, zrho) (zup σ' 3564 0 ((zct (fun c => decide (v ≤ w (10 + c))) 81)))) : WM 231 [.inr (.inl (some 100)), .inl v, .inr (.inl (some 3564))] (3565, x, zrho) σ Q := by
  show Wp 231 0 [some (.inr (.inl (some 100))), some (.inl v), some (.inr (.inl (some 3564))), none] [] _ _ Q
  have k64 := zo_k
  have n64 := zo_n
  simp (disch := first | assumption | exact p_c2i | exact p_c2r | exact p_c2n | omega | ((repeat (first | refine p_a1i.trans ?_ | refine p_a1r.trans ?_)); exact p_a10) | ((repeat (first | refine p_wI ?_ | refine p_wR ?_)); exact p_w0) | decide) only [reduceIte, Int.reduceLT, Int.reduceLE, Int.reduceEq, Int.reduceToNat, Int.reduceAdd, Int.reduceSub, Int.reduceMul, Int.reduceNeg, e231_0, e231_1, e231_2, e231_3, e231_4, p_al2, p_push, p_al0, p_il1, p_cv1_0, p_cv1_1, p_cv1_2, p_cv1_3, p_cv1_4, zK_v, zK_0, WN_ncl, WN_nx, WN_nrt, WN_ite]
  refine t_coloursC hv hR ok hC hn (fun z1 z2 z3 => ?_) (fun z1 z2 z3 z4 z5 => ?_)
  · have ob := oMany_b (w := w) (r := v)
    by_cases e1 : z1 = 1
    · subst e1
      have e2 : (oMany w v).1 = 1 := by omega
      have hz1 : zhnd 231 4 1 = some (3, 13) := by decide +kernel
      rw [zK_h (ls := [some (.inr (.inl (some 100))), some (.inl v), some (.inr (.inl (some 3564))), none]) hz1 (show 3 < 4 from by decide) rfl]
      show Wp 231 13 [some (.inr (.inl (some 100))), some (.inl v), some (.inr (.inl (some 3564))), none] [] _ _ Q
      simp (disch := first | assumption | exact p_c2i | exact p_c2r | exact p_c2n | omega | ((repeat (first | refine p_a1i.trans ?_ | refine p_a1r.trans ?_)); exact p_a10) | ((repeat (first | refine p_wI ?_ | refine p_wR ?_)); exact p_w0) | decide) only [reduceIte, Int.reduceLT, Int.reduceLE, Int.reduceEq, Int.reduceToNat, Int.reduceAdd, Int.reduceSub, Int.reduceMul, Int.reduceNeg, e231_13, e231_14, p_push, p_ret0, WN_nx, WN_nrt, WN_ite]
      have kk := K1 (by omega)
      rw [e2] at kk
      exact kk
    by_cases e2 : z1 = 2
    · subst e2
      have e2 : (oMany w v).1 = 2 := by omega
      have hz2 : zhnd 231 4 2 = some (3, 16) := by decide +kernel
      rw [zK_h (ls := [some (.inr (.inl (some 100))), some (.inl v), some (.inr (.inl (some 3564))), none]) hz2 (show 3 < 4 from by decide) rfl]
      show Wp 231 16 [some (.inr (.inl (some 100))), some (.inl v), some (.inr (.inl (some 3564))), none] [] _ _ Q
      simp (disch := first | assumption | exact p_c2i | exact p_c2r | exact p_c2n | omega | ((repeat (first | refine p_a1i.trans ?_ | refine p_a1r.trans ?_)); exact p_a10) | ((repeat (first | refine p_wI ?_ | refine p_wR ?_)); exact p_w0) | decide) only [reduceIte, Int.reduceLT, Int.reduceLE, Int.reduceEq, Int.reduceToNat, Int.reduceAdd, Int.reduceSub, Int.reduceMul, Int.reduceNeg, e231_16, e231_17, p_push, p_ret0, WN_nx, WN_nrt, WN_ite]
      have kk := K1 (by omega)
      rw [e2] at kk
      exact kk
    exfalso
    omega
  · rw [zK_v]
    have bb := bK0 z1
    obtain ⟨bb1, bb2⟩ := bb
    simp (disch := first | assumption | exact p_c2i | exact p_c2r | exact p_c2n | omega | ((repeat (first | refine p_a1i.trans ?_ | refine p_a1r.trans ?_)); exact p_a10) | ((repeat (first | refine p_wI ?_ | refine p_wR ?_)); exact p_w0) | decide) only [reduceIte, Int.reduceLT, Int.reduceLE, Int.reduceEq, Int.reduceToNat, Int.reduceAdd, Int.reduceSub, Int.reduceMul, Int.reduceNeg, e231_7, e231_8, e231_9, e231_12, e231_13, e231_14, e231_15, e231_16, e231_17, e231_18, e231_19, p_i2l, p_last, p_goto, p_as3, p_c2n, p_c2i, p_c2r, p_push, p_ret0, WN_nx, WN_nrt, WN_ite]
    exact K0 z1 z2 z3 z4 z5
theorem t_turnW {t v : Int} (ht : -2147483648 ≤ t ∧ t < 2147483648) (hv : -2147483648 ≤ v ∧ v < 2147483648) (hR : zSr σ 101 w) (ok : zSok N w) (hC : zCr σ kp n) (hn : n ≤ 8) (bK0 : (oTurn w t v).1 = 0 → zi3 ((w (6 + t.toNat)))) (K1 : (oTurn w t v).1 ≠ 0 → Q (.inl (some (.inl (oTurn w t v).1))) (3565, x + 1, zrho) (zref σ (oTurn w t v))) (K0 : (oTurn w t v).1 = 0 → ∀ σ', zSr σ' 101 (wu (wu w 201 0) (6 + t.toNat) v) → zCr σ' (aPushK kp n w) (aPushN n) → (∀ a, a < 101 ∨ (413 ≤ a ∧ a < 1037) ∨ 3535 ≤ a → σ' a = σ a) → Q (.inl (some (.inl 0))) (3565, x, zrho) (zup σ' 3564 0 ((w (6 + t.toNat))))) : WM 232 [.inr (.inl (some 100)), .inl t, .inl v, .inr (.inl (some 3564))] (3565, x, zrho) σ Q := by
  show Wp 232 0 [some (.inr (.inl (some 100))), some (.inl t), some (.inl v), some (.inr (.inl (some 3564))), none] [] _ _ Q
  have k64 := zo_k
  have n64 := zo_n
  simp (disch := first | assumption | exact p_c2i | exact p_c2r | exact p_c2n | omega | ((repeat (first | refine p_a1i.trans ?_ | refine p_a1r.trans ?_)); exact p_a10) | ((repeat (first | refine p_wI ?_ | refine p_wR ?_)); exact p_w0) | decide) only [reduceIte, Int.reduceLT, Int.reduceLE, Int.reduceEq, Int.reduceToNat, Int.reduceAdd, Int.reduceSub, Int.reduceMul, Int.reduceNeg, e232_0, e232_1, e232_2, e232_3, e232_4, e232_5, p_al3, p_push, p_al0, p_il1, p_il2, p_cv2_0, p_cv2_1, p_cv2_2, p_cv2_3, p_cv2_4, zK_v, zK_0, WN_ncl, WN_nx, WN_nrt, WN_ite]
  refine t_turnC ht hv hR ok hC hn (fun z1 z2 z3 => ?_) (fun z1 z2 z3 z4 z5 => ?_)
  · have ob := oTurn_b (w := w) (r := t) (c := v)
    by_cases e1 : z1 = 1
    · subst e1
      have e2 : (oTurn w t v).1 = 1 := by omega
      have hz1 : zhnd 232 5 1 = some (4, 15) := by decide +kernel
      rw [zK_h (ls := [some (.inr (.inl (some 100))), some (.inl t), some (.inl v), some (.inr (.inl (some 3564))), none]) hz1 (show 4 < 5 from by decide) rfl]
      show Wp 232 15 [some (.inr (.inl (some 100))), some (.inl t), some (.inl v), some (.inr (.inl (some 3564))), none] [] _ _ Q
      simp (disch := first | assumption | exact p_c2i | exact p_c2r | exact p_c2n | omega | ((repeat (first | refine p_a1i.trans ?_ | refine p_a1r.trans ?_)); exact p_a10) | ((repeat (first | refine p_wI ?_ | refine p_wR ?_)); exact p_w0) | decide) only [reduceIte, Int.reduceLT, Int.reduceLE, Int.reduceEq, Int.reduceToNat, Int.reduceAdd, Int.reduceSub, Int.reduceMul, Int.reduceNeg, e232_15, e232_16, p_push, p_ret0, WN_nx, WN_nrt, WN_ite]
      have kk := K1 (by omega)
      rw [e2] at kk
      exact kk
    by_cases e2 : z1 = 2
    · subst e2
      have e2 : (oTurn w t v).1 = 2 := by omega
      have hz2 : zhnd 232 5 2 = some (4, 19) := by decide +kernel
      rw [zK_h (ls := [some (.inr (.inl (some 100))), some (.inl t), some (.inl v), some (.inr (.inl (some 3564))), none]) hz2 (show 4 < 5 from by decide) rfl]
      show Wp 232 19 [some (.inr (.inl (some 100))), some (.inl t), some (.inl v), some (.inr (.inl (some 3564))), none] [] _ _ Q
      simp (disch := first | assumption | exact p_c2i | exact p_c2r | exact p_c2n | omega | ((repeat (first | refine p_a1i.trans ?_ | refine p_a1r.trans ?_)); exact p_a10) | ((repeat (first | refine p_wI ?_ | refine p_wR ?_)); exact p_w0) | decide) only [reduceIte, Int.reduceLT, Int.reduceLE, Int.reduceEq, Int.reduceToNat, Int.reduceAdd, Int.reduceSub, Int.reduceMul, Int.reduceNeg, e232_19, e232_20, p_push, p_ret0, WN_nx, WN_nrt, WN_ite]
      have kk := K1 (by omega)
      rw [e2] at kk
      exact kk
    exfalso
    omega
  · rw [zK_v]
    have bb := bK0 z1
    obtain ⟨bb1, bb2⟩ := bb
    simp (disch := first | assumption | exact p_c2i | exact p_c2r | exact p_c2n | omega | ((repeat (first | refine p_a1i.trans ?_ | refine p_a1r.trans ?_)); exact p_a10) | ((repeat (first | refine p_wI ?_ | refine p_wR ?_)); exact p_w0) | decide) only [reduceIte, Int.reduceLT, Int.reduceLE, Int.reduceEq, Int.reduceToNat, Int.reduceAdd, Int.reduceSub, Int.reduceMul, Int.reduceNeg, e232_8, e232_9, e232_10, e232_13, e232_15, e232_16, e232_17, e232_19, e232_20, e232_21, e232_22, p_i2l, p_last, p_goto, p_as4, p_c2n, p_c2i, p_c2r, p_push, p_ret0, WN_nx, WN_nrt, WN_ite]
    exact K0 z1 z2 z3 z4 z5
theorem t_paintW {r c v : Int} (hr : -2147483648 ≤ r ∧ r < 2147483648) (hc : -2147483648 ≤ c ∧ c < 2147483648) (hh : -2147483648 ≤ v ∧ v < 2147483648) (hR : zSr σ 101 w) (ok : zSok N w) (hC : zCr σ kp n) (hn : n ≤ 8) (bK0 : (oPaint w r c v).1 = 0 → zi3 ((w (10 + (9 * r + c).toNat)))) (K1 : (oPaint w r c v).1 ≠ 0 → Q (.inl (some (.inl (oPaint w r c v).1))) (3565, x + 1, zrho) (zref σ (oPaint w r c v))) (K0 : (oPaint w r c v).1 = 0 → ∀ σ', zSr σ' 101 (wu (wu w 201 0) (10 + (9 * r + c).toNat) v) → zCr σ' (aPushK kp n w) (aPushN n) → (∀ a, a < 101 ∨ (413 ≤ a ∧ a < 1037) ∨ 3535 ≤ a → σ' a = σ a) → Q (.inl (some (.inl 0))) (3565, x, zrho) (zup σ' 3564 0 ((w (10 + (9 * r + c).toNat))))) : WM 233 [.inr (.inl (some 100)), .inl r, .inl c, .inl v, .inr (.inl (some 3564))] (3565, x, zrho) σ Q := by
  show Wp 233 0 [some (.inr (.inl (some 100))), some (.inl r), some (.inl c), some (.inl v), some (.inr (.inl (some 3564))), none] [] _ _ Q
  have k64 := zo_k
  have n64 := zo_n
  simp (disch := first | assumption | exact p_c2i | exact p_c2r | exact p_c2n | omega | ((repeat (first | refine p_a1i.trans ?_ | refine p_a1r.trans ?_)); exact p_a10) | ((repeat (first | refine p_wI ?_ | refine p_wR ?_)); exact p_w0) | decide) only [reduceIte, Int.reduceLT, Int.reduceLE, Int.reduceEq, Int.reduceToNat, Int.reduceAdd, Int.reduceSub, Int.reduceMul, Int.reduceNeg, e233_0, e233_2, e233_3, e233_4, e233_5, e233_6, e233_7, p_al4, p_push, p_al0, p_il1, p_il2, p_il3, p_cv3_0, p_cv3_1, p_cv3_2, p_cv3_3, p_cv3_4, zK_v, zK_0, WN_ncl, WN_nx, WN_nrt, WN_ite]
  refine t_paintC hr hc hh hR ok hC hn (fun z1 z2 => ?_) (fun z1 z2 z3 z4 z5 => ?_)
  · have ob := oPaint_b (w := w) (r := r) (c := c) (h := v)
    by_cases e0 : z1 = 0
    · subst e0
      have e2 : (oPaint w r c v).1 = 1 := by omega
      have hz1 : zhnd 233 7 0 = some (5, 17) := by decide +kernel
      rw [zK_h (ls := [some (.inr (.inl (some 100))), some (.inl r), some (.inl c), some (.inl v), some (.inr (.inl (some 3564))), none]) hz1 (show 5 < 6 from by decide) rfl]
      show Wp 233 17 [some (.inr (.inl (some 100))), some (.inl r), some (.inl c), some (.inl v), some (.inr (.inl (some 3564))), none] [] _ _ Q
      simp (disch := first | assumption | exact p_c2i | exact p_c2r | exact p_c2n | omega | ((repeat (first | refine p_a1i.trans ?_ | refine p_a1r.trans ?_)); exact p_a10) | ((repeat (first | refine p_wI ?_ | refine p_wR ?_)); exact p_w0) | decide) only [reduceIte, Int.reduceLT, Int.reduceLE, Int.reduceEq, Int.reduceToNat, Int.reduceAdd, Int.reduceSub, Int.reduceMul, Int.reduceNeg, e233_17, e233_18, p_push, p_ret0, WN_nx, WN_nrt, WN_ite]
      have kk := K1 (by omega)
      rw [e2] at kk
      exact kk
    by_cases e1 : z1 = 1
    · subst e1
      have e2 : (oPaint w r c v).1 = 2 := by omega
      have hz2 : zhnd 233 7 1 = some (5, 21) := by decide +kernel
      rw [zK_h (ls := [some (.inr (.inl (some 100))), some (.inl r), some (.inl c), some (.inl v), some (.inr (.inl (some 3564))), none]) hz2 (show 5 < 6 from by decide) rfl]
      show Wp 233 21 [some (.inr (.inl (some 100))), some (.inl r), some (.inl c), some (.inl v), some (.inr (.inl (some 3564))), none] [] _ _ Q
      simp (disch := first | assumption | exact p_c2i | exact p_c2r | exact p_c2n | omega | ((repeat (first | refine p_a1i.trans ?_ | refine p_a1r.trans ?_)); exact p_a10) | ((repeat (first | refine p_wI ?_ | refine p_wR ?_)); exact p_w0) | decide) only [reduceIte, Int.reduceLT, Int.reduceLE, Int.reduceEq, Int.reduceToNat, Int.reduceAdd, Int.reduceSub, Int.reduceMul, Int.reduceNeg, e233_21, e233_22, p_push, p_ret0, WN_nx, WN_nrt, WN_ite]
      have kk := K1 (by omega)
      rw [e2] at kk
      exact kk
    by_cases e2 : z1 = 2
    · subst e2
      have e2 : (oPaint w r c v).1 = 3 := by omega
      have hz3 : zhnd 233 7 2 = some (5, 25) := by decide +kernel
      rw [zK_h (ls := [some (.inr (.inl (some 100))), some (.inl r), some (.inl c), some (.inl v), some (.inr (.inl (some 3564))), none]) hz3 (show 5 < 6 from by decide) rfl]
      show Wp 233 25 [some (.inr (.inl (some 100))), some (.inl r), some (.inl c), some (.inl v), some (.inr (.inl (some 3564))), none] [] _ _ Q
      simp (disch := first | assumption | exact p_c2i | exact p_c2r | exact p_c2n | omega | ((repeat (first | refine p_a1i.trans ?_ | refine p_a1r.trans ?_)); exact p_a10) | ((repeat (first | refine p_wI ?_ | refine p_wR ?_)); exact p_w0) | decide) only [reduceIte, Int.reduceLT, Int.reduceLE, Int.reduceEq, Int.reduceToNat, Int.reduceAdd, Int.reduceSub, Int.reduceMul, Int.reduceNeg, e233_25, e233_26, p_push, p_ret0, WN_nx, WN_nrt, WN_ite]
      have kk := K1 (by omega)
      rw [e2] at kk
      exact kk
    exfalso
    omega
  · rw [zK_v]
    have bb := bK0 z1
    obtain ⟨bb1, bb2⟩ := bb
    simp (disch := first | assumption | exact p_c2i | exact p_c2r | exact p_c2n | omega | ((repeat (first | refine p_a1i.trans ?_ | refine p_a1r.trans ?_)); exact p_a10) | ((repeat (first | refine p_wI ?_ | refine p_wR ?_)); exact p_w0) | decide) only [reduceIte, Int.reduceLT, Int.reduceLE, Int.reduceEq, Int.reduceToNat, Int.reduceAdd, Int.reduceSub, Int.reduceMul, Int.reduceNeg, e233_10, e233_11, e233_12, e233_15, e233_17, e233_18, e233_19, e233_21, e233_22, e233_23, e233_25, e233_26, e233_27, e233_28, p_i2l, p_last, p_goto, p_as5, p_c2n, p_c2i, p_c2r, p_push, p_ret0, WN_nx, WN_nrt, WN_ite]
    exact K0 z1 z2 z3 z4 z5
theorem t_mannerW {v : Int} (hv : -2147483648 ≤ v ∧ v < 2147483648) (hR : zSr σ 101 w) (ok : zSok N w) (hC : zCr σ kp n) (hn : n ≤ 8) (bK0 : (oManner w v).1 = 0 → zi3 ((w 2))) (K1 : (oManner w v).1 ≠ 0 → Q (.inl (some (.inl (oManner w v).1))) (3565, x + 1, zrho) (zref σ (oManner w v))) (K0 : (oManner w v).1 = 0 → ∀ σ', zSr σ' 101 (wu (wu w 201 0) 2 v) → zCr σ' (aPushK kp n w) (aPushN n) → (∀ a, a < 101 ∨ (413 ≤ a ∧ a < 1037) ∨ 3535 ≤ a → σ' a = σ a) → Q (.inl (some (.inl 0))) (3565, x, zrho) (zup σ' 3564 0 ((w 2)))) : WM 234 [.inr (.inl (some 100)), .inl v, .inr (.inl (some 3564))] (3565, x, zrho) σ Q := by
  show Wp 234 0 [some (.inr (.inl (some 100))), some (.inl v), some (.inr (.inl (some 3564))), none] [] _ _ Q
  have k64 := zo_k
  have n64 := zo_n
  simp (disch := first | assumption | exact p_c2i | exact p_c2r | exact p_c2n | omega | ((repeat (first | refine p_a1i.trans ?_ | refine p_a1r.trans ?_)); exact p_a10) | ((repeat (first | refine p_wI ?_ | refine p_wR ?_)); exact p_w0) | decide) only [reduceIte, Int.reduceLT, Int.reduceLE, Int.reduceEq, Int.reduceToNat, Int.reduceAdd, Int.reduceSub, Int.reduceMul, Int.reduceNeg, e234_0, e234_1, e234_2, e234_3, e234_4, p_al2, p_push, p_al0, p_il1, p_cv1_0, p_cv1_1, p_cv1_2, p_cv1_3, p_cv1_4, zK_v, zK_0, WN_ncl, WN_nx, WN_nrt, WN_ite]
  refine t_mannerC hv hR ok hC hn (fun z1 z2 z3 => ?_) (fun z1 z2 z3 z4 z5 => ?_)
  · have ob := oManner_b (w := w) (r := v)
    by_cases e1 : z1 = 1
    · subst e1
      have e2 : (oManner w v).1 = 1 := by omega
      have hz1 : zhnd 234 4 1 = some (3, 13) := by decide +kernel
      rw [zK_h (ls := [some (.inr (.inl (some 100))), some (.inl v), some (.inr (.inl (some 3564))), none]) hz1 (show 3 < 4 from by decide) rfl]
      show Wp 234 13 [some (.inr (.inl (some 100))), some (.inl v), some (.inr (.inl (some 3564))), none] [] _ _ Q
      simp (disch := first | assumption | exact p_c2i | exact p_c2r | exact p_c2n | omega | ((repeat (first | refine p_a1i.trans ?_ | refine p_a1r.trans ?_)); exact p_a10) | ((repeat (first | refine p_wI ?_ | refine p_wR ?_)); exact p_w0) | decide) only [reduceIte, Int.reduceLT, Int.reduceLE, Int.reduceEq, Int.reduceToNat, Int.reduceAdd, Int.reduceSub, Int.reduceMul, Int.reduceNeg, e234_13, e234_14, p_push, p_ret0, WN_nx, WN_nrt, WN_ite]
      have kk := K1 (by omega)
      rw [e2] at kk
      exact kk
    by_cases e2 : z1 = 2
    · subst e2
      have e2 : (oManner w v).1 = 2 := by omega
      have hz2 : zhnd 234 4 2 = some (3, 16) := by decide +kernel
      rw [zK_h (ls := [some (.inr (.inl (some 100))), some (.inl v), some (.inr (.inl (some 3564))), none]) hz2 (show 3 < 4 from by decide) rfl]
      show Wp 234 16 [some (.inr (.inl (some 100))), some (.inl v), some (.inr (.inl (some 3564))), none] [] _ _ Q
      simp (disch := first | assumption | exact p_c2i | exact p_c2r | exact p_c2n | omega | ((repeat (first | refine p_a1i.trans ?_ | refine p_a1r.trans ?_)); exact p_a10) | ((repeat (first | refine p_wI ?_ | refine p_wR ?_)); exact p_w0) | decide) only [reduceIte, Int.reduceLT, Int.reduceLE, Int.reduceEq, Int.reduceToNat, Int.reduceAdd, Int.reduceSub, Int.reduceMul, Int.reduceNeg, e234_16, e234_17, p_push, p_ret0, WN_nx, WN_nrt, WN_ite]
      have kk := K1 (by omega)
      rw [e2] at kk
      exact kk
    exfalso
    omega
  · rw [zK_v]
    have bb := bK0 z1
    obtain ⟨bb1, bb2⟩ := bb
    simp (disch := first | assumption | exact p_c2i | exact p_c2r | exact p_c2n | omega | ((repeat (first | refine p_a1i.trans ?_ | refine p_a1r.trans ?_)); exact p_a10) | ((repeat (first | refine p_wI ?_ | refine p_wR ?_)); exact p_w0) | decide) only [reduceIte, Int.reduceLT, Int.reduceLE, Int.reduceEq, Int.reduceToNat, Int.reduceAdd, Int.reduceSub, Int.reduceMul, Int.reduceNeg, e234_7, e234_8, e234_9, e234_12, e234_13, e234_14, e234_15, e234_16, e234_17, e234_18, e234_19, p_i2l, p_last, p_goto, p_as3, p_c2n, p_c2i, p_c2r, p_push, p_ret0, WN_nx, WN_nrt, WN_ite]
    exact K0 z1 z2 z3 z4 z5
theorem t_atW {r c : Int} (hR : zSr σ 101 w) (ok : zSok N w) (hr : -2147483648 ≤ r ∧ r < 2147483648) (hc : -2147483648 ≤ c ∧ c < 2147483648) (bK0 : ((0 ≤ r ∧ r < 9) ∧ (0 ≤ c ∧ c < 9)) → zi3 ((w (10 + (9 * r + c).toNat)))) (K1 : ¬ ((0 ≤ r ∧ r < 9) ∧ (0 ≤ c ∧ c < 9)) → Q (.inl (some (.inl 1))) (3565, x + 1, zrho) σ) (K0 : ((0 ≤ r ∧ r < 9) ∧ (0 ≤ c ∧ c < 9)) → ∀ σ', zfq σ σ' → Q (.inl (some (.inl 0))) (3565, x, zrho) (zup σ' 3564 0 ((w (10 + (9 * r + c).toNat))))) : WM 235 [.inr (.inl (some 100)), .inl r, .inl c, .inr (.inl (some 3564))] (3565, x, zrho) σ Q := by
  show Wp 235 0 [some (.inr (.inl (some 100))), some (.inl r), some (.inl c), some (.inr (.inl (some 3564))), none] [] _ _ Q
  have k64 := zo_k
  have n64 := zo_n
  simp (disch := first | assumption | exact p_c2i | exact p_c2r | exact p_c2n | omega | ((repeat (first | refine p_a1i.trans ?_ | refine p_a1r.trans ?_)); exact p_a10) | ((repeat (first | refine p_wI ?_ | refine p_wR ?_)); exact p_w0) | decide) only [reduceIte, Int.reduceLT, Int.reduceLE, Int.reduceEq, Int.reduceToNat, Int.reduceAdd, Int.reduceSub, Int.reduceMul, Int.reduceNeg, e235_0, e235_1, e235_2, e235_3, e235_4, e235_5, p_al3, p_push, p_al0, p_il1, p_il2, p_cv2_0, p_cv2_1, p_cv2_2, p_cv2_3, p_cv2_4, zK_v, zK_0, WN_ncl, WN_nx, WN_nrt, WN_ite]
  refine t_atC hR ok hr hc (fun z1 => ?_) (fun z1 z2 z3 => ?_)
  · have hz1 : zhnd 235 5 0 = some (4, 15) := by decide +kernel
    rw [zK_h (ls := [some (.inr (.inl (some 100))), some (.inl r), some (.inl c), some (.inr (.inl (some 3564))), none]) hz1 (show 4 < 5 from by decide) rfl]
    show Wp 235 15 [some (.inr (.inl (some 100))), some (.inl r), some (.inl c), some (.inr (.inl (some 3564))), none] [] _ _ Q
    simp (disch := first | assumption | exact p_c2i | exact p_c2r | exact p_c2n | omega | ((repeat (first | refine p_a1i.trans ?_ | refine p_a1r.trans ?_)); exact p_a10) | ((repeat (first | refine p_wI ?_ | refine p_wR ?_)); exact p_w0) | decide) only [reduceIte, Int.reduceLT, Int.reduceLE, Int.reduceEq, Int.reduceToNat, Int.reduceAdd, Int.reduceSub, Int.reduceMul, Int.reduceNeg, e235_15, e235_16, p_push, p_ret0, WN_nx, WN_nrt, WN_ite]
    exact K1 z1
  · rw [zK_v]
    have bb := bK0 z1
    obtain ⟨bb1, bb2⟩ := bb
    simp (disch := first | assumption | exact p_c2i | exact p_c2r | exact p_c2n | omega | ((repeat (first | refine p_a1i.trans ?_ | refine p_a1r.trans ?_)); exact p_a10) | ((repeat (first | refine p_wI ?_ | refine p_wR ?_)); exact p_w0) | decide) only [reduceIte, Int.reduceLT, Int.reduceLE, Int.reduceEq, Int.reduceToNat, Int.reduceAdd, Int.reduceSub, Int.reduceMul, Int.reduceNeg, e235_8, e235_9, e235_10, e235_13, e235_15, e235_16, e235_17, e235_18, p_i2l, p_last, p_goto, p_as4, p_c2n, p_c2i, p_c2r, p_push, p_ret0, WN_nx, WN_nrt, WN_ite]
    exact K0 z1 z2 z3
theorem t_hoeOfW {h v : Int} (hR : zSr σ 101 w) (ok : zSok N w) (hh : -2147483648 ≤ h ∧ h < 2147483648) (hv : -2147483648 ≤ v ∧ v < 2147483648) (bK0 : (0 ≤ h ∧ h < w 0) → (0 ≤ v ∧ v ≤ 4) → zi3 ((if v = 0 then w (172 + 4 * h.toNat) / 9 else if v = 1 then w (172 + 4 * h.toNat) % 9 else w (172 + 4 * h.toNat + (v - 1).toNat)))) (K1 : ¬ (0 ≤ h ∧ h < w 0) → Q (.inl (some (.inl 1))) (3565, x + 1, zrho) σ) (K2 : (0 ≤ h ∧ h < w 0) → ¬ (0 ≤ v ∧ v ≤ 4) → Q (.inl (some (.inl 2))) (3565, x + 1, zrho) σ) (K0 : (0 ≤ h ∧ h < w 0) → (0 ≤ v ∧ v ≤ 4) → ∀ σ', zfq σ σ' → Q (.inl (some (.inl 0))) (3565, x, zrho) (zup σ' 3564 0 ((if v = 0 then w (172 + 4 * h.toNat) / 9 else if v = 1 then w (172 + 4 * h.toNat) % 9 else w (172 + 4 * h.toNat + (v - 1).toNat))))) : WM 236 [.inr (.inl (some 100)), .inl h, .inl v, .inr (.inl (some 3564))] (3565, x, zrho) σ Q := by
  show Wp 236 0 [some (.inr (.inl (some 100))), some (.inl h), some (.inl v), some (.inr (.inl (some 3564))), none] [] _ _ Q
  have k64 := zo_k
  have n64 := zo_n
  simp (disch := first | assumption | exact p_c2i | exact p_c2r | exact p_c2n | omega | ((repeat (first | refine p_a1i.trans ?_ | refine p_a1r.trans ?_)); exact p_a10) | ((repeat (first | refine p_wI ?_ | refine p_wR ?_)); exact p_w0) | decide) only [reduceIte, Int.reduceLT, Int.reduceLE, Int.reduceEq, Int.reduceToNat, Int.reduceAdd, Int.reduceSub, Int.reduceMul, Int.reduceNeg, e236_0, e236_1, e236_2, e236_3, e236_4, e236_5, p_al3, p_push, p_al0, p_il1, p_il2, p_cv2_0, p_cv2_1, p_cv2_2, p_cv2_3, p_cv2_4, zK_v, zK_0, WN_ncl, WN_nx, WN_nrt, WN_ite]
  refine t_hoeOfC hR ok hh hv (fun z1 => ?_) (fun z1 z2 => ?_) (fun z1 z2 z3 z4 => ?_)
  · have hz1 : zhnd 236 5 0 = some (4, 15) := by decide +kernel
    rw [zK_h (ls := [some (.inr (.inl (some 100))), some (.inl h), some (.inl v), some (.inr (.inl (some 3564))), none]) hz1 (show 4 < 5 from by decide) rfl]
    show Wp 236 15 [some (.inr (.inl (some 100))), some (.inl h), some (.inl v), some (.inr (.inl (some 3564))), none] [] _ _ Q
    simp (disch := first | assumption | exact p_c2i | exact p_c2r | exact p_c2n | omega | ((repeat (first | refine p_a1i.trans ?_ | refine p_a1r.trans ?_)); exact p_a10) | ((repeat (first | refine p_wI ?_ | refine p_wR ?_)); exact p_w0) | decide) only [reduceIte, Int.reduceLT, Int.reduceLE, Int.reduceEq, Int.reduceToNat, Int.reduceAdd, Int.reduceSub, Int.reduceMul, Int.reduceNeg, e236_15, e236_16, p_push, p_ret0, WN_nx, WN_nrt, WN_ite]
    exact K1 z1
  · have hz2 : zhnd 236 5 1 = some (4, 19) := by decide +kernel
    rw [zK_h (ls := [some (.inr (.inl (some 100))), some (.inl h), some (.inl v), some (.inr (.inl (some 3564))), none]) hz2 (show 4 < 5 from by decide) rfl]
    show Wp 236 19 [some (.inr (.inl (some 100))), some (.inl h), some (.inl v), some (.inr (.inl (some 3564))), none] [] _ _ Q
    simp (disch := first | assumption | exact p_c2i | exact p_c2r | exact p_c2n | omega | ((repeat (first | refine p_a1i.trans ?_ | refine p_a1r.trans ?_)); exact p_a10) | ((repeat (first | refine p_wI ?_ | refine p_wR ?_)); exact p_w0) | decide) only [reduceIte, Int.reduceLT, Int.reduceLE, Int.reduceEq, Int.reduceToNat, Int.reduceAdd, Int.reduceSub, Int.reduceMul, Int.reduceNeg, e236_19, e236_20, p_push, p_ret0, WN_nx, WN_nrt, WN_ite]
    exact K2 z1 z2
  · rw [zK_v]
    have bb := bK0 z1 z2
    obtain ⟨bb1, bb2⟩ := bb
    simp (disch := first | assumption | exact p_c2i | exact p_c2r | exact p_c2n | omega | ((repeat (first | refine p_a1i.trans ?_ | refine p_a1r.trans ?_)); exact p_a10) | ((repeat (first | refine p_wI ?_ | refine p_wR ?_)); exact p_w0) | decide) only [reduceIte, Int.reduceLT, Int.reduceLE, Int.reduceEq, Int.reduceToNat, Int.reduceAdd, Int.reduceSub, Int.reduceMul, Int.reduceNeg, e236_8, e236_9, e236_10, e236_13, e236_15, e236_16, e236_17, e236_19, e236_20, e236_21, e236_22, p_i2l, p_last, p_goto, p_as4, p_c2n, p_c2i, p_c2r, p_push, p_ret0, WN_nx, WN_nrt, WN_ite]
    exact K0 z1 z2 z3 z4
theorem t_onW {r c : Int} (hR : zSr σ 101 w) (ok : zSok N w) (hr : -2147483648 ≤ r ∧ r < 2147483648) (hc : -2147483648 ≤ c ∧ c < 2147483648) (bK0 : ((0 ≤ r ∧ r < 9) ∧ (0 ≤ c ∧ c < 9)) → zi3 ((aOn w (9 * r + c)))) (K1 : ¬ ((0 ≤ r ∧ r < 9) ∧ (0 ≤ c ∧ c < 9)) → Q (.inl (some (.inl 1))) (3565, x + 1, zrho) σ) (K0 : ((0 ≤ r ∧ r < 9) ∧ (0 ≤ c ∧ c < 9)) → ∀ σ', zfq σ σ' → Q (.inl (some (.inl 0))) (3565, x, zrho) (zup σ' 3564 0 ((aOn w (9 * r + c))))) : WM 237 [.inr (.inl (some 100)), .inl r, .inl c, .inr (.inl (some 3564))] (3565, x, zrho) σ Q := by
  show Wp 237 0 [some (.inr (.inl (some 100))), some (.inl r), some (.inl c), some (.inr (.inl (some 3564))), none] [] _ _ Q
  have k64 := zo_k
  have n64 := zo_n
  simp (disch := first | assumption | exact p_c2i | exact p_c2r | exact p_c2n | omega | ((repeat (first | refine p_a1i.trans ?_ | refine p_a1r.trans ?_)); exact p_a10) | ((repeat (first | refine p_wI ?_ | refine p_wR ?_)); exact p_w0) | decide) only [reduceIte, Int.reduceLT, Int.reduceLE, Int.reduceEq, Int.reduceToNat, Int.reduceAdd, Int.reduceSub, Int.reduceMul, Int.reduceNeg, e237_0, e237_1, e237_2, e237_3, e237_4, e237_5, p_al3, p_push, p_al0, p_il1, p_il2, p_cv2_0, p_cv2_1, p_cv2_2, p_cv2_3, p_cv2_4, zK_v, zK_0, WN_ncl, WN_nx, WN_nrt, WN_ite]
  refine t_onC hR ok hr hc (fun z1 => ?_) (fun z1 z2 z3 => ?_)
  · have hz1 : zhnd 237 5 0 = some (4, 15) := by decide +kernel
    rw [zK_h (ls := [some (.inr (.inl (some 100))), some (.inl r), some (.inl c), some (.inr (.inl (some 3564))), none]) hz1 (show 4 < 5 from by decide) rfl]
    show Wp 237 15 [some (.inr (.inl (some 100))), some (.inl r), some (.inl c), some (.inr (.inl (some 3564))), none] [] _ _ Q
    simp (disch := first | assumption | exact p_c2i | exact p_c2r | exact p_c2n | omega | ((repeat (first | refine p_a1i.trans ?_ | refine p_a1r.trans ?_)); exact p_a10) | ((repeat (first | refine p_wI ?_ | refine p_wR ?_)); exact p_w0) | decide) only [reduceIte, Int.reduceLT, Int.reduceLE, Int.reduceEq, Int.reduceToNat, Int.reduceAdd, Int.reduceSub, Int.reduceMul, Int.reduceNeg, e237_15, e237_16, p_push, p_ret0, WN_nx, WN_nrt, WN_ite]
    exact K1 z1
  · rw [zK_v]
    have bb := bK0 z1
    obtain ⟨bb1, bb2⟩ := bb
    simp (disch := first | assumption | exact p_c2i | exact p_c2r | exact p_c2n | omega | ((repeat (first | refine p_a1i.trans ?_ | refine p_a1r.trans ?_)); exact p_a10) | ((repeat (first | refine p_wI ?_ | refine p_wR ?_)); exact p_w0) | decide) only [reduceIte, Int.reduceLT, Int.reduceLE, Int.reduceEq, Int.reduceToNat, Int.reduceAdd, Int.reduceSub, Int.reduceMul, Int.reduceNeg, e237_8, e237_9, e237_10, e237_13, e237_15, e237_16, e237_17, e237_18, p_i2l, p_last, p_goto, p_as4, p_c2n, p_c2i, p_c2r, p_push, p_ret0, WN_nx, WN_nrt, WN_ite]
    exact K0 z1 z2 z3
theorem t_stepW {v : Int} (hv : -2147483648 ≤ v ∧ v < 2147483648) (hR : zSr σ 101 w) (ok : zSok N w) (hN : N ≤ 80000000) (hC : zCr σ kp n) (hn : n ≤ 8) (bK0 : (oStep w v).1 = 0 → zi3 ((aGS w v.toNat))) (K1 : (oStep w v).1 ≠ 0 → Q (.inl (some (.inl (oStep w v).1))) (3565, x + 1, zrho) (zref σ (oStep w v))) (K0 : (oStep w v).1 = 0 → ∀ σ', zSr σ' 101 (aStN v.toNat w) → zCr σ' (aPushK kp n w) (aPushN n) → (∀ a, a < 101 ∨ (413 ≤ a ∧ a < 1037) ∨ 3535 ≤ a → σ' a = σ a) → Q (.inl (some (.inl 0))) (3565, x, zrho) (zup σ' 3564 0 ((aGS w v.toNat)))) : WM 238 [.inr (.inl (some 100)), .inl v, .inr (.inl (some 3564))] (3565, x, zrho) σ Q := by
  show Wp 238 0 [some (.inr (.inl (some 100))), some (.inl v), some (.inr (.inl (some 3564))), none] [] _ _ Q
  have k64 := zo_k
  have n64 := zo_n
  simp (disch := first | assumption | exact p_c2i | exact p_c2r | exact p_c2n | omega | ((repeat (first | refine p_a1i.trans ?_ | refine p_a1r.trans ?_)); exact p_a10) | ((repeat (first | refine p_wI ?_ | refine p_wR ?_)); exact p_w0) | decide) only [reduceIte, Int.reduceLT, Int.reduceLE, Int.reduceEq, Int.reduceToNat, Int.reduceAdd, Int.reduceSub, Int.reduceMul, Int.reduceNeg, e238_0, e238_1, e238_2, e238_3, e238_4, p_al2, p_push, p_al0, p_il1, p_cv1_0, p_cv1_1, p_cv1_2, p_cv1_3, p_cv1_4, zK_v, zK_0, WN_ncl, WN_nx, WN_nrt, WN_ite]
  refine t_stepC hv hR ok hN hC hn (fun z1 z2 z3 => ?_) (fun z1 z2 z3 z4 z5 => ?_)
  · have ob := oStep_b (w := w) (r := v)
    by_cases e1 : z1 = 1
    · subst e1
      have e2 : (oStep w v).1 = 1 := by omega
      have hz1 : zhnd 238 4 1 = some (3, 13) := by decide +kernel
      rw [zK_h (ls := [some (.inr (.inl (some 100))), some (.inl v), some (.inr (.inl (some 3564))), none]) hz1 (show 3 < 4 from by decide) rfl]
      show Wp 238 13 [some (.inr (.inl (some 100))), some (.inl v), some (.inr (.inl (some 3564))), none] [] _ _ Q
      simp (disch := first | assumption | exact p_c2i | exact p_c2r | exact p_c2n | omega | ((repeat (first | refine p_a1i.trans ?_ | refine p_a1r.trans ?_)); exact p_a10) | ((repeat (first | refine p_wI ?_ | refine p_wR ?_)); exact p_w0) | decide) only [reduceIte, Int.reduceLT, Int.reduceLE, Int.reduceEq, Int.reduceToNat, Int.reduceAdd, Int.reduceSub, Int.reduceMul, Int.reduceNeg, e238_13, e238_14, p_push, p_ret0, WN_nx, WN_nrt, WN_ite]
      have kk := K1 (by omega)
      rw [e2] at kk
      exact kk
    by_cases e2 : z1 = 2
    · subst e2
      have e2 : (oStep w v).1 = 2 := by omega
      have hz2 : zhnd 238 4 2 = some (3, 16) := by decide +kernel
      rw [zK_h (ls := [some (.inr (.inl (some 100))), some (.inl v), some (.inr (.inl (some 3564))), none]) hz2 (show 3 < 4 from by decide) rfl]
      show Wp 238 16 [some (.inr (.inl (some 100))), some (.inl v), some (.inr (.inl (some 3564))), none] [] _ _ Q
      simp (disch := first | assumption | exact p_c2i | exact p_c2r | exact p_c2n | omega | ((repeat (first | refine p_a1i.trans ?_ | refine p_a1r.trans ?_)); exact p_a10) | ((repeat (first | refine p_wI ?_ | refine p_wR ?_)); exact p_w0) | decide) only [reduceIte, Int.reduceLT, Int.reduceLE, Int.reduceEq, Int.reduceToNat, Int.reduceAdd, Int.reduceSub, Int.reduceMul, Int.reduceNeg, e238_16, e238_17, p_push, p_ret0, WN_nx, WN_nrt, WN_ite]
      have kk := K1 (by omega)
      rw [e2] at kk
      exact kk
    exfalso
    omega
  · rw [zK_v]
    have bb := bK0 z1
    obtain ⟨bb1, bb2⟩ := bb
    simp (disch := first | assumption | exact p_c2i | exact p_c2r | exact p_c2n | omega | ((repeat (first | refine p_a1i.trans ?_ | refine p_a1r.trans ?_)); exact p_a10) | ((repeat (first | refine p_wI ?_ | refine p_wR ?_)); exact p_w0) | decide) only [reduceIte, Int.reduceLT, Int.reduceLE, Int.reduceEq, Int.reduceToNat, Int.reduceAdd, Int.reduceSub, Int.reduceMul, Int.reduceNeg, e238_7, e238_8, e238_9, e238_12, e238_13, e238_14, e238_15, e238_16, e238_17, e238_18, e238_19, p_i2l, p_last, p_goto, p_as3, p_c2n, p_c2i, p_c2r, p_push, p_ret0, WN_nx, WN_nrt, WN_ite]
    exact K0 z1 z2 z3 z4 z5
theorem t_backW (hR : zSr σ 101 w) (ok : zSok N w) (hN : N ≤ 80000000) (hC : zCr σ kp n) (hn : n ≤ 8) (bK0 : 0 < w 201 → zi3 ((w 201 - 1))) (K1 : w 201 = 0 → Q (.inl (some (.inl 1))) (3565, x + 1, zrho) (zref σ (oBack w))) (K0 : 0 < w 201 → ∀ σ', zSr σ' 101 (aTake w) → zCr σ' (aPushK kp n w) (aPushN n) → (∀ a, a < 101 ∨ (413 ≤ a ∧ a < 1037) ∨ 3535 ≤ a → σ' a = σ a) → Q (.inl (some (.inl 0))) (3565, x, zrho) (zup σ' 3564 0 ((w 201 - 1)))) : WM 239 [.inr (.inl (some 100)), .inr (.inl (some 3564))] (3565, x, zrho) σ Q := by
  show Wp 239 0 [some (.inr (.inl (some 100))), some (.inr (.inl (some 3564))), none] [] _ _ Q
  have k64 := zo_k
  have n64 := zo_n
  simp (disch := first | assumption | exact p_c2i | exact p_c2r | exact p_c2n | omega | ((repeat (first | refine p_a1i.trans ?_ | refine p_a1r.trans ?_)); exact p_a10) | ((repeat (first | refine p_wI ?_ | refine p_wR ?_)); exact p_w0) | decide) only [reduceIte, Int.reduceLT, Int.reduceLE, Int.reduceEq, Int.reduceToNat, Int.reduceAdd, Int.reduceSub, Int.reduceMul, Int.reduceNeg, e239_0, e239_1, e239_2, e239_3, p_al1, p_push, p_al0, p_cv0_0, p_cv0_1, p_cv0_2, p_cv0_3, p_cv0_4, zK_v, zK_0, WN_ncl, WN_nx, WN_nrt, WN_ite]
  refine t_backC hR ok hN hC hn (fun z1 => ?_) (fun z1 z2 z3 z4 z5 => ?_)
  · have hz1 : zhnd 239 3 2 = some (2, 12) := by decide +kernel
    rw [zK_h (ls := [some (.inr (.inl (some 100))), some (.inr (.inl (some 3564))), none]) hz1 (show 2 < 3 from by decide) rfl]
    show Wp 239 12 [some (.inr (.inl (some 100))), some (.inr (.inl (some 3564))), none] [] _ _ Q
    simp (disch := first | assumption | exact p_c2i | exact p_c2r | exact p_c2n | omega | ((repeat (first | refine p_a1i.trans ?_ | refine p_a1r.trans ?_)); exact p_a10) | ((repeat (first | refine p_wI ?_ | refine p_wR ?_)); exact p_w0) | decide) only [reduceIte, Int.reduceLT, Int.reduceLE, Int.reduceEq, Int.reduceToNat, Int.reduceAdd, Int.reduceSub, Int.reduceMul, Int.reduceNeg, e239_12, e239_13, p_push, p_ret0, WN_nx, WN_nrt, WN_ite]
    exact K1 z1
  · rw [zK_v]
    have bb := bK0 z1
    obtain ⟨bb1, bb2⟩ := bb
    simp (disch := first | assumption | exact p_c2i | exact p_c2r | exact p_c2n | omega | ((repeat (first | refine p_a1i.trans ?_ | refine p_a1r.trans ?_)); exact p_a10) | ((repeat (first | refine p_wI ?_ | refine p_wR ?_)); exact p_w0) | decide) only [reduceIte, Int.reduceLT, Int.reduceLE, Int.reduceEq, Int.reduceToNat, Int.reduceAdd, Int.reduceSub, Int.reduceMul, Int.reduceNeg, e239_6, e239_7, e239_8, e239_11, e239_12, e239_13, e239_14, e239_15, p_i2l, p_last, p_goto, p_as2, p_c2n, p_c2i, p_c2r, p_push, p_ret0, WN_nx, WN_nrt, WN_ite]
    exact K0 z1 z2 z3 z4 z5
theorem t_isInverseW (hR : zSr σ 101 w) (ok : zSok N w) (bK0 : w 201 ≠ 0 → zi3 ((qInv w))) (K1 : w 201 = 0 → Q (.inl (some (.inl 1))) (3565, x + 1, zrho) σ) (K0 : w 201 ≠ 0 → ∀ σ', zfq σ σ' → Q (.inl (some (.inl 0))) (3565, x, zrho) (zup σ' 3564 0 ((qInv w)))) : WM 240 [.inr (.inl (some 100)), .inr (.inl (some 3564))] (3565, x, zrho) σ Q := by
  show Wp 240 0 [some (.inr (.inl (some 100))), some (.inr (.inl (some 3564))), none] [] _ _ Q
  have k64 := zo_k
  have n64 := zo_n
  simp (disch := first | assumption | exact p_c2i | exact p_c2r | exact p_c2n | omega | ((repeat (first | refine p_a1i.trans ?_ | refine p_a1r.trans ?_)); exact p_a10) | ((repeat (first | refine p_wI ?_ | refine p_wR ?_)); exact p_w0) | decide) only [reduceIte, Int.reduceLT, Int.reduceLE, Int.reduceEq, Int.reduceToNat, Int.reduceAdd, Int.reduceSub, Int.reduceMul, Int.reduceNeg, e240_0, e240_1, e240_2, e240_3, p_al1, p_push, p_al0, p_cv0_0, p_cv0_1, p_cv0_2, p_cv0_3, p_cv0_4, zK_v, zK_0, WN_ncl, WN_nx, WN_nrt, WN_ite]
  refine t_isInverseC hR ok (fun z1 => ?_) (fun z1 z2 z3 => ?_)
  · have hz1 : zhnd 240 3 3 = some (2, 19) := by decide +kernel
    rw [zK_h (ls := [some (.inr (.inl (some 100))), some (.inr (.inl (some 3564))), none]) hz1 (show 2 < 3 from by decide) rfl]
    show Wp 240 19 [some (.inr (.inl (some 100))), some (.inr (.inl (some 3564))), none] [] _ _ Q
    simp (disch := first | assumption | exact p_c2i | exact p_c2r | exact p_c2n | omega | ((repeat (first | refine p_a1i.trans ?_ | refine p_a1r.trans ?_)); exact p_a10) | ((repeat (first | refine p_wI ?_ | refine p_wR ?_)); exact p_w0) | decide) only [reduceIte, Int.reduceLT, Int.reduceLE, Int.reduceEq, Int.reduceToNat, Int.reduceAdd, Int.reduceSub, Int.reduceMul, Int.reduceNeg, e240_19, e240_20, p_push, p_ret0, WN_nx, WN_nrt, WN_ite]
    exact K1 z1
  · rw [zK_v]
    have bb := bK0 z1
    obtain ⟨bb1, bb2⟩ := bb
    rcases aLook_01 (aInvN (w 0).toNat w) (zgl (w 201 - 1).toNat w) with q | q
    · have kk := K0 z1 z2 z3
      unfold qInv at kk ⊢
      rw [q] at kk ⊢
      simp (disch := first | assumption | exact p_c2i | exact p_c2r | exact p_c2n | omega | ((repeat (first | refine p_a1i.trans ?_ | refine p_a1r.trans ?_)); exact p_a10) | ((repeat (first | refine p_wI ?_ | refine p_wR ?_)); exact p_w0) | decide) only [reduceIte, Int.reduceLT, Int.reduceLE, Int.reduceEq, Int.reduceToNat, Int.reduceAdd, Int.reduceSub, Int.reduceMul, Int.reduceNeg, e240_6, e240_9, e240_10, e240_13, e240_14, e240_15, e240_18, e240_19, e240_20, e240_21, e240_22, p_ifeq, p_push, p_goto, p_last, p_as2, p_c2n, p_c2i, p_c2r, p_ret0, WN_nx, WN_nrt, WN_ite]
      exact kk
    · have kk := K0 z1 z2 z3
      unfold qInv at kk ⊢
      rw [q] at kk ⊢
      have d : ((1 : Int) = 0) = False := eq_false (by omega)
      simp (disch := first | assumption | exact p_c2i | exact p_c2r | exact p_c2n | omega | ((repeat (first | refine p_a1i.trans ?_ | refine p_a1r.trans ?_)); exact p_a10) | ((repeat (first | refine p_wI ?_ | refine p_wR ?_)); exact p_w0) | decide) only [reduceIte, Int.reduceLT, Int.reduceLE, Int.reduceEq, Int.reduceToNat, Int.reduceAdd, Int.reduceSub, Int.reduceMul, Int.reduceNeg, e240_6, e240_9, e240_10, e240_13, e240_14, e240_15, e240_18, e240_19, e240_20, e240_21, e240_22, p_ifeq, p_push, p_goto, p_last, p_as2, p_c2n, p_c2i, p_c2r, p_ret0, WN_nx, WN_nrt, WN_ite, d]
      exact kk
theorem t_trailW {p : Int} (hR : zSr σ 101 w) (ok : zSok N w) (hp : -2147483648 ≤ p ∧ p < 2147483648) (bK0 : (0 ≤ p ∧ p < w 4) → zi3 ((w (188 + p.toNat)))) (K1 : ¬ (0 ≤ p ∧ p < w 4) → Q (.inl (some (.inl 1))) (3565, x + 1, zrho) σ) (K0 : (0 ≤ p ∧ p < w 4) → ∀ σ', zfq σ σ' → Q (.inl (some (.inl 0))) (3565, x, zrho) (zup σ' 3564 0 ((w (188 + p.toNat))))) : WM 241 [.inr (.inl (some 100)), .inl p, .inr (.inl (some 3564))] (3565, x, zrho) σ Q := by
  show Wp 241 0 [some (.inr (.inl (some 100))), some (.inl p), some (.inr (.inl (some 3564))), none] [] _ _ Q
  have k64 := zo_k
  have n64 := zo_n
  simp (disch := first | assumption | exact p_c2i | exact p_c2r | exact p_c2n | omega | ((repeat (first | refine p_a1i.trans ?_ | refine p_a1r.trans ?_)); exact p_a10) | ((repeat (first | refine p_wI ?_ | refine p_wR ?_)); exact p_w0) | decide) only [reduceIte, Int.reduceLT, Int.reduceLE, Int.reduceEq, Int.reduceToNat, Int.reduceAdd, Int.reduceSub, Int.reduceMul, Int.reduceNeg, e241_0, e241_1, e241_2, e241_3, e241_4, p_al2, p_push, p_al0, p_il1, p_cv1_0, p_cv1_1, p_cv1_2, p_cv1_3, p_cv1_4, zK_v, zK_0, WN_ncl, WN_nx, WN_nrt, WN_ite]
  refine t_trailC hR ok hp (fun z1 => ?_) (fun z1 z2 z3 => ?_)
  · have hz1 : zhnd 241 4 3 = some (3, 13) := by decide +kernel
    rw [zK_h (ls := [some (.inr (.inl (some 100))), some (.inl p), some (.inr (.inl (some 3564))), none]) hz1 (show 3 < 4 from by decide) rfl]
    show Wp 241 13 [some (.inr (.inl (some 100))), some (.inl p), some (.inr (.inl (some 3564))), none] [] _ _ Q
    simp (disch := first | assumption | exact p_c2i | exact p_c2r | exact p_c2n | omega | ((repeat (first | refine p_a1i.trans ?_ | refine p_a1r.trans ?_)); exact p_a10) | ((repeat (first | refine p_wI ?_ | refine p_wR ?_)); exact p_w0) | decide) only [reduceIte, Int.reduceLT, Int.reduceLE, Int.reduceEq, Int.reduceToNat, Int.reduceAdd, Int.reduceSub, Int.reduceMul, Int.reduceNeg, e241_13, e241_14, p_push, p_ret0, WN_nx, WN_nrt, WN_ite]
    exact K1 z1
  · rw [zK_v]
    have bb := bK0 z1
    obtain ⟨bb1, bb2⟩ := bb
    simp (disch := first | assumption | exact p_c2i | exact p_c2r | exact p_c2n | omega | ((repeat (first | refine p_a1i.trans ?_ | refine p_a1r.trans ?_)); exact p_a10) | ((repeat (first | refine p_wI ?_ | refine p_wR ?_)); exact p_w0) | decide) only [reduceIte, Int.reduceLT, Int.reduceLE, Int.reduceEq, Int.reduceToNat, Int.reduceAdd, Int.reduceSub, Int.reduceMul, Int.reduceNeg, e241_7, e241_8, e241_9, e241_12, e241_13, e241_14, e241_15, e241_16, p_i2l, p_last, p_goto, p_as3, p_c2n, p_c2i, p_c2r, p_push, p_ret0, WN_nx, WN_nrt, WN_ite]
    exact K0 z1 z2 z3
theorem t_paintedW {r c : Int} (hR : zSr σ 101 w) (ok : zSok N w) (hr : -2147483648 ≤ r ∧ r < 2147483648) (hc : -2147483648 ≤ c ∧ c < 2147483648) (bK0 : ((0 ≤ r ∧ r < 9) ∧ (0 ≤ c ∧ c < 9)) → zi3 ((w (91 + (9 * r + c).toNat)))) (K1 : ¬ ((0 ≤ r ∧ r < 9) ∧ (0 ≤ c ∧ c < 9)) → Q (.inl (some (.inl 1))) (3565, x + 1, zrho) σ) (K0 : ((0 ≤ r ∧ r < 9) ∧ (0 ≤ c ∧ c < 9)) → ∀ σ', zfq σ σ' → Q (.inl (some (.inl 0))) (3565, x, zrho) (zup σ' 3564 0 ((w (91 + (9 * r + c).toNat))))) : WM 242 [.inr (.inl (some 100)), .inl r, .inl c, .inr (.inl (some 3564))] (3565, x, zrho) σ Q := by
  show Wp 242 0 [some (.inr (.inl (some 100))), some (.inl r), some (.inl c), some (.inr (.inl (some 3564))), none] [] _ _ Q
  have k64 := zo_k
  have n64 := zo_n
  simp (disch := first | assumption | exact p_c2i | exact p_c2r | exact p_c2n | omega | ((repeat (first | refine p_a1i.trans ?_ | refine p_a1r.trans ?_)); exact p_a10) | ((repeat (first | refine p_wI ?_ | refine p_wR ?_)); exact p_w0) | decide) only [reduceIte, Int.reduceLT, Int.reduceLE, Int.reduceEq, Int.reduceToNat, Int.reduceAdd, Int.reduceSub, Int.reduceMul, Int.reduceNeg, e242_0, e242_1, e242_2, e242_3, e242_4, e242_5, p_al3, p_push, p_al0, p_il1, p_il2, p_cv2_0, p_cv2_1, p_cv2_2, p_cv2_3, p_cv2_4, zK_v, zK_0, WN_ncl, WN_nx, WN_nrt, WN_ite]
  refine t_paintedC hR ok hr hc (fun z1 => ?_) (fun z1 z2 z3 => ?_)
  · have hz1 : zhnd 242 5 0 = some (4, 15) := by decide +kernel
    rw [zK_h (ls := [some (.inr (.inl (some 100))), some (.inl r), some (.inl c), some (.inr (.inl (some 3564))), none]) hz1 (show 4 < 5 from by decide) rfl]
    show Wp 242 15 [some (.inr (.inl (some 100))), some (.inl r), some (.inl c), some (.inr (.inl (some 3564))), none] [] _ _ Q
    simp (disch := first | assumption | exact p_c2i | exact p_c2r | exact p_c2n | omega | ((repeat (first | refine p_a1i.trans ?_ | refine p_a1r.trans ?_)); exact p_a10) | ((repeat (first | refine p_wI ?_ | refine p_wR ?_)); exact p_w0) | decide) only [reduceIte, Int.reduceLT, Int.reduceLE, Int.reduceEq, Int.reduceToNat, Int.reduceAdd, Int.reduceSub, Int.reduceMul, Int.reduceNeg, e242_15, e242_16, p_push, p_ret0, WN_nx, WN_nrt, WN_ite]
    exact K1 z1
  · rw [zK_v]
    have bb := bK0 z1
    obtain ⟨bb1, bb2⟩ := bb
    simp (disch := first | assumption | exact p_c2i | exact p_c2r | exact p_c2n | omega | ((repeat (first | refine p_a1i.trans ?_ | refine p_a1r.trans ?_)); exact p_a10) | ((repeat (first | refine p_wI ?_ | refine p_wR ?_)); exact p_w0) | decide) only [reduceIte, Int.reduceLT, Int.reduceLE, Int.reduceEq, Int.reduceToNat, Int.reduceAdd, Int.reduceSub, Int.reduceMul, Int.reduceNeg, e242_8, e242_9, e242_10, e242_13, e242_15, e242_16, e242_17, e242_18, p_i2l, p_last, p_goto, p_as4, p_c2n, p_c2i, p_c2r, p_push, p_ret0, WN_nx, WN_nrt, WN_ite]
    exact K0 z1 z2 z3
theorem t_countW {v : Int} (hR : zSr σ 101 w) (ok : zSok N w) (hv : -2147483648 ≤ v ∧ v < 2147483648) (bK0 : (0 ≤ v ∧ v ≤ 3) → zi3 ((zct (fun c => decide (w (10 + c) = v)) 81))) (K1 : ¬ (0 ≤ v ∧ v ≤ 3) → Q (.inl (some (.inl 1))) (3565, x + 1, zrho) σ) (K0 : (0 ≤ v ∧ v ≤ 3) → ∀ σ', zfq σ σ' → Q (.inl (some (.inl 0))) (3565, x, zrho) (zup σ' 3564 0 ((zct (fun c => decide (w (10 + c) = v)) 81)))) : WM 243 [.inr (.inl (some 100)), .inl v, .inr (.inl (some 3564))] (3565, x, zrho) σ Q := by
  show Wp 243 0 [some (.inr (.inl (some 100))), some (.inl v), some (.inr (.inl (some 3564))), none] [] _ _ Q
  have k64 := zo_k
  have n64 := zo_n
  simp (disch := first | assumption | exact p_c2i | exact p_c2r | exact p_c2n | omega | ((repeat (first | refine p_a1i.trans ?_ | refine p_a1r.trans ?_)); exact p_a10) | ((repeat (first | refine p_wI ?_ | refine p_wR ?_)); exact p_w0) | decide) only [reduceIte, Int.reduceLT, Int.reduceLE, Int.reduceEq, Int.reduceToNat, Int.reduceAdd, Int.reduceSub, Int.reduceMul, Int.reduceNeg, e243_0, e243_1, e243_2, e243_3, e243_4, p_al2, p_push, p_al0, p_il1, p_cv1_0, p_cv1_1, p_cv1_2, p_cv1_3, p_cv1_4, zK_v, zK_0, WN_ncl, WN_nx, WN_nrt, WN_ite]
  refine t_countC hR ok hv (fun z1 => ?_) (fun z1 z2 z3 => ?_)
  · have hz1 : zhnd 243 4 1 = some (3, 13) := by decide +kernel
    rw [zK_h (ls := [some (.inr (.inl (some 100))), some (.inl v), some (.inr (.inl (some 3564))), none]) hz1 (show 3 < 4 from by decide) rfl]
    show Wp 243 13 [some (.inr (.inl (some 100))), some (.inl v), some (.inr (.inl (some 3564))), none] [] _ _ Q
    simp (disch := first | assumption | exact p_c2i | exact p_c2r | exact p_c2n | omega | ((repeat (first | refine p_a1i.trans ?_ | refine p_a1r.trans ?_)); exact p_a10) | ((repeat (first | refine p_wI ?_ | refine p_wR ?_)); exact p_w0) | decide) only [reduceIte, Int.reduceLT, Int.reduceLE, Int.reduceEq, Int.reduceToNat, Int.reduceAdd, Int.reduceSub, Int.reduceMul, Int.reduceNeg, e243_13, e243_14, p_push, p_ret0, WN_nx, WN_nrt, WN_ite]
    exact K1 z1
  · rw [zK_v]
    have bb := bK0 z1
    obtain ⟨bb1, bb2⟩ := bb
    simp (disch := first | assumption | exact p_c2i | exact p_c2r | exact p_c2n | omega | ((repeat (first | refine p_a1i.trans ?_ | refine p_a1r.trans ?_)); exact p_a10) | ((repeat (first | refine p_wI ?_ | refine p_wR ?_)); exact p_w0) | decide) only [reduceIte, Int.reduceLT, Int.reduceLE, Int.reduceEq, Int.reduceToNat, Int.reduceAdd, Int.reduceSub, Int.reduceMul, Int.reduceNeg, e243_7, e243_8, e243_9, e243_12, e243_13, e243_14, e243_15, e243_16, p_i2l, p_last, p_goto, p_as3, p_c2n, p_c2i, p_c2r, p_push, p_ret0, WN_nx, WN_nrt, WN_ite]
    exact K0 z1 z2 z3
theorem t_fieldsW {v : Int} (hR : zSr σ 101 w) (ok : zSok N w) (hv : -2147483648 ≤ v ∧ v < 2147483648) (bK0 : (0 ≤ v ∧ v ≤ 3) → zi3 ((fMany w v))) (K1 : ¬ (0 ≤ v ∧ v ≤ 3) → Q (.inl (some (.inl 1))) (3565, x + 1, zrho) σ) (K0 : (0 ≤ v ∧ v ≤ 3) → ∀ σ', zfq σ σ' → Q (.inl (some (.inl 0))) (3565, x, zrho) (zup σ' 3564 0 ((fMany w v)))) : WM 244 [.inr (.inl (some 100)), .inl v, .inr (.inl (some 3564))] (3565, x, zrho) σ Q := by
  show Wp 244 0 [some (.inr (.inl (some 100))), some (.inl v), some (.inr (.inl (some 3564))), none] [] _ _ Q
  have k64 := zo_k
  have n64 := zo_n
  simp (disch := first | assumption | exact p_c2i | exact p_c2r | exact p_c2n | omega | ((repeat (first | refine p_a1i.trans ?_ | refine p_a1r.trans ?_)); exact p_a10) | ((repeat (first | refine p_wI ?_ | refine p_wR ?_)); exact p_w0) | decide) only [reduceIte, Int.reduceLT, Int.reduceLE, Int.reduceEq, Int.reduceToNat, Int.reduceAdd, Int.reduceSub, Int.reduceMul, Int.reduceNeg, e244_0, e244_1, e244_2, e244_3, e244_4, p_al2, p_push, p_al0, p_il1, p_cv1_0, p_cv1_1, p_cv1_2, p_cv1_3, p_cv1_4, zK_v, zK_0, WN_ncl, WN_nx, WN_nrt, WN_ite]
  refine t_fieldsC hR ok hv (fun z1 => ?_) (fun z1 z2 z3 => ?_)
  · have hz1 : zhnd 244 4 1 = some (3, 13) := by decide +kernel
    rw [zK_h (ls := [some (.inr (.inl (some 100))), some (.inl v), some (.inr (.inl (some 3564))), none]) hz1 (show 3 < 4 from by decide) rfl]
    show Wp 244 13 [some (.inr (.inl (some 100))), some (.inl v), some (.inr (.inl (some 3564))), none] [] _ _ Q
    simp (disch := first | assumption | exact p_c2i | exact p_c2r | exact p_c2n | omega | ((repeat (first | refine p_a1i.trans ?_ | refine p_a1r.trans ?_)); exact p_a10) | ((repeat (first | refine p_wI ?_ | refine p_wR ?_)); exact p_w0) | decide) only [reduceIte, Int.reduceLT, Int.reduceLE, Int.reduceEq, Int.reduceToNat, Int.reduceAdd, Int.reduceSub, Int.reduceMul, Int.reduceNeg, e244_13, e244_14, p_push, p_ret0, WN_nx, WN_nrt, WN_ite]
    exact K1 z1
  · rw [zK_v]
    have bb := bK0 z1
    obtain ⟨bb1, bb2⟩ := bb
    simp (disch := first | assumption | exact p_c2i | exact p_c2r | exact p_c2n | omega | ((repeat (first | refine p_a1i.trans ?_ | refine p_a1r.trans ?_)); exact p_a10) | ((repeat (first | refine p_wI ?_ | refine p_wR ?_)); exact p_w0) | decide) only [reduceIte, Int.reduceLT, Int.reduceLE, Int.reduceEq, Int.reduceToNat, Int.reduceAdd, Int.reduceSub, Int.reduceMul, Int.reduceNeg, e244_7, e244_8, e244_9, e244_12, e244_13, e244_14, e244_15, e244_16, p_i2l, p_last, p_goto, p_as3, p_c2n, p_c2i, p_c2r, p_push, p_ret0, WN_nx, WN_nrt, WN_ite]
    exact K0 z1 z2 z3
theorem t_fieldsAgainW {v : Int} (hR : zSr σ 101 w) (ok : zSok N w) (hv : -2147483648 ≤ v ∧ v < 2147483648) (bK0 : (0 ≤ v ∧ v ≤ 3) → zi3 ((fMany w v))) (K1 : ¬ (0 ≤ v ∧ v ≤ 3) → Q (.inl (some (.inl 1))) (3565, x + 1, zrho) σ) (K0 : (0 ≤ v ∧ v ≤ 3) → ∀ σ', zfq σ σ' → Q (.inl (some (.inl 0))) (3565, x, zrho) (zup σ' 3564 0 ((fMany w v)))) : WM 245 [.inr (.inl (some 100)), .inl v, .inr (.inl (some 3564))] (3565, x, zrho) σ Q := by
  show Wp 245 0 [some (.inr (.inl (some 100))), some (.inl v), some (.inr (.inl (some 3564))), none] [] _ _ Q
  have k64 := zo_k
  have n64 := zo_n
  simp (disch := first | assumption | exact p_c2i | exact p_c2r | exact p_c2n | omega | ((repeat (first | refine p_a1i.trans ?_ | refine p_a1r.trans ?_)); exact p_a10) | ((repeat (first | refine p_wI ?_ | refine p_wR ?_)); exact p_w0) | decide) only [reduceIte, Int.reduceLT, Int.reduceLE, Int.reduceEq, Int.reduceToNat, Int.reduceAdd, Int.reduceSub, Int.reduceMul, Int.reduceNeg, e245_0, e245_1, e245_2, e245_3, e245_4, p_al2, p_push, p_al0, p_il1, p_cv1_0, p_cv1_1, p_cv1_2, p_cv1_3, p_cv1_4, zK_v, zK_0, WN_ncl, WN_nx, WN_nrt, WN_ite]
  refine t_fieldsAgainC hR ok hv (fun z1 => ?_) (fun z1 z2 z3 => ?_)
  · have hz1 : zhnd 245 4 1 = some (3, 13) := by decide +kernel
    rw [zK_h (ls := [some (.inr (.inl (some 100))), some (.inl v), some (.inr (.inl (some 3564))), none]) hz1 (show 3 < 4 from by decide) rfl]
    show Wp 245 13 [some (.inr (.inl (some 100))), some (.inl v), some (.inr (.inl (some 3564))), none] [] _ _ Q
    simp (disch := first | assumption | exact p_c2i | exact p_c2r | exact p_c2n | omega | ((repeat (first | refine p_a1i.trans ?_ | refine p_a1r.trans ?_)); exact p_a10) | ((repeat (first | refine p_wI ?_ | refine p_wR ?_)); exact p_w0) | decide) only [reduceIte, Int.reduceLT, Int.reduceLE, Int.reduceEq, Int.reduceToNat, Int.reduceAdd, Int.reduceSub, Int.reduceMul, Int.reduceNeg, e245_13, e245_14, p_push, p_ret0, WN_nx, WN_nrt, WN_ite]
    exact K1 z1
  · rw [zK_v]
    have bb := bK0 z1
    obtain ⟨bb1, bb2⟩ := bb
    simp (disch := first | assumption | exact p_c2i | exact p_c2r | exact p_c2n | omega | ((repeat (first | refine p_a1i.trans ?_ | refine p_a1r.trans ?_)); exact p_a10) | ((repeat (first | refine p_wI ?_ | refine p_wR ?_)); exact p_w0) | decide) only [reduceIte, Int.reduceLT, Int.reduceLE, Int.reduceEq, Int.reduceToNat, Int.reduceAdd, Int.reduceSub, Int.reduceMul, Int.reduceNeg, e245_7, e245_8, e245_9, e245_12, e245_13, e245_14, e245_15, e245_16, p_i2l, p_last, p_goto, p_as3, p_c2n, p_c2i, p_c2r, p_push, p_ret0, WN_nx, WN_nrt, WN_ite]
    exact K0 z1 z2 z3
theorem t_fieldW {r c : Int} (hR : zSr σ 101 w) (ok : zSok N w) (hr : -2147483648 ≤ r ∧ r < 2147483648) (hc : -2147483648 ≤ c ∧ c < 2147483648) (bK0 : ((0 ≤ r ∧ r < 9) ∧ (0 ≤ c ∧ c < 9)) → zi3 ((fSize w (9 * r + c).toNat))) (K1 : ¬ ((0 ≤ r ∧ r < 9) ∧ (0 ≤ c ∧ c < 9)) → Q (.inl (some (.inl 1))) (3565, x + 1, zrho) σ) (K0 : ((0 ≤ r ∧ r < 9) ∧ (0 ≤ c ∧ c < 9)) → ∀ σ', zfq σ σ' → Q (.inl (some (.inl 0))) (3565, x, zrho) (zup σ' 3564 0 ((fSize w (9 * r + c).toNat)))) : WM 246 [.inr (.inl (some 100)), .inl r, .inl c, .inr (.inl (some 3564))] (3565, x, zrho) σ Q := by
  show Wp 246 0 [some (.inr (.inl (some 100))), some (.inl r), some (.inl c), some (.inr (.inl (some 3564))), none] [] _ _ Q
  have k64 := zo_k
  have n64 := zo_n
  simp (disch := first | assumption | exact p_c2i | exact p_c2r | exact p_c2n | omega | ((repeat (first | refine p_a1i.trans ?_ | refine p_a1r.trans ?_)); exact p_a10) | ((repeat (first | refine p_wI ?_ | refine p_wR ?_)); exact p_w0) | decide) only [reduceIte, Int.reduceLT, Int.reduceLE, Int.reduceEq, Int.reduceToNat, Int.reduceAdd, Int.reduceSub, Int.reduceMul, Int.reduceNeg, e246_0, e246_1, e246_2, e246_3, e246_4, e246_5, p_al3, p_push, p_al0, p_il1, p_il2, p_cv2_0, p_cv2_1, p_cv2_2, p_cv2_3, p_cv2_4, zK_v, zK_0, WN_ncl, WN_nx, WN_nrt, WN_ite]
  refine t_fieldC hR ok hr hc (fun z1 => ?_) (fun z1 z2 z3 => ?_)
  · have hz1 : zhnd 246 5 0 = some (4, 15) := by decide +kernel
    rw [zK_h (ls := [some (.inr (.inl (some 100))), some (.inl r), some (.inl c), some (.inr (.inl (some 3564))), none]) hz1 (show 4 < 5 from by decide) rfl]
    show Wp 246 15 [some (.inr (.inl (some 100))), some (.inl r), some (.inl c), some (.inr (.inl (some 3564))), none] [] _ _ Q
    simp (disch := first | assumption | exact p_c2i | exact p_c2r | exact p_c2n | omega | ((repeat (first | refine p_a1i.trans ?_ | refine p_a1r.trans ?_)); exact p_a10) | ((repeat (first | refine p_wI ?_ | refine p_wR ?_)); exact p_w0) | decide) only [reduceIte, Int.reduceLT, Int.reduceLE, Int.reduceEq, Int.reduceToNat, Int.reduceAdd, Int.reduceSub, Int.reduceMul, Int.reduceNeg, e246_15, e246_16, p_push, p_ret0, WN_nx, WN_nrt, WN_ite]
    exact K1 z1
  · rw [zK_v]
    have bb := bK0 z1
    obtain ⟨bb1, bb2⟩ := bb
    simp (disch := first | assumption | exact p_c2i | exact p_c2r | exact p_c2n | omega | ((repeat (first | refine p_a1i.trans ?_ | refine p_a1r.trans ?_)); exact p_a10) | ((repeat (first | refine p_wI ?_ | refine p_wR ?_)); exact p_w0) | decide) only [reduceIte, Int.reduceLT, Int.reduceLE, Int.reduceEq, Int.reduceToNat, Int.reduceAdd, Int.reduceSub, Int.reduceMul, Int.reduceNeg, e246_8, e246_9, e246_10, e246_13, e246_15, e246_16, e246_17, e246_18, p_i2l, p_last, p_goto, p_as4, p_c2n, p_c2i, p_c2r, p_push, p_ret0, WN_nx, WN_nrt, WN_ite]
    exact K0 z1 z2 z3
theorem t_greatestW {v : Int} (hR : zSr σ 101 w) (ok : zSok N w) (hv : -2147483648 ≤ v ∧ v < 2147483648) (bK0 : (0 ≤ v ∧ v ≤ 3) → zi3 ((fGreat w v 81))) (K1 : ¬ (0 ≤ v ∧ v ≤ 3) → Q (.inl (some (.inl 1))) (3565, x + 1, zrho) σ) (K0 : (0 ≤ v ∧ v ≤ 3) → ∀ σ', zfq σ σ' → Q (.inl (some (.inl 0))) (3565, x, zrho) (zup σ' 3564 0 ((fGreat w v 81)))) : WM 247 [.inr (.inl (some 100)), .inl v, .inr (.inl (some 3564))] (3565, x, zrho) σ Q := by
  show Wp 247 0 [some (.inr (.inl (some 100))), some (.inl v), some (.inr (.inl (some 3564))), none] [] _ _ Q
  have k64 := zo_k
  have n64 := zo_n
  simp (disch := first | assumption | exact p_c2i | exact p_c2r | exact p_c2n | omega | ((repeat (first | refine p_a1i.trans ?_ | refine p_a1r.trans ?_)); exact p_a10) | ((repeat (first | refine p_wI ?_ | refine p_wR ?_)); exact p_w0) | decide) only [reduceIte, Int.reduceLT, Int.reduceLE, Int.reduceEq, Int.reduceToNat, Int.reduceAdd, Int.reduceSub, Int.reduceMul, Int.reduceNeg, e247_0, e247_1, e247_2, e247_3, e247_4, p_al2, p_push, p_al0, p_il1, p_cv1_0, p_cv1_1, p_cv1_2, p_cv1_3, p_cv1_4, zK_v, zK_0, WN_ncl, WN_nx, WN_nrt, WN_ite]
  refine t_greatestC hR ok hv (fun z1 => ?_) (fun z1 z2 z3 => ?_)
  · have hz1 : zhnd 247 4 1 = some (3, 13) := by decide +kernel
    rw [zK_h (ls := [some (.inr (.inl (some 100))), some (.inl v), some (.inr (.inl (some 3564))), none]) hz1 (show 3 < 4 from by decide) rfl]
    show Wp 247 13 [some (.inr (.inl (some 100))), some (.inl v), some (.inr (.inl (some 3564))), none] [] _ _ Q
    simp (disch := first | assumption | exact p_c2i | exact p_c2r | exact p_c2n | omega | ((repeat (first | refine p_a1i.trans ?_ | refine p_a1r.trans ?_)); exact p_a10) | ((repeat (first | refine p_wI ?_ | refine p_wR ?_)); exact p_w0) | decide) only [reduceIte, Int.reduceLT, Int.reduceLE, Int.reduceEq, Int.reduceToNat, Int.reduceAdd, Int.reduceSub, Int.reduceMul, Int.reduceNeg, e247_13, e247_14, p_push, p_ret0, WN_nx, WN_nrt, WN_ite]
    exact K1 z1
  · rw [zK_v]
    have bb := bK0 z1
    obtain ⟨bb1, bb2⟩ := bb
    simp (disch := first | assumption | exact p_c2i | exact p_c2r | exact p_c2n | omega | ((repeat (first | refine p_a1i.trans ?_ | refine p_a1r.trans ?_)); exact p_a10) | ((repeat (first | refine p_wI ?_ | refine p_wR ?_)); exact p_w0) | decide) only [reduceIte, Int.reduceLT, Int.reduceLE, Int.reduceEq, Int.reduceToNat, Int.reduceAdd, Int.reduceSub, Int.reduceMul, Int.reduceNeg, e247_7, e247_8, e247_9, e247_12, e247_13, e247_14, e247_15, e247_16, p_i2l, p_last, p_goto, p_as3, p_c2n, p_c2i, p_c2r, p_push, p_ret0, WN_nx, WN_nrt, WN_ite]
    exact K0 z1 z2 z3
theorem t_willBeW {h v : Int} (hR : zSr σ 101 w) (ok : zSok N w) (hN : N ≤ 80000000) (hh : -2147483648 ≤ h ∧ h < 2147483648) (hv : -2147483648 ≤ v ∧ v < 2147483648) (bK0 : (0 ≤ h ∧ h < w 0) → (0 ≤ v ∧ v ≤ 200) → zi3 ((aIt v.toNat w (172 + 4 * h.toNat)))) (K1 : ¬ (0 ≤ h ∧ h < w 0) → Q (.inl (some (.inl 1))) (3565, x + 1, zrho) σ) (K2 : (0 ≤ h ∧ h < w 0) → ¬ (0 ≤ v ∧ v ≤ 200) → Q (.inl (some (.inl 2))) (3565, x + 1, zrho) σ) (K0 : (0 ≤ h ∧ h < w 0) → (0 ≤ v ∧ v ≤ 200) → ∀ σ', zfq σ σ' → Q (.inl (some (.inl 0))) (3565, x, zrho) (zup σ' 3564 0 ((aIt v.toNat w (172 + 4 * h.toNat))))) : WM 248 [.inr (.inl (some 100)), .inl h, .inl v, .inr (.inl (some 3564))] (3565, x, zrho) σ Q := by
  show Wp 248 0 [some (.inr (.inl (some 100))), some (.inl h), some (.inl v), some (.inr (.inl (some 3564))), none] [] _ _ Q
  have k64 := zo_k
  have n64 := zo_n
  simp (disch := first | assumption | exact p_c2i | exact p_c2r | exact p_c2n | omega | ((repeat (first | refine p_a1i.trans ?_ | refine p_a1r.trans ?_)); exact p_a10) | ((repeat (first | refine p_wI ?_ | refine p_wR ?_)); exact p_w0) | decide) only [reduceIte, Int.reduceLT, Int.reduceLE, Int.reduceEq, Int.reduceToNat, Int.reduceAdd, Int.reduceSub, Int.reduceMul, Int.reduceNeg, e248_0, e248_1, e248_2, e248_3, e248_4, e248_5, p_al3, p_push, p_al0, p_il1, p_il2, p_cv2_0, p_cv2_1, p_cv2_2, p_cv2_3, p_cv2_4, zK_v, zK_0, WN_ncl, WN_nx, WN_nrt, WN_ite]
  refine t_willBeC hR ok hN hh hv (fun z1 => ?_) (fun z1 z2 => ?_) (fun z1 z2 z3 z4 => ?_)
  · have hz1 : zhnd 248 5 0 = some (4, 15) := by decide +kernel
    rw [zK_h (ls := [some (.inr (.inl (some 100))), some (.inl h), some (.inl v), some (.inr (.inl (some 3564))), none]) hz1 (show 4 < 5 from by decide) rfl]
    show Wp 248 15 [some (.inr (.inl (some 100))), some (.inl h), some (.inl v), some (.inr (.inl (some 3564))), none] [] _ _ Q
    simp (disch := first | assumption | exact p_c2i | exact p_c2r | exact p_c2n | omega | ((repeat (first | refine p_a1i.trans ?_ | refine p_a1r.trans ?_)); exact p_a10) | ((repeat (first | refine p_wI ?_ | refine p_wR ?_)); exact p_w0) | decide) only [reduceIte, Int.reduceLT, Int.reduceLE, Int.reduceEq, Int.reduceToNat, Int.reduceAdd, Int.reduceSub, Int.reduceMul, Int.reduceNeg, e248_15, e248_16, p_push, p_ret0, WN_nx, WN_nrt, WN_ite]
    exact K1 z1
  · have hz2 : zhnd 248 5 1 = some (4, 19) := by decide +kernel
    rw [zK_h (ls := [some (.inr (.inl (some 100))), some (.inl h), some (.inl v), some (.inr (.inl (some 3564))), none]) hz2 (show 4 < 5 from by decide) rfl]
    show Wp 248 19 [some (.inr (.inl (some 100))), some (.inl h), some (.inl v), some (.inr (.inl (some 3564))), none] [] _ _ Q
    simp (disch := first | assumption | exact p_c2i | exact p_c2r | exact p_c2n | omega | ((repeat (first | refine p_a1i.trans ?_ | refine p_a1r.trans ?_)); exact p_a10) | ((repeat (first | refine p_wI ?_ | refine p_wR ?_)); exact p_w0) | decide) only [reduceIte, Int.reduceLT, Int.reduceLE, Int.reduceEq, Int.reduceToNat, Int.reduceAdd, Int.reduceSub, Int.reduceMul, Int.reduceNeg, e248_19, e248_20, p_push, p_ret0, WN_nx, WN_nrt, WN_ite]
    exact K2 z1 z2
  · rw [zK_v]
    have bb := bK0 z1 z2
    obtain ⟨bb1, bb2⟩ := bb
    simp (disch := first | assumption | exact p_c2i | exact p_c2r | exact p_c2n | omega | ((repeat (first | refine p_a1i.trans ?_ | refine p_a1r.trans ?_)); exact p_a10) | ((repeat (first | refine p_wI ?_ | refine p_wR ?_)); exact p_w0) | decide) only [reduceIte, Int.reduceLT, Int.reduceLE, Int.reduceEq, Int.reduceToNat, Int.reduceAdd, Int.reduceSub, Int.reduceMul, Int.reduceNeg, e248_8, e248_9, e248_10, e248_13, e248_15, e248_16, e248_17, e248_19, e248_20, e248_21, e248_22, p_i2l, p_last, p_goto, p_as4, p_c2n, p_c2i, p_c2r, p_push, p_ret0, WN_nx, WN_nrt, WN_ite]
    exact K0 z1 z2 z3 z4
theorem t_willMeetW {v : Int} (hR : zSr σ 101 w) (ok : zSok N w) (hN : N ≤ 80000000) (hv : -2147483648 ≤ v ∧ v < 2147483648) (bK0 : (0 ≤ v ∧ v ≤ 200) → zi3 ((aIt v.toNat w 5 - w 5))) (K1 : ¬ (0 ≤ v ∧ v ≤ 200) → Q (.inl (some (.inl 1))) (3565, x + 1, zrho) σ) (K0 : (0 ≤ v ∧ v ≤ 200) → ∀ σ', zfq σ σ' → Q (.inl (some (.inl 0))) (3565, x, zrho) (zup σ' 3564 0 ((aIt v.toNat w 5 - w 5)))) : WM 249 [.inr (.inl (some 100)), .inl v, .inr (.inl (some 3564))] (3565, x, zrho) σ Q := by
  show Wp 249 0 [some (.inr (.inl (some 100))), some (.inl v), some (.inr (.inl (some 3564))), none] [] _ _ Q
  have k64 := zo_k
  have n64 := zo_n
  simp (disch := first | assumption | exact p_c2i | exact p_c2r | exact p_c2n | omega | ((repeat (first | refine p_a1i.trans ?_ | refine p_a1r.trans ?_)); exact p_a10) | ((repeat (first | refine p_wI ?_ | refine p_wR ?_)); exact p_w0) | decide) only [reduceIte, Int.reduceLT, Int.reduceLE, Int.reduceEq, Int.reduceToNat, Int.reduceAdd, Int.reduceSub, Int.reduceMul, Int.reduceNeg, e249_0, e249_1, e249_2, e249_3, e249_4, p_al2, p_push, p_al0, p_il1, p_cv1_0, p_cv1_1, p_cv1_2, p_cv1_3, p_cv1_4, zK_v, zK_0, WN_ncl, WN_nx, WN_nrt, WN_ite]
  refine t_willMeetC hR ok hN hv (fun z1 => ?_) (fun z1 z2 z3 => ?_)
  · have hz1 : zhnd 249 4 1 = some (3, 13) := by decide +kernel
    rw [zK_h (ls := [some (.inr (.inl (some 100))), some (.inl v), some (.inr (.inl (some 3564))), none]) hz1 (show 3 < 4 from by decide) rfl]
    show Wp 249 13 [some (.inr (.inl (some 100))), some (.inl v), some (.inr (.inl (some 3564))), none] [] _ _ Q
    simp (disch := first | assumption | exact p_c2i | exact p_c2r | exact p_c2n | omega | ((repeat (first | refine p_a1i.trans ?_ | refine p_a1r.trans ?_)); exact p_a10) | ((repeat (first | refine p_wI ?_ | refine p_wR ?_)); exact p_w0) | decide) only [reduceIte, Int.reduceLT, Int.reduceLE, Int.reduceEq, Int.reduceToNat, Int.reduceAdd, Int.reduceSub, Int.reduceMul, Int.reduceNeg, e249_13, e249_14, p_push, p_ret0, WN_nx, WN_nrt, WN_ite]
    exact K1 z1
  · rw [zK_v]
    have bb := bK0 z1
    obtain ⟨bb1, bb2⟩ := bb
    simp (disch := first | assumption | exact p_c2i | exact p_c2r | exact p_c2n | omega | ((repeat (first | refine p_a1i.trans ?_ | refine p_a1r.trans ?_)); exact p_a10) | ((repeat (first | refine p_wI ?_ | refine p_wR ?_)); exact p_w0) | decide) only [reduceIte, Int.reduceLT, Int.reduceLE, Int.reduceEq, Int.reduceToNat, Int.reduceAdd, Int.reduceSub, Int.reduceMul, Int.reduceNeg, e249_7, e249_8, e249_9, e249_12, e249_13, e249_14, e249_15, e249_16, p_i2l, p_last, p_goto, p_as3, p_c2n, p_c2i, p_c2r, p_push, p_ret0, WN_nx, WN_nrt, WN_ite]
    exact K0 z1 z2 z3
theorem t_meetInW (hR : zSr σ 101 w) (ok : zSok N w) (hN : N ≤ 80000000) (bK0 : aFst (fun k => decide (aIt k w 5 ≠ w 5)) 1 200 ≠ 0 → zi3 (((aFst (fun k => decide (aIt k w 5 ≠ w 5)) 1 200 : Nat) : Int))) (K1 : aFst (fun k => decide (aIt k w 5 ≠ w 5)) 1 200 = 0 → ∀ σ', zfq σ σ' → Q (.inl (some (.inl 1))) (3565, x + 1, zrho) σ') (K0 : aFst (fun k => decide (aIt k w 5 ≠ w 5)) 1 200 ≠ 0 → ∀ σ', zfq σ σ' → Q (.inl (some (.inl 0))) (3565, x, zrho) (zup σ' 3564 0 (((aFst (fun k => decide (aIt k w 5 ≠ w 5)) 1 200 : Nat) : Int)))) : WM 250 [.inr (.inl (some 100)), .inr (.inl (some 3564))] (3565, x, zrho) σ Q := by
  show Wp 250 0 [some (.inr (.inl (some 100))), some (.inr (.inl (some 3564))), none] [] _ _ Q
  have k64 := zo_k
  have n64 := zo_n
  simp (disch := first | assumption | exact p_c2i | exact p_c2r | exact p_c2n | omega | ((repeat (first | refine p_a1i.trans ?_ | refine p_a1r.trans ?_)); exact p_a10) | ((repeat (first | refine p_wI ?_ | refine p_wR ?_)); exact p_w0) | decide) only [reduceIte, Int.reduceLT, Int.reduceLE, Int.reduceEq, Int.reduceToNat, Int.reduceAdd, Int.reduceSub, Int.reduceMul, Int.reduceNeg, e250_0, e250_1, e250_2, e250_3, p_al1, p_push, p_al0, p_cv0_0, p_cv0_1, p_cv0_2, p_cv0_3, p_cv0_4, zK_v, zK_0, WN_ncl, WN_nx, WN_nrt, WN_ite]
  refine t_meetInC hR ok hN (fun z1 z2 z3 => ?_) (fun z1 z2 z3 => ?_)
  · have hz1 : zhnd 250 3 3 = some (2, 12) := by decide +kernel
    rw [zK_h (ls := [some (.inr (.inl (some 100))), some (.inr (.inl (some 3564))), none]) hz1 (show 2 < 3 from by decide) rfl]
    show Wp 250 12 [some (.inr (.inl (some 100))), some (.inr (.inl (some 3564))), none] [] _ _ Q
    simp (disch := first | assumption | exact p_c2i | exact p_c2r | exact p_c2n | omega | ((repeat (first | refine p_a1i.trans ?_ | refine p_a1r.trans ?_)); exact p_a10) | ((repeat (first | refine p_wI ?_ | refine p_wR ?_)); exact p_w0) | decide) only [reduceIte, Int.reduceLT, Int.reduceLE, Int.reduceEq, Int.reduceToNat, Int.reduceAdd, Int.reduceSub, Int.reduceMul, Int.reduceNeg, e250_12, e250_13, p_push, p_ret0, WN_nx, WN_nrt, WN_ite]
    exact K1 z1 z2 z3
  · rw [zK_v]
    have bb := bK0 z1
    obtain ⟨bb1, bb2⟩ := bb
    simp (disch := first | assumption | exact p_c2i | exact p_c2r | exact p_c2n | omega | ((repeat (first | refine p_a1i.trans ?_ | refine p_a1r.trans ?_)); exact p_a10) | ((repeat (first | refine p_wI ?_ | refine p_wR ?_)); exact p_w0) | decide) only [reduceIte, Int.reduceLT, Int.reduceLE, Int.reduceEq, Int.reduceToNat, Int.reduceAdd, Int.reduceSub, Int.reduceMul, Int.reduceNeg, e250_6, e250_7, e250_8, e250_11, e250_12, e250_13, e250_14, e250_15, p_i2l, p_last, p_goto, p_as2, p_c2n, p_c2i, p_c2r, p_push, p_ret0, WN_nx, WN_nrt, WN_ite]
    exact K0 z1 z2 z3
theorem t_isBackInW {h : Int} (hR : zSr σ 101 w) (ok : zSok N w) (hN : N ≤ 80000000) (hh : -2147483648 ≤ h ∧ h < 2147483648) (bK0 : (0 ≤ h ∧ h < w 0) → aFst (fun k => decide (aIt k w (172 + 4 * h.toNat) = w (172 + 4 * h.toNat))) 1 200 ≠ 0 → zi3 (((aFst (fun k => decide (aIt k w (172 + 4 * h.toNat) = w (172 + 4 * h.toNat))) 1 200 : Nat) : Int))) (K2 : ¬ (0 ≤ h ∧ h < w 0) → Q (.inl (some (.inl 1))) (3565, x + 1, zrho) σ) (K1 : (0 ≤ h ∧ h < w 0) → aFst (fun k => decide (aIt k w (172 + 4 * h.toNat) = w (172 + 4 * h.toNat))) 1 200 = 0 → ∀ σ', zfq σ σ' → Q (.inl (some (.inl 2))) (3565, x + 1, zrho) σ') (K0 : (0 ≤ h ∧ h < w 0) → aFst (fun k => decide (aIt k w (172 + 4 * h.toNat) = w (172 + 4 * h.toNat))) 1 200 ≠ 0 → ∀ σ', zfq σ σ' → Q (.inl (some (.inl 0))) (3565, x, zrho) (zup σ' 3564 0 (((aFst (fun k => decide (aIt k w (172 + 4 * h.toNat) = w (172 + 4 * h.toNat))) 1 200 : Nat) : Int)))) : WM 251 [.inr (.inl (some 100)), .inl h, .inr (.inl (some 3564))] (3565, x, zrho) σ Q := by
  show Wp 251 0 [some (.inr (.inl (some 100))), some (.inl h), some (.inr (.inl (some 3564))), none] [] _ _ Q
  have k64 := zo_k
  have n64 := zo_n
  simp (disch := first | assumption | exact p_c2i | exact p_c2r | exact p_c2n | omega | ((repeat (first | refine p_a1i.trans ?_ | refine p_a1r.trans ?_)); exact p_a10) | ((repeat (first | refine p_wI ?_ | refine p_wR ?_)); exact p_w0) | decide) only [reduceIte, Int.reduceLT, Int.reduceLE, Int.reduceEq, Int.reduceToNat, Int.reduceAdd, Int.reduceSub, Int.reduceMul, Int.reduceNeg, e251_0, e251_1, e251_2, e251_3, e251_4, p_al2, p_push, p_al0, p_il1, p_cv1_0, p_cv1_1, p_cv1_2, p_cv1_3, p_cv1_4, zK_v, zK_0, WN_ncl, WN_nx, WN_nrt, WN_ite]
  refine t_isBackC hR ok hN hh (fun z1 => ?_) (fun z1 z2 z3 z4 => ?_) (fun z1 z2 z3 z4 => ?_)
  · have hz1 : zhnd 251 4 0 = some (3, 13) := by decide +kernel
    rw [zK_h (ls := [some (.inr (.inl (some 100))), some (.inl h), some (.inr (.inl (some 3564))), none]) hz1 (show 3 < 4 from by decide) rfl]
    show Wp 251 13 [some (.inr (.inl (some 100))), some (.inl h), some (.inr (.inl (some 3564))), none] [] _ _ Q
    simp (disch := first | assumption | exact p_c2i | exact p_c2r | exact p_c2n | omega | ((repeat (first | refine p_a1i.trans ?_ | refine p_a1r.trans ?_)); exact p_a10) | ((repeat (first | refine p_wI ?_ | refine p_wR ?_)); exact p_w0) | decide) only [reduceIte, Int.reduceLT, Int.reduceLE, Int.reduceEq, Int.reduceToNat, Int.reduceAdd, Int.reduceSub, Int.reduceMul, Int.reduceNeg, e251_13, e251_14, p_push, p_ret0, WN_nx, WN_nrt, WN_ite]
    exact K2 z1
  · have hz2 : zhnd 251 4 3 = some (3, 16) := by decide +kernel
    rw [zK_h (ls := [some (.inr (.inl (some 100))), some (.inl h), some (.inr (.inl (some 3564))), none]) hz2 (show 3 < 4 from by decide) rfl]
    show Wp 251 16 [some (.inr (.inl (some 100))), some (.inl h), some (.inr (.inl (some 3564))), none] [] _ _ Q
    simp (disch := first | assumption | exact p_c2i | exact p_c2r | exact p_c2n | omega | ((repeat (first | refine p_a1i.trans ?_ | refine p_a1r.trans ?_)); exact p_a10) | ((repeat (first | refine p_wI ?_ | refine p_wR ?_)); exact p_w0) | decide) only [reduceIte, Int.reduceLT, Int.reduceLE, Int.reduceEq, Int.reduceToNat, Int.reduceAdd, Int.reduceSub, Int.reduceMul, Int.reduceNeg, e251_16, e251_17, p_push, p_ret0, WN_nx, WN_nrt, WN_ite]
    exact K1 z1 z2 z3 z4
  · rw [zK_v]
    have bb := bK0 z1 z2
    obtain ⟨bb1, bb2⟩ := bb
    simp (disch := first | assumption | exact p_c2i | exact p_c2r | exact p_c2n | omega | ((repeat (first | refine p_a1i.trans ?_ | refine p_a1r.trans ?_)); exact p_a10) | ((repeat (first | refine p_wI ?_ | refine p_wR ?_)); exact p_w0) | decide) only [reduceIte, Int.reduceLT, Int.reduceLE, Int.reduceEq, Int.reduceToNat, Int.reduceAdd, Int.reduceSub, Int.reduceMul, Int.reduceNeg, e251_7, e251_8, e251_9, e251_12, e251_13, e251_14, e251_15, e251_16, e251_17, e251_18, e251_19, p_i2l, p_last, p_goto, p_as3, p_c2n, p_c2i, p_c2r, p_push, p_ret0, WN_nx, WN_nrt, WN_ite]
    exact K0 z1 z2 z3 z4
theorem t_highwayW {h : Int} (hR : zSr σ 101 w) (ok : zSok N w) (hN : N ≤ 80000000) (hh : -2147483648 ≤ h ∧ h < 2147483648) (bK0 : (0 ≤ h ∧ h < w 0) → aFst (aPer (aTr w h.toNat)) 1 40 ≠ 0 → zi3 (((aFst (aPer (aTr w h.toNat)) 1 40 : Nat) : Int))) (K2 : ¬ (0 ≤ h ∧ h < w 0) → Q (.inl (some (.inl 1))) (3565, x + 1, zrho) σ) (K1 : (0 ≤ h ∧ h < w 0) → aFst (aPer (aTr w h.toNat)) 1 40 = 0 → ∀ σ', zfq σ σ' → Q (.inl (some (.inl 2))) (3565, x + 1, zrho) σ') (K0 : (0 ≤ h ∧ h < w 0) → aFst (aPer (aTr w h.toNat)) 1 40 ≠ 0 → ∀ σ', zfq σ σ' → Q (.inl (some (.inl 0))) (3565, x, zrho) (zup σ' 3564 0 (((aFst (aPer (aTr w h.toNat)) 1 40 : Nat) : Int)))) : WM 252 [.inr (.inl (some 100)), .inl h, .inr (.inl (some 3564))] (3565, x, zrho) σ Q := by
  show Wp 252 0 [some (.inr (.inl (some 100))), some (.inl h), some (.inr (.inl (some 3564))), none] [] _ _ Q
  have k64 := zo_k
  have n64 := zo_n
  simp (disch := first | assumption | exact p_c2i | exact p_c2r | exact p_c2n | omega | ((repeat (first | refine p_a1i.trans ?_ | refine p_a1r.trans ?_)); exact p_a10) | ((repeat (first | refine p_wI ?_ | refine p_wR ?_)); exact p_w0) | decide) only [reduceIte, Int.reduceLT, Int.reduceLE, Int.reduceEq, Int.reduceToNat, Int.reduceAdd, Int.reduceSub, Int.reduceMul, Int.reduceNeg, e252_0, e252_1, e252_2, e252_3, e252_4, p_al2, p_push, p_al0, p_il1, p_cv1_0, p_cv1_1, p_cv1_2, p_cv1_3, p_cv1_4, zK_v, zK_0, WN_ncl, WN_nx, WN_nrt, WN_ite]
  refine t_highwayC hR ok hN hh (fun z1 => ?_) (fun z1 z2 z3 z4 => ?_) (fun z1 z2 z3 z4 => ?_)
  · have hz1 : zhnd 252 4 0 = some (3, 13) := by decide +kernel
    rw [zK_h (ls := [some (.inr (.inl (some 100))), some (.inl h), some (.inr (.inl (some 3564))), none]) hz1 (show 3 < 4 from by decide) rfl]
    show Wp 252 13 [some (.inr (.inl (some 100))), some (.inl h), some (.inr (.inl (some 3564))), none] [] _ _ Q
    simp (disch := first | assumption | exact p_c2i | exact p_c2r | exact p_c2n | omega | ((repeat (first | refine p_a1i.trans ?_ | refine p_a1r.trans ?_)); exact p_a10) | ((repeat (first | refine p_wI ?_ | refine p_wR ?_)); exact p_w0) | decide) only [reduceIte, Int.reduceLT, Int.reduceLE, Int.reduceEq, Int.reduceToNat, Int.reduceAdd, Int.reduceSub, Int.reduceMul, Int.reduceNeg, e252_13, e252_14, p_push, p_ret0, WN_nx, WN_nrt, WN_ite]
    exact K2 z1
  · have hz2 : zhnd 252 4 3 = some (3, 16) := by decide +kernel
    rw [zK_h (ls := [some (.inr (.inl (some 100))), some (.inl h), some (.inr (.inl (some 3564))), none]) hz2 (show 3 < 4 from by decide) rfl]
    show Wp 252 16 [some (.inr (.inl (some 100))), some (.inl h), some (.inr (.inl (some 3564))), none] [] _ _ Q
    simp (disch := first | assumption | exact p_c2i | exact p_c2r | exact p_c2n | omega | ((repeat (first | refine p_a1i.trans ?_ | refine p_a1r.trans ?_)); exact p_a10) | ((repeat (first | refine p_wI ?_ | refine p_wR ?_)); exact p_w0) | decide) only [reduceIte, Int.reduceLT, Int.reduceLE, Int.reduceEq, Int.reduceToNat, Int.reduceAdd, Int.reduceSub, Int.reduceMul, Int.reduceNeg, e252_16, e252_17, p_push, p_ret0, WN_nx, WN_nrt, WN_ite]
    exact K1 z1 z2 z3 z4
  · rw [zK_v]
    have bb := bK0 z1 z2
    obtain ⟨bb1, bb2⟩ := bb
    simp (disch := first | assumption | exact p_c2i | exact p_c2r | exact p_c2n | omega | ((repeat (first | refine p_a1i.trans ?_ | refine p_a1r.trans ?_)); exact p_a10) | ((repeat (first | refine p_wI ?_ | refine p_wR ?_)); exact p_w0) | decide) only [reduceIte, Int.reduceLT, Int.reduceLE, Int.reduceEq, Int.reduceToNat, Int.reduceAdd, Int.reduceSub, Int.reduceMul, Int.reduceNeg, e252_7, e252_8, e252_9, e252_12, e252_13, e252_14, e252_15, e252_16, e252_17, e252_18, e252_19, p_i2l, p_last, p_goto, p_as3, p_c2n, p_c2i, p_c2r, p_push, p_ret0, WN_nx, WN_nrt, WN_ite]
    exact K0 z1 z2 z3 z4
theorem t_rankedW {p : Int} (hR : zSr σ 101 w) (ok : zSok N w) (hN : N ≤ 100000000) (hp : -2147483648 ≤ p ∧ p < 2147483648) (bK0 : (0 ≤ p ∧ p < w 0) → zi3 ((aRanked w p))) (K1 : ¬ (0 ≤ p ∧ p < w 0) → Q (.inl (some (.inl 1))) (3565, x + 1, zrho) σ) (K0 : (0 ≤ p ∧ p < w 0) → ∀ σ', zfq σ σ' → Q (.inl (some (.inl 0))) (3565, x, zrho) (zup σ' 3564 0 ((aRanked w p)))) : WM 253 [.inr (.inl (some 100)), .inl p, .inr (.inl (some 3564))] (3565, x, zrho) σ Q := by
  show Wp 253 0 [some (.inr (.inl (some 100))), some (.inl p), some (.inr (.inl (some 3564))), none] [] _ _ Q
  have k64 := zo_k
  have n64 := zo_n
  simp (disch := first | assumption | exact p_c2i | exact p_c2r | exact p_c2n | omega | ((repeat (first | refine p_a1i.trans ?_ | refine p_a1r.trans ?_)); exact p_a10) | ((repeat (first | refine p_wI ?_ | refine p_wR ?_)); exact p_w0) | decide) only [reduceIte, Int.reduceLT, Int.reduceLE, Int.reduceEq, Int.reduceToNat, Int.reduceAdd, Int.reduceSub, Int.reduceMul, Int.reduceNeg, e253_0, e253_1, e253_2, e253_3, e253_4, p_al2, p_push, p_al0, p_il1, p_cv1_0, p_cv1_1, p_cv1_2, p_cv1_3, p_cv1_4, zK_v, zK_0, WN_ncl, WN_nx, WN_nrt, WN_ite]
  refine t_rankedC hR ok hN hp (fun z1 => ?_) (fun z1 z2 z3 => ?_)
  · have hz1 : zhnd 253 4 3 = some (3, 13) := by decide +kernel
    rw [zK_h (ls := [some (.inr (.inl (some 100))), some (.inl p), some (.inr (.inl (some 3564))), none]) hz1 (show 3 < 4 from by decide) rfl]
    show Wp 253 13 [some (.inr (.inl (some 100))), some (.inl p), some (.inr (.inl (some 3564))), none] [] _ _ Q
    simp (disch := first | assumption | exact p_c2i | exact p_c2r | exact p_c2n | omega | ((repeat (first | refine p_a1i.trans ?_ | refine p_a1r.trans ?_)); exact p_a10) | ((repeat (first | refine p_wI ?_ | refine p_wR ?_)); exact p_w0) | decide) only [reduceIte, Int.reduceLT, Int.reduceLE, Int.reduceEq, Int.reduceToNat, Int.reduceAdd, Int.reduceSub, Int.reduceMul, Int.reduceNeg, e253_13, e253_14, p_push, p_ret0, WN_nx, WN_nrt, WN_ite]
    exact K1 z1
  · rw [zK_v]
    have bb := bK0 z1
    obtain ⟨bb1, bb2⟩ := bb
    simp (disch := first | assumption | exact p_c2i | exact p_c2r | exact p_c2n | omega | ((repeat (first | refine p_a1i.trans ?_ | refine p_a1r.trans ?_)); exact p_a10) | ((repeat (first | refine p_wI ?_ | refine p_wR ?_)); exact p_w0) | decide) only [reduceIte, Int.reduceLT, Int.reduceLE, Int.reduceEq, Int.reduceToNat, Int.reduceAdd, Int.reduceSub, Int.reduceMul, Int.reduceNeg, e253_7, e253_8, e253_9, e253_12, e253_13, e253_14, e253_15, e253_16, p_i2l, p_last, p_goto, p_as3, p_c2n, p_c2i, p_c2r, p_push, p_ret0, WN_nx, WN_nrt, WN_ite]
    exact K0 z1 z2 z3
theorem t_rowLineW {r : Int} (hR : zSr σ 101 w) (ok : zSok N w) (hr : -2147483648 ≤ r ∧ r < 2147483648) (bK0 : (0 ≤ r ∧ r ≤ 8) → zi3 (9)) (K1 : ¬ (0 ≤ r ∧ r ≤ 8) → Q (.inl (some (.inl 1))) (3565, x + 1, zrho) σ) (K0 : (0 ≤ r ∧ r ≤ 8) → ∀ σ', zLnC σ σ' 9 (fun k => aSign w (9 * r.toNat + k)) → Q (.inl (some (.inl 0))) (3565, x, zrho) (zup σ' 3564 0 (9))) : WM 254 [.inr (.inl (some 100)), .inl r, .inr (.inl (some 3564))] (3565, x, zrho) σ Q := by
  show Wp 254 0 [some (.inr (.inl (some 100))), some (.inl r), some (.inr (.inl (some 3564))), none] [] _ _ Q
  have k64 := zo_k
  have n64 := zo_n
  simp (disch := first | assumption | exact p_c2i | exact p_c2r | exact p_c2n | omega | ((repeat (first | refine p_a1i.trans ?_ | refine p_a1r.trans ?_)); exact p_a10) | ((repeat (first | refine p_wI ?_ | refine p_wR ?_)); exact p_w0) | decide) only [reduceIte, Int.reduceLT, Int.reduceLE, Int.reduceEq, Int.reduceToNat, Int.reduceAdd, Int.reduceSub, Int.reduceMul, Int.reduceNeg, e254_0, e254_1, e254_2, e254_3, e254_4, p_al2, p_push, p_al0, p_il1, p_cv1_0, p_cv1_1, p_cv1_2, p_cv1_3, p_cv1_4, zK_v, zK_0, WN_ncl, WN_nx, WN_nrt, WN_ite]
  refine t_rowLineC hR ok hr (fun z1 => ?_) (fun z1 z2 z3 => ?_)
  · have hz1 : zhnd 254 4 0 = some (3, 13) := by decide +kernel
    rw [zK_h (ls := [some (.inr (.inl (some 100))), some (.inl r), some (.inr (.inl (some 3564))), none]) hz1 (show 3 < 4 from by decide) rfl]
    show Wp 254 13 [some (.inr (.inl (some 100))), some (.inl r), some (.inr (.inl (some 3564))), none] [] _ _ Q
    simp (disch := first | assumption | exact p_c2i | exact p_c2r | exact p_c2n | omega | ((repeat (first | refine p_a1i.trans ?_ | refine p_a1r.trans ?_)); exact p_a10) | ((repeat (first | refine p_wI ?_ | refine p_wR ?_)); exact p_w0) | decide) only [reduceIte, Int.reduceLT, Int.reduceLE, Int.reduceEq, Int.reduceToNat, Int.reduceAdd, Int.reduceSub, Int.reduceMul, Int.reduceNeg, e254_13, e254_14, p_push, p_ret0, WN_nx, WN_nrt, WN_ite]
    exact K1 z1
  · rw [zK_v]
    have bb := bK0 z1
    obtain ⟨bb1, bb2⟩ := bb
    simp (disch := first | assumption | exact p_c2i | exact p_c2r | exact p_c2n | omega | ((repeat (first | refine p_a1i.trans ?_ | refine p_a1r.trans ?_)); exact p_a10) | ((repeat (first | refine p_wI ?_ | refine p_wR ?_)); exact p_w0) | decide) only [reduceIte, Int.reduceLT, Int.reduceLE, Int.reduceEq, Int.reduceToNat, Int.reduceAdd, Int.reduceSub, Int.reduceMul, Int.reduceNeg, e254_7, e254_8, e254_9, e254_12, e254_13, e254_14, e254_15, e254_16, p_i2l, p_last, p_goto, p_as3, p_c2n, p_c2i, p_c2r, p_push, p_ret0, WN_nx, WN_nrt, WN_ite]
    exact K0 z1 z2 z3
theorem t_characterW {p : Int} {m : Nat} {f : Nat → Int} (hp : -2147483648 ≤ p ∧ p < 2147483648) (hm : m ≤ 9) (h1 : σ 100 11 = (m : Int)) (h2 : ∀ k, k < m → σ 3552 k = f k ∧ 0 ≤ f k ∧ f k < 65536) (bK0 : (0 ≤ p ∧ p < (m : Int)) → zi3 ((f p.toNat))) (K1 : ¬ (0 ≤ p ∧ p < (m : Int)) → Q (.inl (some (.inl 1))) (3565, x + 1, zrho) σ) (K0 : (0 ≤ p ∧ p < (m : Int)) → ∀ σ', zfq σ σ' → Q (.inl (some (.inl 0))) (3565, x, zrho) (zup σ' 3564 0 ((f p.toNat)))) : WM 255 [.inr (.inl (some 100)), .inl p, .inr (.inl (some 3564))] (3565, x, zrho) σ Q := by
  show Wp 255 0 [some (.inr (.inl (some 100))), some (.inl p), some (.inr (.inl (some 3564))), none] [] _ _ Q
  have k64 := zo_k
  have n64 := zo_n
  simp (disch := first | assumption | exact p_c2i | exact p_c2r | exact p_c2n | omega | ((repeat (first | refine p_a1i.trans ?_ | refine p_a1r.trans ?_)); exact p_a10) | ((repeat (first | refine p_wI ?_ | refine p_wR ?_)); exact p_w0) | decide) only [reduceIte, Int.reduceLT, Int.reduceLE, Int.reduceEq, Int.reduceToNat, Int.reduceAdd, Int.reduceSub, Int.reduceMul, Int.reduceNeg, e255_0, e255_1, e255_2, e255_3, e255_4, p_al2, p_push, p_al0, p_il1, p_cv1_0, p_cv1_1, p_cv1_2, p_cv1_3, p_cv1_4, zK_v, zK_0, WN_ncl, WN_nx, WN_nrt, WN_ite]
  refine t_charC hp hm h1 h2 (fun z1 => ?_) (fun z1 z2 z3 => ?_)
  · have hz1 : zhnd 255 4 0 = some (3, 13) := by decide +kernel
    rw [zK_h (ls := [some (.inr (.inl (some 100))), some (.inl p), some (.inr (.inl (some 3564))), none]) hz1 (show 3 < 4 from by decide) rfl]
    show Wp 255 13 [some (.inr (.inl (some 100))), some (.inl p), some (.inr (.inl (some 3564))), none] [] _ _ Q
    simp (disch := first | assumption | exact p_c2i | exact p_c2r | exact p_c2n | omega | ((repeat (first | refine p_a1i.trans ?_ | refine p_a1r.trans ?_)); exact p_a10) | ((repeat (first | refine p_wI ?_ | refine p_wR ?_)); exact p_w0) | decide) only [reduceIte, Int.reduceLT, Int.reduceLE, Int.reduceEq, Int.reduceToNat, Int.reduceAdd, Int.reduceSub, Int.reduceMul, Int.reduceNeg, e255_13, e255_14, p_push, p_ret0, WN_nx, WN_nrt, WN_ite]
    exact K1 z1
  · rw [zK_v]
    have bb := bK0 z1
    obtain ⟨bb1, bb2⟩ := bb
    simp (disch := first | assumption | exact p_c2i | exact p_c2r | exact p_c2n | omega | ((repeat (first | refine p_a1i.trans ?_ | refine p_a1r.trans ?_)); exact p_a10) | ((repeat (first | refine p_wI ?_ | refine p_wR ?_)); exact p_w0) | decide) only [reduceIte, Int.reduceLT, Int.reduceLE, Int.reduceEq, Int.reduceToNat, Int.reduceAdd, Int.reduceSub, Int.reduceMul, Int.reduceNeg, e255_7, e255_8, e255_9, e255_12, e255_13, e255_14, e255_15, e255_16, p_i2l, p_last, p_goto, p_as3, p_c2n, p_c2i, p_c2r, p_push, p_ret0, WN_nx, WN_nrt, WN_ite]
    exact K0 z1 z2 z3
theorem t_appendW (hs : zTt ts tl) (hT : zTc σ ts tl) (hc : 0 ≤ c ∧ c < 65536) (bK0 : tl < 60 → zi3 (((tl : Int) + 1))) (K1 : tl = 60 → Q (.inl (some (.inl 1))) (3565, x + 1, zrho) σ) (K0 : tl < 60 → ∀ σ', zTc σ' (wu ts tl c) (tl + 1) → (∀ a, a ≠ 3550 → a ≠ 3551 → σ' a = σ a) → Q (.inl (some (.inl 0))) (3565, x, zrho) (zup σ' 3564 0 (((tl : Int) + 1)))) : WM 256 [.inr (.inl (some 100)), .inl c, .inr (.inl (some 3564))] (3565, x, zrho) σ Q := by
  show Wp 256 0 [some (.inr (.inl (some 100))), some (.inl c), some (.inr (.inl (some 3564))), none] [] _ _ Q
  have k64 := zo_k
  have n64 := zo_n
  simp (disch := first | assumption | exact p_c2i | exact p_c2r | exact p_c2n | omega | ((repeat (first | refine p_a1i.trans ?_ | refine p_a1r.trans ?_)); exact p_a10) | ((repeat (first | refine p_wI ?_ | refine p_wR ?_)); exact p_w0) | decide) only [reduceIte, Int.reduceLT, Int.reduceLE, Int.reduceEq, Int.reduceToNat, Int.reduceAdd, Int.reduceSub, Int.reduceMul, Int.reduceNeg, e256_0, e256_1, e256_2, e256_3, e256_4, p_al2, p_push, p_al0, p_il1, p_cv1_0, p_cv1_1, p_cv1_2, p_cv1_3, p_cv1_4, zK_v, zK_0, WN_ncl, WN_nx, WN_nrt, WN_ite]
  refine t_appendC hs hT hc (fun z1 => ?_) (fun z1 z2 z3 z4 => ?_)
  · have hz1 : zhnd 256 4 4 = some (3, 13) := by decide +kernel
    rw [zK_h (ls := [some (.inr (.inl (some 100))), some (.inl c), some (.inr (.inl (some 3564))), none]) hz1 (show 3 < 4 from by decide) rfl]
    show Wp 256 13 [some (.inr (.inl (some 100))), some (.inl c), some (.inr (.inl (some 3564))), none] [] _ _ Q
    simp (disch := first | assumption | exact p_c2i | exact p_c2r | exact p_c2n | omega | ((repeat (first | refine p_a1i.trans ?_ | refine p_a1r.trans ?_)); exact p_a10) | ((repeat (first | refine p_wI ?_ | refine p_wR ?_)); exact p_w0) | decide) only [reduceIte, Int.reduceLT, Int.reduceLE, Int.reduceEq, Int.reduceToNat, Int.reduceAdd, Int.reduceSub, Int.reduceMul, Int.reduceNeg, e256_13, e256_14, p_push, p_ret0, WN_nx, WN_nrt, WN_ite]
    exact K1 z1
  · rw [zK_v]
    have bb := bK0 z1
    obtain ⟨bb1, bb2⟩ := bb
    simp (disch := first | assumption | exact p_c2i | exact p_c2r | exact p_c2n | omega | ((repeat (first | refine p_a1i.trans ?_ | refine p_a1r.trans ?_)); exact p_a10) | ((repeat (first | refine p_wI ?_ | refine p_wR ?_)); exact p_w0) | decide) only [reduceIte, Int.reduceLT, Int.reduceLE, Int.reduceEq, Int.reduceToNat, Int.reduceAdd, Int.reduceSub, Int.reduceMul, Int.reduceNeg, e256_7, e256_8, e256_9, e256_12, e256_13, e256_14, e256_15, e256_16, p_i2l, p_last, p_goto, p_as3, p_c2n, p_c2i, p_c2r, p_push, p_ret0, WN_nx, WN_nrt, WN_ite]
    exact K0 z1 z2 z3 z4
theorem t_runW (hs : zTt ts tl) (hT : zTc σ ts tl) (hx : zTx σ) (hR : zSr σ 101 w) (ok : zSok N w) (hN0 : 0 ≤ N) (hN : N ≤ 70000000) (hC : zCr σ kp n) (hn : n ≤ 8) (hP : fO ts tl 61 0 = -1 → ∃ M, zPar ts tl M ∧ M ≤ 31) (hF : fO ts tl 61 0 = -1 ∨ (0 ≤ fO ts tl 61 0 ∧ fO ts tl 61 0 ≤ 100)) (bK0 : fO ts tl 61 0 = -1 → ∀ M, zPar ts tl M → M ≤ 31 → fF (rP ts tl w) 0 M = M → zi3 ((M : Int))) (KE : 0 ≤ fO ts tl 61 0 → Q (.inl (some (.inl 1))) (3565, x + 1, zrho) (zup (zup σ 100 9 (fO ts tl 61 0)) 3550 1 0)) (KF : fO ts tl 61 0 = -1 → ∀ M, zPar ts tl M → M ≤ 31 → ∀ (E : Nat) (m : Nat), m < M → fF (rP ts tl w) 0 M = m → rP ts tl w m = true → (E = if cFo (sA ts tl (sO ts tl m)) (qO ts tl (rA ts tl w m) (sO ts tl m)) = 3 then 2 else 1) → ∀ σ', zRf σ σ' w (qO ts tl (rA ts tl w m) (sO ts tl m)) (-1) → Q (.inl (some (.inl (E : Int)))) (3565, x + 1, zrho) σ') (K0 : fO ts tl 61 0 = -1 → ∀ M, zPar ts tl M → M ≤ 31 → fF (rP ts tl w) 0 M = M → ∀ σ', zSr σ' 101 (rA ts tl w M) → zCr σ' (aPushK kp n w) (aPushN n) → σ' 3550 1 = 0 → σ' 100 9 = -1 → (∀ k, k ≠ 9 → σ' 100 k = σ 100 k) → (∀ a, a ≠ 100 → a ≠ 3550 → (a < 101 ∨ (725 ≤ a ∧ a < 1037) ∨ 3535 ≤ a) → σ' a = σ a) → Q (.inl (some (.inl 0))) (3565, x, zrho) (zup σ' 3564 0 ((M : Int)))) : WM 257 [.inr (.inl (some 100)), .inr (.inl (some 3564))] (3565, x, zrho) σ Q := by
  show Wp 257 0 [some (.inr (.inl (some 100))), some (.inr (.inl (some 3564))), none] [] _ _ Q
  have k64 := zo_k
  have n64 := zo_n
  simp (disch := first | assumption | exact p_c2i | exact p_c2r | exact p_c2n | omega | ((repeat (first | refine p_a1i.trans ?_ | refine p_a1r.trans ?_)); exact p_a10) | ((repeat (first | refine p_wI ?_ | refine p_wR ?_)); exact p_w0) | decide) only [reduceIte, Int.reduceLT, Int.reduceLE, Int.reduceEq, Int.reduceToNat, Int.reduceAdd, Int.reduceSub, Int.reduceMul, Int.reduceNeg, e257_0, e257_1, e257_2, e257_3, p_al1, p_push, p_al0, p_cv0_0, p_cv0_1, p_cv0_2, p_cv0_3, p_cv0_4, zK_v, zK_0, WN_ncl, WN_nx, WN_nrt, WN_ite]
  refine t_runC hs hT hx hR ok hN0 hN hC hn (fun z1 => ?_) (fun z1 z2 z3 z4 z5 z6 z7 z8 z9 z10 z11 z12 => ?_) (fun z1 z2 z3 z4 z5 z6 z7 z8 z9 z10 z11 z12 => ?_) hP hF
  · have hz1 : zhnd 257 3 1 = some (2, 12) := by decide +kernel
    rw [zK_h (ls := [some (.inr (.inl (some 100))), some (.inr (.inl (some 3564))), none]) hz1 (show 2 < 3 from by decide) rfl]
    show Wp 257 12 [some (.inr (.inl (some 100))), some (.inr (.inl (some 3564))), none] [] _ _ Q
    simp (disch := first | assumption | exact p_c2i | exact p_c2r | exact p_c2n | omega | ((repeat (first | refine p_a1i.trans ?_ | refine p_a1r.trans ?_)); exact p_a10) | ((repeat (first | refine p_wI ?_ | refine p_wR ?_)); exact p_w0) | decide) only [reduceIte, Int.reduceLT, Int.reduceLE, Int.reduceEq, Int.reduceToNat, Int.reduceAdd, Int.reduceSub, Int.reduceMul, Int.reduceNeg, e257_12, e257_13, p_push, p_ret0, WN_nx, WN_nrt, WN_ite]
    exact KE z1
  · have kk := KF z1 z2 z3 z4 z5 z6 z7 z8 z9 z10 z11 z12
    have eE : z5 = 2 ∨ z5 = 1 := by rw [z10]; split; exact Or.inl rfl; exact Or.inr rfl
    rcases eE with e | e
    · rw [e] at kk ⊢
      have hz2 : zhnd 257 3 2 = some (2, 15) := by decide +kernel
      rw [zK_h (ls := [some (.inr (.inl (some 100))), some (.inr (.inl (some 3564))), none]) hz2 (show 2 < 3 from by decide) rfl]
      show Wp 257 15 [some (.inr (.inl (some 100))), some (.inr (.inl (some 3564))), none] [] _ _ Q
      simp (disch := first | assumption | exact p_c2i | exact p_c2r | exact p_c2n | omega | ((repeat (first | refine p_a1i.trans ?_ | refine p_a1r.trans ?_)); exact p_a10) | ((repeat (first | refine p_wI ?_ | refine p_wR ?_)); exact p_w0) | decide) only [reduceIte, Int.reduceLT, Int.reduceLE, Int.reduceEq, Int.reduceToNat, Int.reduceAdd, Int.reduceSub, Int.reduceMul, Int.reduceNeg, e257_15, e257_16, p_push, p_ret0, WN_nx, WN_nrt, WN_ite]
      exact kk
    · rw [e] at kk ⊢
      have hz1 : zhnd 257 3 1 = some (2, 12) := by decide +kernel
      rw [zK_h (ls := [some (.inr (.inl (some 100))), some (.inr (.inl (some 3564))), none]) hz1 (show 2 < 3 from by decide) rfl]
      show Wp 257 12 [some (.inr (.inl (some 100))), some (.inr (.inl (some 3564))), none] [] _ _ Q
      simp (disch := first | assumption | exact p_c2i | exact p_c2r | exact p_c2n | omega | ((repeat (first | refine p_a1i.trans ?_ | refine p_a1r.trans ?_)); exact p_a10) | ((repeat (first | refine p_wI ?_ | refine p_wR ?_)); exact p_w0) | decide) only [reduceIte, Int.reduceLT, Int.reduceLE, Int.reduceEq, Int.reduceToNat, Int.reduceAdd, Int.reduceSub, Int.reduceMul, Int.reduceNeg, e257_12, e257_13, p_push, p_ret0, WN_nx, WN_nrt, WN_ite]
      exact kk
  · rw [zK_v]
    have bb := bK0 z1 z2 z3 z4 z5
    obtain ⟨bb1, bb2⟩ := bb
    simp (disch := first | assumption | exact p_c2i | exact p_c2r | exact p_c2n | omega | ((repeat (first | refine p_a1i.trans ?_ | refine p_a1r.trans ?_)); exact p_a10) | ((repeat (first | refine p_wI ?_ | refine p_wR ?_)); exact p_w0) | decide) only [reduceIte, Int.reduceLT, Int.reduceLE, Int.reduceEq, Int.reduceToNat, Int.reduceAdd, Int.reduceSub, Int.reduceMul, Int.reduceNeg, e257_6, e257_7, e257_8, e257_11, e257_12, e257_13, e257_14, e257_15, e257_16, e257_17, e257_18, p_i2l, p_last, p_goto, p_as2, p_c2n, p_c2i, p_c2r, p_push, p_ret0, WN_nx, WN_nrt, WN_ite]
    exact K0 z1 z2 z3 z4 z5 z6 z7 z8 z9 z10 z11 z12
theorem t_refusalW {d : Int} (hd : d = 0 ∨ d = 1) (g12 : -2147483648 ≤ σ 100 12 ∧ σ 100 12 < 2147483648) (g13 : -2147483648 ≤ σ 100 13 ∧ σ 100 13 < 2147483648) (bK0 : σ 100 12 ≠ 0 → zi3 ((if d = 1 then σ 100 13 else σ 100 12))) (K1 : σ 100 12 = 0 → Q (.inl (some (.inl 1))) (3565, x + 1, zrho) σ) (K0 : σ 100 12 ≠ 0 → ∀ σ', zfq σ σ' → Q (.inl (some (.inl 0))) (3565, x, zrho) (zup σ' 3564 0 ((if d = 1 then σ 100 13 else σ 100 12)))) : WM 258 [.inr (.inl (some 100)), .inl d, .inr (.inl (some 3564))] (3565, x, zrho) σ Q := by
  show Wp 258 0 [some (.inr (.inl (some 100))), some (.inl d), some (.inr (.inl (some 3564))), none] [] _ _ Q
  have k64 := zo_k
  have n64 := zo_n
  simp (disch := first | assumption | exact p_c2i | exact p_c2r | exact p_c2n | omega | ((repeat (first | refine p_a1i.trans ?_ | refine p_a1r.trans ?_)); exact p_a10) | ((repeat (first | refine p_wI ?_ | refine p_wR ?_)); exact p_w0) | decide) only [reduceIte, Int.reduceLT, Int.reduceLE, Int.reduceEq, Int.reduceToNat, Int.reduceAdd, Int.reduceSub, Int.reduceMul, Int.reduceNeg, e258_0, e258_1, e258_2, e258_3, e258_4, p_al2, p_push, p_al0, p_il1, p_cv1_0, p_cv1_1, p_cv1_2, p_cv1_3, p_cv1_4, zK_v, zK_0, WN_ncl, WN_nx, WN_nrt, WN_ite]
  refine t_refusalC hd g12 g13 (fun z1 => ?_) (fun z1 z2 z3 => ?_)
  · have hz1 : zhnd 258 4 3 = some (3, 13) := by decide +kernel
    rw [zK_h (ls := [some (.inr (.inl (some 100))), some (.inl d), some (.inr (.inl (some 3564))), none]) hz1 (show 3 < 4 from by decide) rfl]
    show Wp 258 13 [some (.inr (.inl (some 100))), some (.inl d), some (.inr (.inl (some 3564))), none] [] _ _ Q
    simp (disch := first | assumption | exact p_c2i | exact p_c2r | exact p_c2n | omega | ((repeat (first | refine p_a1i.trans ?_ | refine p_a1r.trans ?_)); exact p_a10) | ((repeat (first | refine p_wI ?_ | refine p_wR ?_)); exact p_w0) | decide) only [reduceIte, Int.reduceLT, Int.reduceLE, Int.reduceEq, Int.reduceToNat, Int.reduceAdd, Int.reduceSub, Int.reduceMul, Int.reduceNeg, e258_13, e258_14, p_push, p_ret0, WN_nx, WN_nrt, WN_ite]
    exact K1 z1
  · rw [zK_v]
    have bb := bK0 z1
    obtain ⟨bb1, bb2⟩ := bb
    simp (disch := first | assumption | exact p_c2i | exact p_c2r | exact p_c2n | omega | ((repeat (first | refine p_a1i.trans ?_ | refine p_a1r.trans ?_)); exact p_a10) | ((repeat (first | refine p_wI ?_ | refine p_wR ?_)); exact p_w0) | decide) only [reduceIte, Int.reduceLT, Int.reduceLE, Int.reduceEq, Int.reduceToNat, Int.reduceAdd, Int.reduceSub, Int.reduceMul, Int.reduceNeg, e258_7, e258_8, e258_9, e258_12, e258_13, e258_14, e258_15, e258_16, p_i2l, p_last, p_goto, p_as3, p_c2n, p_c2i, p_c2r, p_push, p_ret0, WN_nx, WN_nrt, WN_ite]
    exact K0 z1 z2 z3
theorem t_accountW {v tl m : Int} (hR : zSr σ 101 w) (ok : zSok N w) (hN : N ≤ 100000000) (hv : -2147483648 ≤ v ∧ v < 2147483648) (ht : σ 3550 1 = tl) (hm : σ 1037 2 = m) (bK0 : (0 ≤ v ∧ v ≤ 10) → zi3 ((qAcc w v tl m))) (K1 : ¬ (0 ≤ v ∧ v ≤ 10) → Q (.inl (some (.inl 1))) (3565, x + 1, zrho) σ) (K0 : (0 ≤ v ∧ v ≤ 10) → ∀ σ', zfq σ σ' → Q (.inl (some (.inl 0))) (3565, x, zrho) (zup σ' 3564 0 ((qAcc w v tl m)))) : WM 259 [.inr (.inl (some 100)), .inl v, .inr (.inl (some 3564))] (3565, x, zrho) σ Q := by
  show Wp 259 0 [some (.inr (.inl (some 100))), some (.inl v), some (.inr (.inl (some 3564))), none] [] _ _ Q
  have k64 := zo_k
  have n64 := zo_n
  simp (disch := first | assumption | exact p_c2i | exact p_c2r | exact p_c2n | omega | ((repeat (first | refine p_a1i.trans ?_ | refine p_a1r.trans ?_)); exact p_a10) | ((repeat (first | refine p_wI ?_ | refine p_wR ?_)); exact p_w0) | decide) only [reduceIte, Int.reduceLT, Int.reduceLE, Int.reduceEq, Int.reduceToNat, Int.reduceAdd, Int.reduceSub, Int.reduceMul, Int.reduceNeg, e259_0, e259_1, e259_2, e259_3, e259_4, p_al2, p_push, p_al0, p_il1, p_cv1_0, p_cv1_1, p_cv1_2, p_cv1_3, p_cv1_4, zK_v, zK_0, WN_ncl, WN_nx, WN_nrt, WN_ite]
  refine t_accountC hR ok hN hv ht hm (fun z1 => ?_) (fun z1 z2 z3 => ?_)
  · have hz1 : zhnd 259 4 1 = some (3, 13) := by decide +kernel
    rw [zK_h (ls := [some (.inr (.inl (some 100))), some (.inl v), some (.inr (.inl (some 3564))), none]) hz1 (show 3 < 4 from by decide) rfl]
    show Wp 259 13 [some (.inr (.inl (some 100))), some (.inl v), some (.inr (.inl (some 3564))), none] [] _ _ Q
    simp (disch := first | assumption | exact p_c2i | exact p_c2r | exact p_c2n | omega | ((repeat (first | refine p_a1i.trans ?_ | refine p_a1r.trans ?_)); exact p_a10) | ((repeat (first | refine p_wI ?_ | refine p_wR ?_)); exact p_w0) | decide) only [reduceIte, Int.reduceLT, Int.reduceLE, Int.reduceEq, Int.reduceToNat, Int.reduceAdd, Int.reduceSub, Int.reduceMul, Int.reduceNeg, e259_13, e259_14, p_push, p_ret0, WN_nx, WN_nrt, WN_ite]
    exact K1 z1
  · rw [zK_v]
    have bb := bK0 z1
    obtain ⟨bb1, bb2⟩ := bb
    simp (disch := first | assumption | exact p_c2i | exact p_c2r | exact p_c2n | omega | ((repeat (first | refine p_a1i.trans ?_ | refine p_a1r.trans ?_)); exact p_a10) | ((repeat (first | refine p_wI ?_ | refine p_wR ?_)); exact p_w0) | decide) only [reduceIte, Int.reduceLT, Int.reduceLE, Int.reduceEq, Int.reduceToNat, Int.reduceAdd, Int.reduceSub, Int.reduceMul, Int.reduceNeg, e259_7, e259_8, e259_9, e259_12, e259_13, e259_14, e259_15, e259_16, p_i2l, p_last, p_goto, p_as3, p_c2n, p_c2i, p_c2r, p_push, p_ret0, WN_nx, WN_nrt, WN_ite]
    exact K0 z1 z2 z3
theorem t_undoW (ok : ∀ k, k < n → zSok N (kp k)) (hC : zCr σ kp n) (hn : n ≤ 8) (bK0 : ∀ m, n = m + 1 → zi3 ((m : Int))) (K1 : n = 0 → Q (.inl (some (.inl 1))) (3565, x + 1, zrho) σ) (K0 : ∀ m, n = m + 1 → ∀ σ', zSr σ' 101 (kp m) → zCr σ' kp m → (∀ a, (a < 101 ∨ 413 ≤ a) → a ≠ 1037 → σ' a = σ a) → Q (.inl (some (.inl 0))) (3565, x, zrho) (zup σ' 3564 0 ((m : Int)))) : WM 260 [.inr (.inl (some 100)), .inr (.inl (some 3564))] (3565, x, zrho) σ Q := by
  show Wp 260 0 [some (.inr (.inl (some 100))), some (.inr (.inl (some 3564))), none] [] _ _ Q
  have k64 := zo_k
  have n64 := zo_n
  simp (disch := first | assumption | exact p_c2i | exact p_c2r | exact p_c2n | omega | ((repeat (first | refine p_a1i.trans ?_ | refine p_a1r.trans ?_)); exact p_a10) | ((repeat (first | refine p_wI ?_ | refine p_wR ?_)); exact p_w0) | decide) only [reduceIte, Int.reduceLT, Int.reduceLE, Int.reduceEq, Int.reduceToNat, Int.reduceAdd, Int.reduceSub, Int.reduceMul, Int.reduceNeg, e260_0, e260_1, e260_2, e260_3, p_al1, p_push, p_al0, p_cv0_0, p_cv0_1, p_cv0_2, p_cv0_3, p_cv0_4, zK_v, zK_0, WN_ncl, WN_nx, WN_nrt, WN_ite]
  refine t_undoC ok hC hn (fun z1 => ?_) (fun z1 z2 z3 z4 z5 z6 => ?_)
  · have hz1 : zhnd 260 3 4 = some (2, 12) := by decide +kernel
    rw [zK_h (ls := [some (.inr (.inl (some 100))), some (.inr (.inl (some 3564))), none]) hz1 (show 2 < 3 from by decide) rfl]
    show Wp 260 12 [some (.inr (.inl (some 100))), some (.inr (.inl (some 3564))), none] [] _ _ Q
    simp (disch := first | assumption | exact p_c2i | exact p_c2r | exact p_c2n | omega | ((repeat (first | refine p_a1i.trans ?_ | refine p_a1r.trans ?_)); exact p_a10) | ((repeat (first | refine p_wI ?_ | refine p_wR ?_)); exact p_w0) | decide) only [reduceIte, Int.reduceLT, Int.reduceLE, Int.reduceEq, Int.reduceToNat, Int.reduceAdd, Int.reduceSub, Int.reduceMul, Int.reduceNeg, e260_12, e260_13, p_push, p_ret0, WN_nx, WN_nrt, WN_ite]
    exact K1 z1
  · rw [zK_v]
    have bb := bK0 z1 z2
    obtain ⟨bb1, bb2⟩ := bb
    simp (disch := first | assumption | exact p_c2i | exact p_c2r | exact p_c2n | omega | ((repeat (first | refine p_a1i.trans ?_ | refine p_a1r.trans ?_)); exact p_a10) | ((repeat (first | refine p_wI ?_ | refine p_wR ?_)); exact p_w0) | decide) only [reduceIte, Int.reduceLT, Int.reduceLE, Int.reduceEq, Int.reduceToNat, Int.reduceAdd, Int.reduceSub, Int.reduceMul, Int.reduceNeg, e260_6, e260_7, e260_8, e260_11, e260_12, e260_13, e260_14, e260_15, p_i2l, p_last, p_goto, p_as2, p_c2n, p_c2i, p_c2r, p_push, p_ret0, WN_nx, WN_nrt, WN_ite]
    exact K0 z1 z2 z3 z4 z5 z6
theorem t_restoreW {b : Int} (hb : σ 100 3 = b) (hs : b ≠ 0 → zSr σ 725 w ∧ zSok N w) (hb01 : b = 0 ∨ b = 1) (hC : zCr σ kp n) (bK0 : b ≠ 0 → zi3 ((w 0))) (K1 : b = 0 → Q (.inl (some (.inl 1))) (3565, x + 1, zrho) σ) (K0 : b ≠ 0 → ∀ σ', zSr σ' 101 w → zCr σ' kp 0 → (∀ a, (a < 101 ∨ 413 ≤ a) → a ≠ 1037 → σ' a = σ a) → Q (.inl (some (.inl 0))) (3565, x, zrho) (zup σ' 3564 0 ((w 0)))) : WM 261 [.inr (.inl (some 100)), .inr (.inl (some 3564))] (3565, x, zrho) σ Q := by
  show Wp 261 0 [some (.inr (.inl (some 100))), some (.inr (.inl (some 3564))), none] [] _ _ Q
  have k64 := zo_k
  have n64 := zo_n
  simp (disch := first | assumption | exact p_c2i | exact p_c2r | exact p_c2n | omega | ((repeat (first | refine p_a1i.trans ?_ | refine p_a1r.trans ?_)); exact p_a10) | ((repeat (first | refine p_wI ?_ | refine p_wR ?_)); exact p_w0) | decide) only [reduceIte, Int.reduceLT, Int.reduceLE, Int.reduceEq, Int.reduceToNat, Int.reduceAdd, Int.reduceSub, Int.reduceMul, Int.reduceNeg, e261_0, e261_1, e261_2, e261_3, p_al1, p_push, p_al0, p_cv0_0, p_cv0_1, p_cv0_2, p_cv0_3, p_cv0_4, zK_v, zK_0, WN_ncl, WN_nx, WN_nrt, WN_ite]
  refine t_restoreC hb hs hb01 hC (fun z1 => ?_) (fun z1 z2 z3 z4 z5 => ?_)
  · have hz1 : zhnd 261 3 4 = some (2, 12) := by decide +kernel
    rw [zK_h (ls := [some (.inr (.inl (some 100))), some (.inr (.inl (some 3564))), none]) hz1 (show 2 < 3 from by decide) rfl]
    show Wp 261 12 [some (.inr (.inl (some 100))), some (.inr (.inl (some 3564))), none] [] _ _ Q
    simp (disch := first | assumption | exact p_c2i | exact p_c2r | exact p_c2n | omega | ((repeat (first | refine p_a1i.trans ?_ | refine p_a1r.trans ?_)); exact p_a10) | ((repeat (first | refine p_wI ?_ | refine p_wR ?_)); exact p_w0) | decide) only [reduceIte, Int.reduceLT, Int.reduceLE, Int.reduceEq, Int.reduceToNat, Int.reduceAdd, Int.reduceSub, Int.reduceMul, Int.reduceNeg, e261_12, e261_13, p_push, p_ret0, WN_nx, WN_nrt, WN_ite]
    exact K1 z1
  · rw [zK_v]
    have bb := bK0 z1
    obtain ⟨bb1, bb2⟩ := bb
    simp (disch := first | assumption | exact p_c2i | exact p_c2r | exact p_c2n | omega | ((repeat (first | refine p_a1i.trans ?_ | refine p_a1r.trans ?_)); exact p_a10) | ((repeat (first | refine p_wI ?_ | refine p_wR ?_)); exact p_w0) | decide) only [reduceIte, Int.reduceLT, Int.reduceLE, Int.reduceEq, Int.reduceToNat, Int.reduceAdd, Int.reduceSub, Int.reduceMul, Int.reduceNeg, e261_6, e261_7, e261_8, e261_11, e261_12, e261_13, e261_14, e261_15, p_i2l, p_last, p_goto, p_as2, p_c2n, p_c2i, p_c2r, p_push, p_ret0, WN_nx, WN_nrt, WN_ite]
    exact K0 z1 z2 z3 z4 z5
end
