/-! THE CLASS: what is thrown for a fault -/
section
variable {σ : ZI} {Q : ZO → ZT → ZI → Prop} {x : Nat} {w : zW} {N : Int}
theorem p_throw {E : Nat} {ls : ZL} : o_throw E ls [] (3565, x, zrho) σ = nrt (.inr E) (3565, x + 1, zrho) σ := rfl
theorem t_tft0 : WM 113 [.inl 0] (3565, x, zrho) σ Q = Q (.inl none) (3565, x, zrho) σ := by
  show Wp 113 0 [some (.inl 0)] [] _ _ Q = _
  simp (disch := first | assumption | exact p_c2i | exact p_c2r | exact p_c2n | omega | ((repeat (first | refine p_a1i.trans ?_ | refine p_a1r.trans ?_)); exact p_a10) | ((repeat (first | refine p_wI ?_ | refine p_wR ?_)); exact p_w0) | decide) only [reduceIte, Int.reduceLT, Int.reduceLE, Int.reduceEq, Int.reduceToNat, Int.reduceAdd, Int.reduceSub, Int.reduceMul, Int.reduceNeg, e113_0, e113_1, e113_2, e113_5, e113_16, e113_17, e113_20, e113_31, p_il0, p_push, p_cne, o_throw, p_ifeq, p_vret, WN_nx, WN_nrt, WN_ite, p_throw]
theorem t_tft1 : WM 113 [.inl 1] (3565, x, zrho) σ Q = Q (.inr 1) (3565, x + 1, zrho) σ := by
  show Wp 113 0 [some (.inl 1)] [] _ _ Q = _
  simp (disch := first | assumption | exact p_c2i | exact p_c2r | exact p_c2n | omega | ((repeat (first | refine p_a1i.trans ?_ | refine p_a1r.trans ?_)); exact p_a10) | ((repeat (first | refine p_wI ?_ | refine p_wR ?_)); exact p_w0) | decide) only [reduceIte, Int.reduceLT, Int.reduceLE, Int.reduceEq, Int.reduceToNat, Int.reduceAdd, Int.reduceSub, Int.reduceMul, Int.reduceNeg, e113_0, e113_1, e113_2, e113_5, e113_16, e113_17, e113_20, e113_31, p_il0, p_push, p_cne, o_throw, p_ifeq, p_vret, WN_nx, WN_nrt, WN_ite, p_throw]
theorem t_tft2 : WM 113 [.inl 2] (3565, x, zrho) σ Q = Q (.inr 1) (3565, x + 1, zrho) σ := by
  show Wp 113 0 [some (.inl 2)] [] _ _ Q = _
  simp (disch := first | assumption | exact p_c2i | exact p_c2r | exact p_c2n | omega | ((repeat (first | refine p_a1i.trans ?_ | refine p_a1r.trans ?_)); exact p_a10) | ((repeat (first | refine p_wI ?_ | refine p_wR ?_)); exact p_w0) | decide) only [reduceIte, Int.reduceLT, Int.reduceLE, Int.reduceEq, Int.reduceToNat, Int.reduceAdd, Int.reduceSub, Int.reduceMul, Int.reduceNeg, e113_0, e113_1, e113_2, e113_5, e113_16, e113_17, e113_20, e113_31, p_il0, p_push, p_cne, o_throw, p_ifeq, p_vret, WN_nx, WN_nrt, WN_ite, p_throw]
theorem t_tft3 : WM 113 [.inl 3] (3565, x, zrho) σ Q = Q (.inr 2) (3565, x + 1, zrho) σ := by
  show Wp 113 0 [some (.inl 3)] [] _ _ Q = _
  simp (disch := first | assumption | exact p_c2i | exact p_c2r | exact p_c2n | omega | ((repeat (first | refine p_a1i.trans ?_ | refine p_a1r.trans ?_)); exact p_a10) | ((repeat (first | refine p_wI ?_ | refine p_wR ?_)); exact p_w0) | decide) only [reduceIte, Int.reduceLT, Int.reduceLE, Int.reduceEq, Int.reduceToNat, Int.reduceAdd, Int.reduceSub, Int.reduceMul, Int.reduceNeg, e113_0, e113_1, e113_2, e113_5, e113_16, e113_17, e113_20, e113_31, p_il0, p_push, p_cne, o_throw, p_ifeq, p_vret, WN_nx, WN_nrt, WN_ite, p_throw]
theorem t_tf0 : WM 112 [.inl 0] (3565, x, zrho) σ Q = Q (.inl none) (3565, x, zrho) σ := by
  show Wp 112 0 [some (.inl 0)] [] _ _ Q = _
  simp (disch := first | assumption | exact p_c2i | exact p_c2r | exact p_c2n | omega | ((repeat (first | refine p_a1i.trans ?_ | refine p_a1r.trans ?_)); exact p_a10) | ((repeat (first | refine p_wI ?_ | refine p_wR ?_)); exact p_w0) | decide) only [reduceIte, Int.reduceLT, Int.reduceLE, Int.reduceEq, Int.reduceToNat, Int.reduceAdd, Int.reduceSub, Int.reduceMul, Int.reduceNeg, e112_0, e112_1, e112_2, e112_5, e112_16, e112_17, e112_20, p_il0, p_push, p_cne, o_throw, p_cs1_0, p_cs1_1, p_cs1_2, p_cs1_3, p_cs1_4, zK_v, zK_0, WN_ncl, p_vret, WN_nx, WN_nrt, WN_ite, p_throw, t_tft0]
theorem t_tf1 : WM 112 [.inl 1] (3565, x, zrho) σ Q = Q (.inr 0) (3565, x + 1, zrho) σ := by
  show Wp 112 0 [some (.inl 1)] [] _ _ Q = _
  simp (disch := first | assumption | exact p_c2i | exact p_c2r | exact p_c2n | omega | ((repeat (first | refine p_a1i.trans ?_ | refine p_a1r.trans ?_)); exact p_a10) | ((repeat (first | refine p_wI ?_ | refine p_wR ?_)); exact p_w0) | decide) only [reduceIte, Int.reduceLT, Int.reduceLE, Int.reduceEq, Int.reduceToNat, Int.reduceAdd, Int.reduceSub, Int.reduceMul, Int.reduceNeg, e112_0, e112_1, e112_2, e112_5, e112_16, e112_17, e112_20, p_il0, p_push, p_cne, o_throw, p_cs1_0, p_cs1_1, p_cs1_2, p_cs1_3, p_cs1_4, zK_v, zK_0, WN_ncl, p_vret, WN_nx, WN_nrt, WN_ite, p_throw]
theorem t_tf2 : WM 112 [.inl 2] (3565, x, zrho) σ Q = Q (.inr 1) (3565, x + 1, zrho) σ := by
  show Wp 112 0 [some (.inl 2)] [] _ _ Q = _
  have h : zhnd 112 17 1 = none := rfl
  simp (disch := first | assumption | exact p_c2i | exact p_c2r | exact p_c2n | omega | ((repeat (first | refine p_a1i.trans ?_ | refine p_a1r.trans ?_)); exact p_a10) | ((repeat (first | refine p_wI ?_ | refine p_wR ?_)); exact p_w0) | decide) only [reduceIte, Int.reduceLT, Int.reduceLE, Int.reduceEq, Int.reduceToNat, Int.reduceAdd, Int.reduceSub, Int.reduceMul, Int.reduceNeg, e112_0, e112_1, e112_2, e112_5, e112_16, e112_17, e112_20, p_il0, p_push, p_cne, o_throw, p_cs1_0, p_cs1_1, p_cs1_2, p_cs1_3, p_cs1_4, zK_v, zK_0, WN_ncl, p_vret, WN_nx, WN_nrt, WN_ite, p_throw, t_tft2, zK_n h]
theorem t_tf3 : WM 112 [.inl 3] (3565, x, zrho) σ Q = Q (.inr 2) (3565, x + 1, zrho) σ := by
  show Wp 112 0 [some (.inl 3)] [] _ _ Q = _
  have h : zhnd 112 17 2 = none := rfl
  simp (disch := first | assumption | exact p_c2i | exact p_c2r | exact p_c2n | omega | ((repeat (first | refine p_a1i.trans ?_ | refine p_a1r.trans ?_)); exact p_a10) | ((repeat (first | refine p_wI ?_ | refine p_wR ?_)); exact p_w0) | decide) only [reduceIte, Int.reduceLT, Int.reduceLE, Int.reduceEq, Int.reduceToNat, Int.reduceAdd, Int.reduceSub, Int.reduceMul, Int.reduceNeg, e112_0, e112_1, e112_2, e112_5, e112_16, e112_17, e112_20, p_il0, p_push, p_cne, o_throw, p_cs1_0, p_cs1_1, p_cs1_2, p_cs1_3, p_cs1_4, zK_v, zK_0, WN_ncl, p_vret, WN_nx, WN_nrt, WN_ite, p_throw, t_tft3, zK_n h]
end
