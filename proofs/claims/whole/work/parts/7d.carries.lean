/-! THE MODEL: carries -/
section
variable {τ : ZI} {Q : ZO → ZT → ZI → Prop} {x n p : Nat} {w : zW} {N a1 a2 a3 : Int} {ts : Nat → Int} {tl : Nat}
theorem t_ca104 (ok : zSok N w) (hN : N ≤ 80000000) (hn : τ 3553 6 = (n : Int)) (hn8 : n ≤ 8) (h7 : τ 3553 7 = 0 ∨ τ 3553 7 = 1) (hp : p + 3 < 124) (e0 : τ 3563 p = 104) (e1 : τ 3563 (p + 1) = a1) (b1 : zi3 a1) (e2 : τ 3563 (p + 2) = a2) (b2 : zi3 a2) (e3 : τ 3563 (p + 3) = a3) (b3 : zi3 a3) (K0 : (oHoe w a1 a2 a3).1 ≠ 0 → ∀ τ', zOp τ τ' w (oHoe w a1 a2 a3) → Q (.inl (some (.inl 0))) (3565, x, zrho) (zg τ' w)) (K1 : (oHoe w a1 a2 a3).1 = 0 → ∀ τ' b, zOp τ τ' w (0, 0, 0) → Q (.inl (some (.inl b))) (3565, x, zrho) (zg τ' (aAdd (9 * a1 + a2) a3 (wu w 201 0)))) : WM 207 [.inr (.inl (some 3553)), .inl ((p : Int))] (3565, x, zrho) (zg τ w) Q := by
  show Wp 207 0 [some (.inr (.inl (some 3553))), some (.inl ((p : Int)))] [] _ _ Q
  have k := zm_k
  have k4 := zt_m4
  have n4 := zt_m5
  have g0 : zg τ w 3563 = τ 3563 := zg_o (by omega)
  have q1 : ((p : Int) + 1).toNat = p + 1 := by omega
  have q2 : ((p : Int) + 2).toNat = p + 2 := by omega
  have q3 : ((p : Int) + 3).toNat = p + 3 := by omega
  have sw : zsw 104 235 [98, 112, 99, 235, 100, 235, 101, 235, 102, 235, 103, 235, 104, 117, 105, 235, 106, 235, 107, 222, 108, 235, 109, 235, 110, 235, 111, 235, 112, 146, 113, 235, 114, 235, 115, 196, 116, 175, 117, 235, 118, 235, 119, 235, 120, 209] = 117 := rfl
  simp (disch := first | assumption | exact p_c2i | exact p_c2r | exact p_c2n | omega | ((repeat (first | refine p_a1i.trans ?_ | refine p_a1r.trans ?_)); exact p_a10) | ((repeat (first | refine p_wI ?_ | refine p_wR ?_)); exact p_w0) | decide) only [reduceIte, Int.reduceLT, Int.reduceLE, Int.reduceEq, Int.reduceToNat, Int.reduceAdd, Int.reduceSub, Int.reduceMul, Int.reduceNeg, e207_0, e207_1, e207_4, e207_5, e207_6, e207_117, e207_118, e207_119, e207_122, e207_123, e207_124, e207_125, e207_126, e207_127, e207_130, e207_131, e207_132, e207_133, e207_134, e207_135, e207_138, e207_139, e207_140, e207_141, e207_142, p_al0, p_getR, p_il1, p_iald, p_sw, p_push, p_bin, p_cv3_0, p_cv3_1, p_cv3_2, p_cv3_3, p_cv3_4, zK_v, zK_0, WN_ncl, WN_nx, WN_nrt, WN_ite, zt_m6, g0, Int.toNat_natCast, sw, e0, e1, q1, e2, q2, e3, q3]
  refine t_hoeM ok.2.2.1 b1 b2 b3 hn hn8 h7 (fun c0 τ' z => ?_) (fun c0 τ' z => ?_)
  · rw [zK_v]
    simp (disch := first | assumption | exact p_c2i | exact p_c2r | exact p_c2n | omega | ((repeat (first | refine p_a1i.trans ?_ | refine p_a1r.trans ?_)); exact p_a10) | ((repeat (first | refine p_wI ?_ | refine p_wR ?_)); exact p_w0) | decide) only [reduceIte, Int.reduceLT, Int.reduceLE, Int.reduceEq, Int.reduceToNat, Int.reduceAdd, Int.reduceSub, Int.reduceMul, Int.reduceNeg, e207_145, p_ret0, WN_nx, WN_nrt, WN_ite]
    exact K0 c0 τ' z
  · rw [zK_v]
    simp (disch := first | assumption | exact p_c2i | exact p_c2r | exact p_c2n | omega | ((repeat (first | refine p_a1i.trans ?_ | refine p_a1r.trans ?_)); exact p_a10) | ((repeat (first | refine p_wI ?_ | refine p_wR ?_)); exact p_w0) | decide) only [reduceIte, Int.reduceLT, Int.reduceLE, Int.reduceEq, Int.reduceToNat, Int.reduceAdd, Int.reduceSub, Int.reduceMul, Int.reduceNeg, e207_145, p_ret0, WN_nx, WN_nrt, WN_ite]
    exact K1 c0 τ' _ z
theorem t_ca112 (ok : zSok N w) (hN : N ≤ 80000000) (hn : τ 3553 6 = (n : Int)) (hn8 : n ≤ 8) (h7 : τ 3553 7 = 0 ∨ τ 3553 7 = 1) (hp : p + 3 < 124) (e0 : τ 3563 p = 112) (e1 : τ 3563 (p + 1) = a1) (b1 : zi3 a1) (e2 : τ 3563 (p + 2) = a2) (b2 : zi3 a2) (e3 : τ 3563 (p + 3) = a3) (b3 : zi3 a3) (K0 : (oPaint w a1 a2 a3).1 ≠ 0 → ∀ τ', zOp τ τ' w (oPaint w a1 a2 a3) → Q (.inl (some (.inl 0))) (3565, x, zrho) (zg τ' w)) (K1 : (oPaint w a1 a2 a3).1 = 0 → ∀ τ' b, zOp τ τ' w (0, 0, 0) → Q (.inl (some (.inl b))) (3565, x, zrho) (zg τ' (wu (wu w 201 0) (10 + (9 * a1 + a2).toNat) a3))) : WM 207 [.inr (.inl (some 3553)), .inl ((p : Int))] (3565, x, zrho) (zg τ w) Q := by
  show Wp 207 0 [some (.inr (.inl (some 3553))), some (.inl ((p : Int)))] [] _ _ Q
  have k := zm_k
  have k4 := zt_m4
  have n4 := zt_m5
  have g0 : zg τ w 3563 = τ 3563 := zg_o (by omega)
  have q1 : ((p : Int) + 1).toNat = p + 1 := by omega
  have q2 : ((p : Int) + 2).toNat = p + 2 := by omega
  have q3 : ((p : Int) + 3).toNat = p + 3 := by omega
  have sw : zsw 112 235 [98, 112, 99, 235, 100, 235, 101, 235, 102, 235, 103, 235, 104, 117, 105, 235, 106, 235, 107, 222, 108, 235, 109, 235, 110, 235, 111, 235, 112, 146, 113, 235, 114, 235, 115, 196, 116, 175, 117, 235, 118, 235, 119, 235, 120, 209] = 146 := rfl
  simp (disch := first | assumption | exact p_c2i | exact p_c2r | exact p_c2n | omega | ((repeat (first | refine p_a1i.trans ?_ | refine p_a1r.trans ?_)); exact p_a10) | ((repeat (first | refine p_wI ?_ | refine p_wR ?_)); exact p_w0) | decide) only [reduceIte, Int.reduceLT, Int.reduceLE, Int.reduceEq, Int.reduceToNat, Int.reduceAdd, Int.reduceSub, Int.reduceMul, Int.reduceNeg, e207_0, e207_1, e207_4, e207_5, e207_6, e207_146, e207_147, e207_148, e207_151, e207_152, e207_153, e207_154, e207_155, e207_156, e207_159, e207_160, e207_161, e207_162, e207_163, e207_164, e207_167, e207_168, e207_169, e207_170, e207_171, p_al0, p_getR, p_il1, p_iald, p_sw, p_push, p_bin, p_cv3_0, p_cv3_1, p_cv3_2, p_cv3_3, p_cv3_4, zK_v, zK_0, WN_ncl, WN_nx, WN_nrt, WN_ite, zt_m6, g0, Int.toNat_natCast, sw, e0, e1, q1, e2, q2, e3, q3]
  refine t_paintM ok.2.2.1 b1 b2 b3 hn hn8 h7 (fun c0 τ' z => ?_) (fun c0 τ' z => ?_)
  · rw [zK_v]
    simp (disch := first | assumption | exact p_c2i | exact p_c2r | exact p_c2n | omega | ((repeat (first | refine p_a1i.trans ?_ | refine p_a1r.trans ?_)); exact p_a10) | ((repeat (first | refine p_wI ?_ | refine p_wR ?_)); exact p_w0) | decide) only [reduceIte, Int.reduceLT, Int.reduceLE, Int.reduceEq, Int.reduceToNat, Int.reduceAdd, Int.reduceSub, Int.reduceMul, Int.reduceNeg, e207_174, p_ret0, WN_nx, WN_nrt, WN_ite]
    exact K0 c0 τ' z
  · rw [zK_v]
    simp (disch := first | assumption | exact p_c2i | exact p_c2r | exact p_c2n | omega | ((repeat (first | refine p_a1i.trans ?_ | refine p_a1r.trans ?_)); exact p_a10) | ((repeat (first | refine p_wI ?_ | refine p_wR ?_)); exact p_w0) | decide) only [reduceIte, Int.reduceLT, Int.reduceLE, Int.reduceEq, Int.reduceToNat, Int.reduceAdd, Int.reduceSub, Int.reduceMul, Int.reduceNeg, e207_174, p_ret0, WN_nx, WN_nrt, WN_ite]
    exact K1 c0 τ' _ z
theorem t_ca116 (ok : zSok N w) (hN : N ≤ 80000000) (hn : τ 3553 6 = (n : Int)) (hn8 : n ≤ 8) (h7 : τ 3553 7 = 0 ∨ τ 3553 7 = 1) (hp : p + 3 < 124) (e0 : τ 3563 p = 116) (e1 : τ 3563 (p + 1) = a1) (b1 : zi3 a1) (e2 : τ 3563 (p + 2) = a2) (b2 : zi3 a2) (K0 : (oTurn w a1 a2).1 ≠ 0 → ∀ τ', zOp τ τ' w (oTurn w a1 a2) → Q (.inl (some (.inl 0))) (3565, x, zrho) (zg τ' w)) (K1 : (oTurn w a1 a2).1 = 0 → ∀ τ' b, zOp τ τ' w (0, 0, 0) → Q (.inl (some (.inl b))) (3565, x, zrho) (zg τ' (wu (wu w 201 0) (6 + a1.toNat) a2))) : WM 207 [.inr (.inl (some 3553)), .inl ((p : Int))] (3565, x, zrho) (zg τ w) Q := by
  show Wp 207 0 [some (.inr (.inl (some 3553))), some (.inl ((p : Int)))] [] _ _ Q
  have k := zm_k
  have k4 := zt_m4
  have n4 := zt_m5
  have g0 : zg τ w 3563 = τ 3563 := zg_o (by omega)
  have q1 : ((p : Int) + 1).toNat = p + 1 := by omega
  have q2 : ((p : Int) + 2).toNat = p + 2 := by omega
  have sw : zsw 116 235 [98, 112, 99, 235, 100, 235, 101, 235, 102, 235, 103, 235, 104, 117, 105, 235, 106, 235, 107, 222, 108, 235, 109, 235, 110, 235, 111, 235, 112, 146, 113, 235, 114, 235, 115, 196, 116, 175, 117, 235, 118, 235, 119, 235, 120, 209] = 175 := rfl
  simp (disch := first | assumption | exact p_c2i | exact p_c2r | exact p_c2n | omega | ((repeat (first | refine p_a1i.trans ?_ | refine p_a1r.trans ?_)); exact p_a10) | ((repeat (first | refine p_wI ?_ | refine p_wR ?_)); exact p_w0) | decide) only [reduceIte, Int.reduceLT, Int.reduceLE, Int.reduceEq, Int.reduceToNat, Int.reduceAdd, Int.reduceSub, Int.reduceMul, Int.reduceNeg, e207_0, e207_1, e207_4, e207_5, e207_6, e207_175, e207_176, e207_177, e207_180, e207_181, e207_182, e207_183, e207_184, e207_185, e207_188, e207_189, e207_190, e207_191, e207_192, p_al0, p_getR, p_il1, p_iald, p_sw, p_push, p_bin, p_cv2_0, p_cv2_1, p_cv2_2, p_cv2_3, p_cv2_4, zK_v, zK_0, WN_ncl, WN_nx, WN_nrt, WN_ite, zt_m6, g0, Int.toNat_natCast, sw, e0, e1, q1, e2, q2]
  refine t_turnM ok.2.2.1 b1 b2 hn hn8 h7 (fun c0 τ' z => ?_) (fun c0 τ' z => ?_)
  · rw [zK_v]
    simp (disch := first | assumption | exact p_c2i | exact p_c2r | exact p_c2n | omega | ((repeat (first | refine p_a1i.trans ?_ | refine p_a1r.trans ?_)); exact p_a10) | ((repeat (first | refine p_wI ?_ | refine p_wR ?_)); exact p_w0) | decide) only [reduceIte, Int.reduceLT, Int.reduceLE, Int.reduceEq, Int.reduceToNat, Int.reduceAdd, Int.reduceSub, Int.reduceMul, Int.reduceNeg, e207_195, p_ret0, WN_nx, WN_nrt, WN_ite]
    exact K0 c0 τ' z
  · rw [zK_v]
    simp (disch := first | assumption | exact p_c2i | exact p_c2r | exact p_c2n | omega | ((repeat (first | refine p_a1i.trans ?_ | refine p_a1r.trans ?_)); exact p_a10) | ((repeat (first | refine p_wI ?_ | refine p_wR ?_)); exact p_w0) | decide) only [reduceIte, Int.reduceLT, Int.reduceLE, Int.reduceEq, Int.reduceToNat, Int.reduceAdd, Int.reduceSub, Int.reduceMul, Int.reduceNeg, e207_195, p_ret0, WN_nx, WN_nrt, WN_ite]
    exact K1 c0 τ' _ z
theorem t_ca115 (ok : zSok N w) (hN : N ≤ 80000000) (hn : τ 3553 6 = (n : Int)) (hn8 : n ≤ 8) (h7 : τ 3553 7 = 0 ∨ τ 3553 7 = 1) (hp : p + 3 < 124) (e0 : τ 3563 p = 115) (e1 : τ 3563 (p + 1) = a1) (b1 : zi3 a1) (K0 : (oStep w a1).1 ≠ 0 → ∀ τ', zOp τ τ' w (oStep w a1) → Q (.inl (some (.inl 0))) (3565, x, zrho) (zg τ' w)) (K1 : (oStep w a1).1 = 0 → ∀ τ' b, zOp τ τ' w (0, 0, 0) → Q (.inl (some (.inl b))) (3565, x, zrho) (zg τ' (aStN a1.toNat w))) : WM 207 [.inr (.inl (some 3553)), .inl ((p : Int))] (3565, x, zrho) (zg τ w) Q := by
  show Wp 207 0 [some (.inr (.inl (some 3553))), some (.inl ((p : Int)))] [] _ _ Q
  have k := zm_k
  have k4 := zt_m4
  have n4 := zt_m5
  have g0 : zg τ w 3563 = τ 3563 := zg_o (by omega)
  have q1 : ((p : Int) + 1).toNat = p + 1 := by omega
  have sw : zsw 115 235 [98, 112, 99, 235, 100, 235, 101, 235, 102, 235, 103, 235, 104, 117, 105, 235, 106, 235, 107, 222, 108, 235, 109, 235, 110, 235, 111, 235, 112, 146, 113, 235, 114, 235, 115, 196, 116, 175, 117, 235, 118, 235, 119, 235, 120, 209] = 196 := rfl
  simp (disch := first | assumption | exact p_c2i | exact p_c2r | exact p_c2n | omega | ((repeat (first | refine p_a1i.trans ?_ | refine p_a1r.trans ?_)); exact p_a10) | ((repeat (first | refine p_wI ?_ | refine p_wR ?_)); exact p_w0) | decide) only [reduceIte, Int.reduceLT, Int.reduceLE, Int.reduceEq, Int.reduceToNat, Int.reduceAdd, Int.reduceSub, Int.reduceMul, Int.reduceNeg, e207_0, e207_1, e207_4, e207_5, e207_6, e207_196, e207_197, e207_198, e207_201, e207_202, e207_203, e207_204, e207_205, p_al0, p_getR, p_il1, p_iald, p_sw, p_push, p_bin, p_cv1_0, p_cv1_1, p_cv1_2, p_cv1_3, p_cv1_4, zK_v, zK_0, WN_ncl, WN_nx, WN_nrt, WN_ite, zt_m6, g0, Int.toNat_natCast, sw, e0, e1, q1]
  refine t_stepOM ok hN b1 hn hn8 h7 (fun c0 τ' z => ?_) (fun c0 τ' z => ?_)
  · rw [zK_v]
    simp (disch := first | assumption | exact p_c2i | exact p_c2r | exact p_c2n | omega | ((repeat (first | refine p_a1i.trans ?_ | refine p_a1r.trans ?_)); exact p_a10) | ((repeat (first | refine p_wI ?_ | refine p_wR ?_)); exact p_w0) | decide) only [reduceIte, Int.reduceLT, Int.reduceLE, Int.reduceEq, Int.reduceToNat, Int.reduceAdd, Int.reduceSub, Int.reduceMul, Int.reduceNeg, e207_208, p_ret0, WN_nx, WN_nrt, WN_ite]
    exact K0 c0 τ' z
  · rw [zK_v]
    simp (disch := first | assumption | exact p_c2i | exact p_c2r | exact p_c2n | omega | ((repeat (first | refine p_a1i.trans ?_ | refine p_a1r.trans ?_)); exact p_a10) | ((repeat (first | refine p_wI ?_ | refine p_wR ?_)); exact p_w0) | decide) only [reduceIte, Int.reduceLT, Int.reduceLE, Int.reduceEq, Int.reduceToNat, Int.reduceAdd, Int.reduceSub, Int.reduceMul, Int.reduceNeg, e207_208, p_ret0, WN_nx, WN_nrt, WN_ite]
    exact K1 c0 τ' _ z
theorem t_ca98 (ok : zSok N w) (hN : N ≤ 80000000) (hn : τ 3553 6 = (n : Int)) (hn8 : n ≤ 8) (h7 : τ 3553 7 = 0 ∨ τ 3553 7 = 1) (hp : p + 3 < 124) (e0 : τ 3563 p = 98) (K0 : (oBack w).1 ≠ 0 → ∀ τ', zOp τ τ' w (oBack w) → Q (.inl (some (.inl 0))) (3565, x, zrho) (zg τ' w)) (K1 : (oBack w).1 = 0 → ∀ τ' b, zOp τ τ' w (0, 0, 0) → Q (.inl (some (.inl b))) (3565, x, zrho) (zg τ' (aTake w))) : WM 207 [.inr (.inl (some 3553)), .inl ((p : Int))] (3565, x, zrho) (zg τ w) Q := by
  show Wp 207 0 [some (.inr (.inl (some 3553))), some (.inl ((p : Int)))] [] _ _ Q
  have k := zm_k
  have k4 := zt_m4
  have n4 := zt_m5
  have g0 : zg τ w 3563 = τ 3563 := zg_o (by omega)
  have sw : zsw 98 235 [98, 112, 99, 235, 100, 235, 101, 235, 102, 235, 103, 235, 104, 117, 105, 235, 106, 235, 107, 222, 108, 235, 109, 235, 110, 235, 111, 235, 112, 146, 113, 235, 114, 235, 115, 196, 116, 175, 117, 235, 118, 235, 119, 235, 120, 209] = 112 := rfl
  simp (disch := first | assumption | exact p_c2i | exact p_c2r | exact p_c2n | omega | ((repeat (first | refine p_a1i.trans ?_ | refine p_a1r.trans ?_)); exact p_a10) | ((repeat (first | refine p_wI ?_ | refine p_wR ?_)); exact p_w0) | decide) only [reduceIte, Int.reduceLT, Int.reduceLE, Int.reduceEq, Int.reduceToNat, Int.reduceAdd, Int.reduceSub, Int.reduceMul, Int.reduceNeg, e207_0, e207_1, e207_4, e207_5, e207_6, e207_112, e207_113, p_al0, p_getR, p_il1, p_iald, p_sw, p_cv0_0, p_cv0_1, p_cv0_2, p_cv0_3, p_cv0_4, zK_v, zK_0, WN_ncl, WN_nx, WN_nrt, WN_ite, zt_m6, g0, Int.toNat_natCast, sw, e0]
  refine t_backM ok hN hn hn8 h7 (fun c0 τ' z => ?_) (fun c0 τ' z => ?_)
  · rw [zK_v]
    simp (disch := first | assumption | exact p_c2i | exact p_c2r | exact p_c2n | omega | ((repeat (first | refine p_a1i.trans ?_ | refine p_a1r.trans ?_)); exact p_a10) | ((repeat (first | refine p_wI ?_ | refine p_wR ?_)); exact p_w0) | decide) only [reduceIte, Int.reduceLT, Int.reduceLE, Int.reduceEq, Int.reduceToNat, Int.reduceAdd, Int.reduceSub, Int.reduceMul, Int.reduceNeg, e207_116, p_ret0, WN_nx, WN_nrt, WN_ite]
    exact K0 c0 τ' z
  · rw [zK_v]
    simp (disch := first | assumption | exact p_c2i | exact p_c2r | exact p_c2n | omega | ((repeat (first | refine p_a1i.trans ?_ | refine p_a1r.trans ?_)); exact p_a10) | ((repeat (first | refine p_wI ?_ | refine p_wR ?_)); exact p_w0) | decide) only [reduceIte, Int.reduceLT, Int.reduceLE, Int.reduceEq, Int.reduceToNat, Int.reduceAdd, Int.reduceSub, Int.reduceMul, Int.reduceNeg, e207_116, p_ret0, WN_nx, WN_nrt, WN_ite]
    exact K1 c0 τ' _ z
theorem t_ca120 (ok : zSok N w) (hN : N ≤ 80000000) (hn : τ 3553 6 = (n : Int)) (hn8 : n ≤ 8) (h7 : τ 3553 7 = 0 ∨ τ 3553 7 = 1) (hp : p + 3 < 124) (e0 : τ 3563 p = 120) (e1 : τ 3563 (p + 1) = a1) (b1 : zi3 a1) (K0 : (oDrop w a1).1 ≠ 0 → ∀ τ', zOp τ τ' w (oDrop w a1) → Q (.inl (some (.inl 0))) (3565, x, zrho) (zg τ' w)) (K1 : (oDrop w a1).1 = 0 → ∀ τ' b, zOp τ τ' w (0, 0, 0) → Q (.inl (some (.inl b))) (3565, x, zrho) (zg τ' (aDrop a1.toNat (wu w 201 0)))) : WM 207 [.inr (.inl (some 3553)), .inl ((p : Int))] (3565, x, zrho) (zg τ w) Q := by
  show Wp 207 0 [some (.inr (.inl (some 3553))), some (.inl ((p : Int)))] [] _ _ Q
  have k := zm_k
  have k4 := zt_m4
  have n4 := zt_m5
  have g0 : zg τ w 3563 = τ 3563 := zg_o (by omega)
  have q1 : ((p : Int) + 1).toNat = p + 1 := by omega
  have sw : zsw 120 235 [98, 112, 99, 235, 100, 235, 101, 235, 102, 235, 103, 235, 104, 117, 105, 235, 106, 235, 107, 222, 108, 235, 109, 235, 110, 235, 111, 235, 112, 146, 113, 235, 114, 235, 115, 196, 116, 175, 117, 235, 118, 235, 119, 235, 120, 209] = 209 := rfl
  simp (disch := first | assumption | exact p_c2i | exact p_c2r | exact p_c2n | omega | ((repeat (first | refine p_a1i.trans ?_ | refine p_a1r.trans ?_)); exact p_a10) | ((repeat (first | refine p_wI ?_ | refine p_wR ?_)); exact p_w0) | decide) only [reduceIte, Int.reduceLT, Int.reduceLE, Int.reduceEq, Int.reduceToNat, Int.reduceAdd, Int.reduceSub, Int.reduceMul, Int.reduceNeg, e207_0, e207_1, e207_4, e207_5, e207_6, e207_209, e207_210, e207_211, e207_214, e207_215, e207_216, e207_217, e207_218, p_al0, p_getR, p_il1, p_iald, p_sw, p_push, p_bin, p_cv1_0, p_cv1_1, p_cv1_2, p_cv1_3, p_cv1_4, zK_v, zK_0, WN_ncl, WN_nx, WN_nrt, WN_ite, zt_m6, g0, Int.toNat_natCast, sw, e0, e1, q1]
  refine t_dropM ok.2.2.1 b1 hn hn8 h7 (fun c0 τ' z => ?_) (fun c0 τ' z => ?_)
  · have ee : oDrop w a1 = (1, 0, 0) := if_neg c0
    rw [zK_v]
    simp (disch := first | assumption | exact p_c2i | exact p_c2r | exact p_c2n | omega | ((repeat (first | refine p_a1i.trans ?_ | refine p_a1r.trans ?_)); exact p_a10) | ((repeat (first | refine p_wI ?_ | refine p_wR ?_)); exact p_w0) | decide) only [reduceIte, Int.reduceLT, Int.reduceLE, Int.reduceEq, Int.reduceToNat, Int.reduceAdd, Int.reduceSub, Int.reduceMul, Int.reduceNeg, e207_221, p_ret0, WN_nx, WN_nrt, WN_ite]
    exact K0 (by rw [ee]; decide) τ' (by rw [ee]; exact z)
  · have ee : oDrop w a1 = (0, 0, 0) := if_pos c0
    rw [zK_v]
    simp (disch := first | assumption | exact p_c2i | exact p_c2r | exact p_c2n | omega | ((repeat (first | refine p_a1i.trans ?_ | refine p_a1r.trans ?_)); exact p_a10) | ((repeat (first | refine p_wI ?_ | refine p_wR ?_)); exact p_w0) | decide) only [reduceIte, Int.reduceLT, Int.reduceLE, Int.reduceEq, Int.reduceToNat, Int.reduceAdd, Int.reduceSub, Int.reduceMul, Int.reduceNeg, e207_221, p_ret0, WN_nx, WN_nrt, WN_ite]
    exact K1 (by rw [ee]) τ' _ z
theorem t_ca107 (ok : zSok N w) (hN : N ≤ 80000000) (hn : τ 3553 6 = (n : Int)) (hn8 : n ≤ 8) (h7 : τ 3553 7 = 0 ∨ τ 3553 7 = 1) (hp : p + 3 < 124) (e0 : τ 3563 p = 107) (e1 : τ 3563 (p + 1) = a1) (b1 : zi3 a1) (K0 : (oMany w a1).1 ≠ 0 → ∀ τ', zOp τ τ' w (oMany w a1) → Q (.inl (some (.inl 0))) (3565, x, zrho) (zg τ' w)) (K1 : (oMany w a1).1 = 0 → ∀ τ' b, zOp τ τ' w (0, 0, 0) → Q (.inl (some (.inl b))) (3565, x, zrho) (zg τ' (aMany a1 (wu w 201 0)))) : WM 207 [.inr (.inl (some 3553)), .inl ((p : Int))] (3565, x, zrho) (zg τ w) Q := by
  show Wp 207 0 [some (.inr (.inl (some 3553))), some (.inl ((p : Int)))] [] _ _ Q
  have k := zm_k
  have k4 := zt_m4
  have n4 := zt_m5
  have g0 : zg τ w 3563 = τ 3563 := zg_o (by omega)
  have q1 : ((p : Int) + 1).toNat = p + 1 := by omega
  have sw : zsw 107 235 [98, 112, 99, 235, 100, 235, 101, 235, 102, 235, 103, 235, 104, 117, 105, 235, 106, 235, 107, 222, 108, 235, 109, 235, 110, 235, 111, 235, 112, 146, 113, 235, 114, 235, 115, 196, 116, 175, 117, 235, 118, 235, 119, 235, 120, 209] = 222 := rfl
  simp (disch := first | assumption | exact p_c2i | exact p_c2r | exact p_c2n | omega | ((repeat (first | refine p_a1i.trans ?_ | refine p_a1r.trans ?_)); exact p_a10) | ((repeat (first | refine p_wI ?_ | refine p_wR ?_)); exact p_w0) | decide) only [reduceIte, Int.reduceLT, Int.reduceLE, Int.reduceEq, Int.reduceToNat, Int.reduceAdd, Int.reduceSub, Int.reduceMul, Int.reduceNeg, e207_0, e207_1, e207_4, e207_5, e207_6, e207_222, e207_223, e207_224, e207_227, e207_228, e207_229, e207_230, e207_231, p_al0, p_getR, p_il1, p_iald, p_sw, p_push, p_bin, p_cv1_0, p_cv1_1, p_cv1_2, p_cv1_3, p_cv1_4, zK_v, zK_0, WN_ncl, WN_nx, WN_nrt, WN_ite, zt_m6, g0, Int.toNat_natCast, sw, e0, e1, q1]
  refine t_coloursM ok.2.2.1 b1 hn hn8 h7 (fun c0 τ' z => ?_) (fun c0 τ' z => ?_)
  · rw [zK_v]
    simp (disch := first | assumption | exact p_c2i | exact p_c2r | exact p_c2n | omega | ((repeat (first | refine p_a1i.trans ?_ | refine p_a1r.trans ?_)); exact p_a10) | ((repeat (first | refine p_wI ?_ | refine p_wR ?_)); exact p_w0) | decide) only [reduceIte, Int.reduceLT, Int.reduceLE, Int.reduceEq, Int.reduceToNat, Int.reduceAdd, Int.reduceSub, Int.reduceMul, Int.reduceNeg, e207_234, p_ret0, WN_nx, WN_nrt, WN_ite]
    exact K0 c0 τ' z
  · rw [zK_v]
    simp (disch := first | assumption | exact p_c2i | exact p_c2r | exact p_c2n | omega | ((repeat (first | refine p_a1i.trans ?_ | refine p_a1r.trans ?_)); exact p_a10) | ((repeat (first | refine p_wI ?_ | refine p_wR ?_)); exact p_w0) | decide) only [reduceIte, Int.reduceLT, Int.reduceLE, Int.reduceEq, Int.reduceToNat, Int.reduceAdd, Int.reduceSub, Int.reduceMul, Int.reduceNeg, e207_234, p_ret0, WN_nx, WN_nrt, WN_ite]
    exact K1 c0 τ' _ z
theorem t_ca109 (ok : zSok N w) (hN : N ≤ 80000000) (hn : τ 3553 6 = (n : Int)) (hn8 : n ≤ 8) (h7 : τ 3553 7 = 0 ∨ τ 3553 7 = 1) (hp : p + 3 < 124) (e0 : τ 3563 p = 109) (e1 : τ 3563 (p + 1) = a1) (b1 : zi3 a1) (K0 : (oManner w a1).1 ≠ 0 → ∀ τ', zOp τ τ' w (oManner w a1) → Q (.inl (some (.inl 0))) (3565, x, zrho) (zg τ' w)) (K1 : (oManner w a1).1 = 0 → ∀ τ' b, zOp τ τ' w (0, 0, 0) → Q (.inl (some (.inl b))) (3565, x, zrho) (zg τ' (wu (wu w 201 0) 2 a1))) : WM 207 [.inr (.inl (some 3553)), .inl ((p : Int))] (3565, x, zrho) (zg τ w) Q := by
  show Wp 207 0 [some (.inr (.inl (some 3553))), some (.inl ((p : Int)))] [] _ _ Q
  have k := zm_k
  have k4 := zt_m4
  have n4 := zt_m5
  have g0 : zg τ w 3563 = τ 3563 := zg_o (by omega)
  have q1 : ((p : Int) + 1).toNat = p + 1 := by omega
  have sw : zsw 109 235 [98, 112, 99, 235, 100, 235, 101, 235, 102, 235, 103, 235, 104, 117, 105, 235, 106, 235, 107, 222, 108, 235, 109, 235, 110, 235, 111, 235, 112, 146, 113, 235, 114, 235, 115, 196, 116, 175, 117, 235, 118, 235, 119, 235, 120, 209] = 235 := rfl
  simp (disch := first | assumption | exact p_c2i | exact p_c2r | exact p_c2n | omega | ((repeat (first | refine p_a1i.trans ?_ | refine p_a1r.trans ?_)); exact p_a10) | ((repeat (first | refine p_wI ?_ | refine p_wR ?_)); exact p_w0) | decide) only [reduceIte, Int.reduceLT, Int.reduceLE, Int.reduceEq, Int.reduceToNat, Int.reduceAdd, Int.reduceSub, Int.reduceMul, Int.reduceNeg, e207_0, e207_1, e207_4, e207_5, e207_6, e207_235, e207_236, e207_237, e207_240, e207_241, e207_242, e207_243, e207_244, p_al0, p_getR, p_il1, p_iald, p_sw, p_push, p_bin, p_cv1_0, p_cv1_1, p_cv1_2, p_cv1_3, p_cv1_4, zK_v, zK_0, WN_ncl, WN_nx, WN_nrt, WN_ite, zt_m6, g0, Int.toNat_natCast, sw, e0, e1, q1]
  refine t_mannerM ok.2.2.1 b1 hn hn8 h7 (fun c0 τ' z => ?_) (fun c0 τ' z => ?_)
  · rw [zK_v]
    simp (disch := first | assumption | exact p_c2i | exact p_c2r | exact p_c2n | omega | ((repeat (first | refine p_a1i.trans ?_ | refine p_a1r.trans ?_)); exact p_a10) | ((repeat (first | refine p_wI ?_ | refine p_wR ?_)); exact p_w0) | decide) only [reduceIte, Int.reduceLT, Int.reduceLE, Int.reduceEq, Int.reduceToNat, Int.reduceAdd, Int.reduceSub, Int.reduceMul, Int.reduceNeg, e207_247, p_ret0, WN_nx, WN_nrt, WN_ite]
    exact K0 c0 τ' z
  · rw [zK_v]
    simp (disch := first | assumption | exact p_c2i | exact p_c2r | exact p_c2n | omega | ((repeat (first | refine p_a1i.trans ?_ | refine p_a1r.trans ?_)); exact p_a10) | ((repeat (first | refine p_wI ?_ | refine p_wR ?_)); exact p_w0) | decide) only [reduceIte, Int.reduceLT, Int.reduceLE, Int.reduceEq, Int.reduceToNat, Int.reduceAdd, Int.reduceSub, Int.reduceMul, Int.reduceNeg, e207_247, p_ret0, WN_nx, WN_nrt, WN_ite]
    exact K1 c0 τ' _ z
theorem t_carriesM {s : Nat} (hc : zLt (sA ts tl s)) (ok : zSok N w) (hN : N ≤ 80000000) (hn : τ 3553 6 = (n : Int)) (hn8 : n ≤ 8) (h7 : τ 3553 7 = 0 ∨ τ 3553 7 = 1) (hp : p + 3 < 124) (hd : zDc ts tl s (τ 3563) p) (K0 : (qO ts tl w s).1 ≠ 0 → ∀ τ', zOp τ τ' w (qO ts tl w s) → Q (.inl (some (.inl 0))) (3565, x, zrho) (zg τ' w)) (K1 : (qO ts tl w s).1 = 0 → ∀ τ' b, zOp τ τ' w (0, 0, 0) → Q (.inl (some (.inl b))) (3565, x, zrho) (zg τ' (qW ts tl w s))) : WM 207 [.inr (.inl (some 3553)), .inl ((p : Int))] (3565, x, zrho) (zg τ w) Q := by
  obtain ⟨d0, d1, d2, d3, d4⟩ := hd
  have r1 := rF_b (ts := ts) (tl := tl) (s := s)
  have r2 := q2_b (ts := ts) (tl := tl) (s := s)
  have r3 := q3_b (ts := ts) (tl := tl) (s := s)
  unfold qO at K0 K1
  unfold qW at K1
  rcases hc with e | e | e | e | e | e | e | e
  · have f2 : q2 ts tl s = dA ts tl (s + 2) := by unfold q2; rw [if_neg (by omega)]
    have f3 : q3 ts tl s = hIx (sA ts tl (s + 3)) := by unfold q3; rw [if_pos e]
    rw [e] at K0 K1
    exact t_ca104 ok hN hn hn8 h7 hp (d0.trans e) (d1 (by omega)) r1 (by rw [f2]; exact (d2 e).1) r2 (by rw [f3]; exact (d2 e).2) r3 K0 K1
  · have f2 : q2 ts tl s = dA ts tl (s + 2) := by unfold q2; rw [if_neg (by omega)]
    have f3 : q3 ts tl s = dA ts tl (s + 4) := by unfold q3; rw [if_neg (by omega)]
    rw [e] at K0 K1
    exact t_ca112 ok hN hn hn8 h7 hp (d0.trans e) (d1 (by omega)) r1 (by rw [f2]; exact (d3 e).1) r2 (by rw [f3]; exact (d3 e).2) r3 K0 K1
  · have f2 : q2 ts tl s = tIx (sA ts tl (s + 3)) := by unfold q2; rw [if_pos e]
    rw [e] at K0 K1
    exact t_ca116 ok hN hn hn8 h7 hp (d0.trans e) (d1 (by omega)) r1 (by rw [f2]; exact d4 e) r2 K0 K1
  · have f2 : q2 ts tl s = dA ts tl (s + 2) := by unfold q2; rw [if_neg (by omega)]
    rw [e] at K0 K1
    exact t_ca115 ok hN hn hn8 h7 hp (d0.trans e) (d1 (by omega)) r1 K0 K1
  · have f2 : q2 ts tl s = dA ts tl (s + 2) := by unfold q2; rw [if_neg (by omega)]
    rw [e] at K0 K1
    exact t_ca98 ok hN hn hn8 h7 hp (d0.trans e) K0 K1
  · have f2 : q2 ts tl s = dA ts tl (s + 2) := by unfold q2; rw [if_neg (by omega)]
    rw [e] at K0 K1
    exact t_ca120 ok hN hn hn8 h7 hp (d0.trans e) (d1 (by omega)) r1 K0 K1
  · have f2 : q2 ts tl s = dA ts tl (s + 2) := by unfold q2; rw [if_neg (by omega)]
    rw [e] at K0 K1
    exact t_ca107 ok hN hn hn8 h7 hp (d0.trans e) (d1 (by omega)) r1 K0 K1
  · have f2 : q2 ts tl s = dA ts tl (s + 2) := by unfold q2; rw [if_neg (by omega)]
    rw [e] at K0 K1
    exact t_ca109 ok hN hn hn8 h7 hp (d0.trans e) (d1 (by omega)) r1 K0 K1
end
