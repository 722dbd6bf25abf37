/-! THE CLASS: an order of the text -/
def oDrop (w : zW) (h : Int) : Int × Int × Int := if 0 ≤ h ∧ h < w 0 then (0, 0, 0) else (1, 0, 0)
/-- what keeps an order, and the lawn behind it -/
def oO (w : zW) (c a1 a2 a3 : Int) : Int × Int × Int := if c = 104 then oHoe w a1 a2 a3 else if c = 112 then oPaint w a1 a2 a3 else if c = 116 then oTurn w a1 a2 else if c = 115 then oStep w a1 else if c = 120 then oDrop w a1 else if c = 107 then oMany w a1 else if c = 109 then oManner w a1 else oBack w
def oW (w : zW) (c a1 a2 a3 : Int) : zW := if c = 104 then aAdd (9 * a1 + a2) a3 (wu w 201 0) else if c = 112 then wu (wu w 201 0) (10 + (9 * a1 + a2).toNat) a3 else if c = 116 then wu (wu w 201 0) (6 + a1.toNat) a2 else if c = 115 then aStN a1.toNat w else if c = 120 then aDrop a1.toNat (wu w 201 0) else if c = 107 then aMany a1 (wu w 201 0) else if c = 109 then wu (wu w 201 0) 2 a1 else aTake w
def cFo (c : Int) (o : Int × Int × Int) : Int := if c = 104 ∨ c = 112 ∨ c = 120 then o.1 else if c = 98 then (if o.1 = 0 then 0 else 3) else cF1 o
def zLt (c : Int) : Prop := c = 104 ∨ c = 112 ∨ c = 116 ∨ c = 115 ∨ c = 98 ∨ c = 120 ∨ c = 107 ∨ c = 109
def zi3 (a : Int) : Prop := -2147483648 ≤ a ∧ a < 2147483648
section
variable {σ : ZI} {θ : ZT} {Q : ZO → ZT → ZI → Prop} {x n : Nat} {w : zW} {N a1 a2 a3 : Int}
theorem oHoe_b {r c h : Int} : 0 ≤ (oHoe w r c h).1 ∧ (oHoe w r c h).1 ≤ 3 := by
  unfold oHoe
  repeat' (first | (dsimp only; omega) | split)
theorem oPaint_b {r c h : Int} : 0 ≤ (oPaint w r c h).1 ∧ (oPaint w r c h).1 ≤ 3 := by
  unfold oPaint
  repeat' (first | (dsimp only; omega) | split)
theorem oTurn_b {r c : Int} : 0 ≤ (oTurn w r c).1 ∧ (oTurn w r c).1 ≤ 2 := by
  unfold oTurn
  repeat' (first | (dsimp only; omega) | split)
theorem oStep_b {r : Int} : 0 ≤ (oStep w r).1 ∧ (oStep w r).1 ≤ 2 := by
  unfold oStep
  repeat' (first | (dsimp only; omega) | split)
theorem oDrop_b {r : Int} : 0 ≤ (oDrop w r).1 ∧ (oDrop w r).1 ≤ 1 := by
  unfold oDrop
  repeat' (first | (dsimp only; omega) | split)
theorem oMany_b {r : Int} : 0 ≤ (oMany w r).1 ∧ (oMany w r).1 ≤ 2 := by
  unfold oMany
  repeat' (first | (dsimp only; omega) | split)
theorem oManner_b {r : Int} : 0 ≤ (oManner w r).1 ∧ (oManner w r).1 ≤ 2 := by
  unfold oManner
  repeat' (first | (dsimp only; omega) | split)
theorem oBack_b : 0 ≤ (oBack w).1 ∧ (oBack w).1 ≤ 1 := by
  unfold oBack
  repeat' (first | (dsimp only; omega) | split)
theorem cF1_b {o : Int × Int × Int} (h : 0 ≤ o.1 ∧ o.1 ≤ 2) : 0 ≤ cF1 o ∧ cF1 o ≤ 3 := by
  unfold cF1
  split <;> omega
theorem oDrop_0 {r : Int} (h : (oDrop w r).1 = 0) : 0 ≤ r ∧ r < w 0 := by
  unfold oDrop at h
  split at h
  · assumption
  · exact absurd h (by decide)
theorem oDrop_e {r : Int} {σ : ZI} : zref σ (oDrop w r) = σ ∧ (if 0 ≤ r ∧ r < w 0 then (0 : Int) else 1) = (oDrop w r).1 := by
  unfold oDrop
  split
  · exact ⟨zref_0, rfl⟩
  · exact ⟨zref_0, rfl⟩
theorem oBack_0 (h : (oBack w).1 = 0) : w 201 ≠ 0 := by
  unfold oBack at h
  split at h
  · exact absurd (show (1 : Int) = 0 from h) (by decide)
  · assumption
theorem oHoe_z {r c h : Int} (o4 : w 0 ≤ 4) (h0 : (oHoe w r c h).1 = 0) : w 0 < 4 ∧ ((0 ≤ r ∧ r < 9) ∧ (0 ≤ c ∧ c < 9)) ∧ (0 ≤ h ∧ h ≤ 3) := by
  unfold oHoe at h0
  split at h0
  · exact absurd (show (1 : Int) = 0 from h0) (by decide)
  · next q1 =>
    split at h0
    · exact absurd (show (2 : Int) = 0 from h0) (by decide)
    · next q2 =>
      split at h0
      · exact absurd (show (3 : Int) = 0 from h0) (by decide)
      · next q3 => exact ⟨by omega, Classical.not_not.mp q1, Classical.not_not.mp q2⟩
theorem oPaint_0 {r c h : Int} (h0 : (oPaint w r c h).1 = 0) : ((0 ≤ r ∧ r < 9) ∧ (0 ≤ c ∧ c < 9)) ∧ (0 ≤ h ∧ h < w 1) := by
  rcases oPaint_c (w := w) (r := r) (c := c) (v := h) with ⟨_, _, h⟩ | e | e | e
  · exact h
  · omega
  · omega
  · omega
theorem oTurn_0 {r c : Int} (h0 : (oTurn w r c).1 = 0) : (0 ≤ r ∧ r ≤ 3) ∧ (0 ≤ c ∧ c ≤ 3) := by
  rcases oTurn_c (w := w) (t := r) (v := c) with ⟨_, _, h⟩ | e | e
  · exact h
  · omega
  · omega
theorem oStep_0 {r : Int} (h0 : (oStep w r).1 = 0) : 1 ≤ r ∧ r ≤ 40 := by
  rcases oStep_c (w := w) (v := r) with ⟨_, _, h⟩ | e | e
  · exact h
  · omega
  · omega
theorem oMany_0 {r : Int} (h0 : (oMany w r).1 = 0) : 2 ≤ r ∧ r ≤ 4 := by
  rcases oMany_c (w := w) (v := r) with ⟨_, _, h⟩ | e | e
  · exact h
  · omega
  · omega
theorem oManner_0 {r : Int} (h0 : (oManner w r).1 = 0) : 0 ≤ r ∧ r ≤ 2 := by
  rcases oManner_c (w := w) (v := r) with ⟨_, _, h⟩ | e | e
  · exact h
  · omega
  · omega
theorem zSok_f {g : zW} (ok : zSok N w) (h : zok N g) (h1 : g 201 = 0) (h2 : g 200 = w 200) : zSok N g := zSok_0 h h1 (by rw [h2]; exact ok.2.1)
theorem fg_1 : wu w 201 0 201 = 0 := wu_s
theorem fg_2 : wu w 201 0 200 = w 200 := wu_o (by omega)
theorem fg_0 : wu w 201 0 0 = w 0 := wu_o (by omega)
theorem zSok_W {c : Int} (hc : zLt c) (ok : zSok N w) (hN : 0 ≤ N) (h0 : (oO w c a1 a2 a3).1 = 0) : zSok (N + 600) (oW w c a1 a2 a3) := by
  have o0 := ok.2.2.1.1
  have oz := zSr_z ok
  rcases hc with e | e | e | e | e | e | e | e
  · subst e
    have hz := oHoe_z o0.2 (show (oHoe w a1 a2 a3).1 = 0 from h0)
    refine zSok_mono (N := N) ?_ (by omega)
    show zSok N (aAdd (9 * a1 + a2) a3 (wu w 201 0))
    exact zSok_f ok (zok_add oz (by rw [fg_0]; exact hz.1) hN (by omega) (by omega)) ((aAdd_hi (by rw [fg_0]; exact o0.2) (by omega)).trans fg_1) ((aAdd_hi (by rw [fg_0]; exact o0.2) (by omega)).trans fg_2)
  · subst e
    have hz := oPaint_0 (show (oPaint w a1 a2 a3).1 = 0 from h0)
    refine zSok_mono (N := N) ?_ (by omega)
    show zSok N (wu (wu w 201 0) (10 + (9 * a1 + a2).toNat) a3)
    exact zSok_f ok (zok_col oz (by omega) (by rw [wu_o (by omega)]; omega)) ((wu_o (by omega)).trans fg_1) ((wu_o (by omega)).trans fg_2)
  · subst e
    have hz := oTurn_0 (show (oTurn w a1 a2).1 = 0 from h0)
    refine zSok_mono (N := N) ?_ (by omega)
    show zSok N (wu (wu w 201 0) (6 + a1.toNat) a2)
    exact zSok_f ok (zok_trn oz (by omega) (by omega)) ((wu_o (by omega)).trans fg_1) ((wu_o (by omega)).trans fg_2)
  · subst e
    have hz := oStep_0 (show (oStep w a1).1 = 0 from h0)
    refine zSok_mono (N := N + 13 * (a1.toNat : Int)) ?_ (by omega)
    exact (aStN_ok ok a1.toNat).1
  · subst e
    have hz := oBack_0 (show (oBack w).1 = 0 from h0)
    have o1 := ok.1
    refine zSok_mono (N := N + 1) ?_ (by omega)
    exact zSok_take ok (by omega)
  · subst e
    have hz := oDrop_0 (show (oDrop w a1).1 = 0 from h0)
    refine zSok_mono (N := N) ?_ (by omega)
    show zSok N (aDrop a1.toNat (wu w 201 0))
    exact zSok_f ok (zok_drop oz (by rw [fg_0]; omega)) ((aDrop_hi (by rw [fg_0]; exact o0.2) (by omega)).trans fg_1) ((aDrop_hi (by rw [fg_0]; exact o0.2) (by omega)).trans fg_2)
  · subst e
    have hz := oMany_0 (show (oMany w a1).1 = 0 from h0)
    refine zSok_mono (N := N) ?_ (by omega)
    show zSok N (aMany a1 (wu w 201 0))
    exact zSok_f ok (zok_many oz hz) ((aMany_o (by omega) (by omega)).trans fg_1) ((aMany_o (by omega) (by omega)).trans fg_2)
  · subst e
    have hz := oManner_0 (show (oManner w a1).1 = 0 from h0)
    refine zSok_mono (N := N) ?_ (by omega)
    show zSok N (wu (wu w 201 0) 2 a1)
    exact zSok_f ok (zok_man oz hz) ((wu_o (by omega)).trans fg_1) ((wu_o (by omega)).trans fg_2)
theorem t_fo104 (hR : zSr σ 101 w) (ok : zSok N w) (f2 : σ 3550 2 = 104) (f3 : σ 3550 3 = a1) (b1 : zi3 a1) (f4 : σ 3550 4 = a2) (b2 : zi3 a2) (f5 : σ 3550 5 = a3) (b3 : zi3 a3) : WM 140 [.inr (.inl (some 100))] (3565, x, zrho) σ Q = Q (.inl (some (.inl (cFo 104 (oO w 104 a1 a2 a3))))) (3565, x, zrho) (zref σ (oO w 104 a1 a2 a3)) := by
  show Wp 140 0 [some (.inr (.inl (some 100)))] [] _ _ Q = _
  have k := zx_k
  have k50 := zt_k
  have tf := fun (Q : ZO → ZT → ZI → Prop) => t_faultHoe (x := x) (Q := Q) hR.l ok.2.2.1 b1 b2 b3
  have bb := oHoe_b (w := w) (r := a1) (c := a2) (h := a3)
  obtain ⟨b1l, b1r⟩ := b1
  obtain ⟨b2l, b2r⟩ := b2
  obtain ⟨b3l, b3r⟩ := b3
  have sw : zsw 104 207 [104, 88, 105, 207, 106, 207, 107, 171, 108, 207, 109, 183, 110, 207, 111, 207, 112, 126, 113, 207, 114, 207, 115, 195, 116, 152, 117, 207, 118, 207, 119, 207, 120, 114] = 88 := rfl
  have ec : oO w 104 a1 a2 a3 = oHoe w a1 a2 a3 := rfl
  rw [ec, show cFo 104 (oHoe w a1 a2 a3) = (oHoe w a1 a2 a3).1 from rfl]
  simp (disch := first | assumption | exact p_c2i | exact p_c2r | exact p_c2n | omega | ((repeat (first | refine p_a1i.trans ?_ | refine p_a1r.trans ?_)); exact p_a10) | ((repeat (first | refine p_wI ?_ | refine p_wR ?_)); exact p_w0) | decide) only [reduceIte, Int.reduceLT, Int.reduceLE, Int.reduceEq, Int.reduceToNat, Int.reduceAdd, Int.reduceSub, Int.reduceMul, Int.reduceNeg, e140_0, e140_1, e140_4, e140_7, e140_88, e140_89, e140_90, e140_93, e140_96, e140_97, e140_100, e140_103, e140_104, e140_107, e140_110, e140_113, e140_114, e140_115, e140_116, e140_119, e140_122, e140_125, e140_126, e140_127, e140_128, e140_131, e140_134, e140_135, e140_138, e140_141, e140_142, e140_145, e140_148, e140_151, e140_152, e140_153, e140_154, e140_157, e140_160, e140_161, e140_164, e140_167, e140_170, e140_171, e140_172, e140_173, e140_176, e140_179, e140_182, e140_183, e140_184, e140_185, e140_188, e140_191, e140_194, e140_195, e140_196, e140_197, e140_200, e140_203, e140_206, e140_207, e140_208, e140_211, p_al0, p_getR, p_getI, p_sw, p_cv3_0, p_cv3_1, p_cv3_2, p_cv3_3, p_cv3_4, zK_v, zK_0, WN_ncl, p_ret0, p_cv1_0, p_cv1_1, p_cv1_2, p_cv1_3, p_cv1_4, p_cv2_0, p_cv2_1, p_cv2_2, p_cv2_3, p_cv2_4, p_cv0_0, p_cv0_1, p_cv0_2, p_cv0_3, p_cv0_4, WN_nx, WN_nrt, WN_ite, zx_r8, sw, f2, f3, f4, f5, tf]
theorem t_fo112 (hR : zSr σ 101 w) (ok : zSok N w) (f2 : σ 3550 2 = 112) (f3 : σ 3550 3 = a1) (b1 : zi3 a1) (f4 : σ 3550 4 = a2) (b2 : zi3 a2) (f5 : σ 3550 5 = a3) (b3 : zi3 a3) : WM 140 [.inr (.inl (some 100))] (3565, x, zrho) σ Q = Q (.inl (some (.inl (cFo 112 (oO w 112 a1 a2 a3))))) (3565, x, zrho) (zref σ (oO w 112 a1 a2 a3)) := by
  show Wp 140 0 [some (.inr (.inl (some 100)))] [] _ _ Q = _
  have k := zx_k
  have k50 := zt_k
  have tf := fun (Q : ZO → ZT → ZI → Prop) => t_faultPaint (x := x) (Q := Q) hR.l ok.2.2.1 b1 b2 b3
  have bb := oPaint_b (w := w) (r := a1) (c := a2) (h := a3)
  obtain ⟨b1l, b1r⟩ := b1
  obtain ⟨b2l, b2r⟩ := b2
  obtain ⟨b3l, b3r⟩ := b3
  have sw : zsw 112 207 [104, 88, 105, 207, 106, 207, 107, 171, 108, 207, 109, 183, 110, 207, 111, 207, 112, 126, 113, 207, 114, 207, 115, 195, 116, 152, 117, 207, 118, 207, 119, 207, 120, 114] = 126 := rfl
  have ec : oO w 112 a1 a2 a3 = oPaint w a1 a2 a3 := rfl
  rw [ec, show cFo 112 (oPaint w a1 a2 a3) = (oPaint w a1 a2 a3).1 from rfl]
  simp (disch := first | assumption | exact p_c2i | exact p_c2r | exact p_c2n | omega | ((repeat (first | refine p_a1i.trans ?_ | refine p_a1r.trans ?_)); exact p_a10) | ((repeat (first | refine p_wI ?_ | refine p_wR ?_)); exact p_w0) | decide) only [reduceIte, Int.reduceLT, Int.reduceLE, Int.reduceEq, Int.reduceToNat, Int.reduceAdd, Int.reduceSub, Int.reduceMul, Int.reduceNeg, e140_0, e140_1, e140_4, e140_7, e140_88, e140_89, e140_90, e140_93, e140_96, e140_97, e140_100, e140_103, e140_104, e140_107, e140_110, e140_113, e140_114, e140_115, e140_116, e140_119, e140_122, e140_125, e140_126, e140_127, e140_128, e140_131, e140_134, e140_135, e140_138, e140_141, e140_142, e140_145, e140_148, e140_151, e140_152, e140_153, e140_154, e140_157, e140_160, e140_161, e140_164, e140_167, e140_170, e140_171, e140_172, e140_173, e140_176, e140_179, e140_182, e140_183, e140_184, e140_185, e140_188, e140_191, e140_194, e140_195, e140_196, e140_197, e140_200, e140_203, e140_206, e140_207, e140_208, e140_211, p_al0, p_getR, p_getI, p_sw, p_cv3_0, p_cv3_1, p_cv3_2, p_cv3_3, p_cv3_4, zK_v, zK_0, WN_ncl, p_ret0, p_cv1_0, p_cv1_1, p_cv1_2, p_cv1_3, p_cv1_4, p_cv2_0, p_cv2_1, p_cv2_2, p_cv2_3, p_cv2_4, p_cv0_0, p_cv0_1, p_cv0_2, p_cv0_3, p_cv0_4, WN_nx, WN_nrt, WN_ite, zx_r8, sw, f2, f3, f4, f5, tf]
theorem t_fo116 (hR : zSr σ 101 w) (ok : zSok N w) (f2 : σ 3550 2 = 116) (f3 : σ 3550 3 = a1) (b1 : zi3 a1) (f5 : σ 3550 5 = a2) (b2 : zi3 a2) : WM 140 [.inr (.inl (some 100))] (3565, x, zrho) σ Q = Q (.inl (some (.inl (cFo 116 (oO w 116 a1 a2 a3))))) (3565, x, zrho) (zref σ (oO w 116 a1 a2 a3)) := by
  show Wp 140 0 [some (.inr (.inl (some 100)))] [] _ _ Q = _
  have k := zx_k
  have k50 := zt_k
  have tf := fun (Q : ZO → ZT → ZI → Prop) => t_faultTurn (x := x) (Q := Q) hR.l ok.2.2.1 b1 b2
  have bb := cF1_b (oTurn_b (w := w) (r := a1) (c := a2))
  obtain ⟨b1l, b1r⟩ := b1
  obtain ⟨b2l, b2r⟩ := b2
  have sw : zsw 116 207 [104, 88, 105, 207, 106, 207, 107, 171, 108, 207, 109, 183, 110, 207, 111, 207, 112, 126, 113, 207, 114, 207, 115, 195, 116, 152, 117, 207, 118, 207, 119, 207, 120, 114] = 152 := rfl
  have ec : oO w 116 a1 a2 a3 = oTurn w a1 a2 := rfl
  rw [ec, show cFo 116 (oTurn w a1 a2) = cF1 (oTurn w a1 a2) from rfl]
  simp (disch := first | assumption | exact p_c2i | exact p_c2r | exact p_c2n | omega | ((repeat (first | refine p_a1i.trans ?_ | refine p_a1r.trans ?_)); exact p_a10) | ((repeat (first | refine p_wI ?_ | refine p_wR ?_)); exact p_w0) | decide) only [reduceIte, Int.reduceLT, Int.reduceLE, Int.reduceEq, Int.reduceToNat, Int.reduceAdd, Int.reduceSub, Int.reduceMul, Int.reduceNeg, e140_0, e140_1, e140_4, e140_7, e140_88, e140_89, e140_90, e140_93, e140_96, e140_97, e140_100, e140_103, e140_104, e140_107, e140_110, e140_113, e140_114, e140_115, e140_116, e140_119, e140_122, e140_125, e140_126, e140_127, e140_128, e140_131, e140_134, e140_135, e140_138, e140_141, e140_142, e140_145, e140_148, e140_151, e140_152, e140_153, e140_154, e140_157, e140_160, e140_161, e140_164, e140_167, e140_170, e140_171, e140_172, e140_173, e140_176, e140_179, e140_182, e140_183, e140_184, e140_185, e140_188, e140_191, e140_194, e140_195, e140_196, e140_197, e140_200, e140_203, e140_206, e140_207, e140_208, e140_211, p_al0, p_getR, p_getI, p_sw, p_cv3_0, p_cv3_1, p_cv3_2, p_cv3_3, p_cv3_4, zK_v, zK_0, WN_ncl, p_ret0, p_cv1_0, p_cv1_1, p_cv1_2, p_cv1_3, p_cv1_4, p_cv2_0, p_cv2_1, p_cv2_2, p_cv2_3, p_cv2_4, p_cv0_0, p_cv0_1, p_cv0_2, p_cv0_3, p_cv0_4, WN_nx, WN_nrt, WN_ite, zx_r8, sw, f2, f3, f5, tf]
theorem t_fo115 (hR : zSr σ 101 w) (ok : zSok N w) (f2 : σ 3550 2 = 115) (f3 : σ 3550 3 = a1) (b1 : zi3 a1) : WM 140 [.inr (.inl (some 100))] (3565, x, zrho) σ Q = Q (.inl (some (.inl (cFo 115 (oO w 115 a1 a2 a3))))) (3565, x, zrho) (zref σ (oO w 115 a1 a2 a3)) := by
  show Wp 140 0 [some (.inr (.inl (some 100)))] [] _ _ Q = _
  have k := zx_k
  have k50 := zt_k
  have tf := fun (Q : ZO → ZT → ZI → Prop) => t_faultStep (x := x) (Q := Q) hR.l ok.2.2.1 b1
  have bb := cF1_b (oStep_b (w := w) (r := a1))
  obtain ⟨b1l, b1r⟩ := b1
  have sw : zsw 115 207 [104, 88, 105, 207, 106, 207, 107, 171, 108, 207, 109, 183, 110, 207, 111, 207, 112, 126, 113, 207, 114, 207, 115, 195, 116, 152, 117, 207, 118, 207, 119, 207, 120, 114] = 195 := rfl
  have ec : oO w 115 a1 a2 a3 = oStep w a1 := rfl
  rw [ec, show cFo 115 (oStep w a1) = cF1 (oStep w a1) from rfl]
  simp (disch := first | assumption | exact p_c2i | exact p_c2r | exact p_c2n | omega | ((repeat (first | refine p_a1i.trans ?_ | refine p_a1r.trans ?_)); exact p_a10) | ((repeat (first | refine p_wI ?_ | refine p_wR ?_)); exact p_w0) | decide) only [reduceIte, Int.reduceLT, Int.reduceLE, Int.reduceEq, Int.reduceToNat, Int.reduceAdd, Int.reduceSub, Int.reduceMul, Int.reduceNeg, e140_0, e140_1, e140_4, e140_7, e140_88, e140_89, e140_90, e140_93, e140_96, e140_97, e140_100, e140_103, e140_104, e140_107, e140_110, e140_113, e140_114, e140_115, e140_116, e140_119, e140_122, e140_125, e140_126, e140_127, e140_128, e140_131, e140_134, e140_135, e140_138, e140_141, e140_142, e140_145, e140_148, e140_151, e140_152, e140_153, e140_154, e140_157, e140_160, e140_161, e140_164, e140_167, e140_170, e140_171, e140_172, e140_173, e140_176, e140_179, e140_182, e140_183, e140_184, e140_185, e140_188, e140_191, e140_194, e140_195, e140_196, e140_197, e140_200, e140_203, e140_206, e140_207, e140_208, e140_211, p_al0, p_getR, p_getI, p_sw, p_cv3_0, p_cv3_1, p_cv3_2, p_cv3_3, p_cv3_4, zK_v, zK_0, WN_ncl, p_ret0, p_cv1_0, p_cv1_1, p_cv1_2, p_cv1_3, p_cv1_4, p_cv2_0, p_cv2_1, p_cv2_2, p_cv2_3, p_cv2_4, p_cv0_0, p_cv0_1, p_cv0_2, p_cv0_3, p_cv0_4, WN_nx, WN_nrt, WN_ite, zx_r8, sw, f2, f3, tf]
theorem t_fo98 (hR : zSr σ 101 w) (ok : zSok N w) (f2 : σ 3550 2 = 98) : WM 140 [.inr (.inl (some 100))] (3565, x, zrho) σ Q = Q (.inl (some (.inl (cFo 98 (oO w 98 a1 a2 a3))))) (3565, x, zrho) (zref σ (oO w 98 a1 a2 a3)) := by
  show Wp 140 0 [some (.inr (.inl (some 100)))] [] _ _ Q = _
  have k := zx_k
  have k50 := zt_k
  have tf := fun (Q : ZO → ZT → ZI → Prop) => t_faultBack (x := x) (Q := Q) hR.s3 hR.s4 ok
  have bb := oBack_b (w := w)
  have sw : zsw 98 207 [104, 88, 105, 207, 106, 207, 107, 171, 108, 207, 109, 183, 110, 207, 111, 207, 112, 126, 113, 207, 114, 207, 115, 195, 116, 152, 117, 207, 118, 207, 119, 207, 120, 114] = 207 := rfl
  have ec : oO w 98 a1 a2 a3 = oBack w := rfl
  have b4 : 0 ≤ (if (oBack w).1 = 0 then (0 : Int) else 3) ∧ (if (oBack w).1 = 0 then (0 : Int) else 3) ≤ 3 := by split <;> omega
  rw [ec, show cFo 98 (oBack w) = (if (oBack w).1 = 0 then 0 else 3) from rfl]
  generalize (if (oBack w).1 = 0 then (0 : Int) else 3) = vv at tf b4 ⊢
  simp (disch := first | assumption | exact p_c2i | exact p_c2r | exact p_c2n | omega | ((repeat (first | refine p_a1i.trans ?_ | refine p_a1r.trans ?_)); exact p_a10) | ((repeat (first | refine p_wI ?_ | refine p_wR ?_)); exact p_w0) | decide) only [reduceIte, Int.reduceLT, Int.reduceLE, Int.reduceEq, Int.reduceToNat, Int.reduceAdd, Int.reduceSub, Int.reduceMul, Int.reduceNeg, e140_0, e140_1, e140_4, e140_7, e140_88, e140_89, e140_90, e140_93, e140_96, e140_97, e140_100, e140_103, e140_104, e140_107, e140_110, e140_113, e140_114, e140_115, e140_116, e140_119, e140_122, e140_125, e140_126, e140_127, e140_128, e140_131, e140_134, e140_135, e140_138, e140_141, e140_142, e140_145, e140_148, e140_151, e140_152, e140_153, e140_154, e140_157, e140_160, e140_161, e140_164, e140_167, e140_170, e140_171, e140_172, e140_173, e140_176, e140_179, e140_182, e140_183, e140_184, e140_185, e140_188, e140_191, e140_194, e140_195, e140_196, e140_197, e140_200, e140_203, e140_206, e140_207, e140_208, e140_211, p_al0, p_getR, p_getI, p_sw, p_cv3_0, p_cv3_1, p_cv3_2, p_cv3_3, p_cv3_4, zK_v, zK_0, WN_ncl, p_ret0, p_cv1_0, p_cv1_1, p_cv1_2, p_cv1_3, p_cv1_4, p_cv2_0, p_cv2_1, p_cv2_2, p_cv2_3, p_cv2_4, p_cv0_0, p_cv0_1, p_cv0_2, p_cv0_3, p_cv0_4, WN_nx, WN_nrt, WN_ite, zx_r8, sw, f2, tf]
theorem t_fo120 (hR : zSr σ 101 w) (ok : zSok N w) (f2 : σ 3550 2 = 120) (f3 : σ 3550 3 = a1) (b1 : zi3 a1) : WM 140 [.inr (.inl (some 100))] (3565, x, zrho) σ Q = Q (.inl (some (.inl (cFo 120 (oO w 120 a1 a2 a3))))) (3565, x, zrho) (zref σ (oO w 120 a1 a2 a3)) := by
  show Wp 140 0 [some (.inr (.inl (some 100)))] [] _ _ Q = _
  have k := zx_k
  have k50 := zt_k
  have tf := fun (Q : ZO → ZT → ZI → Prop) => t_faultDrop (x := x) (Q := Q) hR.l ok.2.2.1 b1
  have bb := oDrop_b (w := w) (r := a1)
  obtain ⟨b1l, b1r⟩ := b1
  have sw : zsw 120 207 [104, 88, 105, 207, 106, 207, 107, 171, 108, 207, 109, 183, 110, 207, 111, 207, 112, 126, 113, 207, 114, 207, 115, 195, 116, 152, 117, 207, 118, 207, 119, 207, 120, 114] = 114 := rfl
  have ec : oO w 120 a1 a2 a3 = oDrop w a1 := rfl
  have ee := oDrop_e (w := w) (r := a1) (σ := σ)
  rw [ee.2] at tf
  rw [ec, ee.1, show cFo 120 (oDrop w a1) = (oDrop w a1).1 from rfl]
  simp (disch := first | assumption | exact p_c2i | exact p_c2r | exact p_c2n | omega | ((repeat (first | refine p_a1i.trans ?_ | refine p_a1r.trans ?_)); exact p_a10) | ((repeat (first | refine p_wI ?_ | refine p_wR ?_)); exact p_w0) | decide) only [reduceIte, Int.reduceLT, Int.reduceLE, Int.reduceEq, Int.reduceToNat, Int.reduceAdd, Int.reduceSub, Int.reduceMul, Int.reduceNeg, e140_0, e140_1, e140_4, e140_7, e140_88, e140_89, e140_90, e140_93, e140_96, e140_97, e140_100, e140_103, e140_104, e140_107, e140_110, e140_113, e140_114, e140_115, e140_116, e140_119, e140_122, e140_125, e140_126, e140_127, e140_128, e140_131, e140_134, e140_135, e140_138, e140_141, e140_142, e140_145, e140_148, e140_151, e140_152, e140_153, e140_154, e140_157, e140_160, e140_161, e140_164, e140_167, e140_170, e140_171, e140_172, e140_173, e140_176, e140_179, e140_182, e140_183, e140_184, e140_185, e140_188, e140_191, e140_194, e140_195, e140_196, e140_197, e140_200, e140_203, e140_206, e140_207, e140_208, e140_211, p_al0, p_getR, p_getI, p_sw, p_cv3_0, p_cv3_1, p_cv3_2, p_cv3_3, p_cv3_4, zK_v, zK_0, WN_ncl, p_ret0, p_cv1_0, p_cv1_1, p_cv1_2, p_cv1_3, p_cv1_4, p_cv2_0, p_cv2_1, p_cv2_2, p_cv2_3, p_cv2_4, p_cv0_0, p_cv0_1, p_cv0_2, p_cv0_3, p_cv0_4, WN_nx, WN_nrt, WN_ite, zx_r8, sw, f2, f3, tf]
theorem t_fo107 (hR : zSr σ 101 w) (ok : zSok N w) (f2 : σ 3550 2 = 107) (f3 : σ 3550 3 = a1) (b1 : zi3 a1) : WM 140 [.inr (.inl (some 100))] (3565, x, zrho) σ Q = Q (.inl (some (.inl (cFo 107 (oO w 107 a1 a2 a3))))) (3565, x, zrho) (zref σ (oO w 107 a1 a2 a3)) := by
  show Wp 140 0 [some (.inr (.inl (some 100)))] [] _ _ Q = _
  have k := zx_k
  have k50 := zt_k
  have tf := fun (Q : ZO → ZT → ZI → Prop) => t_faultColours (x := x) (Q := Q) hR.l ok.2.2.1 b1
  have bb := cF1_b (oMany_b (w := w) (r := a1))
  obtain ⟨b1l, b1r⟩ := b1
  have sw : zsw 107 207 [104, 88, 105, 207, 106, 207, 107, 171, 108, 207, 109, 183, 110, 207, 111, 207, 112, 126, 113, 207, 114, 207, 115, 195, 116, 152, 117, 207, 118, 207, 119, 207, 120, 114] = 171 := rfl
  have ec : oO w 107 a1 a2 a3 = oMany w a1 := rfl
  rw [ec, show cFo 107 (oMany w a1) = cF1 (oMany w a1) from rfl]
  simp (disch := first | assumption | exact p_c2i | exact p_c2r | exact p_c2n | omega | ((repeat (first | refine p_a1i.trans ?_ | refine p_a1r.trans ?_)); exact p_a10) | ((repeat (first | refine p_wI ?_ | refine p_wR ?_)); exact p_w0) | decide) only [reduceIte, Int.reduceLT, Int.reduceLE, Int.reduceEq, Int.reduceToNat, Int.reduceAdd, Int.reduceSub, Int.reduceMul, Int.reduceNeg, e140_0, e140_1, e140_4, e140_7, e140_88, e140_89, e140_90, e140_93, e140_96, e140_97, e140_100, e140_103, e140_104, e140_107, e140_110, e140_113, e140_114, e140_115, e140_116, e140_119, e140_122, e140_125, e140_126, e140_127, e140_128, e140_131, e140_134, e140_135, e140_138, e140_141, e140_142, e140_145, e140_148, e140_151, e140_152, e140_153, e140_154, e140_157, e140_160, e140_161, e140_164, e140_167, e140_170, e140_171, e140_172, e140_173, e140_176, e140_179, e140_182, e140_183, e140_184, e140_185, e140_188, e140_191, e140_194, e140_195, e140_196, e140_197, e140_200, e140_203, e140_206, e140_207, e140_208, e140_211, p_al0, p_getR, p_getI, p_sw, p_cv3_0, p_cv3_1, p_cv3_2, p_cv3_3, p_cv3_4, zK_v, zK_0, WN_ncl, p_ret0, p_cv1_0, p_cv1_1, p_cv1_2, p_cv1_3, p_cv1_4, p_cv2_0, p_cv2_1, p_cv2_2, p_cv2_3, p_cv2_4, p_cv0_0, p_cv0_1, p_cv0_2, p_cv0_3, p_cv0_4, WN_nx, WN_nrt, WN_ite, zx_r8, sw, f2, f3, tf]
theorem t_fo109 (hR : zSr σ 101 w) (ok : zSok N w) (f2 : σ 3550 2 = 109) (f3 : σ 3550 3 = a1) (b1 : zi3 a1) : WM 140 [.inr (.inl (some 100))] (3565, x, zrho) σ Q = Q (.inl (some (.inl (cFo 109 (oO w 109 a1 a2 a3))))) (3565, x, zrho) (zref σ (oO w 109 a1 a2 a3)) := by
  show Wp 140 0 [some (.inr (.inl (some 100)))] [] _ _ Q = _
  have k := zx_k
  have k50 := zt_k
  have tf := fun (Q : ZO → ZT → ZI → Prop) => t_faultManner (x := x) (Q := Q) hR.l ok.2.2.1 b1
  have bb := cF1_b (oManner_b (w := w) (r := a1))
  obtain ⟨b1l, b1r⟩ := b1
  have sw : zsw 109 207 [104, 88, 105, 207, 106, 207, 107, 171, 108, 207, 109, 183, 110, 207, 111, 207, 112, 126, 113, 207, 114, 207, 115, 195, 116, 152, 117, 207, 118, 207, 119, 207, 120, 114] = 183 := rfl
  have ec : oO w 109 a1 a2 a3 = oManner w a1 := rfl
  rw [ec, show cFo 109 (oManner w a1) = cF1 (oManner w a1) from rfl]
  simp (disch := first | assumption | exact p_c2i | exact p_c2r | exact p_c2n | omega | ((repeat (first | refine p_a1i.trans ?_ | refine p_a1r.trans ?_)); exact p_a10) | ((repeat (first | refine p_wI ?_ | refine p_wR ?_)); exact p_w0) | decide) only [reduceIte, Int.reduceLT, Int.reduceLE, Int.reduceEq, Int.reduceToNat, Int.reduceAdd, Int.reduceSub, Int.reduceMul, Int.reduceNeg, e140_0, e140_1, e140_4, e140_7, e140_88, e140_89, e140_90, e140_93, e140_96, e140_97, e140_100, e140_103, e140_104, e140_107, e140_110, e140_113, e140_114, e140_115, e140_116, e140_119, e140_122, e140_125, e140_126, e140_127, e140_128, e140_131, e140_134, e140_135, e140_138, e140_141, e140_142, e140_145, e140_148, e140_151, e140_152, e140_153, e140_154, e140_157, e140_160, e140_161, e140_164, e140_167, e140_170, e140_171, e140_172, e140_173, e140_176, e140_179, e140_182, e140_183, e140_184, e140_185, e140_188, e140_191, e140_194, e140_195, e140_196, e140_197, e140_200, e140_203, e140_206, e140_207, e140_208, e140_211, p_al0, p_getR, p_getI, p_sw, p_cv3_0, p_cv3_1, p_cv3_2, p_cv3_3, p_cv3_4, zK_v, zK_0, WN_ncl, p_ret0, p_cv1_0, p_cv1_1, p_cv1_2, p_cv1_3, p_cv1_4, p_cv2_0, p_cv2_1, p_cv2_2, p_cv2_3, p_cv2_4, p_cv0_0, p_cv0_1, p_cv0_2, p_cv0_3, p_cv0_4, WN_nx, WN_nrt, WN_ite, zx_r8, sw, f2, f3, tf]
theorem t_co104 (hR : zSr σ 101 w) (ok : zSok N w) (hN : N ≤ 80000000) (f2 : σ 3550 2 = 104) (f3 : σ 3550 3 = a1) (b1 : zi3 a1) (f4 : σ 3550 4 = a2) (b2 : zi3 a2) (f5 : σ 3550 5 = a3) (b3 : zi3 a3) (h0 : (oO w 104 a1 a2 a3).1 = 0) (K : ∀ σ', zSr σ' 101 (oW w 104 a1 a2 a3) → zfS σ σ' 101 → Q (.inl none) (3565, x, zrho) σ') : WM 141 [.inr (.inl (some 100))] (3565, x, zrho) σ Q := by
  show Wp 141 0 [some (.inr (.inl (some 100)))] [] _ _ Q
  have k := zx_k
  have k50 := zt_k
  have o0 := ok.2.2.1.1
  have ec : oO w 104 a1 a2 a3 = oHoe w a1 a2 a3 := rfl
  rw [ec] at h0
  have sw : zsw 104 228 [104, 88, 105, 228, 106, 228, 107, 183, 108, 228, 109, 198, 110, 228, 111, 228, 112, 132, 113, 228, 114, 228, 115, 213, 116, 161, 117, 228, 118, 228, 119, 228, 120, 117] = 88 := rfl
  obtain ⟨b1l, b1r⟩ := b1
  obtain ⟨b2l, b2r⟩ := b2
  obtain ⟨b3l, b3r⟩ := b3
  simp (disch := first | assumption | exact p_c2i | exact p_c2r | exact p_c2n | omega | ((repeat (first | refine p_a1i.trans ?_ | refine p_a1r.trans ?_)); exact p_a10) | ((repeat (first | refine p_wI ?_ | refine p_wR ?_)); exact p_w0) | decide) only [reduceIte, Int.reduceLT, Int.reduceLE, Int.reduceEq, Int.reduceToNat, Int.reduceAdd, Int.reduceSub, Int.reduceMul, Int.reduceNeg, e141_0, e141_1, e141_4, e141_7, e141_88, e141_89, e141_90, e141_93, e141_96, e141_97, e141_100, e141_103, e141_104, e141_107, e141_110, p_al0, p_getR, p_getI, p_sw, p_cv3_0, p_cv3_1, p_cv3_2, p_cv3_3, p_cv3_4, zK_v, zK_0, WN_ncl, WN_nx, WN_nrt, WN_ite, zx_r8, zx_r0, sw, f2, f3, f4, f5]
  have hz := oHoe_z o0.2 h0
  refine t_setHoe hR ok hz.1 (fun σ1 h1 f1 => ?_)
  rw [zK_v]
  simp (disch := first | assumption | exact p_c2i | exact p_c2r | exact p_c2n | omega | ((repeat (first | refine p_a1i.trans ?_ | refine p_a1r.trans ?_)); exact p_a10) | ((repeat (first | refine p_wI ?_ | refine p_wR ?_)); exact p_w0) | decide) only [reduceIte, Int.reduceLT, Int.reduceLE, Int.reduceEq, Int.reduceToNat, Int.reduceAdd, Int.reduceSub, Int.reduceMul, Int.reduceNeg, e141_113, e141_114, e141_236, p_popi, p_popr, p_goto, p_vret, WN_nx, WN_nrt, WN_ite]
  exact K σ1 h1 f1
theorem t_co112 (hR : zSr σ 101 w) (ok : zSok N w) (hN : N ≤ 80000000) (f2 : σ 3550 2 = 112) (f3 : σ 3550 3 = a1) (b1 : zi3 a1) (f4 : σ 3550 4 = a2) (b2 : zi3 a2) (f5 : σ 3550 5 = a3) (b3 : zi3 a3) (h0 : (oO w 112 a1 a2 a3).1 = 0) (K : ∀ σ', zSr σ' 101 (oW w 112 a1 a2 a3) → zfS σ σ' 101 → Q (.inl none) (3565, x, zrho) σ') : WM 141 [.inr (.inl (some 100))] (3565, x, zrho) σ Q := by
  show Wp 141 0 [some (.inr (.inl (some 100)))] [] _ _ Q
  have k := zx_k
  have k50 := zt_k
  have o0 := ok.2.2.1.1
  have ec : oO w 112 a1 a2 a3 = oPaint w a1 a2 a3 := rfl
  rw [ec] at h0
  have sw : zsw 112 228 [104, 88, 105, 228, 106, 228, 107, 183, 108, 228, 109, 198, 110, 228, 111, 228, 112, 132, 113, 228, 114, 228, 115, 213, 116, 161, 117, 228, 118, 228, 119, 228, 120, 117] = 132 := rfl
  obtain ⟨b1l, b1r⟩ := b1
  obtain ⟨b2l, b2r⟩ := b2
  obtain ⟨b3l, b3r⟩ := b3
  simp (disch := first | assumption | exact p_c2i | exact p_c2r | exact p_c2n | omega | ((repeat (first | refine p_a1i.trans ?_ | refine p_a1r.trans ?_)); exact p_a10) | ((repeat (first | refine p_wI ?_ | refine p_wR ?_)); exact p_w0) | decide) only [reduceIte, Int.reduceLT, Int.reduceLE, Int.reduceEq, Int.reduceToNat, Int.reduceAdd, Int.reduceSub, Int.reduceMul, Int.reduceNeg, e141_0, e141_1, e141_4, e141_7, e141_132, e141_133, e141_134, e141_137, e141_140, e141_141, e141_144, e141_147, e141_148, e141_151, e141_154, p_al0, p_getR, p_getI, p_sw, p_cv3_0, p_cv3_1, p_cv3_2, p_cv3_3, p_cv3_4, zK_v, zK_0, WN_ncl, WN_nx, WN_nrt, WN_ite, zx_r8, zx_r0, sw, f2, f3, f4, f5]
  have hz := oPaint_0 h0
  refine t_setColour hR ok hz.1 (fun σ1 h1 f1 => ?_)
  rw [zK_v]
  simp (disch := first | assumption | exact p_c2i | exact p_c2r | exact p_c2n | omega | ((repeat (first | refine p_a1i.trans ?_ | refine p_a1r.trans ?_)); exact p_a10) | ((repeat (first | refine p_wI ?_ | refine p_wR ?_)); exact p_w0) | decide) only [reduceIte, Int.reduceLT, Int.reduceLE, Int.reduceEq, Int.reduceToNat, Int.reduceAdd, Int.reduceSub, Int.reduceMul, Int.reduceNeg, e141_157, e141_158, e141_236, p_popi, p_popr, p_goto, p_vret, WN_nx, WN_nrt, WN_ite]
  exact K σ1 h1 f1
theorem t_co116 (hR : zSr σ 101 w) (ok : zSok N w) (hN : N ≤ 80000000) (f2 : σ 3550 2 = 116) (f3 : σ 3550 3 = a1) (b1 : zi3 a1) (f5 : σ 3550 5 = a2) (b2 : zi3 a2) (h0 : (oO w 116 a1 a2 a3).1 = 0) (K : ∀ σ', zSr σ' 101 (oW w 116 a1 a2 a3) → zfS σ σ' 101 → Q (.inl none) (3565, x, zrho) σ') : WM 141 [.inr (.inl (some 100))] (3565, x, zrho) σ Q := by
  show Wp 141 0 [some (.inr (.inl (some 100)))] [] _ _ Q
  have k := zx_k
  have k50 := zt_k
  have o0 := ok.2.2.1.1
  have ec : oO w 116 a1 a2 a3 = oTurn w a1 a2 := rfl
  rw [ec] at h0
  have sw : zsw 116 228 [104, 88, 105, 228, 106, 228, 107, 183, 108, 228, 109, 198, 110, 228, 111, 228, 112, 132, 113, 228, 114, 228, 115, 213, 116, 161, 117, 228, 118, 228, 119, 228, 120, 117] = 161 := rfl
  obtain ⟨b1l, b1r⟩ := b1
  obtain ⟨b2l, b2r⟩ := b2
  simp (disch := first | assumption | exact p_c2i | exact p_c2r | exact p_c2n | omega | ((repeat (first | refine p_a1i.trans ?_ | refine p_a1r.trans ?_)); exact p_a10) | ((repeat (first | refine p_wI ?_ | refine p_wR ?_)); exact p_w0) | decide) only [reduceIte, Int.reduceLT, Int.reduceLE, Int.reduceEq, Int.reduceToNat, Int.reduceAdd, Int.reduceSub, Int.reduceMul, Int.reduceNeg, e141_0, e141_1, e141_4, e141_7, e141_161, e141_162, e141_163, e141_166, e141_169, e141_170, e141_173, e141_176, p_al0, p_getR, p_getI, p_sw, p_cv2_0, p_cv2_1, p_cv2_2, p_cv2_3, p_cv2_4, zK_v, zK_0, WN_ncl, WN_nx, WN_nrt, WN_ite, zx_r8, zx_r0, sw, f2, f3, f5]
  have hz := oTurn_0 h0
  refine t_setTurn hR ok (by omega) (fun σ1 h1 f1 => ?_)
  rw [zK_v]
  simp (disch := first | assumption | exact p_c2i | exact p_c2r | exact p_c2n | omega | ((repeat (first | refine p_a1i.trans ?_ | refine p_a1r.trans ?_)); exact p_a10) | ((repeat (first | refine p_wI ?_ | refine p_wR ?_)); exact p_w0) | decide) only [reduceIte, Int.reduceLT, Int.reduceLE, Int.reduceEq, Int.reduceToNat, Int.reduceAdd, Int.reduceSub, Int.reduceMul, Int.reduceNeg, e141_179, e141_180, e141_236, p_popi, p_popr, p_goto, p_vret, WN_nx, WN_nrt, WN_ite]
  exact K σ1 h1 f1
theorem t_co115 (hR : zSr σ 101 w) (ok : zSok N w) (hN : N ≤ 80000000) (f2 : σ 3550 2 = 115) (f3 : σ 3550 3 = a1) (b1 : zi3 a1) (h0 : (oO w 115 a1 a2 a3).1 = 0) (K : ∀ σ', zSr σ' 101 (oW w 115 a1 a2 a3) → zfS σ σ' 101 → Q (.inl none) (3565, x, zrho) σ') : WM 141 [.inr (.inl (some 100))] (3565, x, zrho) σ Q := by
  show Wp 141 0 [some (.inr (.inl (some 100)))] [] _ _ Q
  have k := zx_k
  have k50 := zt_k
  have o0 := ok.2.2.1.1
  have ec : oO w 115 a1 a2 a3 = oStep w a1 := rfl
  rw [ec] at h0
  have sw : zsw 115 228 [104, 88, 105, 228, 106, 228, 107, 183, 108, 228, 109, 198, 110, 228, 111, 228, 112, 132, 113, 228, 114, 228, 115, 213, 116, 161, 117, 228, 118, 228, 119, 228, 120, 117] = 213 := rfl
  obtain ⟨b1l, b1r⟩ := b1
  simp (disch := first | assumption | exact p_c2i | exact p_c2r | exact p_c2n | omega | ((repeat (first | refine p_a1i.trans ?_ | refine p_a1r.trans ?_)); exact p_a10) | ((repeat (first | refine p_wI ?_ | refine p_wR ?_)); exact p_w0) | decide) only [reduceIte, Int.reduceLT, Int.reduceLE, Int.reduceEq, Int.reduceToNat, Int.reduceAdd, Int.reduceSub, Int.reduceMul, Int.reduceNeg, e141_0, e141_1, e141_4, e141_7, e141_213, e141_214, e141_215, e141_218, e141_221, p_al0, p_getR, p_getI, p_sw, p_cv1_0, p_cv1_1, p_cv1_2, p_cv1_3, p_cv1_4, zK_v, zK_0, WN_ncl, WN_nx, WN_nrt, WN_ite, zx_r8, zx_r0, sw, f2, f3]
  have hz := oStep_0 h0
  refine t_makeSteps hR ok hN hz (fun σ1 h1 f1 => ?_)
  rw [zK_v]
  simp (disch := first | assumption | exact p_c2i | exact p_c2r | exact p_c2n | omega | ((repeat (first | refine p_a1i.trans ?_ | refine p_a1r.trans ?_)); exact p_a10) | ((repeat (first | refine p_wI ?_ | refine p_wR ?_)); exact p_w0) | decide) only [reduceIte, Int.reduceLT, Int.reduceLE, Int.reduceEq, Int.reduceToNat, Int.reduceAdd, Int.reduceSub, Int.reduceMul, Int.reduceNeg, e141_224, e141_225, e141_236, p_popi, p_popr, p_goto, p_vret, WN_nx, WN_nrt, WN_ite]
  exact K σ1 h1 f1
theorem t_co98 (hR : zSr σ 101 w) (ok : zSok N w) (hN : N ≤ 80000000) (f2 : σ 3550 2 = 98) (h0 : (oO w 98 a1 a2 a3).1 = 0) (K : ∀ σ', zSr σ' 101 (oW w 98 a1 a2 a3) → zfS σ σ' 101 → Q (.inl none) (3565, x, zrho) σ') : WM 141 [.inr (.inl (some 100))] (3565, x, zrho) σ Q := by
  show Wp 141 0 [some (.inr (.inl (some 100)))] [] _ _ Q
  have k := zx_k
  have k50 := zt_k
  have o0 := ok.2.2.1.1
  have ec : oO w 98 a1 a2 a3 = oBack w := rfl
  rw [ec] at h0
  have sw : zsw 98 228 [104, 88, 105, 228, 106, 228, 107, 183, 108, 228, 109, 198, 110, 228, 111, 228, 112, 132, 113, 228, 114, 228, 115, 213, 116, 161, 117, 228, 118, 228, 119, 228, 120, 117] = 228 := rfl
  simp (disch := first | assumption | exact p_c2i | exact p_c2r | exact p_c2n | omega | ((repeat (first | refine p_a1i.trans ?_ | refine p_a1r.trans ?_)); exact p_a10) | ((repeat (first | refine p_wI ?_ | refine p_wR ?_)); exact p_w0) | decide) only [reduceIte, Int.reduceLT, Int.reduceLE, Int.reduceEq, Int.reduceToNat, Int.reduceAdd, Int.reduceSub, Int.reduceMul, Int.reduceNeg, e141_0, e141_1, e141_4, e141_7, e141_228, e141_229, e141_232, p_al0, p_getR, p_getI, p_sw, p_cv0_0, p_cv0_1, p_cv0_2, p_cv0_3, p_cv0_4, zK_v, zK_0, WN_ncl, WN_nx, WN_nrt, WN_ite, zx_r8, zx_r0, sw, f2]
  have hz := oBack_0 h0
  have o1 := ok.1
  refine t_takeStepBack zx_s hR ok (by omega) (by omega) (fun σ1 h1 f1 => ?_)
  rw [zK_v]
  simp (disch := first | assumption | exact p_c2i | exact p_c2r | exact p_c2n | omega | ((repeat (first | refine p_a1i.trans ?_ | refine p_a1r.trans ?_)); exact p_a10) | ((repeat (first | refine p_wI ?_ | refine p_wR ?_)); exact p_w0) | decide) only [reduceIte, Int.reduceLT, Int.reduceLE, Int.reduceEq, Int.reduceToNat, Int.reduceAdd, Int.reduceSub, Int.reduceMul, Int.reduceNeg, e141_235, e141_236, p_popi, p_popr, p_vret, WN_nx, WN_nrt, WN_ite]
  exact K σ1 h1 f1
theorem t_co120 (hR : zSr σ 101 w) (ok : zSok N w) (hN : N ≤ 80000000) (f2 : σ 3550 2 = 120) (f3 : σ 3550 3 = a1) (b1 : zi3 a1) (h0 : (oO w 120 a1 a2 a3).1 = 0) (K : ∀ σ', zSr σ' 101 (oW w 120 a1 a2 a3) → zfS σ σ' 101 → Q (.inl none) (3565, x, zrho) σ') : WM 141 [.inr (.inl (some 100))] (3565, x, zrho) σ Q := by
  show Wp 141 0 [some (.inr (.inl (some 100)))] [] _ _ Q
  have k := zx_k
  have k50 := zt_k
  have o0 := ok.2.2.1.1
  have ec : oO w 120 a1 a2 a3 = oDrop w a1 := rfl
  rw [ec] at h0
  have sw : zsw 120 228 [104, 88, 105, 228, 106, 228, 107, 183, 108, 228, 109, 198, 110, 228, 111, 228, 112, 132, 113, 228, 114, 228, 115, 213, 116, 161, 117, 228, 118, 228, 119, 228, 120, 117] = 117 := rfl
  obtain ⟨b1l, b1r⟩ := b1
  have hz := oDrop_0 h0
  obtain ⟨i, hi⟩ : ∃ i : Nat, a1 = (i : Int) := ⟨a1.toNat, by omega⟩
  subst hi
  have K := K
  unfold oW at K
  simp only [Int.reduceEq, reduceIte, Int.toNat_natCast] at K
  simp (disch := first | assumption | exact p_c2i | exact p_c2r | exact p_c2n | omega | ((repeat (first | refine p_a1i.trans ?_ | refine p_a1r.trans ?_)); exact p_a10) | ((repeat (first | refine p_wI ?_ | refine p_wR ?_)); exact p_w0) | decide) only [reduceIte, Int.reduceLT, Int.reduceLE, Int.reduceEq, Int.reduceToNat, Int.reduceAdd, Int.reduceSub, Int.reduceMul, Int.reduceNeg, e141_0, e141_1, e141_4, e141_7, e141_117, e141_118, e141_119, e141_122, e141_125, p_al0, p_getR, p_getI, p_sw, p_cv1_0, p_cv1_1, p_cv1_2, p_cv1_3, p_cv1_4, zK_v, zK_0, WN_ncl, WN_nx, WN_nrt, WN_ite, zx_r8, zx_r0, sw, f2, f3]
  refine t_dropHoe hR ok hz.2 (fun σ1 h1 f1 => ?_)
  rw [zK_v]
  simp (disch := first | assumption | exact p_c2i | exact p_c2r | exact p_c2n | omega | ((repeat (first | refine p_a1i.trans ?_ | refine p_a1r.trans ?_)); exact p_a10) | ((repeat (first | refine p_wI ?_ | refine p_wR ?_)); exact p_w0) | decide) only [reduceIte, Int.reduceLT, Int.reduceLE, Int.reduceEq, Int.reduceToNat, Int.reduceAdd, Int.reduceSub, Int.reduceMul, Int.reduceNeg, e141_128, e141_129, e141_236, p_popi, p_popr, p_goto, p_vret, WN_nx, WN_nrt, WN_ite]
  exact K σ1 h1 f1
theorem t_co107 (hR : zSr σ 101 w) (ok : zSok N w) (hN : N ≤ 80000000) (f2 : σ 3550 2 = 107) (f3 : σ 3550 3 = a1) (b1 : zi3 a1) (h0 : (oO w 107 a1 a2 a3).1 = 0) (K : ∀ σ', zSr σ' 101 (oW w 107 a1 a2 a3) → zfS σ σ' 101 → Q (.inl none) (3565, x, zrho) σ') : WM 141 [.inr (.inl (some 100))] (3565, x, zrho) σ Q := by
  show Wp 141 0 [some (.inr (.inl (some 100)))] [] _ _ Q
  have k := zx_k
  have k50 := zt_k
  have o0 := ok.2.2.1.1
  have ec : oO w 107 a1 a2 a3 = oMany w a1 := rfl
  rw [ec] at h0
  have sw : zsw 107 228 [104, 88, 105, 228, 106, 228, 107, 183, 108, 228, 109, 198, 110, 228, 111, 228, 112, 132, 113, 228, 114, 228, 115, 213, 116, 161, 117, 228, 118, 228, 119, 228, 120, 117] = 183 := rfl
  obtain ⟨b1l, b1r⟩ := b1
  simp (disch := first | assumption | exact p_c2i | exact p_c2r | exact p_c2n | omega | ((repeat (first | refine p_a1i.trans ?_ | refine p_a1r.trans ?_)); exact p_a10) | ((repeat (first | refine p_wI ?_ | refine p_wR ?_)); exact p_w0) | decide) only [reduceIte, Int.reduceLT, Int.reduceLE, Int.reduceEq, Int.reduceToNat, Int.reduceAdd, Int.reduceSub, Int.reduceMul, Int.reduceNeg, e141_0, e141_1, e141_4, e141_7, e141_183, e141_184, e141_185, e141_188, e141_191, p_al0, p_getR, p_getI, p_sw, p_cv1_0, p_cv1_1, p_cv1_2, p_cv1_3, p_cv1_4, zK_v, zK_0, WN_ncl, WN_nx, WN_nrt, WN_ite, zx_r8, zx_r0, sw, f2, f3]
  have hz := oMany_0 h0
  refine t_setColours hR ok hz (fun σ1 h1 f1 => ?_)
  rw [zK_v]
  simp (disch := first | assumption | exact p_c2i | exact p_c2r | exact p_c2n | omega | ((repeat (first | refine p_a1i.trans ?_ | refine p_a1r.trans ?_)); exact p_a10) | ((repeat (first | refine p_wI ?_ | refine p_wR ?_)); exact p_w0) | decide) only [reduceIte, Int.reduceLT, Int.reduceLE, Int.reduceEq, Int.reduceToNat, Int.reduceAdd, Int.reduceSub, Int.reduceMul, Int.reduceNeg, e141_194, e141_195, e141_236, p_popi, p_popr, p_goto, p_vret, WN_nx, WN_nrt, WN_ite]
  exact K σ1 h1 f1
theorem t_co109 (hR : zSr σ 101 w) (ok : zSok N w) (hN : N ≤ 80000000) (f2 : σ 3550 2 = 109) (f3 : σ 3550 3 = a1) (b1 : zi3 a1) (h0 : (oO w 109 a1 a2 a3).1 = 0) (K : ∀ σ', zSr σ' 101 (oW w 109 a1 a2 a3) → zfS σ σ' 101 → Q (.inl none) (3565, x, zrho) σ') : WM 141 [.inr (.inl (some 100))] (3565, x, zrho) σ Q := by
  show Wp 141 0 [some (.inr (.inl (some 100)))] [] _ _ Q
  have k := zx_k
  have k50 := zt_k
  have o0 := ok.2.2.1.1
  have ec : oO w 109 a1 a2 a3 = oManner w a1 := rfl
  rw [ec] at h0
  have sw : zsw 109 228 [104, 88, 105, 228, 106, 228, 107, 183, 108, 228, 109, 198, 110, 228, 111, 228, 112, 132, 113, 228, 114, 228, 115, 213, 116, 161, 117, 228, 118, 228, 119, 228, 120, 117] = 198 := rfl
  obtain ⟨b1l, b1r⟩ := b1
  simp (disch := first | assumption | exact p_c2i | exact p_c2r | exact p_c2n | omega | ((repeat (first | refine p_a1i.trans ?_ | refine p_a1r.trans ?_)); exact p_a10) | ((repeat (first | refine p_wI ?_ | refine p_wR ?_)); exact p_w0) | decide) only [reduceIte, Int.reduceLT, Int.reduceLE, Int.reduceEq, Int.reduceToNat, Int.reduceAdd, Int.reduceSub, Int.reduceMul, Int.reduceNeg, e141_0, e141_1, e141_4, e141_7, e141_198, e141_199, e141_200, e141_203, e141_206, p_al0, p_getR, p_getI, p_sw, p_cv1_0, p_cv1_1, p_cv1_2, p_cv1_3, p_cv1_4, zK_v, zK_0, WN_ncl, WN_nx, WN_nrt, WN_ite, zx_r8, zx_r0, sw, f2, f3]
  have hz := oManner_0 h0
  refine t_setManner hR ok (fun σ1 h1 f1 => ?_)
  rw [zK_v]
  simp (disch := first | assumption | exact p_c2i | exact p_c2r | exact p_c2n | omega | ((repeat (first | refine p_a1i.trans ?_ | refine p_a1r.trans ?_)); exact p_a10) | ((repeat (first | refine p_wI ?_ | refine p_wR ?_)); exact p_w0) | decide) only [reduceIte, Int.reduceLT, Int.reduceLE, Int.reduceEq, Int.reduceToNat, Int.reduceAdd, Int.reduceSub, Int.reduceMul, Int.reduceNeg, e141_209, e141_210, e141_236, p_popi, p_popr, p_goto, p_vret, WN_nx, WN_nrt, WN_ite]
  exact K σ1 h1 f1
theorem t_foC {c : Int} (hc : zLt c) (hR : zSr σ 101 w) (ok : zSok N w) (f2 : σ 3550 2 = c) (f3 : c ≠ 98 → σ 3550 3 = a1) (f4 : c = 104 ∨ c = 112 → σ 3550 4 = a2 ∧ σ 3550 5 = a3) (f5 : c = 116 → σ 3550 5 = a2) (b1 : zi3 a1) (b2 : zi3 a2) (b3 : zi3 a3) : WM 140 [.inr (.inl (some 100))] (3565, x, zrho) σ Q = Q (.inl (some (.inl (cFo c (oO w c a1 a2 a3))))) (3565, x, zrho) (zref σ (oO w c a1 a2 a3)) := by
  rcases hc with e | e | e | e | e | e | e | e
  · subst e
    exact t_fo104 hR ok f2 (f3 (by omega)) b1 (f4 (by omega)).1 b2 (f4 (by omega)).2 b3
  · subst e
    exact t_fo112 hR ok f2 (f3 (by omega)) b1 (f4 (by omega)).1 b2 (f4 (by omega)).2 b3
  · subst e
    exact t_fo116 hR ok f2 (f3 (by omega)) b1 (f5 rfl) b2
  · subst e
    exact t_fo115 hR ok f2 (f3 (by omega)) b1
  · subst e
    exact t_fo98 hR ok f2
  · subst e
    exact t_fo120 hR ok f2 (f3 (by omega)) b1
  · subst e
    exact t_fo107 hR ok f2 (f3 (by omega)) b1
  · subst e
    exact t_fo109 hR ok f2 (f3 (by omega)) b1
theorem t_coC {c : Int} (hc : zLt c) (hR : zSr σ 101 w) (ok : zSok N w) (f2 : σ 3550 2 = c) (f3 : c ≠ 98 → σ 3550 3 = a1) (f4 : c = 104 ∨ c = 112 → σ 3550 4 = a2 ∧ σ 3550 5 = a3) (f5 : c = 116 → σ 3550 5 = a2) (b1 : zi3 a1) (b2 : zi3 a2) (b3 : zi3 a3) (hN : N ≤ 80000000) (h0 : (oO w c a1 a2 a3).1 = 0) (K : ∀ σ', zSr σ' 101 (oW w c a1 a2 a3) → zfS σ σ' 101 → Q (.inl none) (3565, x, zrho) σ') : WM 141 [.inr (.inl (some 100))] (3565, x, zrho) σ Q := by
  rcases hc with e | e | e | e | e | e | e | e
  · subst e
    exact t_co104 hR ok hN f2 (f3 (by omega)) b1 (f4 (by omega)).1 b2 (f4 (by omega)).2 b3 h0 K
  · subst e
    exact t_co112 hR ok hN f2 (f3 (by omega)) b1 (f4 (by omega)).1 b2 (f4 (by omega)).2 b3 h0 K
  · subst e
    exact t_co116 hR ok hN f2 (f3 (by omega)) b1 (f5 rfl) b2 h0 K
  · subst e
    exact t_co115 hR ok hN f2 (f3 (by omega)) b1 h0 K
  · subst e
    exact t_co98 hR ok hN f2 h0 K
  · subst e
    exact t_co120 hR ok hN f2 (f3 (by omega)) b1 h0 K
  · subst e
    exact t_co107 hR ok hN f2 (f3 (by omega)) b1 h0 K
  · subst e
    exact t_co109 hR ok hN f2 (f3 (by omega)) b1 h0 K
end
