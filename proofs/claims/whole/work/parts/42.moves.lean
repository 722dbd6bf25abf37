/-! THE MODEL: moves, stepsOnce -/
section
variable {τ σ : ZI} {Q : ZO → ZT → ZI → Prop} {x : Nat} {w : zW} {N : Int} {θ : ZT}
theorem t_movesM {i : Nat} (ok : zok N w) (hN : N ≤ 100000000) (hi : (i : Int) < w 0) : WM 170 [.inr (.inl (some 3553)), .inl ((i : Int))] (3565, x, zrho) (zg τ w) Q = Q (.inl (some (.inl (aGoes i w)))) (3565, x, zrho) (zg τ (aMove i w)) := by
  show Wp 170 0 [some (.inr (.inl (some 3553))), some (.inl ((i : Int))), none, none] [] _ _ Q = _
  have k := zm_k
  have k4 := zm_4
  have n4 := zm_n4
  have o0 := ok.1
  have hi4 : i < 4 := by omega
  have o9 := ok.2.2.2.2.2.2.2.2.2.1 i hi
  rw [show 173 + 4 * i = 172 + 4 * i + 1 by omega] at o9
  obtain ⟨c, hc⟩ : ∃ c : Nat, w (172 + 4 * i) = (c : Int) := ⟨(w (172 + 4 * i)).toNat, (Int.toNat_of_nonneg o9.1.1).symm⟩
  have hc81 : c < 81 := by omega
  have ok1 := ok.2.1
  have o10 := ok.2.2.2.2.2.2.2.1 c hc81
  have hT : w (6 + (w (10 + c)).toNat) = aTurn w i := by
    unfold aTurn
    rw [hc, Int.toNat_natCast]
  have oT := ok.2.2.2.2.2.2.1 (w (10 + c)).toNat (by omega)
  rw [hT] at oT
  obtain ⟨oT1, oT2⟩ := oT
  have to0 := fun (Q : ZO → ZT → ZI → Prop) (w : zW) => t_ofM (Q := Q) (x := x) (τ := τ) (w := w) (h := i) (j := 0) (by omega) (by omega) (by omega)
  rw [show 172 + 4 * i + Int.toNat 0 = 172 + 4 * i from rfl] at to0
  have to1 := fun (Q : ZO → ZT → ZI → Prop) (w : zW) => t_ofM (Q := Q) (x := x) (τ := τ) (w := w) (h := i) (j := 1) (by omega) (by omega) (by omega)
  rw [show 172 + 4 * i + Int.toNat 1 = 172 + 4 * i + 1 from rfl] at to1
  have to2 := fun (Q : ZO → ZT → ZI → Prop) (w : zW) => t_ofM (Q := Q) (x := x) (τ := τ) (w := w) (h := i) (j := 2) (by omega) (by omega) (by omega)
  rw [show 172 + 4 * i + Int.toNat 2 = 172 + 4 * i + 2 from rfl] at to2
  have to3 := fun (Q : ZO → ZT → ZI → Prop) (w : zW) => t_ofM (Q := Q) (x := x) (τ := τ) (w := w) (h := i) (j := 3) (by omega) (by omega) (by omega)
  rw [show 172 + 4 * i + Int.toNat 3 = 172 + 4 * i + 3 from rfl] at to3
  have tl0 := fun (Q : ZO → ZT → ZI → Prop) (w : zW) (v : Int) => t_laysM (Q := Q) (x := x) (τ := τ) (w := w) (h := i) (j := 0) (v := v) (by omega) (by omega) (by omega)
  rw [show 172 + 4 * i + Int.toNat 0 = 172 + 4 * i + 0 from rfl] at tl0
  have tl1 := fun (Q : ZO → ZT → ZI → Prop) (w : zW) (v : Int) => t_laysM (Q := Q) (x := x) (τ := τ) (w := w) (h := i) (j := 1) (v := v) (by omega) (by omega) (by omega)
  rw [show 172 + 4 * i + Int.toNat 1 = 172 + 4 * i + 1 from rfl] at tl1
  have tl2 := fun (Q : ZO → ZT → ZI → Prop) (w : zW) (v : Int) => t_laysM (Q := Q) (x := x) (τ := τ) (w := w) (h := i) (j := 2) (v := v) (by omega) (by omega) (by omega)
  rw [show 172 + 4 * i + Int.toNat 2 = 172 + 4 * i + 2 from rfl] at tl2
  have tl3 := fun (Q : ZO → ZT → ZI → Prop) (w : zW) (v : Int) => t_laysM (Q := Q) (x := x) (τ := τ) (w := w) (h := i) (j := 3) (v := v) (by omega) (by omega) (by omega)
  rw [show 172 + 4 * i + Int.toNat 3 = 172 + 4 * i + 3 from rfl] at tl3
  have tt := fun (Q : ZO → ZT → ZI → Prop) => t_turnOnM (Q := Q) (x := x) (τ := τ) (w := w) hc81 (by omega)
  rw [hT] at tt
  have q4 := aQ_in (aTurn w i)
  have m4 : Int.tmod (w (172 + 4 * i + 1) + aQ (aTurn w i)) 4 = (w (172 + 4 * i + 1) + aQ (aTurn w i)) % 4 := Int.tmod_eq_emod_of_nonneg (by omega)
  have f0 : ∀ j, j < 172 → aFace i w j = w j := fun j hj => by unfold aFace; rw [wu_o (by omega)]
  have f1 := f0 1 (by omega)
  have f10 := f0 (10 + c) (by omega)
  have f91 := f0 (91 + c) (by omega)
  have mm : Int.tmod (w (10 + c) + 1) (w 1) = if w (10 + c) + 1 < w 1 then w (10 + c) + 1 else 0 := zmod1 (by omega) (by omega)
  have i10 : (10 + (c : Int)).toNat = 10 + c := by omega
  have i91 : (91 + (c : Int)).toNat = 91 + c := by omega
  have ok8 := ok.2.2.2.2.2.2.2.2.1 c hc81
  simp (disch := first | assumption | exact p_c2i | exact p_c2r | exact p_c2n | omega | ((repeat (first | refine p_a1i.trans ?_ | refine p_a1r.trans ?_)); exact p_a10) | ((repeat (first | refine p_wI ?_ | refine p_wR ?_)); exact p_w0) | decide) only [reduceIte, Int.reduceLT, Int.reduceLE, Int.reduceEq, Int.reduceToNat, Int.reduceAdd, Int.reduceSub, Int.reduceMul, Int.reduceNeg, e170_0, e170_1, e170_2, e170_3, e170_6, e170_7, e170_8, e170_9, e170_10, e170_11, e170_12, e170_13, e170_16, e170_17, e170_18, e170_21, e170_24, e170_25, e170_26, e170_27, p_al0, p_il1, p_push, p_cv2_0, p_cv2_1, p_cv2_2, p_cv2_3, p_cv2_4, zK_v, zK_0, WN_ncl, p_is2, p_c2n, p_c2i, p_c2r, p_il2, p_cv1_0, p_cv1_1, p_cv1_2, p_cv1_3, p_cv1_4, p_cs1_0, p_cs1_1, p_cs1_2, p_cs1_3, p_cs1_4, p_bin, p_rem, p_cv3_0, p_cv3_1, p_cv3_2, p_cv3_3, p_cv3_4, WN_nx, WN_nrt, WN_ite, to0, to1, hc, tt, t_quartersM, m4, tl1]
  show Wp 170 30 [some (.inr (.inl (some 3553))), some (.inl ((i : Int))), some (.inl ((c : Int))), none] [] _ (zg τ (aFace i w)) Q = _
  have okp := zok_paint (zok_face ok hi) hc81
  have tr := fun (Q : ZO → ZT → ZI → Prop) => t_trails (Q := Q) (x := x) (τ := τ) (c := (c : Int)) okp (by omega)
  have ep : wu (wu (aFace i w) (10 + c) (if w (10 + c) + 1 < w 1 then w (10 + c) + 1 else 0)) (91 + c) (w (91 + c) + 1) = aPaint c (aFace i w) := by
    unfold aPaint
    rw [f10, f1, f91]
  have u91 : ∀ v, wu (aFace i w) (10 + c) v (91 + c) = w (91 + c) := fun v => by rw [wu_o (by omega)]; exact f91
  have epre : aTrail (c : Int) (aPaint c (aFace i w)) = aPre i w := by unfold aPre; rw [hc, Int.toNat_natCast]
  have ok4 := zok_pre ok hi
  have p0 := aPre_0 (w := w) (i := i) (by rw [hc]; omega)
  have hi4' : (i : Int) < aPre i w 0 := by rw [p0.1]; exact hi
  have hd := aPre_d (w := w) (i := i) (by rw [hc]; omega) hi4
  have od := ok4.2.2.2.2.2.2.2.2.2.1 i hi4'
  rw [show 173 + 4 * i = 172 + 4 * i + 1 by omega] at od
  have tw := fun (Q : ZO → ZT → ZI → Prop) (σ : ZI) (θ : ZT) => t_toward (Q := Q) (σ := σ) (θ := θ) (c := (c : Int)) (d := (w (172 + 4 * i + 1) + aQ (aTurn w i)) % 4) (by omega) (by omega)
  have en : aTo (c : Int) ((w (172 + 4 * i + 1) + aQ (aTurn w i)) % 4) = aNext i w := by unfold aNext; rw [hc]
  rw [en] at tw
  have hnx := aNext_in ok hi
  have th := fun (Q : ZO → ZT → ZI → Prop) => t_hoesOnM (Q := Q) (x := x) (τ := τ) (c := aNext i w) ok4 (by omega)
  have hon := aOnN_in (w := aPre i w) (c := aNext i w) 4
  have hon' : 0 ≤ aOn (aPre i w) (aNext i w) ∧ aOn (aPre i w) (aNext i w) ≤ 4 := hon
  have o5 := ok4.2.2.2.2.2.1
  simp (disch := first | assumption | exact p_c2i | exact p_c2r | exact p_c2n | omega | ((repeat (first | refine p_a1i.trans ?_ | refine p_a1r.trans ?_)); exact p_a10) | ((repeat (first | refine p_wI ?_ | refine p_wR ?_)); exact p_w0) | decide) only [reduceIte, Int.reduceLT, Int.reduceLE, Int.reduceEq, Int.reduceToNat, Int.reduceAdd, Int.reduceSub, Int.reduceMul, Int.reduceNeg, e170_30, e170_31, e170_34, e170_36, e170_37, e170_38, e170_39, e170_42, e170_44, e170_45, e170_46, e170_47, e170_48, e170_49, e170_50, e170_53, e170_54, e170_55, e170_56, e170_57, e170_58, e170_61, e170_63, e170_64, e170_65, e170_66, e170_67, e170_68, e170_69, e170_70, e170_71, e170_72, e170_75, e170_76, e170_77, e170_78, e170_79, e170_82, e170_85, e170_86, e170_87, e170_88, p_al0, p_getR, p_push, p_il2, p_bin, p_iald, p_rem, p_iast, p_dup2, p_cv1_0, p_cv1_1, p_cv1_2, p_cv1_3, p_cv1_4, zK_v, zK_0, WN_ncl, p_il1, p_cv2_0, p_cv2_1, p_cv2_2, p_cv2_3, p_cv2_4, p_cs2_0, p_cs2_1, p_cs2_2, p_cs2_3, p_cs2_4, p_is3, p_c2n, p_c2i, p_c2r, p_il3, WN_nx, WN_nrt, WN_ite, zm_r0, zg_s, zg_u, i10, i91, f10, f1, mm, u91, ep, tr, epre, to1, hd, tw, th]
  unfold aMove aGoes
  by_cases hmt : 0 < aOn (aPre i w) (aNext i w)
  · rw [if_pos hmt, if_pos hmt]
    have h1 : (0 < aOn (aPre i w) (aNext i w)) = True := eq_true hmt
    have u5 : wu (aPre i w) (172 + 4 * i + 3) (aPre i w (172 + 4 * i + 3) + 1) 5 = aPre i w 5 := wu_o (by omega)
    have p5 : aPre i w 5 = w 5 := aPre_k (by rw [hc]; omega) (by omega) (by omega)
    have em : wu (wu (aPre i w) (172 + 4 * i + 3) (aPre i w (172 + 4 * i + 3) + 1)) 5 (aPre i w 5 + 1) = aMeet i (aPre i w) := rfl
    have e2 : aMeet i (aPre i w) 2 = w 2 := by unfold aMeet; rw [wu_o (by omega), wu_o (by omega)]; exact p0.2.2.1
    have o2 := ok.2.2.1
    have okm := zok_meet ok4 hi4'
    have tb := fun (Q : ZO → ZT → ZI → Prop) => t_turnsBackM (Q := Q) (x := x) (τ := τ) (h := i) (c := aNext i w) okm hi4 (by omega)
    have eb : aBk (fun k => decide ((k : Int) < aMeet i (aPre i w) 0 ∧ (k = i ∨ aMeet i (aPre i w) (172 + 4 * k) = aNext i w))) (aMeet i (aPre i w)) = aBk (fun k => decide ((k : Int) < w 0 ∧ (k = i ∨ aPre i w (172 + 4 * k) = aNext i w))) (aMeet i (aPre i w)) := by
      refine aBk_cg (fun k _ => ?_)
      have e0 : aMeet i (aPre i w) 0 = w 0 := by unfold aMeet; rw [wu_o (by omega), wu_o (by omega)]; exact p0.1
      have ek : aMeet i (aPre i w) (172 + 4 * k) = aPre i w (172 + 4 * k) := by unfold aMeet; rw [wu_o (by omega), wu_o (by omega)]
      rw [e0, ek]
    rw [eb] at tb
    have eb2 : ∀ p, aBk p (aMeet i (aPre i w)) 2 = w 2 := fun p => by unfold aBk; rw [if_neg (by omega)]; exact e2
    by_cases hm0 : w 2 = 0
    · rw [if_pos hm0, if_neg (show ¬ 0 < w 2 by omega)]
      have u2 : wu (aMeet i (aPre i w)) (172 + 4 * i + 0) (aNext i w) (172 + 4 * i + 2) = aMeet i (aPre i w) (172 + 4 * i + 2) := wu_o (by omega)
      have m20 : ((0 : Int) = 2) = False := eq_false (by omega)
      simp (disch := first | assumption | exact p_c2i | exact p_c2r | exact p_c2n | omega | ((repeat (first | refine p_a1i.trans ?_ | refine p_a1r.trans ?_)); exact p_a10) | ((repeat (first | refine p_wI ?_ | refine p_wR ?_)); exact p_w0) | decide) only [reduceIte, Int.reduceLT, Int.reduceLE, Int.reduceEq, Int.reduceToNat, Int.reduceAdd, Int.reduceSub, Int.reduceMul, Int.reduceNeg, e170_91, e170_94, e170_95, e170_96, e170_97, e170_98, e170_99, e170_100, e170_103, e170_104, e170_105, e170_108, e170_109, e170_112, e170_113, e170_114, e170_115, e170_116, e170_117, e170_118, e170_119, e170_122, e170_123, e170_124, e170_125, e170_128, e170_129, e170_130, e170_131, e170_134, e170_135, e170_138, e170_139, e170_140, e170_143, e170_144, e170_145, e170_146, e170_147, e170_148, e170_149, e170_152, e170_153, e170_154, e170_155, e170_156, e170_157, e170_158, e170_161, e170_162, e170_163, e170_166, e170_167, p_ifle, p_al0, p_il1, p_push, p_cv2_0, p_cv2_1, p_cv2_2, p_cv2_3, p_cv2_4, zK_v, zK_0, WN_ncl, p_bin, p_cv3_0, p_cv3_1, p_cv3_2, p_cv3_3, p_cv3_4, p_getR, p_dup2, p_iald, p_iast, p_cne, p_il3, p_ret1, WN_nx, WN_nrt, WN_ite, h1, to3, tl3, zm_r0, zg_s, zg_u, u5, em, e2, hm0, m20, tl0, to2, u2, tl2]
      rfl
    · rw [if_neg hm0, if_pos (show 0 < w 2 by omega)]
      have g0 : (0 < w 2) = True := eq_true (by omega)
      by_cases hm2 : w 2 = 2
      · rw [if_pos hm2]
        simp (disch := first | assumption | exact p_c2i | exact p_c2r | exact p_c2n | omega | ((repeat (first | refine p_a1i.trans ?_ | refine p_a1r.trans ?_)); exact p_a10) | ((repeat (first | refine p_wI ?_ | refine p_wR ?_)); exact p_w0) | decide) only [reduceIte, Int.reduceLT, Int.reduceLE, Int.reduceEq, Int.reduceToNat, Int.reduceAdd, Int.reduceSub, Int.reduceMul, Int.reduceNeg, e170_91, e170_94, e170_95, e170_96, e170_97, e170_98, e170_99, e170_100, e170_103, e170_104, e170_105, e170_108, e170_109, e170_112, e170_113, e170_114, e170_115, e170_116, e170_117, e170_118, e170_119, e170_122, e170_123, e170_124, e170_125, e170_128, e170_129, e170_130, e170_131, e170_134, e170_135, e170_138, e170_139, e170_140, e170_143, e170_144, e170_145, e170_146, e170_147, e170_148, e170_149, e170_152, e170_153, e170_154, e170_155, e170_156, e170_157, e170_158, e170_161, e170_162, e170_163, e170_166, e170_167, p_ifle, p_al0, p_il1, p_push, p_cv2_0, p_cv2_1, p_cv2_2, p_cv2_3, p_cv2_4, zK_v, zK_0, WN_ncl, p_bin, p_cv3_0, p_cv3_1, p_cv3_2, p_cv3_3, p_cv3_4, p_getR, p_dup2, p_iald, p_iast, p_cne, p_il3, p_ret1, WN_nx, WN_nrt, WN_ite, h1, to3, tl3, zm_r0, zg_s, zg_u, u5, em, e2, hm2, tb, eb2]
      · rw [if_neg hm2]
        simp (disch := first | assumption | exact p_c2i | exact p_c2r | exact p_c2n | omega | ((repeat (first | refine p_a1i.trans ?_ | refine p_a1r.trans ?_)); exact p_a10) | ((repeat (first | refine p_wI ?_ | refine p_wR ?_)); exact p_w0) | decide) only [reduceIte, Int.reduceLT, Int.reduceLE, Int.reduceEq, Int.reduceToNat, Int.reduceAdd, Int.reduceSub, Int.reduceMul, Int.reduceNeg, e170_91, e170_94, e170_95, e170_96, e170_97, e170_98, e170_99, e170_100, e170_103, e170_104, e170_105, e170_108, e170_109, e170_112, e170_113, e170_114, e170_115, e170_116, e170_117, e170_118, e170_119, e170_122, e170_123, e170_124, e170_125, e170_128, e170_129, e170_130, e170_131, e170_134, e170_135, e170_138, e170_139, e170_140, e170_143, e170_144, e170_145, e170_146, e170_147, e170_148, e170_149, e170_152, e170_153, e170_154, e170_155, e170_156, e170_157, e170_158, e170_161, e170_162, e170_163, e170_166, e170_167, p_ifle, p_al0, p_il1, p_push, p_cv2_0, p_cv2_1, p_cv2_2, p_cv2_3, p_cv2_4, zK_v, zK_0, WN_ncl, p_bin, p_cv3_0, p_cv3_1, p_cv3_2, p_cv3_3, p_cv3_4, p_getR, p_dup2, p_iald, p_iast, p_cne, p_il3, p_ret1, WN_nx, WN_nrt, WN_ite, h1, to3, tl3, zm_r0, zg_s, zg_u, u5, em, e2, hm2, g0]
  · rw [if_neg hmt, if_neg hmt]
    have h1 : (0 < aOn (aPre i w) (aNext i w)) = False := eq_false hmt
    have u2 : wu (aPre i w) (172 + 4 * i + 0) (aNext i w) (172 + 4 * i + 2) = aPre i w (172 + 4 * i + 2) := wu_o (by omega)
    simp (disch := first | assumption | exact p_c2i | exact p_c2r | exact p_c2n | omega | ((repeat (first | refine p_a1i.trans ?_ | refine p_a1r.trans ?_)); exact p_a10) | ((repeat (first | refine p_wI ?_ | refine p_wR ?_)); exact p_w0) | decide) only [reduceIte, Int.reduceLT, Int.reduceLE, Int.reduceEq, Int.reduceToNat, Int.reduceAdd, Int.reduceSub, Int.reduceMul, Int.reduceNeg, e170_91, e170_94, e170_95, e170_96, e170_97, e170_98, e170_99, e170_100, e170_103, e170_104, e170_105, e170_108, e170_109, e170_112, e170_113, e170_114, e170_115, e170_116, e170_117, e170_118, e170_119, e170_122, e170_123, e170_124, e170_125, e170_128, e170_129, e170_130, e170_131, e170_134, e170_135, e170_138, e170_139, e170_140, e170_143, e170_144, e170_145, e170_146, e170_147, e170_148, e170_149, e170_152, e170_153, e170_154, e170_155, e170_156, e170_157, e170_158, e170_161, e170_162, e170_163, e170_166, e170_167, p_ifle, p_al0, p_il1, p_push, p_cv2_0, p_cv2_1, p_cv2_2, p_cv2_3, p_cv2_4, zK_v, zK_0, WN_ncl, p_bin, p_cv3_0, p_cv3_1, p_cv3_2, p_cv3_3, p_cv3_4, p_getR, p_dup2, p_iald, p_iast, p_cne, p_il3, p_ret1, WN_nx, WN_nrt, WN_ite, h1, tl0, to2, u2, tl2]
    rfl
theorem l_stepsOnceM (ok : zok N w) (hN : N ≤ 90000000) : ∀ n i : Nat, ((i + n : Nat) : Int) = w 0 → Wp 172 4 [some (.inr (.inl (some 3553))), some (.inl (aGN w i)), some (.inl ((i : Int)))] [] (3565, x, zrho) (zg τ (aMvN w i)) Q = Q (.inl (some (.inl (aGN w (w 0).toNat)))) (3565, x, zrho) (zg τ (aStep w)) := by
  have hk := zm_k
  have k4 := zm_4
  have n4 := zm_n4
  have o0 := ok.1
  intro n
  induction n with
  | zero =>
    intro i hi
    have ei : i = (w 0).toNat := by omega
    have hm := (aMvN_ok ok i (by omega)).2
    have h0 := hm 0 (by omega)
    have h3 := hm 3 (by omega)
    have c0 : ((i : Int) < w 0) = False := eq_false (by omega)
    simp (disch := first | assumption | exact p_c2i | exact p_c2r | exact p_c2n | omega | ((repeat (first | refine p_a1i.trans ?_ | refine p_a1r.trans ?_)); exact p_a10) | ((repeat (first | refine p_wI ?_ | refine p_wR ?_)); exact p_w0) | decide) only [reduceIte, Int.reduceLT, Int.reduceLE, Int.reduceEq, Int.reduceToNat, Int.reduceAdd, Int.reduceSub, Int.reduceMul, Int.reduceNeg, e172_0, e172_1, e172_2, e172_3, e172_4, e172_5, e172_6, e172_9, e172_10, e172_11, e172_14, e172_15, e172_16, e172_17, e172_20, e172_23, e172_24, e172_27, e172_28, e172_29, e172_30, e172_33, e172_36, e172_37, e172_40, e172_41, e172_42, e172_43, e172_44, e172_45, e172_46, e172_47, p_push, p_is1, p_c2n, p_c2i, p_c2r, p_is2, p_il2, p_al0, p_getR, p_iald, p_cge, p_il1, p_cv1_0, p_cv1_1, p_cv1_2, p_cv1_3, p_cv1_4, zK_v, zK_0, WN_ncl, p_ifeq, p_goto, p_bin, p_ii2, p_dup2, p_iast, p_ret0, WN_nx, WN_nrt, WN_ite, zm_r0, zg_s, zg_u, h0, h3, c0]
    rw [ei]
    rfl
  | succ n ih =>
    intro i hi
    obtain ⟨h1, hm⟩ := aMvN_ok ok i (by omega)
    have h0 := hm 0 (by omega)
    have hi0 : (i : Int) < w 0 := by omega
    have c0 : ((i : Int) < w 0) = True := eq_true hi0
    have e1 : (i : Int) + 1 = ((i + 1 : Nat) : Int) := by omega
    have ih2 := ih (i + 1) (by omega)
    have tm := fun (Q : ZO → ZT → ZI → Prop) => t_movesM (Q := Q) (x := x) (τ := τ) (i := i) h1 (by omega) (by omega)
    rw [← aMvN_s] at tm
    rw [aGN_s] at ih2
    have hg : aGoes i (aMvN w i) = 0 ∨ aGoes i (aMvN w i) = 1 := by have := aGoes_in (i := i) (w := aMvN w i); omega
    rcases hg with hg | hg
    · rw [hg] at tm ih2
      rw [e172_4]
      simp (disch := first | assumption | exact p_c2i | exact p_c2r | exact p_c2n | omega | ((repeat (first | refine p_a1i.trans ?_ | refine p_a1r.trans ?_)); exact p_a10) | ((repeat (first | refine p_wI ?_ | refine p_wR ?_)); exact p_w0) | decide) only [reduceIte, Int.reduceLT, Int.reduceLE, Int.reduceEq, Int.reduceToNat, Int.reduceAdd, Int.reduceSub, Int.reduceMul, Int.reduceNeg, e172_5, e172_6, e172_9, e172_10, e172_11, e172_14, e172_15, e172_16, e172_17, e172_20, e172_23, e172_24, e172_27, e172_28, e172_29, e172_30, e172_33, p_il2, p_al0, p_getR, p_push, p_iald, p_cge, p_il1, p_cv1_0, p_cv1_1, p_cv1_2, p_cv1_3, p_cv1_4, zK_v, zK_0, WN_ncl, p_ifeq, p_goto, p_bin, p_is1, p_c2n, p_c2i, p_c2r, p_ii2, WN_nx, WN_nrt, WN_ite, zm_r0, zg_s, h0, c0, tm, e1]
      exact ih2
    · rw [hg] at tm ih2
      rw [e172_4]
      simp (disch := first | assumption | exact p_c2i | exact p_c2r | exact p_c2n | omega | ((repeat (first | refine p_a1i.trans ?_ | refine p_a1r.trans ?_)); exact p_a10) | ((repeat (first | refine p_wI ?_ | refine p_wR ?_)); exact p_w0) | decide) only [reduceIte, Int.reduceLT, Int.reduceLE, Int.reduceEq, Int.reduceToNat, Int.reduceAdd, Int.reduceSub, Int.reduceMul, Int.reduceNeg, e172_5, e172_6, e172_9, e172_10, e172_11, e172_14, e172_15, e172_16, e172_17, e172_20, e172_23, e172_24, e172_27, e172_28, e172_29, e172_30, e172_33, p_il2, p_al0, p_getR, p_push, p_iald, p_cge, p_il1, p_cv1_0, p_cv1_1, p_cv1_2, p_cv1_3, p_cv1_4, zK_v, zK_0, WN_ncl, p_ifeq, p_goto, p_bin, p_is1, p_c2n, p_c2i, p_c2r, p_ii2, WN_nx, WN_nrt, WN_ite, zm_r0, zg_s, h0, c0, tm, e1]
      exact ih2
theorem t_stepsOnceM (ok : zok N w) (hN : N ≤ 90000000) : WM 172 [.inr (.inl (some 3553))] (3565, x, zrho) (zg τ w) Q = Q (.inl (some (.inl (aGN w (w 0).toNat)))) (3565, x, zrho) (zg τ (aStep w)) := by
  show Wp 172 0 [some (.inr (.inl (some 3553))), none, none] [] _ _ Q = _
  have o0 := ok.1
  simp (disch := first | assumption | exact p_c2i | exact p_c2r | exact p_c2n | omega | ((repeat (first | refine p_a1i.trans ?_ | refine p_a1r.trans ?_)); exact p_a10) | ((repeat (first | refine p_wI ?_ | refine p_wR ?_)); exact p_w0) | decide) only [reduceIte, Int.reduceLT, Int.reduceLE, Int.reduceEq, Int.reduceToNat, Int.reduceAdd, Int.reduceSub, Int.reduceMul, Int.reduceNeg, e172_0, e172_1, e172_2, e172_3, p_push, p_is1, p_c2n, p_c2i, p_c2r, p_is2, WN_nx, WN_nrt, WN_ite]
  exact l_stepsOnceM ok hN (w 0).toNat 0 (by omega)
end
