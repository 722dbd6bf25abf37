/-! THE MODEL: back in, highway -/
section
variable {τ : ZI} {Q : ZO → ZT → ZI → Prop} {x n : Nat} {w w' : zW} {N : Int} {t : Nat → Int}
theorem l_isBackM {h : Nat} (ok : zok N w) (hN : N ≤ 80000000) (hh : (h : Int) < w 0) (K1 : aFst (fun k => decide (aIt k w (172 + 4 * h) = w (172 + 4 * h))) 1 200 = 0 → ∀ τ' b, zQy τ τ' 2 → Q (.inl (some (.inl b))) (3565, x, zrho) (zg τ' w)) (K0 : aFst (fun k => decide (aIt k w (172 + 4 * h) = w (172 + 4 * h))) 1 200 ≠ 0 → ∀ τ', zQy τ τ' 0 → Q (.inl (some (.inl ((aFst (fun k => decide (aIt k w (172 + 4 * h) = w (172 + 4 * h))) 1 200 : Nat) : Int)))) (3565, x, zrho) (zg τ' w)) : ∀ (n i : Nat), i + n = 200 → aFst (fun k => decide (aIt k w (172 + 4 * h) = w (172 + 4 * h))) (i + 1) n = aFst (fun k => decide (aIt k w (172 + 4 * h) = w (172 + 4 * h))) 1 200 → Wp 191 47 [some (.inr (.inl (some 3553))), some (.inl ((h : Int))), some (.inl (w (172 + 4 * h))), some (.inl ((i : Int)))] [] (3565, x, zrho) (zg (zsp τ w) (aIt i w)) Q := by
  have hk := zm_k
  have k4 := zm_4
  have n4 := zm_n4
  have o0 := ok.1
  have ow := (ok.2.2.2.2.2.2.2.2.2.1 h hh).1
  intro n
  induction n with
  | zero =>
    intro i hi he
    have e : i = 200 := by omega
    subst e
    obtain ⟨g1, g2, g3⟩ := aIt_ok ok 200
    obtain ⟨q1, q2, q3⟩ := aIt_ok ok 201
    have ts := fun (Q : ZO → ZT → ZI → Prop) => t_stepsOnceM (Q := Q) (x := x) (τ := zsp τ w) (w := aIt 200 w) g1 (by omega)
    rw [g2, show aStep (aIt 200 w) = aIt 201 w from rfl] at ts
    have hg := aGN_in (w := aIt 200 w) (w 0).toNat
    have c2 : (aGN (aIt 200 w) (w 0).toNat < 0) = False := eq_false (by omega)
    have tr := fun (Q : ZO → ZT → ZI → Prop) => t_rest (τ := zsp τ w) (Q := Q) (x := x) (w := w) (w' := aIt 201 w) (fun j hj => zsp_s hj) q3
    simp (disch := first | assumption | exact p_c2i | exact p_c2r | exact p_c2n | omega | ((repeat (first | refine p_a1i.trans ?_ | refine p_a1r.trans ?_)); exact p_a10) | ((repeat (first | refine p_wI ?_ | refine p_wR ?_)); exact p_w0) | decide) only [reduceIte, Int.reduceLT, Int.reduceLE, Int.reduceEq, Int.reduceToNat, Int.reduceAdd, Int.reduceSub, Int.reduceMul, Int.reduceNeg, e191_47, e191_48, e191_49, e191_52, e191_55, e191_56, e191_59, e191_60, e191_61, e191_62, e191_63, e191_66, e191_79, e191_80, e191_83, e191_84, e191_85, e191_88, e191_89, e191_92, e191_95, e191_96, e191_97, e191_100, e191_103, e191_104, e191_107, e191_108, e191_111, e191_114, e191_115, e191_118, e191_119, p_il3, p_al0, p_cv0_0, p_cv0_1, p_cv0_2, p_cv0_3, p_cv0_4, zK_v, zK_0, WN_ncl, p_ifge, p_push, p_goto, p_bin, p_is3, p_c2n, p_c2i, p_c2r, p_cgt, p_getR, p_cs5_0, p_cs5_1, p_cs5_2, p_cs5_3, p_cs5_4, p_cle, p_cv1_0, p_cv1_1, p_cv1_2, p_cv1_3, p_cv1_4, p_ifeq, p_ret0, WN_nx, WN_nrt, WN_ite, show ((200 : Nat) : Int) = 200 from rfl, ts, c2, zm_r0, zm_r4, tr, tf_2]
    exact K1 he.symm _ _ (zQy_s zQy_f)
  | succ n ih =>
    intro i hi he
    obtain ⟨g1, g2, g3⟩ := aIt_ok ok i
    obtain ⟨q1, q2, q3⟩ := aIt_ok ok (i + 1)
    have ts := fun (Q : ZO → ZT → ZI → Prop) => t_stepsOnceM (Q := Q) (x := x) (τ := zsp τ w) (w := aIt i w) g1 (by omega)
    rw [g2, show aStep (aIt i w) = aIt (i + 1) w from rfl] at ts
    have hg := aGN_in (w := aIt i w) (w 0).toNat
    have c2 : (aGN (aIt i w) (w 0).toNat < 0) = False := eq_false (by omega)
    have c1 : ((200 : Int) < ((i + 1 : Nat) : Int)) = False := eq_false (by omega)
    have e1 : (i : Int) + 1 = ((i + 1 : Nat) : Int) := by omega
    have oq := (q1.2.2.2.2.2.2.2.2.2.1 h (by omega)).1
    have to := fun (Q : ZO → ZT → ZI → Prop) => t_ofM (Q := Q) (x := x) (τ := zsp τ w) (w := aIt (i + 1) w) (h := h) (j := 0) (by omega) (by omega) (by omega)
    rw [show 172 + 4 * h + Int.toNat 0 = 172 + 4 * h from rfl] at to
    rw [aFst_s] at he
    by_cases hd : aIt (i + 1) w (172 + 4 * h) = w (172 + 4 * h)
    · rw [if_pos (decide_eq_true hd)] at he
      have tr := fun (Q : ZO → ZT → ZI → Prop) => t_rest (τ := zsp τ w) (Q := Q) (x := x) (w := w) (w' := aIt (i + 1) w) (fun j hj => zsp_s hj) q3
      simp (disch := first | assumption | exact p_c2i | exact p_c2r | exact p_c2n | omega | ((repeat (first | refine p_a1i.trans ?_ | refine p_a1r.trans ?_)); exact p_a10) | ((repeat (first | refine p_wI ?_ | refine p_wR ?_)); exact p_w0) | decide) only [reduceIte, Int.reduceLT, Int.reduceLE, Int.reduceEq, Int.reduceToNat, Int.reduceAdd, Int.reduceSub, Int.reduceMul, Int.reduceNeg, e191_47, e191_48, e191_49, e191_52, e191_55, e191_56, e191_59, e191_60, e191_61, e191_62, e191_63, e191_66, e191_69, e191_70, e191_71, e191_72, e191_75, e191_76, e191_79, e191_80, e191_83, e191_84, e191_85, e191_88, e191_89, e191_92, e191_95, e191_96, e191_97, e191_100, e191_103, e191_104, e191_107, e191_108, e191_111, e191_114, e191_115, e191_118, e191_119, p_il3, p_al0, p_cv0_0, p_cv0_1, p_cv0_2, p_cv0_3, p_cv0_4, zK_v, zK_0, WN_ncl, p_ifge, p_push, p_goto, p_bin, p_is3, p_c2n, p_c2i, p_c2r, p_cgt, p_il1, p_cv2_0, p_cv2_1, p_cv2_2, p_cv2_3, p_cv2_4, p_il2, p_cne, p_getR, p_cs5_0, p_cs5_1, p_cs5_2, p_cs5_3, p_cs5_4, p_cle, p_cv1_0, p_cv1_1, p_cv1_2, p_cv1_3, p_cv1_4, p_ifeq, p_ret0, WN_nx, WN_nrt, WN_ite, ts, c2, e1, c1, to, hd, zm_r0, zm_r4, tr, tf_0]
      have := K0 (by rw [← he]; omega) _ (zQy_s (τ := τ) (w := w) zQy_f)
      rw [← he] at this
      exact this
    · rw [if_neg (by rw [decide_eq_true_iff]; exact hd)] at he
      rw [e191_47]
      simp (disch := first | assumption | exact p_c2i | exact p_c2r | exact p_c2n | omega | ((repeat (first | refine p_a1i.trans ?_ | refine p_a1r.trans ?_)); exact p_a10) | ((repeat (first | refine p_wI ?_ | refine p_wR ?_)); exact p_w0) | decide) only [reduceIte, Int.reduceLT, Int.reduceLE, Int.reduceEq, Int.reduceToNat, Int.reduceAdd, Int.reduceSub, Int.reduceMul, Int.reduceNeg, e191_48, e191_49, e191_52, e191_55, e191_56, e191_59, e191_60, e191_61, e191_62, e191_63, e191_66, e191_69, e191_70, e191_71, e191_72, e191_75, e191_76, p_il3, p_al0, p_cv0_0, p_cv0_1, p_cv0_2, p_cv0_3, p_cv0_4, zK_v, zK_0, WN_ncl, p_ifge, p_push, p_goto, p_bin, p_is3, p_c2n, p_c2i, p_c2r, p_cgt, p_il1, p_cv2_0, p_cv2_1, p_cv2_2, p_cv2_3, p_cv2_4, p_il2, p_cne, WN_nx, WN_nrt, WN_ite, ts, c2, e1, c1, to, hd]
      exact ih (i + 1) (by omega) he
theorem t_isBackM {h : Int} (ok : zok N w) (hN : N ≤ 80000000) (hh : -2147483648 ≤ h ∧ h < 2147483648) (K2 : ¬ (0 ≤ h ∧ h < w 0) → ∀ τ' b, zQy τ τ' 1 → Q (.inl (some (.inl b))) (3565, x, zrho) (zg τ' w)) (K1 : (0 ≤ h ∧ h < w 0) → aFst (fun k => decide (aIt k w (172 + 4 * h.toNat) = w (172 + 4 * h.toNat))) 1 200 = 0 → ∀ τ' b, zQy τ τ' 2 → Q (.inl (some (.inl b))) (3565, x, zrho) (zg τ' w)) (K0 : (0 ≤ h ∧ h < w 0) → aFst (fun k => decide (aIt k w (172 + 4 * h.toNat) = w (172 + 4 * h.toNat))) 1 200 ≠ 0 → ∀ τ', zQy τ τ' 0 → Q (.inl (some (.inl ((aFst (fun k => decide (aIt k w (172 + 4 * h.toNat) = w (172 + 4 * h.toNat))) 1 200 : Nat) : Int)))) (3565, x, zrho) (zg τ' w)) : WM 191 [.inr (.inl (some 3553)), .inl h] (3565, x, zrho) (zg τ w) Q := by
  show Wp 191 0 [some (.inr (.inl (some 3553))), some (.inl h), none, none] [] _ _ Q
  have k := zm_k
  have o0 := ok.1
  have ti := fun (Q : ZO → ZT → ZI → Prop) (τ : ZI) => t_isHoeM (Q := Q) (τ := τ) (x := x) (w := w) (h := h) hh o0
  by_cases c1 : 0 ≤ h ∧ h < w 0
  · rw [if_pos c1] at ti
    obtain ⟨i, hi⟩ : ∃ i : Nat, h = (i : Int) := ⟨h.toNat, by omega⟩
    subst hi
    have to := fun (Q : ZO → ZT → ZI → Prop) (τ : ZI) => t_ofM (Q := Q) (x := x) (τ := τ) (w := w) (h := i) (j := 0) (by omega) (by omega) (by omega)
    rw [show 172 + 4 * i + Int.toNat 0 = 172 + 4 * i from rfl] at to
    rw [Int.toNat_natCast] at K1 K0
    simp (disch := first | assumption | exact p_c2i | exact p_c2r | exact p_c2n | omega | ((repeat (first | refine p_a1i.trans ?_ | refine p_a1r.trans ?_)); exact p_a10) | ((repeat (first | refine p_wI ?_ | refine p_wR ?_)); exact p_w0) | decide) only [reduceIte, Int.reduceLT, Int.reduceLE, Int.reduceEq, Int.reduceToNat, Int.reduceAdd, Int.reduceSub, Int.reduceMul, Int.reduceNeg, e191_0, e191_1, e191_2, e191_3, e191_6, e191_9, e191_10, e191_13, e191_14, e191_17, e191_20, e191_21, e191_22, e191_23, e191_26, e191_27, e191_28, e191_31, e191_32, e191_35, e191_38, e191_39, e191_40, e191_41, e191_44, e191_45, e191_46, p_al0, p_il1, p_cv1_0, p_cv1_1, p_cv1_2, p_cv1_3, p_cv1_4, zK_v, zK_0, WN_ncl, p_ifeq, p_push, p_goto, p_ret0, p_getR, p_cs5_0, p_cs5_1, p_cs5_2, p_cs5_3, p_cs5_4, p_cv2_0, p_cv2_1, p_cv2_2, p_cv2_3, p_cv2_4, p_is2, p_c2n, p_c2i, p_c2r, p_is3, WN_nx, WN_nrt, WN_ite, ti, tf_0, zm_r0, zm_r4, t_save, to]
    exact l_isBackM (τ := zup τ 3553 8 0) ok hN c1.2 (fun e τ' b hq => K1 c1 e τ' b (zQy_8 hq)) (fun e τ' hq => K0 c1 e τ' (zQy_8 hq)) 200 0 rfl rfl
  · rw [if_neg c1] at ti
    simp (disch := first | assumption | exact p_c2i | exact p_c2r | exact p_c2n | omega | ((repeat (first | refine p_a1i.trans ?_ | refine p_a1r.trans ?_)); exact p_a10) | ((repeat (first | refine p_wI ?_ | refine p_wR ?_)); exact p_w0) | decide) only [reduceIte, Int.reduceLT, Int.reduceLE, Int.reduceEq, Int.reduceToNat, Int.reduceAdd, Int.reduceSub, Int.reduceMul, Int.reduceNeg, e191_0, e191_1, e191_2, e191_3, e191_6, e191_9, e191_10, e191_13, e191_14, e191_17, e191_20, e191_21, p_al0, p_il1, p_cv1_0, p_cv1_1, p_cv1_2, p_cv1_3, p_cv1_4, zK_v, zK_0, WN_ncl, p_ifeq, p_push, p_goto, p_ret0, WN_nx, WN_nrt, WN_ite, ti, tf_1]
    exact K2 c1 _ _ zQy_f
theorem l_turnOfM {h : Nat} (ok : zok N w) (hN : N ≤ 90000000) (hh : (h : Int) < w 0) : ∀ (n i : Nat) (s : Int), ((i + n : Nat) : Int) = w 0 → (h < i → s = aTurn (aMvN w h) h) → Wp 193 4 [some (.inr (.inl (some 3553))), some (.inl ((h : Int))), some (.inl s), some (.inl ((i : Int)))] [] (3565, x, zrho) (zg τ (aMvN w i)) Q = Q (.inl (some (.inl (aTurn (aMvN w h) h)))) (3565, x, zrho) (zg τ (aStep w)) := by
  have hk := zm_k
  have k4 := zm_4
  have n4 := zm_n4
  have o0 := ok.1
  intro n
  induction n with
  | zero =>
    intro i s hi hs
    have ei : i = (w 0).toNat := by omega
    have hm := (aMvN_ok ok i (by omega)).2
    have h0 := hm 0 (by omega)
    have h3 := hm 3 (by omega)
    have c0 : ((i : Int) < w 0) = False := eq_false (by omega)
    simp (disch := first | assumption | exact p_c2i | exact p_c2r | exact p_c2n | omega | ((repeat (first | refine p_a1i.trans ?_ | refine p_a1r.trans ?_)); exact p_a10) | ((repeat (first | refine p_wI ?_ | refine p_wR ?_)); exact p_w0) | decide) only [reduceIte, Int.reduceLT, Int.reduceLE, Int.reduceEq, Int.reduceToNat, Int.reduceAdd, Int.reduceSub, Int.reduceMul, Int.reduceNeg, e193_4, e193_5, e193_6, e193_9, e193_10, e193_11, e193_54, e193_55, e193_58, e193_59, e193_60, e193_61, e193_62, e193_63, e193_64, e193_65, p_il3, p_al0, p_getR, p_push, p_iald, p_cge, p_dup2, p_bin, p_iast, p_il2, p_ret0, WN_nx, WN_nrt, WN_ite, zm_r0, zg_s, zg_u, h0, h3, c0]
    rw [hs (by omega), ei]
    rfl
  | succ n ih =>
    intro i s hi hs
    obtain ⟨h1, hm⟩ := aMvN_ok ok i (by omega)
    have h0 := hm 0 (by omega)
    have hi0 : (i : Int) < w 0 := by omega
    have c0 : ((i : Int) < w 0) = True := eq_true hi0
    have e1 : (i : Int) + 1 = ((i + 1 : Nat) : Int) := by omega
    have tm := fun (Q : ZO → ZT → ZI → Prop) => t_movesM (Q := Q) (x := x) (τ := τ) (i := i) h1 (by omega) (by omega)
    rw [← aMvN_s] at tm
    have hg : aGoes i (aMvN w i) = 0 ∨ aGoes i (aMvN w i) = 1 := by have := aGoes_in (i := i) (w := aMvN w i); omega
    have ci : ((i : Int) < 0) = False := eq_false (by omega)
    have fin : ∀ s' : Int, (h < i + 1 → s' = aTurn (aMvN w h) h) → Wp 193 34 [some (.inr (.inl (some 3553))), some (.inl ((h : Int))), some (.inl (s')), some (.inl ((i : Int)))] [] (3565, x, zrho) (zg τ (aMvN w i)) Q = Q (.inl (some (.inl (aTurn (aMvN w h) h)))) (3565, x, zrho) (zg τ (aStep w)) := by
      intro s' hs'
      have ih2 := ih (i + 1) s' (by omega) hs'
      rcases hg with hg | hg
      · rw [hg] at tm
        simp (disch := first | assumption | exact p_c2i | exact p_c2r | exact p_c2n | omega | ((repeat (first | refine p_a1i.trans ?_ | refine p_a1r.trans ?_)); exact p_a10) | ((repeat (first | refine p_wI ?_ | refine p_wR ?_)); exact p_w0) | decide) only [reduceIte, Int.reduceLT, Int.reduceLE, Int.reduceEq, Int.reduceToNat, Int.reduceAdd, Int.reduceSub, Int.reduceMul, Int.reduceNeg, e193_34, e193_35, e193_36, e193_39, e193_42, e193_43, e193_46, e193_47, e193_48, e193_51, p_al0, p_il3, p_cv1_0, p_cv1_1, p_cv1_2, p_cv1_3, p_cv1_4, zK_v, zK_0, WN_ncl, p_ifeq, p_ifge, p_push, p_is2, p_c2n, p_c2i, p_c2r, p_ii3, p_goto, WN_nx, WN_nrt, WN_ite, tm, ci, e1]
        exact ih2
      · rw [hg] at tm
        simp (disch := first | assumption | exact p_c2i | exact p_c2r | exact p_c2n | omega | ((repeat (first | refine p_a1i.trans ?_ | refine p_a1r.trans ?_)); exact p_a10) | ((repeat (first | refine p_wI ?_ | refine p_wR ?_)); exact p_w0) | decide) only [reduceIte, Int.reduceLT, Int.reduceLE, Int.reduceEq, Int.reduceToNat, Int.reduceAdd, Int.reduceSub, Int.reduceMul, Int.reduceNeg, e193_34, e193_35, e193_36, e193_39, e193_42, e193_43, e193_46, e193_47, e193_48, e193_51, p_al0, p_il3, p_cv1_0, p_cv1_1, p_cv1_2, p_cv1_3, p_cv1_4, zK_v, zK_0, WN_ncl, p_ifeq, p_ifge, p_push, p_is2, p_c2n, p_c2i, p_c2r, p_ii3, p_goto, WN_nx, WN_nrt, WN_ite, tm, ci, e1]
        exact ih2
    by_cases hd : i = h
    · subst hd
      have c1 : ((i : Int) = (i : Int)) = True := eq_true rfl
      have o := h1.2.2.2.2.2.2.2.2.2.1 i (by omega)
      obtain ⟨c, hc⟩ : ∃ c : Nat, aMvN w i (172 + 4 * i) = (c : Int) := ⟨(aMvN w i (172 + 4 * i)).toNat, (Int.toNat_of_nonneg o.1.1).symm⟩
      have hc81 : c < 81 := by omega
      have oc := h1.2.2.2.2.2.2.2.1 c hc81
      have o1 := h1.2.1
      have to := fun (Q : ZO → ZT → ZI → Prop) => t_ofM (Q := Q) (x := x) (τ := τ) (w := aMvN w i) (h := i) (j := 0) (by omega) (by omega) (by omega)
      rw [show 172 + 4 * i + Int.toNat 0 = 172 + 4 * i from rfl, hc] at to
      have tt := fun (Q : ZO → ZT → ZI → Prop) => t_turnOnM (Q := Q) (x := x) (τ := τ) (w := aMvN w i) (c := c) hc81 (by omega)
      have ea : aTurn (aMvN w i) i = aMvN w i (6 + (aMvN w i (10 + c)).toNat) := by
        unfold aTurn
        rw [hc, Int.toNat_natCast]
      rw [e193_4]
      simp (disch := first | assumption | exact p_c2i | exact p_c2r | exact p_c2n | omega | ((repeat (first | refine p_a1i.trans ?_ | refine p_a1r.trans ?_)); exact p_a10) | ((repeat (first | refine p_wI ?_ | refine p_wR ?_)); exact p_w0) | decide) only [reduceIte, Int.reduceLT, Int.reduceLE, Int.reduceEq, Int.reduceToNat, Int.reduceAdd, Int.reduceSub, Int.reduceMul, Int.reduceNeg, e193_5, e193_6, e193_9, e193_10, e193_11, e193_14, e193_15, e193_16, e193_19, e193_20, e193_21, e193_22, e193_23, e193_26, e193_29, e193_32, e193_33, p_il3, p_al0, p_getR, p_push, p_iald, p_cge, p_il1, p_cne, p_cv2_0, p_cv2_1, p_cv2_2, p_cv2_3, p_cv2_4, zK_v, zK_0, WN_ncl, p_cv1_0, p_cv1_1, p_cv1_2, p_cv1_3, p_cv1_4, p_goto, p_il2, p_is2, p_c2n, p_c2i, p_c2r, WN_nx, WN_nrt, WN_ite, zm_r0, zg_s, h0, c0, c1, to, tt]
      exact fin _ (fun _ => ea.symm)
    · have c1 : ((i : Int) = (h : Int)) = False := eq_false (by omega)
      rw [e193_4]
      simp (disch := first | assumption | exact p_c2i | exact p_c2r | exact p_c2n | omega | ((repeat (first | refine p_a1i.trans ?_ | refine p_a1r.trans ?_)); exact p_a10) | ((repeat (first | refine p_wI ?_ | refine p_wR ?_)); exact p_w0) | decide) only [reduceIte, Int.reduceLT, Int.reduceLE, Int.reduceEq, Int.reduceToNat, Int.reduceAdd, Int.reduceSub, Int.reduceMul, Int.reduceNeg, e193_5, e193_6, e193_9, e193_10, e193_11, e193_14, e193_15, e193_16, e193_19, e193_20, e193_21, e193_22, e193_23, e193_26, e193_29, e193_32, e193_33, p_il3, p_al0, p_getR, p_push, p_iald, p_cge, p_il1, p_cne, p_cv2_0, p_cv2_1, p_cv2_2, p_cv2_3, p_cv2_4, zK_v, zK_0, WN_ncl, p_cv1_0, p_cv1_1, p_cv1_2, p_cv1_3, p_cv1_4, p_goto, p_il2, p_is2, p_c2n, p_c2i, p_c2r, WN_nx, WN_nrt, WN_ite, zm_r0, zg_s, h0, c0, c1]
      exact fin s (fun hlt => hs (by omega))
theorem t_turnOfM {h : Nat} (ok : zok N w) (hN : N ≤ 90000000) (hh : (h : Int) < w 0) : WM 193 [.inr (.inl (some 3553)), .inl ((h : Int))] (3565, x, zrho) (zg τ w) Q = Q (.inl (some (.inl (aTurn (aMvN w h) h)))) (3565, x, zrho) (zg τ (aStep w)) := by
  show Wp 193 0 [some (.inr (.inl (some 3553))), some (.inl ((h : Int))), none, none] [] _ _ Q = _
  have o0 := ok.1
  simp (disch := first | assumption | exact p_c2i | exact p_c2r | exact p_c2n | omega | ((repeat (first | refine p_a1i.trans ?_ | refine p_a1r.trans ?_)); exact p_a10) | ((repeat (first | refine p_wI ?_ | refine p_wR ?_)); exact p_w0) | decide) only [reduceIte, Int.reduceLT, Int.reduceLE, Int.reduceEq, Int.reduceToNat, Int.reduceAdd, Int.reduceSub, Int.reduceMul, Int.reduceNeg, e193_0, e193_1, e193_2, e193_3, p_push, p_is2, p_c2n, p_c2i, p_c2r, p_is3, WN_nx, WN_nrt, WN_ite]
  exact l_turnOfM ok hN hh (w 0).toNat 0 0 (by omega) (fun z => absurd z (Nat.not_lt_zero _))
theorem zm_r17 : zrho 3553 17 = some 3562 := rfl
theorem zm_2 : zkd 3562 = 10 := rfl
theorem zm_n2 : zln 3562 = 120 := rfl
theorem l_isPeriodM {p : Nat} (hp : 1 ≤ p ∧ p ≤ 40) (ht : ∀ k, k < 120 → τ 3562 k = t k ∧ 0 ≤ t k ∧ t k < 4) : ∀ (n i : Nat), i + n = 2 * p → Wp 192 2 [some (.inr (.inl (some 3553))), some (.inl ((p : Int))), some (.inl ((i : Int)))] [] (3565, x, zrho) (zg τ w) Q = Q (.inl (some (.inl (if zfa (fun k => decide (t k = t (k + p))) i n = true then 1 else 0)))) (3565, x, zrho) (zg τ w) := by
  have k := zm_k
  have k9 := zm_2
  have n9 := zm_n2
  obtain ⟨hp1, hp2⟩ := hp
  intro n
  induction n with
  | zero =>
    intro i hi
    have c1 : ((i : Int) < 2 * (p : Int)) = False := eq_false (by omega)
    simp (disch := first | assumption | exact p_c2i | exact p_c2r | exact p_c2n | omega | ((repeat (first | refine p_a1i.trans ?_ | refine p_a1r.trans ?_)); exact p_a10) | ((repeat (first | refine p_wI ?_ | refine p_wR ?_)); exact p_w0) | decide) only [reduceIte, Int.reduceLT, Int.reduceLE, Int.reduceEq, Int.reduceToNat, Int.reduceAdd, Int.reduceSub, Int.reduceMul, Int.reduceNeg, e192_2, e192_3, e192_4, e192_5, e192_6, e192_34, e192_35, p_il2, p_push, p_il1, p_bin, p_cge, p_ret1, WN_nx, WN_nrt, WN_ite, c1]
    rw [if_pos (show zfa _ i 0 = true from rfl)]
  | succ n ih =>
    intro i hi
    have c1 : ((i : Int) < 2 * (p : Int)) = True := eq_true (by omega)
    have e1 : (i : Int) + 1 = ((i + 1 : Nat) : Int) := by omega
    have e2 : ((i : Int) + (p : Int)).toNat = i + p := by omega
    have t1 := ht i (by omega)
    have t2 := ht (i + p) (by omega)
    have g1 : zg τ w 3562 i = t i := by rw [zg_o (by omega)]; exact t1.1
    have g2 : zg τ w 3562 (i + p) = t (i + p) := by rw [zg_o (by omega)]; exact t2.1
    have ih2 := ih (i + 1) (by omega)
    rw [zfa_s]
    by_cases hd : t i = t (i + p)
    · rw [if_pos (decide_eq_true hd)]
      have c5 : (t i = t (i + p)) = True := eq_true hd
      rw [e192_2]
      simp (disch := first | assumption | exact p_c2i | exact p_c2r | exact p_c2n | omega | ((repeat (first | refine p_a1i.trans ?_ | refine p_a1r.trans ?_)); exact p_a10) | ((repeat (first | refine p_wI ?_ | refine p_wR ?_)); exact p_w0) | decide) only [reduceIte, Int.reduceLT, Int.reduceLE, Int.reduceEq, Int.reduceToNat, Int.reduceAdd, Int.reduceSub, Int.reduceMul, Int.reduceNeg, e192_3, e192_4, e192_5, e192_6, e192_9, e192_10, e192_13, e192_14, e192_15, e192_16, e192_19, e192_20, e192_21, e192_22, e192_23, e192_26, e192_27, e192_28, e192_31, p_il2, p_push, p_il1, p_bin, p_cge, p_al0, p_getR, p_iald, p_ceq, p_ret1, p_ii2, p_goto, WN_nx, WN_nrt, WN_ite, zm_r17, c1, e2, g1, g2, c5, Int.toNat_natCast, e1]
      exact ih2
    · rw [if_neg (show ¬ decide (t i = t (i + p)) = true by rw [decide_eq_true_iff]; exact hd), if_neg (by decide)]
      rw [e192_2]
      simp (disch := first | assumption | exact p_c2i | exact p_c2r | exact p_c2n | omega | ((repeat (first | refine p_a1i.trans ?_ | refine p_a1r.trans ?_)); exact p_a10) | ((repeat (first | refine p_wI ?_ | refine p_wR ?_)); exact p_w0) | decide) only [reduceIte, Int.reduceLT, Int.reduceLE, Int.reduceEq, Int.reduceToNat, Int.reduceAdd, Int.reduceSub, Int.reduceMul, Int.reduceNeg, e192_3, e192_4, e192_5, e192_6, e192_9, e192_10, e192_13, e192_14, e192_15, e192_16, e192_19, e192_20, e192_21, e192_22, e192_23, e192_26, e192_27, e192_28, e192_31, p_il2, p_push, p_il1, p_bin, p_cge, p_al0, p_getR, p_iald, p_ceq, p_ret1, p_ii2, p_goto, WN_nx, WN_nrt, WN_ite, zm_r17, c1, e2, g1, g2, hd, Int.toNat_natCast]
theorem t_isPeriodM {p : Nat} (hp : 1 ≤ p ∧ p ≤ 40) (ht : ∀ k, k < 120 → τ 3562 k = t k ∧ 0 ≤ t k ∧ t k < 4) : WM 192 [.inr (.inl (some 3553)), .inl ((p : Int))] (3565, x, zrho) (zg τ w) Q = Q (.inl (some (.inl (if aPer t p = true then 1 else 0)))) (3565, x, zrho) (zg τ w) := by
  show Wp 192 0 [some (.inr (.inl (some 3553))), some (.inl ((p : Int))), none] [] _ _ Q = _
  simp (disch := first | assumption | exact p_c2i | exact p_c2r | exact p_c2n | omega | ((repeat (first | refine p_a1i.trans ?_ | refine p_a1r.trans ?_)); exact p_a10) | ((repeat (first | refine p_wI ?_ | refine p_wR ?_)); exact p_w0) | decide) only [reduceIte, Int.reduceLT, Int.reduceLE, Int.reduceEq, Int.reduceToNat, Int.reduceAdd, Int.reduceSub, Int.reduceMul, Int.reduceNeg, e192_0, e192_1, p_push, p_is2, p_c2n, p_c2i, p_c2r, WN_nx, WN_nrt, WN_ite]
  exact l_isPeriodM hp ht (2 * p) 0 (by omega)
theorem l_periodsM {h : Int} (ht : ∀ k, k < 120 → τ 3562 k = t k ∧ 0 ≤ t k ∧ t k < 4) (K1 : aFst (aPer t) 1 40 = 0 → ∀ b, Q (.inl (some (.inl b))) (3565, x, zrho) (zg (zup τ 3553 8 2) w)) (K0 : aFst (aPer t) 1 40 ≠ 0 → Q (.inl (some (.inl ((aFst (aPer t) 1 40 : Nat) : Int)))) (3565, x, zrho) (zg (zup τ 3553 8 0) w)) : ∀ (n p : Nat), p + n = 41 → 1 ≤ p → aFst (aPer t) p n = aFst (aPer t) 1 40 → Wp 194 81 [some (.inr (.inl (some 3553))), some (.inl h), some (.inl ((p : Int)))] [] (3565, x, zrho) (zg τ w) Q := by
  have k := zm_k
  intro n
  induction n with
  | zero =>
    intro p hp h1 he
    have e : p = 41 := by omega
    subst e
    simp (disch := first | assumption | exact p_c2i | exact p_c2r | exact p_c2n | omega | ((repeat (first | refine p_a1i.trans ?_ | refine p_a1r.trans ?_)); exact p_a10) | ((repeat (first | refine p_wI ?_ | refine p_wR ?_)); exact p_w0) | decide) only [reduceIte, Int.reduceLT, Int.reduceLE, Int.reduceEq, Int.reduceToNat, Int.reduceAdd, Int.reduceSub, Int.reduceMul, Int.reduceNeg, e194_81, e194_82, e194_84, e194_101, e194_102, e194_103, e194_105, e194_108, e194_109, e194_112, e194_113, e194_116, e194_119, e194_120, e194_123, e194_124, p_il2, p_push, p_cgt, p_al0, p_cle, p_goto, p_cv1_0, p_cv1_1, p_cv1_2, p_cv1_3, p_cv1_4, zK_v, zK_0, WN_ncl, p_ifeq, p_ret0, WN_nx, WN_nrt, WN_ite, show ((41 : Nat) : Int) = 41 from rfl, tf_2]
    exact K1 he.symm _
  | succ n ih =>
    intro p hp h1 he
    have c1 : ((40 : Int) < (p : Int)) = False := eq_false (by omega)
    have e1 : (p : Int) + 1 = ((p + 1 : Nat) : Int) := by omega
    have tp := fun (Q : ZO → ZT → ZI → Prop) => t_isPeriodM (Q := Q) (x := x) (τ := τ) (w := w) (t := t) (p := p) (by omega) ht
    rw [aFst_s] at he
    by_cases hd : aPer t p = true
    · rw [if_pos hd] at tp he
      simp (disch := first | assumption | exact p_c2i | exact p_c2r | exact p_c2n | omega | ((repeat (first | refine p_a1i.trans ?_ | refine p_a1r.trans ?_)); exact p_a10) | ((repeat (first | refine p_wI ?_ | refine p_wR ?_)); exact p_w0) | decide) only [reduceIte, Int.reduceLT, Int.reduceLE, Int.reduceEq, Int.reduceToNat, Int.reduceAdd, Int.reduceSub, Int.reduceMul, Int.reduceNeg, e194_81, e194_82, e194_84, e194_87, e194_88, e194_89, e194_92, e194_101, e194_102, e194_103, e194_105, e194_108, e194_109, e194_112, e194_113, e194_116, e194_119, e194_120, e194_123, e194_124, p_il2, p_push, p_cgt, p_al0, p_cv1_0, p_cv1_1, p_cv1_2, p_cv1_3, p_cv1_4, zK_v, zK_0, WN_ncl, p_ifne, p_cle, p_goto, p_ifeq, p_ret0, WN_nx, WN_nrt, WN_ite, c1, tp, tf_0]
      have := K0 (by rw [← he]; omega)
      rw [← he] at this
      exact this
    · rw [if_neg hd] at tp he
      rw [e194_81]
      simp (disch := first | assumption | exact p_c2i | exact p_c2r | exact p_c2n | omega | ((repeat (first | refine p_a1i.trans ?_ | refine p_a1r.trans ?_)); exact p_a10) | ((repeat (first | refine p_wI ?_ | refine p_wR ?_)); exact p_w0) | decide) only [reduceIte, Int.reduceLT, Int.reduceLE, Int.reduceEq, Int.reduceToNat, Int.reduceAdd, Int.reduceSub, Int.reduceMul, Int.reduceNeg, e194_82, e194_84, e194_87, e194_88, e194_89, e194_92, e194_95, e194_98, p_il2, p_push, p_cgt, p_al0, p_cv1_0, p_cv1_1, p_cv1_2, p_cv1_3, p_cv1_4, zK_v, zK_0, WN_ncl, p_ifne, p_ii2, p_goto, WN_nx, WN_nrt, WN_ite, c1, tp, e1]
      exact ih (p + 1) (by omega) (by omega) he
theorem l_highwayM {h : Nat} (ok : zok N w) (hN : N ≤ 80000000) (hh : (h : Int) < w 0) (K1 : aFst (aPer (aTr w h)) 1 40 = 0 → ∀ τ' b, zQy τ τ' 2 → Q (.inl (some (.inl b))) (3565, x, zrho) (zg τ' w)) (K0 : aFst (aPer (aTr w h)) 1 40 ≠ 0 → ∀ τ', zQy τ τ' 0 → Q (.inl (some (.inl ((aFst (aPer (aTr w h)) 1 40 : Nat) : Int)))) (3565, x, zrho) (zg τ' w)) : ∀ (n i : Nat) (τ1 : ZI), i + n = 120 → (∀ a, a ≠ 3562 → τ1 a = zsp τ w a) → (∀ k, k < i → τ1 3562 k = aTr w h k) → Wp 194 40 [some (.inr (.inl (some 3553))), some (.inl ((h : Int))), some (.inl ((i : Int)))] [] (3565, x, zrho) (zg τ1 (aIt i w)) Q := by
  have k := zm_k
  have k2 := zm_2
  have n2 := zm_n2
  intro n
  induction n with
  | zero =>
    intro i τ1 hi hf ht
    have e : i = 120 := by omega
    subst e
    obtain ⟨g1, g2, g3⟩ := aIt_ok ok 120
    have tr := fun (Q : ZO → ZT → ZI → Prop) => t_rest (τ := τ1) (Q := Q) (x := x) (w := w) (w' := aIt 120 w) (fun j hj => by rw [hf 3558 (by omega)]; exact zsp_s hj) g3
    simp (disch := first | assumption | exact p_c2i | exact p_c2r | exact p_c2n | omega | ((repeat (first | refine p_a1i.trans ?_ | refine p_a1r.trans ?_)); exact p_a10) | ((repeat (first | refine p_wI ?_ | refine p_wR ?_)); exact p_w0) | decide) only [reduceIte, Int.reduceLT, Int.reduceLE, Int.reduceEq, Int.reduceToNat, Int.reduceAdd, Int.reduceSub, Int.reduceMul, Int.reduceNeg, e194_40, e194_41, e194_43, e194_63, e194_64, e194_67, e194_68, e194_69, e194_72, e194_73, e194_76, e194_79, e194_80, p_il2, p_push, p_cge, p_al0, p_getR, p_cs5_0, p_cs5_1, p_cs5_2, p_cs5_3, p_cs5_4, zK_v, zK_0, WN_ncl, p_is2, p_c2n, p_c2i, p_c2r, WN_nx, WN_nrt, WN_ite, show ((120 : Nat) : Int) = 120 from rfl, zm_r0, zm_r4, tr]
    have hq : ∀ p, zQy τ (zup τ1 3553 8 p) p := fun p => ⟨zup_s, fun k hk => by rw [zup_j hk, hf 3553 (by omega), zsp_f (by omega)], fun a h1 h2 h3 h4 h5 => by rw [zup_f h1, hf a h5, zsp_f h3]⟩
    exact l_periodsM (t := aTr w h) (fun k hk => ⟨ht k hk, aTr_in ok hh⟩) (fun e b => K1 e _ b (hq 2)) (fun e => K0 e _ (hq 0)) 40 1 rfl (Nat.le_refl _) rfl
  | succ n ih =>
    intro i τ1 hi hf ht
    obtain ⟨g1, g2, g3⟩ := aIt_ok ok i
    have c1 : ((i : Int) < 120) = True := eq_true (by omega)
    have e1 : (i : Int) + 1 = ((i + 1 : Nat) : Int) := by omega
    have tt := fun (Q : ZO → ZT → ZI → Prop) => t_turnOfM (Q := Q) (x := x) (τ := τ1) (w := aIt i w) (h := h) g1 (by omega) (by rw [g2]; exact hh)
    have uc : ∀ v, zup (zg τ1 (aStep (aIt i w))) 3562 i v = zg (zup τ1 3562 i v) (aStep (aIt i w)) := fun v => zg_c (by omega)
    rw [e194_40]
    simp (disch := first | assumption | exact p_c2i | exact p_c2r | exact p_c2n | omega | ((repeat (first | refine p_a1i.trans ?_ | refine p_a1r.trans ?_)); exact p_a10) | ((repeat (first | refine p_wI ?_ | refine p_wR ?_)); exact p_w0) | decide) only [reduceIte, Int.reduceLT, Int.reduceLE, Int.reduceEq, Int.reduceToNat, Int.reduceAdd, Int.reduceSub, Int.reduceMul, Int.reduceNeg, e194_41, e194_43, e194_46, e194_47, e194_50, e194_51, e194_52, e194_53, e194_56, e194_57, e194_60, p_il2, p_push, p_cge, p_al0, p_getR, p_il1, p_cv1_0, p_cv1_1, p_cv1_2, p_cv1_3, p_cv1_4, zK_v, zK_0, WN_ncl, p_iast, p_ii2, p_goto, WN_nx, WN_nrt, WN_ite, c1, zm_r17, tt, uc, Int.toNat_natCast, e1]
    refine ih (i + 1) _ (by omega) (fun a ha => by rw [zup_f ha]; exact hf a ha) (fun k hk => ?_)
    by_cases e : k = i
    · subst e; rw [zup_s]; rfl
    · rw [zup_j e]; exact ht k (by omega)
theorem t_highwayM {h : Int} (ok : zok N w) (hN : N ≤ 80000000) (hh : -2147483648 ≤ h ∧ h < 2147483648) (K2 : ¬ (0 ≤ h ∧ h < w 0) → ∀ τ' b, zQy τ τ' 1 → Q (.inl (some (.inl b))) (3565, x, zrho) (zg τ' w)) (K1 : (0 ≤ h ∧ h < w 0) → aFst (aPer (aTr w h.toNat)) 1 40 = 0 → ∀ τ' b, zQy τ τ' 2 → Q (.inl (some (.inl b))) (3565, x, zrho) (zg τ' w)) (K0 : (0 ≤ h ∧ h < w 0) → aFst (aPer (aTr w h.toNat)) 1 40 ≠ 0 → ∀ τ', zQy τ τ' 0 → Q (.inl (some (.inl ((aFst (aPer (aTr w h.toNat)) 1 40 : Nat) : Int)))) (3565, x, zrho) (zg τ' w)) : WM 194 [.inr (.inl (some 3553)), .inl h] (3565, x, zrho) (zg τ w) Q := by
  show Wp 194 0 [some (.inr (.inl (some 3553))), some (.inl h), none] [] _ _ Q
  have k := zm_k
  have o0 := ok.1
  have ti := fun (Q : ZO → ZT → ZI → Prop) (τ : ZI) => t_isHoeM (Q := Q) (τ := τ) (x := x) (w := w) (h := h) hh o0
  by_cases c1 : 0 ≤ h ∧ h < w 0
  · rw [if_pos c1] at ti
    obtain ⟨i, hi⟩ : ∃ i : Nat, h = (i : Int) := ⟨h.toNat, by omega⟩
    subst hi
    rw [Int.toNat_natCast] at K1 K0
    simp (disch := first | assumption | exact p_c2i | exact p_c2r | exact p_c2n | omega | ((repeat (first | refine p_a1i.trans ?_ | refine p_a1r.trans ?_)); exact p_a10) | ((repeat (first | refine p_wI ?_ | refine p_wR ?_)); exact p_w0) | decide) only [reduceIte, Int.reduceLT, Int.reduceLE, Int.reduceEq, Int.reduceToNat, Int.reduceAdd, Int.reduceSub, Int.reduceMul, Int.reduceNeg, e194_0, e194_1, e194_2, e194_3, e194_6, e194_9, e194_10, e194_13, e194_14, e194_17, e194_20, e194_21, e194_22, e194_23, e194_26, e194_27, e194_28, e194_31, e194_32, e194_35, e194_38, e194_39, p_al0, p_il1, p_cv1_0, p_cv1_1, p_cv1_2, p_cv1_3, p_cv1_4, zK_v, zK_0, WN_ncl, p_ifeq, p_push, p_goto, p_ret0, p_getR, p_cs5_0, p_cs5_1, p_cs5_2, p_cs5_3, p_cs5_4, p_is2, p_c2n, p_c2i, p_c2r, WN_nx, WN_nrt, WN_ite, ti, tf_0, zm_r0, zm_r4, t_save]
    exact l_highwayM (τ := zup τ 3553 8 0) ok hN c1.2 (fun e τ' b hq => K1 c1 e τ' b (zQy_8 hq)) (fun e τ' hq => K0 c1 e τ' (zQy_8 hq)) 120 0 _ rfl (fun a _ => rfl) (fun k hk => absurd hk (Nat.not_lt_zero _))
  · rw [if_neg c1] at ti
    simp (disch := first | assumption | exact p_c2i | exact p_c2r | exact p_c2n | omega | ((repeat (first | refine p_a1i.trans ?_ | refine p_a1r.trans ?_)); exact p_a10) | ((repeat (first | refine p_wI ?_ | refine p_wR ?_)); exact p_w0) | decide) only [reduceIte, Int.reduceLT, Int.reduceLE, Int.reduceEq, Int.reduceToNat, Int.reduceAdd, Int.reduceSub, Int.reduceMul, Int.reduceNeg, e194_0, e194_1, e194_2, e194_3, e194_6, e194_9, e194_10, e194_13, e194_14, e194_17, e194_20, e194_21, p_al0, p_il1, p_cv1_0, p_cv1_1, p_cv1_2, p_cv1_3, p_cv1_4, zK_v, zK_0, WN_ncl, p_ifeq, p_push, p_goto, p_ret0, WN_nx, WN_nrt, WN_ite, ti, tf_1]
    exact K2 c1 _ _ zQy_f
end
