/-! THE CLASS: looking ahead -/
def aIt : Nat → zW → zW
  | 0, w => w
  | k + 1, w => aStep (aIt k w)
theorem aIt_ok {w : zW} {N : Int} (ok : zok N w) (k : Nat) : zok (N + 13 * k) (aIt k w) ∧ aIt k w 0 = w 0 ∧ ∀ j, 200 ≤ j → aIt k w j = w j := by
  induction k with
  | zero => exact ⟨zok_mono ok (by omega), rfl, fun _ _ => rfl⟩
  | succ k ih =>
    obtain ⟨h1, h2, h3⟩ := ih
    exact ⟨zok_mono (zok_step h1) (by omega), (aStep_k h1 (by omega)).trans h2, fun j hj => (aStep_hi h1 hj).trans (h3 j hj)⟩
/-- the first from i on, of f many; 0 if none is -/
def aFst (p : Nat → Bool) : Nat → Nat → Nat
  | _, 0 => 0
  | i, f + 1 => if p i = true then i else aFst p (i + 1) f
theorem aFst_s {p : Nat → Bool} {i f : Nat} : aFst p i (f + 1) = if p i = true then i else aFst p (i + 1) f := rfl
def aTr (w : zW) (h k : Nat) : Int := aTurn (aMvN (aIt k w) h) h
def aPer (t : Nat → Int) (p : Nat) : Bool := zfa (fun k => decide (t k = t (k + p))) 0 (2 * p)
theorem aTr_in {w : zW} {N : Int} {h k : Nat} (ok : zok N w) (hh : (h : Int) < w 0) : 0 ≤ aTr w h k ∧ aTr w h k < 4 := by
  obtain ⟨h1, h2, h3⟩ := aIt_ok ok k
  obtain ⟨k1, k2⟩ := aMvN_ok h1 h (by omega)
  have o0 := k2 0 (by omega)
  have o := k1.2.2.2.2.2.2.2.2.2.1 h (by omega)
  have oc := k1.2.2.2.2.2.2.2.1 (aMvN (aIt k w) h (172 + 4 * h)).toNat (by omega)
  have o1 := k1.2.1
  exact k1.2.2.2.2.2.2.1 _ (by omega)
section
variable {σ : ZI} {Q : ZO → ZT → ZI → Prop} {x n : Nat} {w : zW} {N : Int}
theorem zd_k : zkd 3535 = 2 := rfl
theorem l_goAhead {m : Nat} (ok : zok N w) (hN : N ≤ 80000000) (hm : m ≤ 200) (K : ∀ σ', zLr σ' 3535 (aIt m w) → zfr σ σ' 3535 → Q (.inl none) (3565, x, zrho) σ') : ∀ (n i : Nat) (σ1 : ZI), i + n = m → zLr σ1 3535 (aIt i w) → zfr σ σ1 3535 → Wp 135 16 [some (.inr (.inl (some 100))), some (.inl ((m : Int))), some (.inl ((i : Int)))] [] (3565, x, zrho) σ1 Q := by
  have k := zx_k
  have kd := zd_k
  intro n
  induction n with
  | zero =>
    intro i σ1 hi hR hf
    have e : i = m := by omega
    subst e
    have c1 : ((i : Int) < (i : Int)) = False := eq_false (by omega)
    simp (disch := first | assumption | exact p_c2i | exact p_c2r | exact p_c2n | omega | ((repeat (first | refine p_a1i.trans ?_ | refine p_a1r.trans ?_)); exact p_a10) | ((repeat (first | refine p_wI ?_ | refine p_wR ?_)); exact p_w0) | decide) only [reduceIte, Int.reduceLT, Int.reduceLE, Int.reduceEq, Int.reduceToNat, Int.reduceAdd, Int.reduceSub, Int.reduceMul, Int.reduceNeg, e135_16, e135_17, e135_18, e135_21, e135_22, e135_25, e135_28, e135_31, e135_34, p_il2, p_il1, p_cge, p_al0, p_getR, p_cv0_0, p_cv0_1, p_cv0_2, p_cv0_3, p_cv0_4, zK_v, zK_0, WN_ncl, p_ii2, p_goto, p_vret, WN_nx, WN_nrt, WN_ite, c1]
    exact K σ1 hR hf
  | succ n ih =>
    intro i σ1 hi hR hf
    obtain ⟨h1, h2, h3⟩ := aIt_ok ok i
    have c1 : ((i : Int) < (m : Int)) = True := eq_true (by omega)
    have e1 : (i : Int) + 1 = ((i + 1 : Nat) : Int) := by omega
    rw [e135_16]
    simp (disch := first | assumption | exact p_c2i | exact p_c2r | exact p_c2n | omega | ((repeat (first | refine p_a1i.trans ?_ | refine p_a1r.trans ?_)); exact p_a10) | ((repeat (first | refine p_wI ?_ | refine p_wR ?_)); exact p_w0) | decide) only [reduceIte, Int.reduceLT, Int.reduceLE, Int.reduceEq, Int.reduceToNat, Int.reduceAdd, Int.reduceSub, Int.reduceMul, Int.reduceNeg, e135_17, e135_18, e135_21, e135_22, e135_25, p_il2, p_il1, p_cge, p_al0, p_getR, p_cv0_0, p_cv0_1, p_cv0_2, p_cv0_3, p_cv0_4, zK_v, zK_0, WN_ncl, WN_nx, WN_nrt, WN_ite, c1, zx_r5]
    refine t_moveAll (L := 3535) kd hR h1 (by omega) (fun σ3 hR3 hf3 _ => ?_)
    rw [zK_0]
    simp (disch := first | assumption | exact p_c2i | exact p_c2r | exact p_c2n | omega | ((repeat (first | refine p_a1i.trans ?_ | refine p_a1r.trans ?_)); exact p_a10) | ((repeat (first | refine p_wI ?_ | refine p_wR ?_)); exact p_w0) | decide) only [reduceIte, Int.reduceLT, Int.reduceLE, Int.reduceEq, Int.reduceToNat, Int.reduceAdd, Int.reduceSub, Int.reduceMul, Int.reduceNeg, e135_28, e135_31, p_ii2, p_goto, WN_nx, WN_nrt, WN_ite, e1]
    exact ih (i + 1) σ3 (by omega) hR3 (zfr_t hf hf3)
theorem t_goAhead {m : Nat} (hR : zLr σ 102 w) (ok : zok N w) (hN : N ≤ 80000000) (hm : m ≤ 200) (K : ∀ σ', zLr σ' 3535 (aIt m w) → zfr σ σ' 3535 → Q (.inl none) (3565, x, zrho) σ') : WM 135 [.inr (.inl (some 100)), .inl ((m : Int))] (3565, x, zrho) σ Q := by
  show Wp 135 0 [some (.inr (.inl (some 100))), some (.inl ((m : Int))), none] [] _ _ Q
  have k := zx_k
  have k1 := zx_k1
  have k2 := zx_k2
  have kd := zd_k
  simp (disch := first | assumption | exact p_c2i | exact p_c2r | exact p_c2n | omega | ((repeat (first | refine p_a1i.trans ?_ | refine p_a1r.trans ?_)); exact p_a10) | ((repeat (first | refine p_wI ?_ | refine p_wR ?_)); exact p_w0) | decide) only [reduceIte, Int.reduceLT, Int.reduceLE, Int.reduceEq, Int.reduceToNat, Int.reduceAdd, Int.reduceSub, Int.reduceMul, Int.reduceNeg, e135_0, e135_1, e135_4, e135_5, e135_8, e135_11, p_al0, p_getR, p_cv1_0, p_cv1_1, p_cv1_2, p_cv1_3, p_cv1_4, zK_v, zK_0, WN_ncl, WN_nx, WN_nrt, WN_ite, zx_r0, zx_l, zx_r5]
  refine t_copyLawn (L := 3535) (M := 102) kd k2 (by omega) (fun σ2 hc hf => ?_)
  rw [zK_0]
  simp (disch := first | assumption | exact p_c2i | exact p_c2r | exact p_c2n | omega | ((repeat (first | refine p_a1i.trans ?_ | refine p_a1r.trans ?_)); exact p_a10) | ((repeat (first | refine p_wI ?_ | refine p_wR ?_)); exact p_w0) | decide) only [reduceIte, Int.reduceLT, Int.reduceLE, Int.reduceEq, Int.reduceToNat, Int.reduceAdd, Int.reduceSub, Int.reduceMul, Int.reduceNeg, e135_14, e135_15, p_push, p_is2, p_c2n, p_c2i, p_c2r, WN_nx, WN_nrt, WN_ite]
  exact l_goAhead ok hN hm K m 0 σ2 (by omega) (hc w ok.b.1 ok.b.2 hR) hf
theorem l_firstMeet (ok : zok N w) (hN : N ≤ 80000000) (K : ∀ σ' v, zfr σ σ' 3535 → v = ((aFst (fun k => decide (aSm (aIt k w) 3 (w 0).toNat ≠ aSm w 3 (w 0).toNat)) 1 200 : Nat) : Int) → Q (.inl (some (.inl v))) (3565, x, zrho) σ') : ∀ (n i : Nat) (σ1 : ZI), i + n = 200 → zLr σ1 3535 (aIt i w) → zfr σ σ1 3535 → aFst (fun k => decide (aSm (aIt k w) 3 (w 0).toNat ≠ aSm w 3 (w 0).toNat)) (i + 1) n = aFst (fun k => decide (aSm (aIt k w) 3 (w 0).toNat ≠ aSm w 3 (w 0).toNat)) 1 200 → Wp 136 27 [some (.inr (.inl (some 100))), some (.inl (aSm w 3 (w 0).toNat)), some (.inl ((i : Int) + 1))] [] (3565, x, zrho) σ1 Q := by
  have k := zx_k
  have kd := zd_k
  intro n
  induction n with
  | zero =>
    intro i σ1 hi hR hf he
    have c1 : ((200 : Int) < (i : Int) + 1) = True := eq_true (by omega)
    simp (disch := first | assumption | exact p_c2i | exact p_c2r | exact p_c2n | omega | ((repeat (first | refine p_a1i.trans ?_ | refine p_a1r.trans ?_)); exact p_a10) | ((repeat (first | refine p_wI ?_ | refine p_wR ?_)); exact p_w0) | decide) only [reduceIte, Int.reduceLT, Int.reduceLE, Int.reduceEq, Int.reduceToNat, Int.reduceAdd, Int.reduceSub, Int.reduceMul, Int.reduceNeg, e136_27, e136_28, e136_31, e136_34, e136_35, e136_38, e136_41, e136_42, e136_45, e136_48, e136_49, e136_52, e136_53, e136_54, e136_57, e136_60, e136_61, p_il2, p_push, p_cgt, p_al0, p_getR, p_cv0_0, p_cv0_1, p_cv0_2, p_cv0_3, p_cv0_4, zK_v, zK_0, WN_ncl, p_il1, p_ceq, p_ret0, p_ii2, p_goto, WN_nx, WN_nrt, WN_ite, c1]
    exact K σ1 0 hf (by rw [← he]; rfl)
  | succ n ih =>
    intro i σ1 hi hR hf he
    obtain ⟨h1, h2, h3⟩ := aIt_ok ok i
    obtain ⟨g1, g2, g3⟩ := aIt_ok ok (i + 1)
    have o0 := ok.1
    have c1 : ((200 : Int) < (i : Int) + 1) = False := eq_false (by omega)
    have e1 : (i : Int) + 1 + 1 = ((i + 1 : Nat) : Int) + 1 := by omega
    rw [e136_27]
    simp (disch := first | assumption | exact p_c2i | exact p_c2r | exact p_c2n | omega | ((repeat (first | refine p_a1i.trans ?_ | refine p_a1r.trans ?_)); exact p_a10) | ((repeat (first | refine p_wI ?_ | refine p_wR ?_)); exact p_w0) | decide) only [reduceIte, Int.reduceLT, Int.reduceLE, Int.reduceEq, Int.reduceToNat, Int.reduceAdd, Int.reduceSub, Int.reduceMul, Int.reduceNeg, e136_28, e136_31, e136_34, e136_35, e136_38, p_il2, p_push, p_cgt, p_al0, p_getR, p_cv0_0, p_cv0_1, p_cv0_2, p_cv0_3, p_cv0_4, zK_v, zK_0, WN_ncl, WN_nx, WN_nrt, WN_ite, c1, zx_r5]
    refine t_moveAll (L := 3535) kd hR h1 (by omega) (fun σ3 hR3 hf3 _ => ?_)
    rw [zK_0]
    have tm := fun (Q : ZO → ZT → ZI → Prop) => t_allMeetings (L := 3535) (Q := Q) (x := x) kd hR3 g1 (by omega)
    rw [show aStep (aIt i w) = aIt (i + 1) w from rfl, g2] at tm
    have hs := zsm_in (f := fun h => aIt (i + 1) w (172 + 4 * h + 3)) (M := 90000000) (w 0).toNat (fun k hk => by
      have := g1.2.2.2.2.2.2.2.2.2.1 k (by omega)
      rw [show 172 + 4 * k + 3 = 175 + 4 * k by omega]
      omega)
    have hs2 := zsm_in (f := fun h => w (172 + 4 * h + 3)) (M := 90000000) (w 0).toNat (fun k hk => by
      have := ok.2.2.2.2.2.2.2.2.2.1 k (by omega)
      rw [show 172 + 4 * k + 3 = 175 + 4 * k by omega]
      omega)
    have s1 : 0 ≤ aSm (aIt (i + 1) w) 3 (w 0).toNat ∧ aSm (aIt (i + 1) w) 3 (w 0).toNat ≤ 360000000 := ⟨hs.1, Int.le_trans hs.2 (by omega)⟩
    have s2 : 0 ≤ aSm w 3 (w 0).toNat ∧ aSm w 3 (w 0).toNat ≤ 360000000 := ⟨hs2.1, Int.le_trans hs2.2 (by omega)⟩
    rw [aFst_s] at he
    by_cases hd : aSm (aIt (i + 1) w) 3 (w 0).toNat = aSm w 3 (w 0).toNat
    · rw [if_neg (by rw [decide_eq_true_iff]; exact fun z => z hd)] at he
      have c2 : (aSm (aIt (i + 1) w) 3 (w 0).toNat = aSm w 3 (w 0).toNat) = True := eq_true hd
      simp (disch := first | assumption | exact p_c2i | exact p_c2r | exact p_c2n | omega | ((repeat (first | refine p_a1i.trans ?_ | refine p_a1r.trans ?_)); exact p_a10) | ((repeat (first | refine p_wI ?_ | refine p_wR ?_)); exact p_w0) | decide) only [reduceIte, Int.reduceLT, Int.reduceLE, Int.reduceEq, Int.reduceToNat, Int.reduceAdd, Int.reduceSub, Int.reduceMul, Int.reduceNeg, e136_41, e136_42, e136_45, e136_48, e136_49, e136_52, e136_53, e136_54, e136_57, p_al0, p_getR, p_cv0_0, p_cv0_1, p_cv0_2, p_cv0_3, p_cv0_4, zK_v, zK_0, WN_ncl, p_il1, p_ceq, p_il2, p_ret0, p_ii2, p_goto, WN_nx, WN_nrt, WN_ite, zx_r5, tm, c2, e1]
      exact ih (i + 1) σ3 (by omega) hR3 (zfr_t hf hf3) he
    · rw [if_pos (decide_eq_true hd)] at he
      simp (disch := first | assumption | exact p_c2i | exact p_c2r | exact p_c2n | omega | ((repeat (first | refine p_a1i.trans ?_ | refine p_a1r.trans ?_)); exact p_a10) | ((repeat (first | refine p_wI ?_ | refine p_wR ?_)); exact p_w0) | decide) only [reduceIte, Int.reduceLT, Int.reduceLE, Int.reduceEq, Int.reduceToNat, Int.reduceAdd, Int.reduceSub, Int.reduceMul, Int.reduceNeg, e136_41, e136_42, e136_45, e136_48, e136_49, e136_52, e136_53, e136_54, e136_57, p_al0, p_getR, p_cv0_0, p_cv0_1, p_cv0_2, p_cv0_3, p_cv0_4, zK_v, zK_0, WN_ncl, p_il1, p_ceq, p_il2, p_ret0, p_ii2, p_goto, WN_nx, WN_nrt, WN_ite, zx_r5, tm, hd]
      exact K σ3 _ (zfr_t hf hf3) (by rw [← he]; omega)
theorem t_firstMeet (hR : zLr σ 102 w) (ok : zok N w) (hN : N ≤ 80000000) (K : ∀ σ' v, zfr σ σ' 3535 → v = ((aFst (fun k => decide (aSm (aIt k w) 3 (w 0).toNat ≠ aSm w 3 (w 0).toNat)) 1 200 : Nat) : Int) → Q (.inl (some (.inl v))) (3565, x, zrho) σ') : WM 136 [.inr (.inl (some 100))] (3565, x, zrho) σ Q := by
  show Wp 136 0 [some (.inr (.inl (some 100))), none, none] [] _ _ Q
  have k := zx_k
  have k1 := zx_k1
  have k2 := zx_k2
  have kd := zd_k
  have tm := fun (Q : ZO → ZT → ZI → Prop) => t_allMeetings (L := 102) (Q := Q) (x := x) k2 hR ok (by omega)
  simp (disch := first | assumption | exact p_c2i | exact p_c2r | exact p_c2n | omega | ((repeat (first | refine p_a1i.trans ?_ | refine p_a1r.trans ?_)); exact p_a10) | ((repeat (first | refine p_wI ?_ | refine p_wR ?_)); exact p_w0) | decide) only [reduceIte, Int.reduceLT, Int.reduceLE, Int.reduceEq, Int.reduceToNat, Int.reduceAdd, Int.reduceSub, Int.reduceMul, Int.reduceNeg, e136_0, e136_1, e136_4, e136_7, e136_10, e136_11, e136_12, e136_15, e136_16, e136_19, e136_22, p_al0, p_getR, p_cv0_0, p_cv0_1, p_cv0_2, p_cv0_3, p_cv0_4, zK_v, zK_0, WN_ncl, p_is1, p_c2n, p_c2i, p_c2r, p_cv1_0, p_cv1_1, p_cv1_2, p_cv1_3, p_cv1_4, WN_nx, WN_nrt, WN_ite, zx_r0, zx_l, zx_r5, tm]
  refine t_copyLawn (L := 3535) (M := 102) kd k2 (by omega) (fun σ2 hc hf => ?_)
  rw [zK_0]
  simp (disch := first | assumption | exact p_c2i | exact p_c2r | exact p_c2n | omega | ((repeat (first | refine p_a1i.trans ?_ | refine p_a1r.trans ?_)); exact p_a10) | ((repeat (first | refine p_wI ?_ | refine p_wR ?_)); exact p_w0) | decide) only [reduceIte, Int.reduceLT, Int.reduceLE, Int.reduceEq, Int.reduceToNat, Int.reduceAdd, Int.reduceSub, Int.reduceMul, Int.reduceNeg, e136_25, e136_26, p_push, p_is2, p_c2n, p_c2i, p_c2r, WN_nx, WN_nrt, WN_ite]
  exact l_firstMeet ok hN K 200 0 σ2 (by omega) (hc w ok.b.1 ok.b.2 hR) hf rfl
theorem l_return {h : Nat} (ok : zok N w) (hh : (h : Int) < w 0) (hN : N ≤ 80000000) (K : ∀ σ' v, zfr σ σ' 3535 → v = ((aFst (fun k => decide (aIt k w (172 + 4 * h) = w (172 + 4 * h))) 1 200 : Nat) : Int) → Q (.inl (some (.inl v))) (3565, x, zrho) σ') : ∀ (n i : Nat) (σ1 : ZI), i + n = 200 → zLr σ1 3535 (aIt i w) → zfr σ σ1 3535 → aFst (fun k => decide (aIt k w (172 + 4 * h) = w (172 + 4 * h))) (i + 1) n = aFst (fun k => decide (aIt k w (172 + 4 * h) = w (172 + 4 * h))) 1 200 → Wp 137 28 [some (.inr (.inl (some 100))), some (.inl ((h : Int))), some (.inl (w (172 + 4 * h))), some (.inl ((i : Int) + 1))] [] (3565, x, zrho) σ1 Q := by
  have k := zx_k
  have kd := zd_k
  have o0 := ok.1
  have ow := (ok.2.2.2.2.2.2.2.2.2.1 h hh).1
  intro n
  induction n with
  | zero =>
    intro i σ1 hi hR hf he
    have c1 : ((200 : Int) < (i : Int) + 1) = True := eq_true (by omega)
    simp (disch := first | assumption | exact p_c2i | exact p_c2r | exact p_c2n | omega | ((repeat (first | refine p_a1i.trans ?_ | refine p_a1r.trans ?_)); exact p_a10) | ((repeat (first | refine p_wI ?_ | refine p_wR ?_)); exact p_w0) | decide) only [reduceIte, Int.reduceLT, Int.reduceLE, Int.reduceEq, Int.reduceToNat, Int.reduceAdd, Int.reduceSub, Int.reduceMul, Int.reduceNeg, e137_28, e137_29, e137_32, e137_35, e137_36, e137_39, e137_42, e137_43, e137_46, e137_47, e137_50, e137_51, e137_54, e137_55, e137_56, e137_59, e137_62, e137_63, p_il3, p_push, p_cgt, p_al0, p_getR, p_cv0_0, p_cv0_1, p_cv0_2, p_cv0_3, p_cv0_4, zK_v, zK_0, WN_ncl, p_il1, p_cv1_0, p_cv1_1, p_cv1_2, p_cv1_3, p_cv1_4, p_il2, p_cne, p_ret0, p_ii3, p_goto, WN_nx, WN_nrt, WN_ite, c1]
    exact K σ1 0 hf (by rw [← he]; rfl)
  | succ n ih =>
    intro i σ1 hi hR hf he
    obtain ⟨h1, h2, h3⟩ := aIt_ok ok i
    obtain ⟨g1, g2, g3⟩ := aIt_ok ok (i + 1)
    have c1 : ((200 : Int) < (i : Int) + 1) = False := eq_false (by omega)
    have e1 : (i : Int) + 1 + 1 = ((i + 1 : Nat) : Int) + 1 := by omega
    rw [e137_28]
    simp (disch := first | assumption | exact p_c2i | exact p_c2r | exact p_c2n | omega | ((repeat (first | refine p_a1i.trans ?_ | refine p_a1r.trans ?_)); exact p_a10) | ((repeat (first | refine p_wI ?_ | refine p_wR ?_)); exact p_w0) | decide) only [reduceIte, Int.reduceLT, Int.reduceLE, Int.reduceEq, Int.reduceToNat, Int.reduceAdd, Int.reduceSub, Int.reduceMul, Int.reduceNeg, e137_29, e137_32, e137_35, e137_36, e137_39, p_il3, p_push, p_cgt, p_al0, p_getR, p_cv0_0, p_cv0_1, p_cv0_2, p_cv0_3, p_cv0_4, zK_v, zK_0, WN_ncl, WN_nx, WN_nrt, WN_ite, c1, zx_r5]
    refine t_moveAll (L := 3535) kd hR h1 (by omega) (fun σ3 hR3 hf3 _ => ?_)
    rw [zK_0]
    have h0 := hR3.h0
    have gg : aStep (aIt i w) 0 = w 0 := g2
    rw [gg] at h0
    have ow2 := (g1.2.2.2.2.2.2.2.2.2.1 h (by omega)).1
    have hc5 : σ3 (3535 + 5) h = aIt (i + 1) w (172 + 4 * h) := (hR3.2.2.2.2.1 h (by rw [gg]; exact hh)).1
    have tm := fun (Q : ZO → ZT → ZI → Prop) => t_cellOfHoe (L := 3535) (Q := Q) (x := x) (σ := σ3) (h := (h : Int)) kd (by omega) (by omega) (by omega)
    rw [Int.toNat_natCast, hc5] at tm
    rw [aFst_s] at he
    by_cases hd : aIt (i + 1) w (172 + 4 * h) = w (172 + 4 * h)
    · rw [if_pos (decide_eq_true hd)] at he
      simp (disch := first | assumption | exact p_c2i | exact p_c2r | exact p_c2n | omega | ((repeat (first | refine p_a1i.trans ?_ | refine p_a1r.trans ?_)); exact p_a10) | ((repeat (first | refine p_wI ?_ | refine p_wR ?_)); exact p_w0) | decide) only [reduceIte, Int.reduceLT, Int.reduceLE, Int.reduceEq, Int.reduceToNat, Int.reduceAdd, Int.reduceSub, Int.reduceMul, Int.reduceNeg, e137_42, e137_43, e137_46, e137_47, e137_50, e137_51, e137_54, e137_55, e137_56, e137_59, p_al0, p_getR, p_il1, p_cv1_0, p_cv1_1, p_cv1_2, p_cv1_3, p_cv1_4, zK_v, zK_0, WN_ncl, p_il2, p_cne, p_il3, p_ret0, p_ii3, p_goto, WN_nx, WN_nrt, WN_ite, zx_r5, tm, hd]
      exact K σ3 _ (zfr_t hf hf3) (by rw [← he]; omega)
    · rw [if_neg (by rw [decide_eq_true_iff]; exact hd)] at he
      simp (disch := first | assumption | exact p_c2i | exact p_c2r | exact p_c2n | omega | ((repeat (first | refine p_a1i.trans ?_ | refine p_a1r.trans ?_)); exact p_a10) | ((repeat (first | refine p_wI ?_ | refine p_wR ?_)); exact p_w0) | decide) only [reduceIte, Int.reduceLT, Int.reduceLE, Int.reduceEq, Int.reduceToNat, Int.reduceAdd, Int.reduceSub, Int.reduceMul, Int.reduceNeg, e137_42, e137_43, e137_46, e137_47, e137_50, e137_51, e137_54, e137_55, e137_56, e137_59, p_al0, p_getR, p_il1, p_cv1_0, p_cv1_1, p_cv1_2, p_cv1_3, p_cv1_4, zK_v, zK_0, WN_ncl, p_il2, p_cne, p_il3, p_ret0, p_ii3, p_goto, WN_nx, WN_nrt, WN_ite, zx_r5, tm, hd, e1]
      exact ih (i + 1) σ3 (by omega) hR3 (zfr_t hf hf3) he
theorem t_return {h : Nat} (hR : zLr σ 102 w) (ok : zok N w) (hh : (h : Int) < w 0) (hN : N ≤ 80000000) (K : ∀ σ' v, zfr σ σ' 3535 → v = ((aFst (fun k => decide (aIt k w (172 + 4 * h) = w (172 + 4 * h))) 1 200 : Nat) : Int) → Q (.inl (some (.inl v))) (3565, x, zrho) σ') : WM 137 [.inr (.inl (some 100)), .inl ((h : Int))] (3565, x, zrho) σ Q := by
  show Wp 137 0 [some (.inr (.inl (some 100))), some (.inl ((h : Int))), none, none] [] _ _ Q
  have k := zx_k
  have k1 := zx_k1
  have k2 := zx_k2
  have kd := zd_k
  have o0 := ok.1
  have h0 := hR.h0
  have hc5 : σ (102 + 5) h = w (172 + 4 * h) := (hR.2.2.2.2.1 h hh).1
  have tm := fun (Q : ZO → ZT → ZI → Prop) => t_cellOfHoe (L := 102) (Q := Q) (x := x) (σ := σ) (h := (h : Int)) k2 (by omega) (by omega) (by omega)
  rw [Int.toNat_natCast, hc5] at tm
  simp (disch := first | assumption | exact p_c2i | exact p_c2r | exact p_c2n | omega | ((repeat (first | refine p_a1i.trans ?_ | refine p_a1r.trans ?_)); exact p_a10) | ((repeat (first | refine p_wI ?_ | refine p_wR ?_)); exact p_w0) | decide) only [reduceIte, Int.reduceLT, Int.reduceLE, Int.reduceEq, Int.reduceToNat, Int.reduceAdd, Int.reduceSub, Int.reduceMul, Int.reduceNeg, e137_0, e137_1, e137_4, e137_7, e137_8, e137_11, e137_12, e137_13, e137_16, e137_17, e137_20, e137_23, p_al0, p_getR, p_il1, p_cv1_0, p_cv1_1, p_cv1_2, p_cv1_3, p_cv1_4, zK_v, zK_0, WN_ncl, p_is2, p_c2n, p_c2i, p_c2r, WN_nx, WN_nrt, WN_ite, zx_r0, zx_l, zx_r5, tm]
  refine t_copyLawn (L := 3535) (M := 102) kd k2 (by omega) (fun σ2 hc hf => ?_)
  rw [zK_0]
  simp (disch := first | assumption | exact p_c2i | exact p_c2r | exact p_c2n | omega | ((repeat (first | refine p_a1i.trans ?_ | refine p_a1r.trans ?_)); exact p_a10) | ((repeat (first | refine p_wI ?_ | refine p_wR ?_)); exact p_w0) | decide) only [reduceIte, Int.reduceLT, Int.reduceLE, Int.reduceEq, Int.reduceToNat, Int.reduceAdd, Int.reduceSub, Int.reduceMul, Int.reduceNeg, e137_26, e137_27, p_push, p_is3, p_c2n, p_c2i, p_c2r, WN_nx, WN_nrt, WN_ite]
  exact l_return ok hh hN K 200 0 σ2 (by omega) (hc w ok.b.1 ok.b.2 hR) hf rfl
end
