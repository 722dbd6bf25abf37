/-! THE CLASS: fields counted by going -/
section
variable {σ σ0 : ZI} {Q : ZO → ZT → ZI → Prop} {x L : Nat} {w : zW} {N : Int}
theorem fSize_pos {a : Nat} (ha : a < 81) : 1 ≤ fSize w a := zct_pos (p := zcm (zco w) a) (a := a) (n := 81) zcm_r ha
theorem fSize_in {a : Nat} : 0 ≤ fSize w a ∧ fSize w a ≤ 81 := zct_in (p := zcm (zco w) a) 81
theorem fSize_e {a b : Nat} (ha : a < 81) (hb : b < 81) (h : zcm (zco w) a b = true) : fSize w a = fSize w b := by
  refine zct_cg 81 (fun k hk => ?_)
  by_cases q : zcm (zco w) a k = true
  · rw [q, zcm_t hb ha hk (zcm_y ha hb h) q]
  · rw [Bool.eq_false_iff.mpr q]
    exact (Bool.eq_false_iff.mpr (fun z => q (zcm_t ha hb hk h z))).symm
theorem fGreat_ge {v : Int} : ∀ n b : Nat, b < n → w (10 + b) = v → fSize w b ≤ fGreat w v n := by
  intro n
  induction n with
  | zero => intro b h; omega
  | succ n ih =>
    intro b h hv
    rw [fGreat_s]
    by_cases e : b = n
    · subst e
      by_cases q : fGreat w v b < fSize w b
      · rw [if_pos ⟨hv, q⟩]; exact Int.le_refl _
      · rw [if_neg (fun z => q z.2)]; omega
    · have := ih b (by omega) hv
      split <;> omega
theorem t_forgetSeen (K : ∀ σ', (∀ c, c < 81 → σ' 3546 c = 0) → (∀ b, b ≠ 3546 → σ' b = σ b) → Q (.inl none) (3565, x, zrho) σ') : WM 6 [.inr (.inl (some 3545))] (3565, x, zrho) σ Q := by
  show Wp 6 0 [some (.inr (.inl (some 3545))), none] [] _ _ Q
  have kf := zf_k
  have k6 := zf_6
  have n6 := zf_n6
  have key : ∀ (n i : Nat) (σ1 : ZI), i + n = 81 → (∀ c, c < i → σ1 3546 c = 0) → (∀ b, b ≠ 3546 → σ1 b = σ b) → Wp 6 2 [some (.inr (.inl (some 3545))), some (.inl ((i : Int)))] [] (3565, x, zrho) σ1 Q := by
    intro n
    induction n with
    | zero =>
      intro i σ1 hi h0 hf
      have e : i = 81 := by omega
      subst e
      simp (disch := first | assumption | exact p_c2i | exact p_c2r | exact p_c2n | omega | ((repeat (first | refine p_a1i.trans ?_ | refine p_a1r.trans ?_)); exact p_a10) | ((repeat (first | refine p_wI ?_ | refine p_wR ?_)); exact p_w0) | decide) only [reduceIte, Int.reduceLT, Int.reduceLE, Int.reduceEq, Int.reduceToNat, Int.reduceAdd, Int.reduceSub, Int.reduceMul, Int.reduceNeg, e6_2, e6_3, e6_5, e6_8, e6_9, e6_12, e6_13, e6_14, e6_15, e6_18, e6_21, p_il1, p_push, p_cge, p_al0, p_getR, p_bast, p_ii1, p_goto, p_vret, WN_nx, WN_nrt, WN_ite, show ((81 : Nat) : Int) = 81 from rfl]
      exact K σ1 h0 hf
    | succ n ih =>
      intro i σ1 hi h0 hf
      have c1 : ((i : Int) < 81) = True := eq_true (by omega)
      have e1 : (i : Int) + 1 = ((i + 1 : Nat) : Int) := by omega
      rw [e6_2]
      simp (disch := first | assumption | exact p_c2i | exact p_c2r | exact p_c2n | omega | ((repeat (first | refine p_a1i.trans ?_ | refine p_a1r.trans ?_)); exact p_a10) | ((repeat (first | refine p_wI ?_ | refine p_wR ?_)); exact p_w0) | decide) only [reduceIte, Int.reduceLT, Int.reduceLE, Int.reduceEq, Int.reduceToNat, Int.reduceAdd, Int.reduceSub, Int.reduceMul, Int.reduceNeg, e6_3, e6_5, e6_8, e6_9, e6_12, e6_13, e6_14, e6_15, e6_18, p_il1, p_push, p_cge, p_al0, p_getR, p_bast, p_ii1, p_goto, WN_nx, WN_nrt, WN_ite, c1, zf_r0, Int.toNat_natCast, e1]
      refine ih (i + 1) _ (by omega) (fun c hc => ?_) (fun b hb => by rw [zup_f hb]; exact hf b hb)
      by_cases q : c = i
      · subst q; rw [zup_s]
      · rw [zup_j q]; exact h0 c (by omega)
  simp (disch := first | assumption | exact p_c2i | exact p_c2r | exact p_c2n | omega | ((repeat (first | refine p_a1i.trans ?_ | refine p_a1r.trans ?_)); exact p_a10) | ((repeat (first | refine p_wI ?_ | refine p_wR ?_)); exact p_w0) | decide) only [reduceIte, Int.reduceLT, Int.reduceLE, Int.reduceEq, Int.reduceToNat, Int.reduceAdd, Int.reduceSub, Int.reduceMul, Int.reduceNeg, e6_0, e6_1, p_push, p_is1, p_c2n, p_c2i, p_c2r, WN_nx, WN_nrt, WN_ite]
  exact key 81 0 σ rfl (fun c hc => absurd hc (Nat.not_lt_zero _)) (fun _ _ => rfl)
/-- seen are the fields of the cells of the colour v ahead of i -/
def zse (w : zW) (v : Int) (i : Nat) (s : Nat → Bool) : Prop := ∀ c, c < 81 → (s c = true ↔ ∃ b, b < i ∧ w (10 + b) = v ∧ zcm (zco w) b c = true)
theorem zse_c {v : Int} {i : Nat} {s : Nat → Bool} (hi : i ≤ 81) (h : zse w v i s) : zclo (zco w) s := fun c d hc hd hs hl => by
  obtain ⟨b, hb, h1, h2⟩ := (h c hc).mp hs
  exact (h _ (zT_in hc)).mpr ⟨b, hb, h1, zcm_s (by omega) hc hd h2 hl⟩
theorem zse_n {v : Int} {i : Nat} {s s' : Nat → Bool} (h : zse w v i s) (hv : w (10 + i) = v) (hs : ∀ c, c < 81 → (s' c = true ↔ s c = true ∨ zcm (zco w) i c = true)) : zse w v (i + 1) s' := fun c hc => by
  rw [hs c hc, h c hc]
  constructor
  · rintro (⟨b, hb, h1, h2⟩ | h2)
    · exact ⟨b, by omega, h1, h2⟩
    · exact ⟨i, by omega, hv, h2⟩
  · rintro ⟨b, hb, h1, h2⟩
    by_cases e : b = i
    · exact Or.inr (e ▸ h2)
    · exact Or.inl ⟨b, by omega, h1, h2⟩
theorem zse_k {v : Int} {i : Nat} {s : Nat → Bool} (h : zse w v i s) (hv : ¬ w (10 + i) = v) : zse w v (i + 1) s := fun c hc => by
  rw [h c hc]
  constructor
  · rintro ⟨b, hb, h1, h2⟩
    exact ⟨b, by omega, h1, h2⟩
  · rintro ⟨b, hb, h1, h2⟩
    have : b ≠ i := fun e => hv (e ▸ h1)
    exact ⟨b, by omega, h1, h2⟩
theorem zse_l {v : Int} {i : Nat} {s : Nat → Bool} (hi : i < 81) (h : zse w v i s) (hv : w (10 + i) = v) : s i = true ↔ ¬ zlb (zco w) i = i := by
  obtain ⟨a1, a2, a3⟩ := zlb_l (col := zco w) i hi
  have le := a3 i hi zcm_r
  rw [h i hi]
  constructor
  · rintro ⟨b, hb, h1, h2⟩ e
    have := a3 b (by omega) (zcm_y (by omega) hi h2)
    omega
  · intro e
    refine ⟨zlb (zco w) i, by omega, ?_, zcm_y hi a1 a2⟩
    have := zcm_c hi a1 a2
    exact this.trans hv
theorem l_going {v : Int} (hv : -2147483648 ≤ v ∧ v < 2147483648) (hk : zkd L = 2) (hR : zLr σ L w) (ok : zok N w) (K : ∀ σ', (∀ b, b ≠ 3545 → b ≠ 3546 → b ≠ 3547 → σ' b = σ b) → Q (.inl (some (.inl (fMany w v)))) (3565, x, zrho) σ') : ∀ (n i : Nat) (σ1 : ZI) (s : Nat → Bool), i + n = 81 → (∀ c, c < 81 → σ1 3546 c = if s c = true then 1 else 0) → zse w v i s → (∀ b, b ≠ 3545 → b ≠ 3546 → b ≠ 3547 → σ1 b = σ b) → Wp 7 9 [some (.inr (.inl (some 3545))), some (.inr (.inl (some L))), some (.inl v), some (.inl (zct (fun c => decide (w (10 + c) = v ∧ zlb (zco w) c = c)) i)), some (.inl ((i : Int)))] [] (3565, x, zrho) σ1 Q := by
  have kf := zf_k
  have hL := zlw_lt hk
  have o1 := ok.2.1
  obtain ⟨hv1, hv2⟩ := hv
  intro n
  induction n with
  | zero =>
    intro i σ1 s hi hs he hf
    have e : i = 81 := by omega
    subst e
    simp (disch := first | assumption | exact p_c2i | exact p_c2r | exact p_c2n | omega | ((repeat (first | refine p_a1i.trans ?_ | refine p_a1r.trans ?_)); exact p_a10) | ((repeat (first | refine p_wI ?_ | refine p_wR ?_)); exact p_w0) | decide) only [reduceIte, Int.reduceLT, Int.reduceLE, Int.reduceEq, Int.reduceToNat, Int.reduceAdd, Int.reduceSub, Int.reduceMul, Int.reduceNeg, e7_9, e7_11, e7_13, e7_16, e7_17, e7_19, e7_22, e7_23, e7_26, e7_27, e7_28, e7_30, e7_33, e7_36, e7_39, e7_42, e7_45, e7_46, p_il4, p_push, p_cge, p_al1, p_cv1_0, p_cv1_1, p_cv1_2, p_cv1_3, p_cv1_4, zK_v, zK_0, WN_ncl, p_il2, p_cne, p_al0, p_cv2_0, p_cv2_1, p_cv2_2, p_cv2_3, p_cv2_4, p_ifle, p_ii3, p_ii4, p_goto, p_il3, p_ret0, WN_nx, WN_nrt, WN_ite, show ((81 : Nat) : Int) = 81 from rfl]
    exact K σ1 hf
  | succ n ih =>
    intro i σ1 s hi hs he hf
    have hi81 : i < 81 := by omega
    have c1 : ((i : Int) < 81) = True := eq_true (by omega)
    have e1 : (i : Int) + 1 = ((i + 1 : Nat) : Int) := by omega
    have hR1 : zLr σ1 L w := hR.frame (fun b h1 h2 => hf b (by omega) (by omega) (by omega))
    have gc := hR1.2.2.1 i hi81
    have b1 := ok.2.2.2.2.2.2.2.1 i hi81
    have ci := zct_in (p := fun c => decide (w (10 + c) = v ∧ zlb (zco w) c = c)) i
    by_cases hc : w (10 + i) = v
    · have c2 : (w (10 + i) = v) = True := eq_true hc
      rw [e7_9]
      simp (disch := first | assumption | exact p_c2i | exact p_c2r | exact p_c2n | omega | ((repeat (first | refine p_a1i.trans ?_ | refine p_a1r.trans ?_)); exact p_a10) | ((repeat (first | refine p_wI ?_ | refine p_wR ?_)); exact p_w0) | decide) only [reduceIte, Int.reduceLT, Int.reduceLE, Int.reduceEq, Int.reduceToNat, Int.reduceAdd, Int.reduceSub, Int.reduceMul, Int.reduceNeg, e7_11, e7_13, e7_16, e7_17, e7_19, e7_22, e7_23, e7_26, e7_27, e7_28, e7_30, p_il4, p_push, p_cge, p_al1, p_cv1_0, p_cv1_1, p_cv1_2, p_cv1_3, p_cv1_4, zK_v, zK_0, WN_ncl, p_il2, p_cne, p_al0, p_cv2_0, p_cv2_1, p_cv2_2, p_cv2_3, p_cv2_4, WN_nx, WN_nrt, WN_ite, c1, t_colourOf, gc, c2, Int.toNat_natCast]
      refine t_unlessSeen (n0 := 0) hk hR1 ok hi81 hs (zse_c (by omega) he) (fun σ2 s2 hs2 hiff hf2 => ?_)
      rw [zK_v]
      have hl := zse_l hi81 he hc
      have hf3 : ∀ b, b ≠ 3545 → b ≠ 3546 → b ≠ 3547 → σ2 b = σ b := fun b h1 h2 h3 => (hf2 b h1 h2 h3).trans (hf b h1 h2 h3)
      have hz := ih (i + 1) σ2 s2 (by omega) hs2 (zse_n he hc hiff) hf3
      rw [zct_s] at hz
      by_cases q : s i = true
      · rw [if_pos q]
        rw [if_neg (by rw [decide_eq_true_iff]; exact fun z => hl.mp q z.2), Int.add_zero] at hz
        simp (disch := first | assumption | exact p_c2i | exact p_c2r | exact p_c2n | omega | ((repeat (first | refine p_a1i.trans ?_ | refine p_a1r.trans ?_)); exact p_a10) | ((repeat (first | refine p_wI ?_ | refine p_wR ?_)); exact p_w0) | decide) only [reduceIte, Int.reduceLT, Int.reduceLE, Int.reduceEq, Int.reduceToNat, Int.reduceAdd, Int.reduceSub, Int.reduceMul, Int.reduceNeg, e7_33, e7_36, e7_39, e7_42, p_ifle, p_ii3, p_ii4, p_goto, WN_nx, WN_nrt, WN_ite, Int.lt_irrefl, e1]
        exact hz
      · rw [if_neg q]
        have sp := fSize_pos (w := w) hi81
        have sl := fSize_in (w := w) (a := i)
        have c3 : (0 < fSize w i) = True := eq_true (by omega)
        have hq : zlb (zco w) i = i := by
          by_cases y : zlb (zco w) i = i
          · exact y
          · exact absurd (hl.mpr y) q
        rw [if_pos (decide_eq_true ⟨hc, hq⟩)] at hz
        simp (disch := first | assumption | exact p_c2i | exact p_c2r | exact p_c2n | omega | ((repeat (first | refine p_a1i.trans ?_ | refine p_a1r.trans ?_)); exact p_a10) | ((repeat (first | refine p_wI ?_ | refine p_wR ?_)); exact p_w0) | decide) only [reduceIte, Int.reduceLT, Int.reduceLE, Int.reduceEq, Int.reduceToNat, Int.reduceAdd, Int.reduceSub, Int.reduceMul, Int.reduceNeg, e7_33, e7_36, e7_39, e7_42, p_ifle, p_ii3, p_ii4, p_goto, WN_nx, WN_nrt, WN_ite, c3, e1]
        exact hz
    · have hz := ih (i + 1) σ1 s (by omega) hs (zse_k he hc) hf
      rw [zct_s, if_neg (by rw [decide_eq_true_iff]; exact fun z => hc z.1), Int.add_zero] at hz
      rw [e7_9]
      simp (disch := first | assumption | exact p_c2i | exact p_c2r | exact p_c2n | omega | ((repeat (first | refine p_a1i.trans ?_ | refine p_a1r.trans ?_)); exact p_a10) | ((repeat (first | refine p_wI ?_ | refine p_wR ?_)); exact p_w0) | decide) only [reduceIte, Int.reduceLT, Int.reduceLE, Int.reduceEq, Int.reduceToNat, Int.reduceAdd, Int.reduceSub, Int.reduceMul, Int.reduceNeg, e7_11, e7_13, e7_16, e7_17, e7_19, e7_22, e7_23, e7_26, e7_27, e7_28, e7_30, e7_33, e7_36, e7_39, e7_42, p_il4, p_push, p_cge, p_al1, p_cv1_0, p_cv1_1, p_cv1_2, p_cv1_3, p_cv1_4, zK_v, zK_0, WN_ncl, p_il2, p_cne, p_al0, p_cv2_0, p_cv2_1, p_cv2_2, p_cv2_3, p_cv2_4, p_ifle, p_ii3, p_ii4, p_goto, WN_nx, WN_nrt, WN_ite, c1, t_colourOf, gc, hc, e1, Int.toNat_natCast]
      exact hz
theorem t_going {v : Int} (hv : -2147483648 ≤ v ∧ v < 2147483648) (hk : zkd L = 2) (hR : zLr σ L w) (ok : zok N w) (K : ∀ σ', (∀ b, b ≠ 3545 → b ≠ 3546 → b ≠ 3547 → σ' b = σ b) → Q (.inl (some (.inl (fMany w v)))) (3565, x, zrho) σ') : WM 7 [.inr (.inl (some 3545)), .inr (.inl (some L)), .inl v] (3565, x, zrho) σ Q := by
  show Wp 7 0 [some (.inr (.inl (some 3545))), some (.inr (.inl (some L))), some (.inl v), none, none] [] _ _ Q
  have kf := zf_k
  simp (disch := first | assumption | exact p_c2i | exact p_c2r | exact p_c2n | omega | ((repeat (first | refine p_a1i.trans ?_ | refine p_a1r.trans ?_)); exact p_a10) | ((repeat (first | refine p_wI ?_ | refine p_wR ?_)); exact p_w0) | decide) only [reduceIte, Int.reduceLT, Int.reduceLE, Int.reduceEq, Int.reduceToNat, Int.reduceAdd, Int.reduceSub, Int.reduceMul, Int.reduceNeg, e7_0, e7_1, e7_2, e7_3, p_push, p_is3, p_c2n, p_c2i, p_c2r, p_al0, p_cv0_0, p_cv0_1, p_cv0_2, p_cv0_3, p_cv0_4, zK_v, zK_0, WN_ncl, WN_nx, WN_nrt, WN_ite]
  refine t_forgetSeen (fun σ1 h1 h2 => ?_)
  rw [zK_0]
  simp (disch := first | assumption | exact p_c2i | exact p_c2r | exact p_c2n | omega | ((repeat (first | refine p_a1i.trans ?_ | refine p_a1r.trans ?_)); exact p_a10) | ((repeat (first | refine p_wI ?_ | refine p_wR ?_)); exact p_w0) | decide) only [reduceIte, Int.reduceLT, Int.reduceLE, Int.reduceEq, Int.reduceToNat, Int.reduceAdd, Int.reduceSub, Int.reduceMul, Int.reduceNeg, e7_6, e7_7, p_push, p_is4, p_c2n, p_c2i, p_c2r, WN_nx, WN_nrt, WN_ite]
  exact l_going hv hk hR ok K 81 0 σ1 (fun _ => false) rfl (fun c hc => (h1 c hc).trans (if_neg Bool.false_ne_true).symm) (fun c _ => ⟨fun z => absurd z Bool.false_ne_true, fun ⟨b, hb, _⟩ => absurd hb (Nat.not_lt_zero _)⟩) (fun b _ h _ => h2 b h)
theorem t_sizeOfC {a : Nat} (ha : a < 81) (hk : zkd L = 2) (hR : zLr σ L w) (ok : zok N w) (K : ∀ σ', (∀ b, b ≠ 3545 → b ≠ 3546 → b ≠ 3547 → σ' b = σ b) → Q (.inl (some (.inl (fSize w a)))) (3565, x, zrho) σ') : WM 9 [.inr (.inl (some 3545)), .inr (.inl (some L)), .inl ((a : Int))] (3565, x, zrho) σ Q := by
  show Wp 9 0 [some (.inr (.inl (some 3545))), some (.inr (.inl (some L))), some (.inl ((a : Int)))] [] _ _ Q
  have kf := zf_k
  have hL := zlw_lt hk
  simp (disch := first | assumption | exact p_c2i | exact p_c2r | exact p_c2n | omega | ((repeat (first | refine p_a1i.trans ?_ | refine p_a1r.trans ?_)); exact p_a10) | ((repeat (first | refine p_wI ?_ | refine p_wR ?_)); exact p_w0) | decide) only [reduceIte, Int.reduceLT, Int.reduceLE, Int.reduceEq, Int.reduceToNat, Int.reduceAdd, Int.reduceSub, Int.reduceMul, Int.reduceNeg, e9_0, e9_1, p_al0, p_cv0_0, p_cv0_1, p_cv0_2, p_cv0_3, p_cv0_4, zK_v, zK_0, WN_ncl, WN_nx, WN_nrt, WN_ite]
  refine t_forgetSeen (fun σ1 h1 h2 => ?_)
  rw [zK_0]
  simp (disch := first | assumption | exact p_c2i | exact p_c2r | exact p_c2n | omega | ((repeat (first | refine p_a1i.trans ?_ | refine p_a1r.trans ?_)); exact p_a10) | ((repeat (first | refine p_wI ?_ | refine p_wR ?_)); exact p_w0) | decide) only [reduceIte, Int.reduceLT, Int.reduceLE, Int.reduceEq, Int.reduceToNat, Int.reduceAdd, Int.reduceSub, Int.reduceMul, Int.reduceNeg, e9_4, e9_5, e9_6, e9_7, p_al0, p_al1, p_il2, p_cv2_0, p_cv2_1, p_cv2_2, p_cv2_3, p_cv2_4, zK_v, zK_0, WN_ncl, WN_nx, WN_nrt, WN_ite]
  refine t_unlessSeen (s := fun _ => false) (n0 := 0) hk (hR.frame (fun b g1 g2 => h2 b (by omega))) ok ha (fun c hc => (h1 c hc).trans (if_neg Bool.false_ne_true).symm) (fun c d _ _ h => absurd h Bool.false_ne_true) (fun σ2 s2 hs2 hiff hf2 => ?_)
  rw [zK_v, if_neg Bool.false_ne_true]
  have sl := fSize_in (w := w) (a := a)
  simp (disch := first | assumption | exact p_c2i | exact p_c2r | exact p_c2n | omega | ((repeat (first | refine p_a1i.trans ?_ | refine p_a1r.trans ?_)); exact p_a10) | ((repeat (first | refine p_wI ?_ | refine p_wR ?_)); exact p_w0) | decide) only [reduceIte, Int.reduceLT, Int.reduceLE, Int.reduceEq, Int.reduceToNat, Int.reduceAdd, Int.reduceSub, Int.reduceMul, Int.reduceNeg, e9_10, p_ret0, WN_nx, WN_nrt, WN_ite]
  exact K σ2 (fun b g1 g2 g3 => (hf2 b g1 g2 g3).trans (h2 b g2))
end
