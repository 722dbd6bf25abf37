/-! THE CLASS: the greatest field -/
section
variable {σ σ0 : ZI} {Q : ZO → ZT → ZI → Prop} {x L : Nat} {w : zW} {N : Int}
theorem l_greatC {v : Int} (hv : -2147483648 ≤ v ∧ v < 2147483648) (hk : zkd L = 2) (hR : zLr σ L w) (ok : zok N w) (K : ∀ σ', (∀ b, b ≠ 3545 → b ≠ 3546 → b ≠ 3547 → σ' b = σ b) → Q (.inl (some (.inl (fGreat w v 81)))) (3565, x, zrho) σ') : ∀ (n i : Nat) (σ1 : ZI) (s : Nat → Bool), i + n = 81 → (∀ c, c < 81 → σ1 3546 c = if s c = true then 1 else 0) → zse w v i s → (∀ b, b ≠ 3545 → b ≠ 3546 → b ≠ 3547 → σ1 b = σ b) → Wp 8 9 [some (.inr (.inl (some 3545))), some (.inr (.inl (some L))), some (.inl v), some (.inl (fGreat w v i)), some (.inl ((i : Int)))] [] (3565, x, zrho) σ1 Q := by
  have kf := zf_k
  have hL := zlw_lt hk
  have o1 := ok.2.1
  obtain ⟨hv1, hv2⟩ := hv
  intro n
  induction n with
  | zero =>
    intro i σ1 s hi hs he hf
    have e : i = 81 := by omega
    subst e
    simp (disch := first | assumption | exact p_c2i | exact p_c2r | exact p_c2n | omega | ((repeat (first | refine p_a1i.trans ?_ | refine p_a1r.trans ?_)); exact p_a10) | ((repeat (first | refine p_wI ?_ | refine p_wR ?_)); exact p_w0) | decide) only [reduceIte, Int.reduceLT, Int.reduceLE, Int.reduceEq, Int.reduceToNat, Int.reduceAdd, Int.reduceSub, Int.reduceMul, Int.reduceNeg, e8_9, e8_11, e8_13, e8_16, e8_17, e8_19, e8_22, e8_23, e8_26, e8_27, e8_28, e8_29, e8_31, e8_34, e8_37, e8_38, e8_41, e8_44, e8_45, p_il4, p_push, p_cge, p_al1, p_cv1_0, p_cv1_1, p_cv1_2, p_cv1_3, p_cv1_4, zK_v, zK_0, WN_ncl, p_il2, p_cne, p_il3, p_al0, p_cv2_0, p_cv2_1, p_cv2_2, p_cv2_3, p_cv2_4, p_cs2_0, p_cs2_1, p_cs2_2, p_cs2_3, p_cs2_4, p_is3, p_c2n, p_c2i, p_c2r, p_ii4, p_goto, p_ret0, WN_nx, WN_nrt, WN_ite, show ((81 : Nat) : Int) = 81 from rfl]
    exact K σ1 hf
  | succ n ih =>
    intro i σ1 s hi hs he hf
    have hi81 : i < 81 := by omega
    have c1 : ((i : Int) < 81) = True := eq_true (by omega)
    have e1 : (i : Int) + 1 = ((i + 1 : Nat) : Int) := by omega
    have hR1 : zLr σ1 L w := hR.frame (fun b h1 h2 => hf b (by omega) (by omega) (by omega))
    have gc := hR1.2.2.1 i hi81
    have b1 := ok.2.2.2.2.2.2.2.1 i hi81
    have gi := fGreat_in (w := w) (v := v) i
    have sl := fSize_in (w := w) (a := i)
    by_cases hc : w (10 + i) = v
    · have c2 : (w (10 + i) = v) = True := eq_true hc
      rw [e8_9]
      simp (disch := first | assumption | exact p_c2i | exact p_c2r | exact p_c2n | omega | ((repeat (first | refine p_a1i.trans ?_ | refine p_a1r.trans ?_)); exact p_a10) | ((repeat (first | refine p_wI ?_ | refine p_wR ?_)); exact p_w0) | decide) only [reduceIte, Int.reduceLT, Int.reduceLE, Int.reduceEq, Int.reduceToNat, Int.reduceAdd, Int.reduceSub, Int.reduceMul, Int.reduceNeg, e8_11, e8_13, e8_16, e8_17, e8_19, e8_22, e8_23, e8_26, e8_27, e8_28, e8_29, e8_31, p_il4, p_push, p_cge, p_al1, p_cv1_0, p_cv1_1, p_cv1_2, p_cv1_3, p_cv1_4, zK_v, zK_0, WN_ncl, p_il2, p_cne, p_il3, p_al0, p_cv2_0, p_cv2_1, p_cv2_2, p_cv2_3, p_cv2_4, WN_nx, WN_nrt, WN_ite, c1, t_colourOf, gc, c2, Int.toNat_natCast]
      refine t_unlessSeen (n0 := 0) hk hR1 ok hi81 hs (zse_c (by omega) he) (fun σ2 s2 hs2 hiff hf2 => ?_)
      rw [zK_v]
      have hf3 : ∀ b, b ≠ 3545 → b ≠ 3546 → b ≠ 3547 → σ2 b = σ b := fun b h1 h2 h3 => (hf2 b h1 h2 h3).trans (hf b h1 h2 h3)
      have hz := ih (i + 1) σ2 s2 (by omega) hs2 (zse_n he hc hiff) hf3
      have em : max (fGreat w v i) (if s i = true then 0 else fSize w i) = fGreat w v (i + 1) := by
        rw [fGreat_s]
        by_cases q : s i = true
        · rw [if_pos q]
          obtain ⟨b, hb, h1, h2⟩ := (he i hi81).mp q
          have g1 := fGreat_ge (w := w) (v := v) i b hb h1
          have g2 := fSize_e (w := w) (a := b) (b := i) (by omega) hi81 h2
          rw [if_neg (fun z => by have := z.2; omega)]
          omega
        · rw [if_neg q]
          by_cases y : fGreat w v i < fSize w i
          · rw [if_pos ⟨hc, y⟩]; omega
          · rw [if_neg (fun z => y z.2)]; omega
      have hr : 0 ≤ (if s i = true then 0 else fSize w i) ∧ (if s i = true then 0 else fSize w i) ≤ 81 := by split <;> omega
      generalize (if s i = true then 0 else fSize w i) = r at em hr ⊢
      have tm := fun (Q : ZO → ZT → ZI → Prop) (σ : ZI) (θ : ZT) => t_max (Q := Q) (σ := σ) (θ := θ) (a := fGreat w v i) (b := r) (by omega) (by omega) (by omega) (by omega)
      rw [em] at tm
      simp (disch := first | assumption | exact p_c2i | exact p_c2r | exact p_c2n | omega | ((repeat (first | refine p_a1i.trans ?_ | refine p_a1r.trans ?_)); exact p_a10) | ((repeat (first | refine p_wI ?_ | refine p_wR ?_)); exact p_w0) | decide) only [reduceIte, Int.reduceLT, Int.reduceLE, Int.reduceEq, Int.reduceToNat, Int.reduceAdd, Int.reduceSub, Int.reduceMul, Int.reduceNeg, e8_34, e8_37, e8_38, e8_41, p_cs2_0, p_cs2_1, p_cs2_2, p_cs2_3, p_cs2_4, zK_v, zK_0, WN_ncl, p_is3, p_c2n, p_c2i, p_c2r, p_ii4, p_goto, WN_nx, WN_nrt, WN_ite, tm, e1]
      exact hz
    · have hz := ih (i + 1) σ1 s (by omega) hs (zse_k he hc) hf
      rw [fGreat_s, if_neg (fun z => hc z.1)] at hz
      rw [e8_9]
      simp (disch := first | assumption | exact p_c2i | exact p_c2r | exact p_c2n | omega | ((repeat (first | refine p_a1i.trans ?_ | refine p_a1r.trans ?_)); exact p_a10) | ((repeat (first | refine p_wI ?_ | refine p_wR ?_)); exact p_w0) | decide) only [reduceIte, Int.reduceLT, Int.reduceLE, Int.reduceEq, Int.reduceToNat, Int.reduceAdd, Int.reduceSub, Int.reduceMul, Int.reduceNeg, e8_11, e8_13, e8_16, e8_17, e8_19, e8_22, e8_23, e8_26, e8_27, e8_28, e8_29, e8_31, e8_34, e8_37, e8_38, e8_41, p_il4, p_push, p_cge, p_al1, p_cv1_0, p_cv1_1, p_cv1_2, p_cv1_3, p_cv1_4, zK_v, zK_0, WN_ncl, p_il2, p_cne, p_il3, p_al0, p_cv2_0, p_cv2_1, p_cv2_2, p_cv2_3, p_cv2_4, p_cs2_0, p_cs2_1, p_cs2_2, p_cs2_3, p_cs2_4, p_is3, p_c2n, p_c2i, p_c2r, p_ii4, p_goto, WN_nx, WN_nrt, WN_ite, c1, t_colourOf, gc, hc, e1, Int.toNat_natCast]
      exact hz
theorem t_greatC {v : Int} (hv : -2147483648 ≤ v ∧ v < 2147483648) (hk : zkd L = 2) (hR : zLr σ L w) (ok : zok N w) (K : ∀ σ', (∀ b, b ≠ 3545 → b ≠ 3546 → b ≠ 3547 → σ' b = σ b) → Q (.inl (some (.inl (fGreat w v 81)))) (3565, x, zrho) σ') : WM 8 [.inr (.inl (some 3545)), .inr (.inl (some L)), .inl v] (3565, x, zrho) σ Q := by
  show Wp 8 0 [some (.inr (.inl (some 3545))), some (.inr (.inl (some L))), some (.inl v), none, none] [] _ _ Q
  have kf := zf_k
  have hL := zlw_lt hk
  simp (disch := first | assumption | exact p_c2i | exact p_c2r | exact p_c2n | omega | ((repeat (first | refine p_a1i.trans ?_ | refine p_a1r.trans ?_)); exact p_a10) | ((repeat (first | refine p_wI ?_ | refine p_wR ?_)); exact p_w0) | decide) only [reduceIte, Int.reduceLT, Int.reduceLE, Int.reduceEq, Int.reduceToNat, Int.reduceAdd, Int.reduceSub, Int.reduceMul, Int.reduceNeg, e8_0, e8_1, e8_2, e8_3, p_push, p_is3, p_c2n, p_c2i, p_c2r, p_al0, p_cv0_0, p_cv0_1, p_cv0_2, p_cv0_3, p_cv0_4, zK_v, zK_0, WN_ncl, WN_nx, WN_nrt, WN_ite]
  refine t_forgetSeen (fun σ1 h1 h2 => ?_)
  rw [zK_0]
  simp (disch := first | assumption | exact p_c2i | exact p_c2r | exact p_c2n | omega | ((repeat (first | refine p_a1i.trans ?_ | refine p_a1r.trans ?_)); exact p_a10) | ((repeat (first | refine p_wI ?_ | refine p_wR ?_)); exact p_w0) | decide) only [reduceIte, Int.reduceLT, Int.reduceLE, Int.reduceEq, Int.reduceToNat, Int.reduceAdd, Int.reduceSub, Int.reduceMul, Int.reduceNeg, e8_6, e8_7, p_push, p_is4, p_c2n, p_c2i, p_c2r, WN_nx, WN_nrt, WN_ite]
  exact l_greatC hv hk hR ok K 81 0 σ1 (fun _ => false) rfl (fun c hc => (h1 c hc).trans (if_neg Bool.false_ne_true).symm) (fun c _ => ⟨fun z => absurd z Bool.false_ne_true, fun ⟨b, hb, _⟩ => absurd hb (Nat.not_lt_zero _)⟩) (fun b _ h _ => h2 b h)
end
