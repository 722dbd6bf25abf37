/-! THE CLASS: fields counted by numbers -/
section
variable {σ σ0 : ZI} {Q : ZO → ZT → ZI → Prop} {x L : Nat} {w : zW} {N : Int} {l : Nat → Nat}
theorem l_bynum {v : Int} {l3 : Option ZV} (hv : -2147483648 ≤ v ∧ v < 2147483648) (hk : zkd L = 2) (hR : zLr σ L w) (ok : zok N w) (hl : ∀ k, k < 81 → σ 3548 k = (l k : Int)) (hl81 : ∀ k, k < 81 → l k < 81) : ∀ (n i : Nat) (l6 : Option ZV), i + n = 81 → Wp 12 107 [some (.inr (.inl (some 3545))), some (.inr (.inl (some L))), some (.inl v), l3, some (.inl (zct (fun c => decide (w (10 + c) = v ∧ l c = c)) i)), some (.inl ((i : Int))), l6] [] (3565, x, zrho) σ Q = Q (.inl (some (.inl (zct (fun c => decide (w (10 + c) = v ∧ l c = c)) 81)))) (3565, x, zrho) σ := by
  have kf := zf_k
  have k8 := zf_8
  have n8 := zf_n8
  have o1 := ok.2.1
  obtain ⟨hv1, hv2⟩ := hv
  intro n
  induction n with
  | zero =>
    intro i l6 hi
    have e : i = 81 := by omega
    subst e
    simp (disch := first | assumption | exact p_c2i | exact p_c2r | exact p_c2n | omega | ((repeat (first | refine p_a1i.trans ?_ | refine p_a1r.trans ?_)); exact p_a10) | ((repeat (first | refine p_wI ?_ | refine p_wR ?_)); exact p_w0) | decide) only [reduceIte, Int.reduceLT, Int.reduceLE, Int.reduceEq, Int.reduceToNat, Int.reduceAdd, Int.reduceSub, Int.reduceMul, Int.reduceNeg, e12_107, e12_109, e12_111, e12_114, e12_115, e12_117, e12_120, e12_121, e12_124, e12_125, e12_128, e12_130, e12_131, e12_133, e12_136, e12_139, e12_142, e12_145, e12_147, p_il5, p_push, p_cge, p_al1, p_cv1_0, p_cv1_1, p_cv1_2, p_cv1_3, p_cv1_4, zK_v, zK_0, WN_ncl, p_il2, p_cne, p_al0, p_getR, p_iald, p_ii4, p_ii5, p_goto, p_il4, p_ret0, WN_nx, WN_nrt, WN_ite, show ((81 : Nat) : Int) = 81 from rfl]
  | succ n ih =>
    intro i l6 hi
    have hi81 : i < 81 := by omega
    have c1 : ((i : Int) < 81) = True := eq_true (by omega)
    have e1 : (i : Int) + 1 = ((i + 1 : Nat) : Int) := by omega
    have gc := hR.2.2.1 i hi81
    have b1 := ok.2.2.2.2.2.2.2.1 i hi81
    have g := hl i hi81
    have g81 := hl81 i hi81
    have ci := zct_in (p := fun c => decide (w (10 + c) = v ∧ l c = c)) i
    have ih2 := ih (i + 1) l6 (by omega)
    rw [zct_s] at ih2
    by_cases hc : w (10 + i) = v
    · have c2 : (w (10 + i) = v) = True := eq_true hc
      by_cases hd : l i = i
      · have c3 : ((l i : Int) = (i : Int)) = True := eq_true (by omega)
        rw [if_pos (decide_eq_true ⟨hc, hd⟩)] at ih2
        rw [e12_107]
        simp (disch := first | assumption | exact p_c2i | exact p_c2r | exact p_c2n | omega | ((repeat (first | refine p_a1i.trans ?_ | refine p_a1r.trans ?_)); exact p_a10) | ((repeat (first | refine p_wI ?_ | refine p_wR ?_)); exact p_w0) | decide) only [reduceIte, Int.reduceLT, Int.reduceLE, Int.reduceEq, Int.reduceToNat, Int.reduceAdd, Int.reduceSub, Int.reduceMul, Int.reduceNeg, e12_109, e12_111, e12_114, e12_115, e12_117, e12_120, e12_121, e12_124, e12_125, e12_128, e12_130, e12_131, e12_133, e12_136, e12_139, e12_142, p_il5, p_push, p_cge, p_al1, p_cv1_0, p_cv1_1, p_cv1_2, p_cv1_3, p_cv1_4, zK_v, zK_0, WN_ncl, p_il2, p_cne, p_al0, p_getR, p_iald, p_ii4, p_ii5, p_goto, WN_nx, WN_nrt, WN_ite, c1, t_colourOf, gc, c2, zf_r3, g, c3, e1, Int.toNat_natCast]
        exact ih2
      · have c3 : ((l i : Int) = (i : Int)) = False := eq_false (by omega)
        rw [if_neg (by rw [decide_eq_true_iff]; exact fun z => hd z.2), Int.add_zero] at ih2
        rw [e12_107]
        simp (disch := first | assumption | exact p_c2i | exact p_c2r | exact p_c2n | omega | ((repeat (first | refine p_a1i.trans ?_ | refine p_a1r.trans ?_)); exact p_a10) | ((repeat (first | refine p_wI ?_ | refine p_wR ?_)); exact p_w0) | decide) only [reduceIte, Int.reduceLT, Int.reduceLE, Int.reduceEq, Int.reduceToNat, Int.reduceAdd, Int.reduceSub, Int.reduceMul, Int.reduceNeg, e12_109, e12_111, e12_114, e12_115, e12_117, e12_120, e12_121, e12_124, e12_125, e12_128, e12_130, e12_131, e12_133, e12_136, e12_139, e12_142, p_il5, p_push, p_cge, p_al1, p_cv1_0, p_cv1_1, p_cv1_2, p_cv1_3, p_cv1_4, zK_v, zK_0, WN_ncl, p_il2, p_cne, p_al0, p_getR, p_iald, p_ii4, p_ii5, p_goto, WN_nx, WN_nrt, WN_ite, c1, t_colourOf, gc, c2, zf_r3, g, c3, e1, Int.toNat_natCast]
        exact ih2
    · rw [if_neg (by rw [decide_eq_true_iff]; exact fun z => hc z.1), Int.add_zero] at ih2
      rw [e12_107]
      simp (disch := first | assumption | exact p_c2i | exact p_c2r | exact p_c2n | omega | ((repeat (first | refine p_a1i.trans ?_ | refine p_a1r.trans ?_)); exact p_a10) | ((repeat (first | refine p_wI ?_ | refine p_wR ?_)); exact p_w0) | decide) only [reduceIte, Int.reduceLT, Int.reduceLE, Int.reduceEq, Int.reduceToNat, Int.reduceAdd, Int.reduceSub, Int.reduceMul, Int.reduceNeg, e12_109, e12_111, e12_114, e12_115, e12_117, e12_120, e12_121, e12_124, e12_125, e12_128, e12_130, e12_131, e12_133, e12_136, e12_139, e12_142, p_il5, p_push, p_cge, p_al1, p_cv1_0, p_cv1_1, p_cv1_2, p_cv1_3, p_cv1_4, zK_v, zK_0, WN_ncl, p_il2, p_cne, p_al0, p_getR, p_iald, p_ii4, p_ii5, p_goto, WN_nx, WN_nrt, WN_ite, c1, t_colourOf, gc, hc, e1, Int.toNat_natCast]
      exact ih2
theorem t_bynum {v : Int} (hv : -2147483648 ≤ v ∧ v < 2147483648) (hk : zkd L = 2) (hR : zLr σ L w) (ok : zok N w) (K : ∀ σ', (∀ b, b ≠ 3548 → σ' b = σ b) → Q (.inl (some (.inl (fMany w v)))) (3565, x, zrho) σ') : WM 12 [.inr (.inl (some 3545)), .inr (.inl (some L)), .inl v] (3565, x, zrho) σ Q := by
  show Wp 12 0 [some (.inr (.inl (some 3545))), some (.inr (.inl (some L))), some (.inl v), none, none, none, none] [] _ _ Q
  have kf := zf_k
  have k8 := zf_8
  have n8 := zf_n8
  have hL := zlw_lt hk
  have key : ∀ (n i : Nat) (σ1 : ZI), i + n = 81 → (∀ b, b ≠ 3548 → σ1 b = σ b) → (∀ k, k < i → σ1 3548 k = (k : Int)) → Wp 12 2 [some (.inr (.inl (some 3545))), some (.inr (.inl (some L))), some (.inl v), some (.inl ((i : Int))), none, none, none] [] (3565, x, zrho) σ1 Q := by
    intro n
    induction n with
    | zero =>
      intro i σ1 hi ha hl
      have e : i = 81 := by omega
      subst e
      simp (disch := first | assumption | exact p_c2i | exact p_c2r | exact p_c2n | omega | ((repeat (first | refine p_a1i.trans ?_ | refine p_a1r.trans ?_)); exact p_a10) | ((repeat (first | refine p_wI ?_ | refine p_wR ?_)); exact p_w0) | decide) only [reduceIte, Int.reduceLT, Int.reduceLE, Int.reduceEq, Int.reduceToNat, Int.reduceAdd, Int.reduceSub, Int.reduceMul, Int.reduceNeg, e12_2, e12_3, e12_5, e12_8, e12_9, e12_12, e12_13, e12_14, e12_15, e12_18, e12_21, e12_22, e12_23, e12_24, p_il3, p_push, p_cge, p_al0, p_getR, p_iast, p_ii3, p_goto, p_is3, p_c2n, p_c2i, p_c2r, p_is4, WN_nx, WN_nrt, WN_ite, show ((81 : Nat) : Int) = 81 from rfl]
      refine l_nrounds (σ := σ) hk hR ok (fun l σ' f r l5 l6 hL' ha' hl' => ?_) 82 0 (fun k => k) σ1 none none rfl ha hl (fun k _ => ⟨Nat.le_refl _, zcm_r⟩) (fun c b _ _ h => Nat.le_of_eq (of_decide_eq_true h))
      simp (disch := first | assumption | exact p_c2i | exact p_c2r | exact p_c2n | omega | ((repeat (first | refine p_a1i.trans ?_ | refine p_a1r.trans ?_)); exact p_a10) | ((repeat (first | refine p_wI ?_ | refine p_wR ?_)); exact p_w0) | decide) only [reduceIte, Int.reduceLT, Int.reduceLE, Int.reduceEq, Int.reduceToNat, Int.reduceAdd, Int.reduceSub, Int.reduceMul, Int.reduceNeg, e12_101, e12_102, e12_104, e12_105, p_push, p_is4, p_c2n, p_c2i, p_c2r, p_is5, WN_nx, WN_nrt, WN_ite]
      have hR' : zLr σ' L w := hR.frame (fun b g1 g2 => ha' b (by omega))
      refine Eq.mpr (l_bynum (l3 := some (.inl f)) hv hk hR' ok hl' (fun k hk => (hL' k hk).1) 81 0 l6 rfl) ?_
      have e : zct (fun c => decide (w (10 + c) = v ∧ l c = c)) 81 = fMany w v := zct_cg 81 (fun k hk => by rw [zLab_u hL' zlb_l hk])
      rw [e]
      exact K σ' ha'
    | succ n ih =>
      intro i σ1 hi ha hl
      have c1 : ((i : Int) < 81) = True := eq_true (by omega)
      have e1 : (i : Int) + 1 = ((i + 1 : Nat) : Int) := by omega
      rw [e12_2]
      simp (disch := first | assumption | exact p_c2i | exact p_c2r | exact p_c2n | omega | ((repeat (first | refine p_a1i.trans ?_ | refine p_a1r.trans ?_)); exact p_a10) | ((repeat (first | refine p_wI ?_ | refine p_wR ?_)); exact p_w0) | decide) only [reduceIte, Int.reduceLT, Int.reduceLE, Int.reduceEq, Int.reduceToNat, Int.reduceAdd, Int.reduceSub, Int.reduceMul, Int.reduceNeg, e12_3, e12_5, e12_8, e12_9, e12_12, e12_13, e12_14, e12_15, e12_18, p_il3, p_push, p_cge, p_al0, p_getR, p_iast, p_ii3, p_goto, WN_nx, WN_nrt, WN_ite, c1, zf_r3, Int.toNat_natCast, e1]
      refine ih (i + 1) _ (by omega) (fun b h => by rw [zup_f h]; exact ha b h) (fun k hk => ?_)
      by_cases e : k = i
      · subst e; rw [zup_s]
      · rw [zup_j e]; exact hl k (by omega)
  simp (disch := first | assumption | exact p_c2i | exact p_c2r | exact p_c2n | omega | ((repeat (first | refine p_a1i.trans ?_ | refine p_a1r.trans ?_)); exact p_a10) | ((repeat (first | refine p_wI ?_ | refine p_wR ?_)); exact p_w0) | decide) only [reduceIte, Int.reduceLT, Int.reduceLE, Int.reduceEq, Int.reduceToNat, Int.reduceAdd, Int.reduceSub, Int.reduceMul, Int.reduceNeg, e12_0, e12_1, p_push, p_is3, p_c2n, p_c2i, p_c2r, WN_nx, WN_nrt, WN_ite]
  exact key 81 0 σ rfl (fun _ _ => rfl) (fun k hk => absurd hk (Nat.not_lt_zero _))
end
