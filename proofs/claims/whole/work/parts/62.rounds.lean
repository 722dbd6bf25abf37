/-! THE CLASS: rounds of numbers -/
section
variable {σ σ0 : ZI} {Q : ZO → ZT → ZI → Prop} {x L : Nat} {w : zW} {N : Int} {l : Nat → Nat}
theorem l_nround {v r : Int} {l0 : Nat → Nat} (hk : zkd L = 2) (hR : zLr σ L w) (ok : zok N w) (HE : ∀ (f : Int) (l : Nat → Nat) (σ1 : ZI) (l6 : Option ZV), (f = 0 ∨ f = 1) → (∀ b, b ≠ 3548 → σ1 b = σ b) → (∀ k, k < 81 → σ1 3548 k = (l k : Int)) → (∀ k, k < 81 → l k ≤ k ∧ zcm (zco w) k (l k) = true) → (∀ k, k < 81 → l k ≤ l0 k ∧ ∀ d, d < 4 → zco w (zT k d) = zco w k → l k ≤ l0 (zT k d)) → (f = 0 → ∀ k, k < 81 → l k = l0 k) → Wp 12 95 [some (.inr (.inl (some 3545))), some (.inr (.inl (some L))), some (.inl v), some (.inl f), some (.inl r), some (.inl 81), l6] [] (3565, x, zrho) σ1 Q) : ∀ (n i : Nat) (f : Int) (l : Nat → Nat) (σ1 : ZI) (l6 : Option ZV), i + n = 81 → (f = 0 ∨ f = 1) → (∀ b, b ≠ 3548 → σ1 b = σ b) → (∀ k, k < 81 → σ1 3548 k = (l k : Int)) → (∀ k, k < 81 → l k ≤ k ∧ zcm (zco w) k (l k) = true) → (∀ k, k < 81 → l k ≤ l0 k) → (∀ k, k < i → ∀ d, d < 4 → zco w (zT k d) = zco w k → l k ≤ l0 (zT k d)) → (f = 0 → ∀ k, k < 81 → l k = l0 k) → Wp 12 42 [some (.inr (.inl (some 3545))), some (.inr (.inl (some L))), some (.inl v), some (.inl f), some (.inl r), some (.inl ((i : Int))), l6] [] (3565, x, zrho) σ1 Q := by
  have kf := zf_k
  have k8 := zf_8
  have n8 := zf_n8
  have hL := zlw_lt hk
  intro n
  induction n with
  | zero =>
    intro i f l σ1 l6 hi hf ha hl h1 h2 h3 h4
    have e : i = 81 := by omega
    subst e
    simp (disch := first | assumption | exact p_c2i | exact p_c2r | exact p_c2n | omega | ((repeat (first | refine p_a1i.trans ?_ | refine p_a1r.trans ?_)); exact p_a10) | ((repeat (first | refine p_wI ?_ | refine p_wR ?_)); exact p_w0) | decide) only [reduceIte, Int.reduceLT, Int.reduceLE, Int.reduceEq, Int.reduceToNat, Int.reduceAdd, Int.reduceSub, Int.reduceMul, Int.reduceNeg, e12_42, e12_44, e12_46, p_il5, p_push, p_cge, WN_nx, WN_nrt, WN_ite, show ((81 : Nat) : Int) = 81 from rfl]
    exact HE f l σ1 l6 hf ha hl h1 (fun k hk => ⟨h2 k hk, h3 k hk⟩) h4
  | succ n ih =>
    intro i f l σ1 l6 hi hf ha hl h1 h2 h3 h4
    have hi81 : i < 81 := by omega
    have c1 : ((i : Int) < 81) = True := eq_true (by omega)
    have e1 : (i : Int) + 1 = ((i + 1 : Nat) : Int) := by omega
    have hR1 : zLr σ1 L w := hR.frame (fun b g1 g2 => ha b (by omega))
    have tn := fun (Q : ZO → ZT → ZI → Prop) => t_leastN (Q := Q) (x := x) (σ := σ1) (l := l) (c := i) hk hR1 ok hi81 (fun k hk => ⟨hl k hk, by have := (h1 k hk).1; omega⟩)
    have lm := lmn_le (col := zco w) (l := l) (c := i) 4
    have li := h1 i hi81
    have g := hl i hi81
    have lc := lmn_cm (col := zco w) (l := l) hi81 h1 4 (Nat.le_refl _)
    have h1' : ∀ k, k < 81 → lup l i (lmn (zco w) l i 4) k ≤ k ∧ zcm (zco w) k (lup l i (lmn (zco w) l i 4) k) = true := by
      intro k hk
      by_cases q : k = i
      · subst q; rw [lup_s]; exact ⟨by omega, lc⟩
      · rw [lup_o q]; exact h1 k hk
    have h2' : ∀ k, k < 81 → lup l i (lmn (zco w) l i 4) k ≤ l0 k := by
      intro k hk
      by_cases q : k = i
      · subst q; rw [lup_s]; have := h2 k hk; omega
      · rw [lup_o q]; exact h2 k hk
    have h3' : ∀ k, k < i + 1 → ∀ d, d < 4 → zco w (zT k d) = zco w k → lup l i (lmn (zco w) l i 4) k ≤ l0 (zT k d) := by
      intro k hk d hd hc
      by_cases q : k = i
      · subst q
        rw [lup_s]
        have := lm.2 d hd hc
        have := h2 (zT k d) (zT_in hi81)
        omega
      · rw [lup_o q]; exact h3 k (by omega) d hd hc
    have fin : ∀ (f' : Int), (f' = 0 ∨ f' = 1) → (f' = 0 → f = 0 ∧ lmn (zco w) l i 4 = l i) → Wp 12 79 [some (.inr (.inl (some 3545))), some (.inr (.inl (some L))), some (.inl v), some (.inl f), some (.inl r), some (.inl ((i : Int))), some (.inl (((lmn (zco w) l i 4 : Nat) : Int)))] [.inl f'] (3565, x, zrho) σ1 Q := by
      intro f' hf' hz
      simp (disch := first | assumption | exact p_c2i | exact p_c2r | exact p_c2n | omega | ((repeat (first | refine p_a1i.trans ?_ | refine p_a1r.trans ?_)); exact p_a10) | ((repeat (first | refine p_wI ?_ | refine p_wR ?_)); exact p_w0) | decide) only [reduceIte, Int.reduceLT, Int.reduceLE, Int.reduceEq, Int.reduceToNat, Int.reduceAdd, Int.reduceSub, Int.reduceMul, Int.reduceNeg, e12_79, e12_80, e12_81, e12_84, e12_86, e12_88, e12_89, e12_92, p_is3, p_c2n, p_c2i, p_c2r, p_al0, p_getR, p_il5, p_il6, p_iast, p_ii5, p_goto, WN_nx, WN_nrt, WN_ite, zf_r3, e1, Int.toNat_natCast]
      refine ih (i + 1) f' (lup l i (lmn (zco w) l i 4)) _ _ (by omega) hf' (fun b hb => by rw [zup_f hb]; exact ha b hb) (fun k hk => ?_) h1' h2' h3' (fun z k hk => ?_)
      · by_cases q : k = i
        · subst q; rw [zup_s, lup_s]
        · rw [zup_j q, lup_o q]; exact hl k hk
      · obtain ⟨z1, z2⟩ := hz z
        by_cases q : k = i
        · subst q; rw [lup_s, z2]; exact h4 z1 k hk
        · rw [lup_o q]; exact h4 z1 k hk
    rcases hf with hf | hf
    · subst hf
      by_cases q : lmn (zco w) l i 4 = l i
      · have c2 : (((lmn (zco w) l i 4 : Nat) : Int) = (l i : Int)) = True := eq_true (by omega)
        rw [e12_42]
        simp (disch := first | assumption | exact p_c2i | exact p_c2r | exact p_c2n | omega | ((repeat (first | refine p_a1i.trans ?_ | refine p_a1r.trans ?_)); exact p_a10) | ((repeat (first | refine p_wI ?_ | refine p_wR ?_)); exact p_w0) | decide) only [reduceIte, Int.reduceLT, Int.reduceLE, Int.reduceEq, Int.reduceToNat, Int.reduceAdd, Int.reduceSub, Int.reduceMul, Int.reduceNeg, e12_44, e12_46, e12_49, e12_50, e12_51, e12_53, e12_56, e12_58, e12_59, e12_62, e12_64, e12_65, e12_68, e12_70, e12_71, e12_74, e12_75, e12_78, p_il5, p_push, p_cge, p_al0, p_al1, p_cv2_0, p_cv2_1, p_cv2_2, p_cv2_3, p_cv2_4, zK_v, zK_0, WN_ncl, p_is6, p_c2n, p_c2i, p_c2r, p_il3, p_ifne, p_il6, p_getR, p_iald, p_ceq, p_goto, WN_nx, WN_nrt, WN_ite, c1, tn, zf_r3, g, c2, Int.toNat_natCast]
        exact fin 0 (Or.inl rfl) (fun _ => ⟨rfl, q⟩)
      · have c2 : (((lmn (zco w) l i 4 : Nat) : Int) = (l i : Int)) = False := eq_false (by omega)
        rw [e12_42]
        simp (disch := first | assumption | exact p_c2i | exact p_c2r | exact p_c2n | omega | ((repeat (first | refine p_a1i.trans ?_ | refine p_a1r.trans ?_)); exact p_a10) | ((repeat (first | refine p_wI ?_ | refine p_wR ?_)); exact p_w0) | decide) only [reduceIte, Int.reduceLT, Int.reduceLE, Int.reduceEq, Int.reduceToNat, Int.reduceAdd, Int.reduceSub, Int.reduceMul, Int.reduceNeg, e12_44, e12_46, e12_49, e12_50, e12_51, e12_53, e12_56, e12_58, e12_59, e12_62, e12_64, e12_65, e12_68, e12_70, e12_71, e12_74, e12_75, e12_78, p_il5, p_push, p_cge, p_al0, p_al1, p_cv2_0, p_cv2_1, p_cv2_2, p_cv2_3, p_cv2_4, zK_v, zK_0, WN_ncl, p_is6, p_c2n, p_c2i, p_c2r, p_il3, p_ifne, p_il6, p_getR, p_iald, p_ceq, p_goto, WN_nx, WN_nrt, WN_ite, c1, tn, zf_r3, g, c2, Int.toNat_natCast]
        exact fin 1 (Or.inr rfl) (fun z => absurd z (by decide))
    · subst hf
      rw [e12_42]
      simp (disch := first | assumption | exact p_c2i | exact p_c2r | exact p_c2n | omega | ((repeat (first | refine p_a1i.trans ?_ | refine p_a1r.trans ?_)); exact p_a10) | ((repeat (first | refine p_wI ?_ | refine p_wR ?_)); exact p_w0) | decide) only [reduceIte, Int.reduceLT, Int.reduceLE, Int.reduceEq, Int.reduceToNat, Int.reduceAdd, Int.reduceSub, Int.reduceMul, Int.reduceNeg, e12_44, e12_46, e12_49, e12_50, e12_51, e12_53, e12_56, e12_58, e12_59, e12_62, e12_64, e12_65, e12_68, e12_70, e12_71, e12_74, e12_75, e12_78, p_il5, p_push, p_cge, p_al0, p_al1, p_cv2_0, p_cv2_1, p_cv2_2, p_cv2_3, p_cv2_4, zK_v, zK_0, WN_ncl, p_is6, p_c2n, p_c2i, p_c2r, p_il3, p_ifne, p_il6, p_getR, p_iald, p_ceq, p_goto, WN_nx, WN_nrt, WN_ite, c1, tn]
      exact fin 1 (Or.inr rfl) (fun z => absurd z (by decide))
/-- numbers that no more than r rounds give -/
theorem l_nrounds {v : Int} (hk : zkd L = 2) (hR : zLr σ L w) (ok : zok N w) (K : ∀ (l : Nat → Nat) (σ' : ZI) (f r : Int) (l5 l6 : Option ZV), zLab (zco w) l → (∀ b, b ≠ 3548 → σ' b = σ b) → (∀ k, k < 81 → σ' 3548 k = (l k : Int)) → Wp 12 101 [some (.inr (.inl (some 3545))), some (.inr (.inl (some L))), some (.inl v), some (.inl f), some (.inl r), l5, l6] [] (3565, x, zrho) σ' Q) : ∀ (n r : Nat) (l : Nat → Nat) (σ1 : ZI) (l5 l6 : Option ZV), r + n = 82 → (∀ b, b ≠ 3548 → σ1 b = σ b) → (∀ k, k < 81 → σ1 3548 k = (l k : Int)) → (∀ k, k < 81 → l k ≤ k ∧ zcm (zco w) k (l k) = true) → (∀ c b, c < 81 → b < 81 → zS (zco w) b r c = true → l c ≤ b) → Wp 12 26 [some (.inr (.inl (some 3545))), some (.inr (.inl (some L))), some (.inl v), some (.inl 1), some (.inl ((r : Int))), l5, l6] [] (3565, x, zrho) σ1 Q := by
  intro n
  induction n with
  | zero =>
    intro r l σ1 l5 l6 hr ha hl h1 h2
    have e : r = 82 := by omega
    subst e
    simp (disch := first | assumption | exact p_c2i | exact p_c2r | exact p_c2n | omega | ((repeat (first | refine p_a1i.trans ?_ | refine p_a1r.trans ?_)); exact p_a10) | ((repeat (first | refine p_wI ?_ | refine p_wR ?_)); exact p_w0) | decide) only [reduceIte, Int.reduceLT, Int.reduceLE, Int.reduceEq, Int.reduceToNat, Int.reduceAdd, Int.reduceSub, Int.reduceMul, Int.reduceNeg, e12_26, e12_27, e12_30, e12_32, e12_34, p_il3, p_ifeq, p_il4, p_push, p_cgt, WN_nx, WN_nrt, WN_ite, show ((82 : Nat) : Int) = 82 from rfl]
    refine K l σ1 _ _ _ _ (fun c hc => ⟨by have := (h1 c hc).1; omega, (h1 c hc).2, fun b hb h => h2 c b hc hb ?_⟩) ha hl
    exact zS_m (zcm_y hc hb h)
  | succ n ih =>
    intro r l σ1 l5 l6 hr ha hl h1 h2
    have c1 : ((81 : Int) < (r : Int)) = False := eq_false (by omega)
    have e1 : (r : Int) + 1 = ((r + 1 : Nat) : Int) := by omega
    rw [e12_26]
    simp (disch := first | assumption | exact p_c2i | exact p_c2r | exact p_c2n | omega | ((repeat (first | refine p_a1i.trans ?_ | refine p_a1r.trans ?_)); exact p_a10) | ((repeat (first | refine p_wI ?_ | refine p_wR ?_)); exact p_w0) | decide) only [reduceIte, Int.reduceLT, Int.reduceLE, Int.reduceEq, Int.reduceToNat, Int.reduceAdd, Int.reduceSub, Int.reduceMul, Int.reduceNeg, e12_27, e12_30, e12_32, e12_34, e12_37, e12_38, e12_39, e12_40, p_il3, p_ifeq, p_il4, p_push, p_cgt, p_is3, p_c2n, p_c2i, p_c2r, p_is5, WN_nx, WN_nrt, WN_ite, c1]
    refine l_nround (σ := σ) (l0 := l) hk hR ok (fun f l' σ2 l6 hf ha' hl' g1 g2 g3 => ?_) 81 0 0 l σ1 _ rfl (Or.inl rfl) ha hl h1 (fun k _ => Nat.le_refl _) (fun k hk => absurd hk (Nat.not_lt_zero _)) (fun _ k _ => rfl)
    rcases hf with hf | hf
    · subst hf
      simp (disch := first | assumption | exact p_c2i | exact p_c2r | exact p_c2n | omega | ((repeat (first | refine p_a1i.trans ?_ | refine p_a1r.trans ?_)); exact p_a10) | ((repeat (first | refine p_wI ?_ | refine p_wR ?_)); exact p_w0) | decide) only [reduceIte, Int.reduceLT, Int.reduceLE, Int.reduceEq, Int.reduceToNat, Int.reduceAdd, Int.reduceSub, Int.reduceMul, Int.reduceNeg, e12_26, e12_27, e12_95, e12_98, p_il3, p_ifeq, p_ii4, p_goto, WN_nx, WN_nrt, WN_ite, e1]
      refine K l' σ2 _ _ _ _ (zLab_i g1 (fun c d hc hd hcc => ?_)) ha' hl'
      rw [g3 rfl (zT c d) (zT_in hc)]
      exact (g2 c hc).2 d hd hcc
    · subst hf
      simp (disch := first | assumption | exact p_c2i | exact p_c2r | exact p_c2n | omega | ((repeat (first | refine p_a1i.trans ?_ | refine p_a1r.trans ?_)); exact p_a10) | ((repeat (first | refine p_wI ?_ | refine p_wR ?_)); exact p_w0) | decide) only [reduceIte, Int.reduceLT, Int.reduceLE, Int.reduceEq, Int.reduceToNat, Int.reduceAdd, Int.reduceSub, Int.reduceMul, Int.reduceNeg, e12_95, e12_98, p_ii4, p_goto, WN_nx, WN_nrt, WN_ite, e1]
      refine ih (r + 1) l' σ2 _ _ (by omega) ha' hl' g1 (fun c b hc hb h => ?_)
      rcases zN_iff.mp h with q | ⟨d, hd, q1, q2⟩
      · exact Nat.le_trans (g2 c hc).1 (h2 c b hc hb q)
      · exact Nat.le_trans ((g2 c hc).2 d hd q1) (h2 _ b (zT_in hc) hb q2)
end
