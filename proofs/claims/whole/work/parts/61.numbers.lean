/-! THE CLASS: fields counted by numbers -/
def lmn (col : Nat → Int) (l : Nat → Nat) (c : Nat) : Nat → Nat
  | 0 => l c
  | d + 1 => if col (zT c d) = col c then min (lmn col l c d) (l (zT c d)) else lmn col l c d
theorem lmn_s {col : Nat → Int} {l : Nat → Nat} {c d : Nat} : lmn col l c (d + 1) = if col (zT c d) = col c then min (lmn col l c d) (l (zT c d)) else lmn col l c d := rfl
theorem lmn_le {col : Nat → Int} {l : Nat → Nat} {c : Nat} : ∀ d, lmn col l c d ≤ l c ∧ ∀ e, e < d → col (zT c e) = col c → lmn col l c d ≤ l (zT c e) := by
  intro d
  induction d with
  | zero => exact ⟨Nat.le_refl _, fun e h => by omega⟩
  | succ d ih =>
    obtain ⟨h1, h2⟩ := ih
    rw [lmn_s]
    by_cases h : col (zT c d) = col c
    · rw [if_pos h]
      refine ⟨by omega, fun e he hc => ?_⟩
      by_cases q : e = d
      · subst q; omega
      · have := h2 e (by omega) hc; omega
    · rw [if_neg h]
      refine ⟨h1, fun e he hc => ?_⟩
      by_cases q : e = d
      · subst q; exact absurd hc h
      · exact h2 e (by omega) hc
theorem lmn_cm {col : Nat → Int} {l : Nat → Nat} {c : Nat} (hc : c < 81) (hl : ∀ k, k < 81 → l k ≤ k ∧ zcm col k (l k) = true) : ∀ d, d ≤ 4 → zcm col c (lmn col l c d) = true := by
  intro d
  induction d with
  | zero => intro _; exact (hl c hc).2
  | succ d ih =>
    intro hd
    have h1 := ih (by omega)
    rw [lmn_s]
    by_cases h : col (zT c d) = col c
    · rw [if_pos h]
      rcases Nat.le_total (lmn col l c d) (l (zT c d)) with q | q
      · rw [Nat.min_eq_left q]; exact h1
      · rw [Nat.min_eq_right q]
        have ht := zT_in (d := d) hc
        have := (hl _ ht).1
        exact zcm_t hc ht (by omega) (zcm_s hc hc (by omega) zcm_r h) (hl _ ht).2
    · rw [if_neg h]; exact h1
section
variable {σ σ0 : ZI} {Q : ZO → ZT → ZI → Prop} {x L : Nat} {w : zW} {N : Int} {l : Nat → Nat}
theorem l_leastN {c : Nat} (hk : zkd L = 2) (hR : zLr σ L w) (ok : zok N w) (hc : c < 81) (hl : ∀ k, k < 81 → σ 3548 k = (l k : Int) ∧ l k < 81) : ∀ (n d : Nat) (l5 : Option ZV), d + n = 4 → Wp 13 24 [some (.inr (.inl (some 3545))), some (.inr (.inl (some L))), some (.inl ((c : Int))), some (.inl (((lmn (zco w) l c d : Nat) : Int))), some (.inl ((d : Int))), l5] [] (3565, x, zrho) σ Q = Q (.inl (some (.inl ((lmn (zco w) l c 4 : Nat) : Int)))) (3565, x, zrho) σ := by
  have kf := zf_k
  have k8 := zf_8
  have n8 := zf_n8
  have o1 := ok.2.1
  have hlc := hl c hc
  intro n
  induction n with
  | zero =>
    intro d l5 hd
    have e : d = 4 := by omega
    subst e
    simp (disch := first | assumption | exact p_c2i | exact p_c2r | exact p_c2n | omega | ((repeat (first | refine p_a1i.trans ?_ | refine p_a1r.trans ?_)); exact p_a10) | ((repeat (first | refine p_wI ?_ | refine p_wR ?_)); exact p_w0) | decide) only [reduceIte, Int.reduceLT, Int.reduceLE, Int.reduceEq, Int.reduceToNat, Int.reduceAdd, Int.reduceSub, Int.reduceMul, Int.reduceNeg, e13_24, e13_26, e13_27, e13_30, e13_31, e13_33, e13_36, e13_38, e13_40, e13_43, e13_45, e13_47, e13_50, e13_51, e13_53, e13_56, e13_57, e13_58, e13_61, e13_64, e13_65, e13_66, e13_69, e13_71, e13_72, e13_75, e13_76, e13_79, e13_82, e13_83, p_il4, p_push, p_cge, p_il2, p_cs2_0, p_cs2_1, p_cs2_2, p_cs2_3, p_cs2_4, zK_v, zK_0, WN_ncl, p_is5, p_c2n, p_c2i, p_c2r, p_il5, p_iflt, p_al1, p_cv1_0, p_cv1_1, p_cv1_2, p_cv1_3, p_cv1_4, p_cne, p_il3, p_al0, p_getR, p_iald, p_is3, p_ii4, p_goto, p_ret0, WN_nx, WN_nrt, WN_ite, show ((4 : Nat) : Int) = 4 from rfl]
  | succ n ih =>
    intro d l5 hd
    have c1 : ((d : Int) < 4) = True := eq_true (by omega)
    have e1 : (d : Int) + 1 = ((d + 1 : Nat) : Int) := by omega
    have ht := zT_in (d := d) hc
    have et := zT_c (d := d) hc
    have tb := fun (Q : ZO → ZT → ZI → Prop) (σ : ZI) (θ : ZT) => t_cellBeside (Q := Q) (σ := σ) (θ := θ) (c := (c : Int)) (d := (d : Int)) (by omega) (by omega) (by omega) (by omega)
    rw [et] at tb
    have gc := hR.2.2.1 (zT c d) ht
    have ga := hR.2.2.1 c hc
    have b1 := ok.2.2.2.2.2.2.2.1 (zT c d) ht
    have b2 := ok.2.2.2.2.2.2.2.1 c hc
    have g := (hl _ ht).1
    have g81 := (hl _ ht).2
    have lm := (lmn_le (col := zco w) (l := l) (c := c) d).1
    have c3 : (((zT c d : Nat) : Int) < 0) = False := eq_false (by omega)
    have c4 : (((zT c d : Nat) : Int) < 81) = True := eq_true (by omega)
    have ih2 := ih (d + 1) (some (.inl ((zT c d : Nat) : Int))) (by omega)
    rw [lmn_s] at ih2
    by_cases hcol : w (10 + zT c d) = w (10 + c)
    · have c2 : (w (10 + zT c d) = w (10 + c)) = True := eq_true hcol
      rw [if_pos (show zco w (zT c d) = zco w c from hcol)] at ih2
      have tm := fun (Q : ZO → ZT → ZI → Prop) (σ : ZI) (θ : ZT) => t_min (Q := Q) (σ := σ) (θ := θ) (a := ((lmn (zco w) l c d : Nat) : Int)) (b := (l (zT c d) : Int)) (by omega) (by omega) (by omega) (by omega)
      rw [show min ((lmn (zco w) l c d : Nat) : Int) (l (zT c d) : Int) = ((min (lmn (zco w) l c d) (l (zT c d)) : Nat) : Int) by omega] at tm
      rw [e13_24]
      simp (disch := first | assumption | exact p_c2i | exact p_c2r | exact p_c2n | omega | ((repeat (first | refine p_a1i.trans ?_ | refine p_a1r.trans ?_)); exact p_a10) | ((repeat (first | refine p_wI ?_ | refine p_wR ?_)); exact p_w0) | decide) only [reduceIte, Int.reduceLT, Int.reduceLE, Int.reduceEq, Int.reduceToNat, Int.reduceAdd, Int.reduceSub, Int.reduceMul, Int.reduceNeg, e13_26, e13_27, e13_30, e13_31, e13_33, e13_36, e13_38, e13_40, e13_43, e13_45, e13_47, e13_50, e13_51, e13_53, e13_56, e13_57, e13_58, e13_61, e13_64, e13_65, e13_66, e13_69, e13_71, e13_72, e13_75, e13_76, e13_79, p_il4, p_push, p_cge, p_il2, p_cs2_0, p_cs2_1, p_cs2_2, p_cs2_3, p_cs2_4, zK_v, zK_0, WN_ncl, p_is5, p_c2n, p_c2i, p_c2r, p_il5, p_iflt, p_al1, p_cv1_0, p_cv1_1, p_cv1_2, p_cv1_3, p_cv1_4, p_cne, p_il3, p_al0, p_getR, p_iald, p_is3, p_ii4, p_goto, WN_nx, WN_nrt, WN_ite, c1, tb, c3, c4, t_colourOf, gc, ga, c2, zf_r3, g, tm, e1, Int.toNat_natCast]
      exact ih2
    · rw [if_neg (show ¬ zco w (zT c d) = zco w c from hcol)] at ih2
      rw [e13_24]
      simp (disch := first | assumption | exact p_c2i | exact p_c2r | exact p_c2n | omega | ((repeat (first | refine p_a1i.trans ?_ | refine p_a1r.trans ?_)); exact p_a10) | ((repeat (first | refine p_wI ?_ | refine p_wR ?_)); exact p_w0) | decide) only [reduceIte, Int.reduceLT, Int.reduceLE, Int.reduceEq, Int.reduceToNat, Int.reduceAdd, Int.reduceSub, Int.reduceMul, Int.reduceNeg, e13_26, e13_27, e13_30, e13_31, e13_33, e13_36, e13_38, e13_40, e13_43, e13_45, e13_47, e13_50, e13_51, e13_53, e13_56, e13_57, e13_58, e13_61, e13_64, e13_65, e13_66, e13_69, e13_71, e13_72, e13_75, e13_76, e13_79, p_il4, p_push, p_cge, p_il2, p_cs2_0, p_cs2_1, p_cs2_2, p_cs2_3, p_cs2_4, zK_v, zK_0, WN_ncl, p_is5, p_c2n, p_c2i, p_c2r, p_il5, p_iflt, p_al1, p_cv1_0, p_cv1_1, p_cv1_2, p_cv1_3, p_cv1_4, p_cne, p_il3, p_al0, p_getR, p_iald, p_is3, p_ii4, p_goto, WN_nx, WN_nrt, WN_ite, c1, tb, c3, c4, t_colourOf, gc, ga, hcol, e1, Int.toNat_natCast]
      exact ih2
theorem t_leastN {c : Nat} (hk : zkd L = 2) (hR : zLr σ L w) (ok : zok N w) (hc : c < 81) (hl : ∀ k, k < 81 → σ 3548 k = (l k : Int) ∧ l k < 81) : WM 13 [.inr (.inl (some 3545)), .inr (.inl (some L)), .inl ((c : Int))] (3565, x, zrho) σ Q = Q (.inl (some (.inl ((lmn (zco w) l c 4 : Nat) : Int)))) (3565, x, zrho) σ := by
  show Wp 13 0 [some (.inr (.inl (some 3545))), some (.inr (.inl (some L))), some (.inl ((c : Int))), none, none, none] [] _ _ Q = _
  have kf := zf_k
  have k8 := zf_8
  have n8 := zf_n8
  have g := (hl c hc).1
  have c3 : ((c : Int) < 0) = False := eq_false (by omega)
  have c4 : ((c : Int) < 81) = True := eq_true (by omega)
  simp (disch := first | assumption | exact p_c2i | exact p_c2r | exact p_c2n | omega | ((repeat (first | refine p_a1i.trans ?_ | refine p_a1r.trans ?_)); exact p_a10) | ((repeat (first | refine p_wI ?_ | refine p_wR ?_)); exact p_w0) | decide) only [reduceIte, Int.reduceLT, Int.reduceLE, Int.reduceEq, Int.reduceToNat, Int.reduceAdd, Int.reduceSub, Int.reduceMul, Int.reduceNeg, e13_0, e13_1, e13_4, e13_5, e13_7, e13_10, e13_11, e13_14, e13_15, e13_16, e13_19, e13_20, e13_21, e13_22, p_il2, p_iflt, p_push, p_cge, p_al0, p_getR, p_iald, p_goto, p_is3, p_c2n, p_c2i, p_c2r, p_is4, WN_nx, WN_nrt, WN_ite, c3, c4, zf_r3, g, Int.toNat_natCast]
  exact l_leastN hk hR ok hc hl 4 0 none rfl
end
