/-! THE MODEL: isInverse, ranked, account, isWell, errorPosition, thrown -/
section
variable {τ : ZI} {Q : ZO → ZT → ZI → Prop} {x n : Nat} {w : zW} {N : Int}
theorem t_isInverseM (ok : zSok N w) (K1 : w 201 = 0 → ∀ τ' b, zQy τ τ' 1 → Q (.inl (some (.inl b))) (3565, x, zrho) (zg τ' w)) (K0 : w 201 ≠ 0 → ∀ τ', zQy τ τ' 0 → Q (.inl (some (.inl (qInv w)))) (3565, x, zrho) (zg τ' w)) : WM 176 [.inr (.inl (some 3553))] (3565, x, zrho) (zg τ w) Q := by
  show Wp 176 0 [some (.inr (.inl (some 3553)))] [] _ _ Q
  have k := zm_k
  have k4 := zm_4
  have n4 := zm_n4
  have o1 := ok.1
  by_cases c1 : w 201 = 0
  · have d : (w 201 = 0) = True := eq_true c1
    simp (disch := first | assumption | exact p_c2i | exact p_c2r | exact p_c2n | omega | ((repeat (first | refine p_a1i.trans ?_ | refine p_a1r.trans ?_)); exact p_a10) | ((repeat (first | refine p_wI ?_ | refine p_wR ?_)); exact p_w0) | decide) only [reduceIte, Int.reduceLT, Int.reduceLE, Int.reduceEq, Int.reduceToNat, Int.reduceAdd, Int.reduceSub, Int.reduceMul, Int.reduceNeg, e176_0, e176_1, e176_2, e176_5, e176_8, e176_9, e176_12, e176_13, e176_16, e176_17, e176_20, e176_23, e176_24, e176_27, e176_30, e176_31, e176_34, e176_35, p_al0, p_getR, p_push, p_iald, p_ifne, p_goto, p_cv1_0, p_cv1_1, p_cv1_2, p_cv1_3, p_cv1_4, zK_v, zK_0, WN_ncl, p_cv0_0, p_cv0_1, p_cv0_2, p_cv0_3, p_cv0_4, p_ifeq, p_ret1, WN_nx, WN_nrt, WN_ite, zm_r0, zg_s, d, tf_1]
    exact K1 c1 _ _ zQy_f
  · simp (disch := first | assumption | exact p_c2i | exact p_c2r | exact p_c2n | omega | ((repeat (first | refine p_a1i.trans ?_ | refine p_a1r.trans ?_)); exact p_a10) | ((repeat (first | refine p_wI ?_ | refine p_wR ?_)); exact p_w0) | decide) only [reduceIte, Int.reduceLT, Int.reduceLE, Int.reduceEq, Int.reduceToNat, Int.reduceAdd, Int.reduceSub, Int.reduceMul, Int.reduceNeg, e176_0, e176_1, e176_2, e176_5, e176_8, e176_9, e176_12, e176_13, e176_16, e176_17, e176_20, e176_23, e176_24, p_al0, p_getR, p_push, p_iald, p_ifne, p_goto, p_cv1_0, p_cv1_1, p_cv1_2, p_cv1_3, p_cv1_4, zK_v, zK_0, WN_ncl, p_cv0_0, p_cv0_1, p_cv0_2, p_cv0_3, p_cv0_4, WN_nx, WN_nrt, WN_ite, zm_r0, zg_s, c1, tf_0]
    have e := K0 c1 _ (zQy_0 (τ := τ) (w := w) (c := 0))
    refine t_isInvNowM ok (by omega) ?_
    rw [zK_v]
    unfold qInv at e
    rcases aLook_01 (aInvN (w 0).toNat w) (zgl (w 201 - 1).toNat w) with z | z
    · rw [z] at e ⊢
      simp (disch := first | assumption | exact p_c2i | exact p_c2r | exact p_c2n | omega | ((repeat (first | refine p_a1i.trans ?_ | refine p_a1r.trans ?_)); exact p_a10) | ((repeat (first | refine p_wI ?_ | refine p_wR ?_)); exact p_w0) | decide) only [reduceIte, Int.reduceLT, Int.reduceLE, Int.reduceEq, Int.reduceToNat, Int.reduceAdd, Int.reduceSub, Int.reduceMul, Int.reduceNeg, e176_27, e176_30, e176_31, e176_34, e176_35, p_ifeq, p_push, p_goto, p_ret1, WN_nx, WN_nrt, WN_ite]
      exact e
    · rw [z] at e ⊢
      have d : ((1 : Int) = 0) = False := eq_false (by omega)
      simp (disch := first | assumption | exact p_c2i | exact p_c2r | exact p_c2n | omega | ((repeat (first | refine p_a1i.trans ?_ | refine p_a1r.trans ?_)); exact p_a10) | ((repeat (first | refine p_wI ?_ | refine p_wR ?_)); exact p_w0) | decide) only [reduceIte, Int.reduceLT, Int.reduceLE, Int.reduceEq, Int.reduceToNat, Int.reduceAdd, Int.reduceSub, Int.reduceMul, Int.reduceNeg, e176_27, e176_30, e176_31, e176_34, e176_35, p_ifeq, p_push, p_goto, p_ret1, WN_nx, WN_nrt, WN_ite, d]
      exact e
theorem l_rankM {h : Nat} {p : Int} (ok : zok N w) (hN : N ≤ 100000000) (hh : (h : Int) < w 0) : ∀ n i : Nat, ((i + n : Nat) : Int) = w 0 → Wp 195 39 [some (.inr (.inl (some 3553))), some (.inl p), some (.inl ((h : Int))), some (.inl (aRank w h i)), some (.inl ((i : Int)))] [] (3565, x, zrho) (zg τ w) Q = Wp 195 102 [some (.inr (.inl (some 3553))), some (.inl p), some (.inl ((h : Int))), some (.inl (aRank w h (w 0).toNat)), some (.inl (w 0))] [] (3565, x, zrho) (zg τ w) Q := by
  have k := zm_k
  have k4 := zm_4
  have n4 := zm_n4
  have o0 := ok.1
  intro n
  induction n with
  | zero =>
    intro i hi
    have ei : i = (w 0).toNat := by omega
    have c0 : ((i : Int) < w 0) = False := eq_false (by omega)
    simp (disch := first | assumption | exact p_c2i | exact p_c2r | exact p_c2n | omega | ((repeat (first | refine p_a1i.trans ?_ | refine p_a1r.trans ?_)); exact p_a10) | ((repeat (first | refine p_wI ?_ | refine p_wR ?_)); exact p_w0) | decide) only [reduceIte, Int.reduceLT, Int.reduceLE, Int.reduceEq, Int.reduceToNat, Int.reduceAdd, Int.reduceSub, Int.reduceMul, Int.reduceNeg, e195_39, e195_41, e195_42, e195_45, e195_46, e195_47, p_il4, p_al0, p_getR, p_push, p_iald, p_cge, WN_nx, WN_nrt, WN_ite, zm_r0, zg_s, c0]
    rw [ei, Int.toNat_of_nonneg o0.1]
  | succ n ih =>
    intro i hi
    have c0 : ((i : Int) < w 0) = True := eq_true (by omega)
    have e1 : (i : Int) + 1 = ((i + 1 : Nat) : Int) := by omega
    have to := fun (Q : ZO → ZT → ZI → Prop) => t_ofM (Q := Q) (x := x) (τ := τ) (w := w) (h := i) (j := 2) (by omega) (by omega) (by omega)
    have th := fun (Q : ZO → ZT → ZI → Prop) => t_ofM (Q := Q) (x := x) (τ := τ) (w := w) (h := h) (j := 2) (by omega) (by omega) (by omega)
    rw [show Int.toNat 2 = 2 from rfl] at to th
    have o2 := (ok.2.2.2.2.2.2.2.2.2.1 i (by omega)).2.2.1
    have p2 := (ok.2.2.2.2.2.2.2.2.2.1 h hh).2.2.1
    rw [show 174 + 4 * i = 172 + 4 * i + 2 by omega] at o2
    rw [show 174 + 4 * h = 172 + 4 * h + 2 by omega] at p2
    have ih2 := ih (i + 1) (by omega)
    have ci : 0 ≤ aRank w h i ∧ aRank w h i ≤ i := zct_in i
    have es : aRank w h (i + 1) = aRank w h i + if decide (w (172 + 4 * h + 2) < w (172 + 4 * i + 2) ∨ (w (172 + 4 * i + 2) = w (172 + 4 * h + 2) ∧ i < h)) = true then 1 else 0 := rfl
    by_cases h1 : w (172 + 4 * h + 2) < w (172 + 4 * i + 2)
    · have d1 : (w (172 + 4 * h + 2) < w (172 + 4 * i + 2)) = True := eq_true h1
      rw [if_pos (decide_eq_true (Or.inl h1))] at es
      rw [e195_39]
      simp (disch := first | assumption | exact p_c2i | exact p_c2r | exact p_c2n | omega | ((repeat (first | refine p_a1i.trans ?_ | refine p_a1r.trans ?_)); exact p_a10) | ((repeat (first | refine p_wI ?_ | refine p_wR ?_)); exact p_w0) | decide) only [reduceIte, Int.reduceLT, Int.reduceLE, Int.reduceEq, Int.reduceToNat, Int.reduceAdd, Int.reduceSub, Int.reduceMul, Int.reduceNeg, e195_41, e195_42, e195_45, e195_46, e195_47, e195_50, e195_51, e195_52, e195_54, e195_55, e195_58, e195_59, e195_60, e195_61, e195_64, e195_67, e195_68, e195_70, e195_71, e195_74, e195_75, e195_76, e195_77, e195_80, e195_83, e195_85, e195_86, e195_89, e195_90, e195_93, e195_94, e195_95, e195_96, e195_99, p_il4, p_al0, p_getR, p_push, p_iald, p_cge, p_il3, p_cv2_0, p_cv2_1, p_cv2_2, p_cv2_3, p_cv2_4, zK_v, zK_0, WN_ncl, p_il2, p_cgt, p_cne, p_goto, p_bin, p_is3, p_c2n, p_c2i, p_c2r, p_ii4, WN_nx, WN_nrt, WN_ite, zm_r0, zg_s, c0, to, th, d1, e1]
      rw [← ih2, es]
    · have d1 : (w (172 + 4 * h + 2) < w (172 + 4 * i + 2)) = False := eq_false h1
      by_cases h2 : w (172 + 4 * i + 2) = w (172 + 4 * h + 2)
      · have d2 : (w (172 + 4 * i + 2) = w (172 + 4 * h + 2)) = True := eq_true h2
        have d4 : (w (172 + 4 * h + 2) < w (172 + 4 * h + 2)) = False := eq_false (by omega)
        by_cases h3 : i < h
        · have d3 : ((i : Int) < (h : Int)) = True := eq_true (by omega)
          rw [if_pos (decide_eq_true (Or.inr ⟨h2, h3⟩))] at es
          rw [e195_39]
          simp (disch := first | assumption | exact p_c2i | exact p_c2r | exact p_c2n | omega | ((repeat (first | refine p_a1i.trans ?_ | refine p_a1r.trans ?_)); exact p_a10) | ((repeat (first | refine p_wI ?_ | refine p_wR ?_)); exact p_w0) | decide) only [reduceIte, Int.reduceLT, Int.reduceLE, Int.reduceEq, Int.reduceToNat, Int.reduceAdd, Int.reduceSub, Int.reduceMul, Int.reduceNeg, e195_41, e195_42, e195_45, e195_46, e195_47, e195_50, e195_51, e195_52, e195_54, e195_55, e195_58, e195_59, e195_60, e195_61, e195_64, e195_67, e195_68, e195_70, e195_71, e195_74, e195_75, e195_76, e195_77, e195_80, e195_83, e195_85, e195_86, e195_89, e195_90, e195_93, e195_94, e195_95, e195_96, e195_99, p_il4, p_al0, p_getR, p_push, p_iald, p_cge, p_il3, p_cv2_0, p_cv2_1, p_cv2_2, p_cv2_3, p_cv2_4, zK_v, zK_0, WN_ncl, p_il2, p_cgt, p_cne, p_goto, p_bin, p_is3, p_c2n, p_c2i, p_c2r, p_ii4, WN_nx, WN_nrt, WN_ite, zm_r0, zg_s, c0, to, th, d1, d2, d3, d4, h2, e1]
          rw [← ih2, es]
        · have d3 : ((i : Int) < (h : Int)) = False := eq_false (by omega)
          rw [if_neg (by rw [decide_eq_true_iff]; exact fun z => z.elim h1 (fun z => h3 z.2))] at es
          rw [e195_39]
          simp (disch := first | assumption | exact p_c2i | exact p_c2r | exact p_c2n | omega | ((repeat (first | refine p_a1i.trans ?_ | refine p_a1r.trans ?_)); exact p_a10) | ((repeat (first | refine p_wI ?_ | refine p_wR ?_)); exact p_w0) | decide) only [reduceIte, Int.reduceLT, Int.reduceLE, Int.reduceEq, Int.reduceToNat, Int.reduceAdd, Int.reduceSub, Int.reduceMul, Int.reduceNeg, e195_41, e195_42, e195_45, e195_46, e195_47, e195_50, e195_51, e195_52, e195_54, e195_55, e195_58, e195_59, e195_60, e195_61, e195_64, e195_67, e195_68, e195_70, e195_71, e195_74, e195_75, e195_76, e195_77, e195_80, e195_83, e195_85, e195_86, e195_89, e195_90, e195_93, e195_94, e195_95, e195_96, e195_99, p_il4, p_al0, p_getR, p_push, p_iald, p_cge, p_il3, p_cv2_0, p_cv2_1, p_cv2_2, p_cv2_3, p_cv2_4, zK_v, zK_0, WN_ncl, p_il2, p_cgt, p_cne, p_goto, p_bin, p_is3, p_c2n, p_c2i, p_c2r, p_ii4, WN_nx, WN_nrt, WN_ite, zm_r0, zg_s, c0, to, th, d1, d2, d3, d4, h2, e1]
          rw [← ih2, es]
      · have d2 : (w (172 + 4 * i + 2) = w (172 + 4 * h + 2)) = False := eq_false h2
        rw [if_neg (by rw [decide_eq_true_iff]; exact fun z => z.elim h1 (fun z => h2 z.1))] at es
        rw [e195_39]
        simp (disch := first | assumption | exact p_c2i | exact p_c2r | exact p_c2n | omega | ((repeat (first | refine p_a1i.trans ?_ | refine p_a1r.trans ?_)); exact p_a10) | ((repeat (first | refine p_wI ?_ | refine p_wR ?_)); exact p_w0) | decide) only [reduceIte, Int.reduceLT, Int.reduceLE, Int.reduceEq, Int.reduceToNat, Int.reduceAdd, Int.reduceSub, Int.reduceMul, Int.reduceNeg, e195_41, e195_42, e195_45, e195_46, e195_47, e195_50, e195_51, e195_52, e195_54, e195_55, e195_58, e195_59, e195_60, e195_61, e195_64, e195_67, e195_68, e195_70, e195_71, e195_74, e195_75, e195_76, e195_77, e195_80, e195_83, e195_85, e195_86, e195_89, e195_90, e195_93, e195_94, e195_95, e195_96, e195_99, p_il4, p_al0, p_getR, p_push, p_iald, p_cge, p_il3, p_cv2_0, p_cv2_1, p_cv2_2, p_cv2_3, p_cv2_4, zK_v, zK_0, WN_ncl, p_il2, p_cgt, p_cne, p_goto, p_bin, p_is3, p_c2n, p_c2i, p_c2r, p_ii4, WN_nx, WN_nrt, WN_ite, zm_r0, zg_s, c0, to, th, d1, d2, e1]
        rw [← ih2, es]
theorem l_rankedM {p : Int} (hp : -2147483648 ≤ p ∧ p < 2147483648) (ok : zok N w) (hN : N ≤ 100000000) : ∀ (n i : Nat) (l3 l4 : Option ZV), ((i + n : Nat) : Int) = w 0 → z_c2 l3 = false → z_c2 l4 = false → Wp 195 24 [some (.inr (.inl (some 3553))), some (.inl p), some (.inl ((i : Int))), l3, l4] [] (3565, x, zrho) (zg τ w) Q = Q (.inl (some (.inl (aRkF w p i n)))) (3565, x, zrho) (zg τ w) := by
  have k := zm_k
  have k4 := zm_4
  have n4 := zm_n4
  have o0 := ok.1
  obtain ⟨hp1, hp2⟩ := hp
  intro n
  induction n with
  | zero =>
    intro i l3 l4 hi q3 q4
    have hc : ((i : Int) < w 0) = False := eq_false (by omega)
    simp (disch := first | assumption | exact p_c2i | exact p_c2r | exact p_c2n | omega | ((repeat (first | refine p_a1i.trans ?_ | refine p_a1r.trans ?_)); exact p_a10) | ((repeat (first | refine p_wI ?_ | refine p_wR ?_)); exact p_w0) | decide) only [reduceIte, Int.reduceLT, Int.reduceLE, Int.reduceEq, Int.reduceToNat, Int.reduceAdd, Int.reduceSub, Int.reduceMul, Int.reduceNeg, e195_24, e195_25, e195_26, e195_29, e195_30, e195_31, e195_115, e195_116, p_il2, p_al0, p_getR, p_push, p_iald, p_cge, p_ret0, WN_nx, WN_nrt, WN_ite, zm_r0, zg_s, hc]
    rfl
  | succ n ih =>
    intro i l3 l4 hi q3 q4
    have hc : ((i : Int) < w 0) = True := eq_true (by omega)
    have e1 : (i : Int) + 1 = ((i + 1 : Nat) : Int) := by omega
    have tr := fun (Q : ZO → ZT → ZI → Prop) => l_rankM (h := i) (p := p) (x := x) (τ := τ) (Q := Q) ok hN (by omega) (w 0).toNat 0 (by omega)
    rw [show ((0 : Nat) : Int) = 0 from rfl, show aRank w i 0 = 0 from rfl] at tr
    have ci : 0 ≤ aRank w i (w 0).toNat ∧ aRank w i (w 0).toNat ≤ (w 0).toNat := zct_in (w 0).toNat
    unfold aRkF
    rw [e195_24]
    simp (disch := first | assumption | exact p_c2i | exact p_c2r | exact p_c2n | omega | ((repeat (first | refine p_a1i.trans ?_ | refine p_a1r.trans ?_)); exact p_a10) | ((repeat (first | refine p_wI ?_ | refine p_wR ?_)); exact p_w0) | decide) only [reduceIte, Int.reduceLT, Int.reduceLE, Int.reduceEq, Int.reduceToNat, Int.reduceAdd, Int.reduceSub, Int.reduceMul, Int.reduceNeg, e195_25, e195_26, e195_29, e195_30, e195_31, e195_34, e195_35, e195_36, e195_37, p_il2, p_al0, p_getR, p_push, p_iald, p_cge, p_is3, p_c2n, p_c2i, p_c2r, p_is4, WN_nx, WN_nrt, WN_ite, zm_r0, zg_s, hc, tr]
    by_cases hcc : aRank w i (w 0).toNat = p
    · simp (disch := first | assumption | exact p_c2i | exact p_c2r | exact p_c2n | omega | ((repeat (first | refine p_a1i.trans ?_ | refine p_a1r.trans ?_)); exact p_a10) | ((repeat (first | refine p_wI ?_ | refine p_wR ?_)); exact p_w0) | decide) only [reduceIte, Int.reduceLT, Int.reduceLE, Int.reduceEq, Int.reduceToNat, Int.reduceAdd, Int.reduceSub, Int.reduceMul, Int.reduceNeg, e195_102, e195_103, e195_104, e195_107, e195_108, e195_109, e195_112, p_il3, p_il1, p_cne, p_il2, p_ret0, p_ii2, p_goto, WN_nx, WN_nrt, WN_ite, hcc, e1]
    · simp (disch := first | assumption | exact p_c2i | exact p_c2r | exact p_c2n | omega | ((repeat (first | refine p_a1i.trans ?_ | refine p_a1r.trans ?_)); exact p_a10) | ((repeat (first | refine p_wI ?_ | refine p_wR ?_)); exact p_w0) | decide) only [reduceIte, Int.reduceLT, Int.reduceLE, Int.reduceEq, Int.reduceToNat, Int.reduceAdd, Int.reduceSub, Int.reduceMul, Int.reduceNeg, e195_102, e195_103, e195_104, e195_107, e195_108, e195_109, e195_112, p_il3, p_il1, p_cne, p_il2, p_ret0, p_ii2, p_goto, WN_nx, WN_nrt, WN_ite, hcc, e1]
      exact ih (i + 1) _ _ (by omega) rfl rfl
theorem t_rankedM {p : Int} (ok : zok N w) (hN : N ≤ 100000000) (hp : -2147483648 ≤ p ∧ p < 2147483648) (K1 : ¬ (0 ≤ p ∧ p < w 0) → ∀ τ' b, zQy τ τ' 1 → Q (.inl (some (.inl b))) (3565, x, zrho) (zg τ' w)) (K0 : (0 ≤ p ∧ p < w 0) → ∀ τ', zQy τ τ' 0 → Q (.inl (some (.inl (aRanked w p)))) (3565, x, zrho) (zg τ' w)) : WM 195 [.inr (.inl (some 3553)), .inl p] (3565, x, zrho) (zg τ w) Q := by
  show Wp 195 0 [some (.inr (.inl (some 3553))), some (.inl p), none, none, none] [] _ _ Q
  have k := zm_k
  have o0 := ok.1
  have ti := fun (Q : ZO → ZT → ZI → Prop) (τ : ZI) => t_isHoeM (Q := Q) (τ := τ) (x := x) (w := w) (h := p) hp o0
  by_cases c1 : 0 ≤ p ∧ p < w 0
  · rw [if_pos c1] at ti
    simp (disch := first | assumption | exact p_c2i | exact p_c2r | exact p_c2n | omega | ((repeat (first | refine p_a1i.trans ?_ | refine p_a1r.trans ?_)); exact p_a10) | ((repeat (first | refine p_wI ?_ | refine p_wR ?_)); exact p_w0) | decide) only [reduceIte, Int.reduceLT, Int.reduceLE, Int.reduceEq, Int.reduceToNat, Int.reduceAdd, Int.reduceSub, Int.reduceMul, Int.reduceNeg, e195_0, e195_1, e195_2, e195_3, e195_6, e195_9, e195_10, e195_13, e195_14, e195_17, e195_20, e195_21, e195_22, e195_23, p_al0, p_il1, p_cv1_0, p_cv1_1, p_cv1_2, p_cv1_3, p_cv1_4, zK_v, zK_0, WN_ncl, p_ifeq, p_push, p_goto, p_ret0, p_is2, p_c2n, p_c2i, p_c2r, WN_nx, WN_nrt, WN_ite, ti, tf_0]
    have e := K0 c1 _ (zQy_f (τ := τ))
    have l := l_rankedM (Q := Q) (x := x) (τ := zup τ 3553 8 0) hp ok hN (w 0).toNat 0 none none (by omega) rfl rfl
    rw [show ((0 : Nat) : Int) = 0 from rfl] at l
    rw [l]
    exact e
  · rw [if_neg c1] at ti
    simp (disch := first | assumption | exact p_c2i | exact p_c2r | exact p_c2n | omega | ((repeat (first | refine p_a1i.trans ?_ | refine p_a1r.trans ?_)); exact p_a10) | ((repeat (first | refine p_wI ?_ | refine p_wR ?_)); exact p_w0) | decide) only [reduceIte, Int.reduceLT, Int.reduceLE, Int.reduceEq, Int.reduceToNat, Int.reduceAdd, Int.reduceSub, Int.reduceMul, Int.reduceNeg, e195_0, e195_1, e195_2, e195_3, e195_6, e195_9, e195_10, e195_13, e195_14, e195_17, e195_20, e195_21, p_al0, p_il1, p_cv1_0, p_cv1_1, p_cv1_2, p_cv1_3, p_cv1_4, zK_v, zK_0, WN_ncl, p_ifeq, p_push, p_goto, p_ret0, WN_nx, WN_nrt, WN_ite, ti, tf_1]
    exact K1 c1 _ _ zQy_f
theorem t_errorM (h9 : -2147483648 ≤ τ 3553 13 ∧ τ 3553 13 < 2147483648) : WM 210 [.inr (.inl (some 3553))] (3565, x, zrho) (zg τ w) Q = Q (.inl (some (.inl (τ 3553 13)))) (3565, x, zrho) (zg (zup τ 3553 8 0) w) := by
  show Wp 210 0 [some (.inr (.inl (some 3553)))] [] _ _ Q = _
  have k := zm_k
  have z : zup τ 3553 8 0 3553 13 = τ 3553 13 := zup_j (by omega)
  simp (disch := first | assumption | exact p_c2i | exact p_c2r | exact p_c2n | omega | ((repeat (first | refine p_a1i.trans ?_ | refine p_a1r.trans ?_)); exact p_a10) | ((repeat (first | refine p_wI ?_ | refine p_wR ?_)); exact p_w0) | decide) only [reduceIte, Int.reduceLT, Int.reduceLE, Int.reduceEq, Int.reduceToNat, Int.reduceAdd, Int.reduceSub, Int.reduceMul, Int.reduceNeg, e210_0, e210_1, e210_2, e210_5, e210_6, e210_9, p_al0, p_push, p_putI, p_getI, p_ret0, WN_nx, WN_nrt, WN_ite, zg_c3, zg_o3, z]
theorem t_thrownM (h8 : 0 ≤ τ 3553 8 ∧ τ 3553 8 < 100) : WM 143 [.inr (.inl (some 3553))] (3565, x, zrho) (zg τ w) Q = Q (.inl (some (.inl (τ 3553 8)))) (3565, x, zrho) (zg τ w) := by
  show Wp 143 0 [some (.inr (.inl (some 3553)))] [] _ _ Q = _
  have k := zm_k
  simp (disch := first | assumption | exact p_c2i | exact p_c2r | exact p_c2n | omega | ((repeat (first | refine p_a1i.trans ?_ | refine p_a1r.trans ?_)); exact p_a10) | ((repeat (first | refine p_wI ?_ | refine p_wR ?_)); exact p_w0) | decide) only [reduceIte, Int.reduceLT, Int.reduceLE, Int.reduceEq, Int.reduceToNat, Int.reduceAdd, Int.reduceSub, Int.reduceMul, Int.reduceNeg, e143_0, e143_1, e143_4, p_al0, p_getI, p_ret0, WN_nx, WN_nrt, WN_ite, zg_o3]
theorem t_accountM {v tl m : Int} (ok : zSok N w) (hN : N ≤ 100000000) (hv : -2147483648 ≤ v ∧ v < 2147483648) (ht : τ 3553 12 = tl) (hm : τ 3553 6 = m) (K1 : ¬ (0 ≤ v ∧ v ≤ 10) → ∀ τ' b, zQy τ τ' 1 → Q (.inl (some (.inl b))) (3565, x, zrho) (zg τ' w)) (K0 : (0 ≤ v ∧ v ≤ 10) → ∀ τ', zQy τ τ' 0 → Q (.inl (some (.inl (qAcc w v tl m)))) (3565, x, zrho) (zg τ' w)) : WM 214 [.inr (.inl (some 3553)), .inl v] (3565, x, zrho) (zg τ w) Q := by
  show Wp 214 0 [some (.inr (.inl (some 3553))), some (.inl v)] [] _ _ Q
  have k := zm_k
  have k4 := zm_4
  have n4 := zm_n4
  have ti := fun (Q : ZO → ZT → ZI → Prop) (σ : ZI) (θ : ZT) => t_in (Q := Q) (θ := θ) (σ := σ) (a := v) (b := 0) (c := 10) hv (by omega) (by omega)
  have t6 := fun (Q : ZO → ZT → ZI → Prop) (τ : ZI) => t_paintedManyM (x := x) (τ := τ) (Q := Q) ok.2.2.1 hN
  have t7 := fun (Q : ZO → ZT → ZI → Prop) (τ : ZI) => t_meetingsM (x := x) (τ := τ) (Q := Q) ok.2.2.1 hN
  by_cases c1 : 0 ≤ v ∧ v ≤ 10
  · rw [if_pos c1] at ti
    have e := K0 c1 _ (zQy_f (τ := τ))
    unfold qAcc at e
    have z6 : zup τ 3553 8 0 3553 6 = m := (zup_j (by omega)).trans hm
    have z12 : zup τ 3553 8 0 3553 12 = tl := (zup_j (by omega)).trans ht
    rcases (show v = 0 ∨ v = 1 ∨ v = 2 ∨ v = 3 ∨ v = 4 ∨ v = 5 ∨ v = 6 ∨ v = 7 ∨ v = 8 ∨ v = 9 ∨ v = 10 by omega) with z | z | z | z | z | z | z | z | z | z | z
    · subst z
      simp (disch := first | assumption | exact p_c2i | exact p_c2r | exact p_c2n | omega | ((repeat (first | refine p_a1i.trans ?_ | refine p_a1r.trans ?_)); exact p_a10) | ((repeat (first | refine p_wI ?_ | refine p_wR ?_)); exact p_w0) | decide) only [reduceIte, Int.reduceLT, Int.reduceLE, Int.reduceEq, Int.reduceToNat, Int.reduceAdd, Int.reduceSub, Int.reduceMul, Int.reduceNeg, e214_0, e214_1, e214_2, e214_3, e214_5, e214_8, e214_11, e214_12, e214_15, e214_16, e214_19, e214_22, e214_23, e214_24, e214_25, e214_68, e214_69, e214_72, e214_75, e214_76, e214_77, e214_78, e214_81, e214_84, e214_85, e214_86, e214_87, e214_90, e214_91, e214_92, e214_95, e214_96, e214_97, e214_100, e214_101, e214_102, e214_103, e214_104, e214_107, e214_108, e214_109, e214_112, e214_113, e214_114, e214_117, e214_118, e214_119, p_al0, p_il1, p_push, p_cs3_0, p_cs3_1, p_cs3_2, p_cs3_3, p_cs3_4, zK_v, zK_0, WN_ncl, p_ifeq, p_goto, p_cv1_0, p_cv1_1, p_cv1_2, p_cv1_3, p_cv1_4, p_ret0, p_sw, zsw, p_getR, p_iald, p_cv0_0, p_cv0_1, p_cv0_2, p_cv0_3, p_cv0_4, p_getI, WN_nx, WN_nrt, WN_ite, ti, tf_0, zm_r0, zg_s]
      exact e
    · subst z
      simp (disch := first | assumption | exact p_c2i | exact p_c2r | exact p_c2n | omega | ((repeat (first | refine p_a1i.trans ?_ | refine p_a1r.trans ?_)); exact p_a10) | ((repeat (first | refine p_wI ?_ | refine p_wR ?_)); exact p_w0) | decide) only [reduceIte, Int.reduceLT, Int.reduceLE, Int.reduceEq, Int.reduceToNat, Int.reduceAdd, Int.reduceSub, Int.reduceMul, Int.reduceNeg, e214_0, e214_1, e214_2, e214_3, e214_5, e214_8, e214_11, e214_12, e214_15, e214_16, e214_19, e214_22, e214_23, e214_24, e214_25, e214_68, e214_69, e214_72, e214_75, e214_76, e214_77, e214_78, e214_81, e214_84, e214_85, e214_86, e214_87, e214_90, e214_91, e214_92, e214_95, e214_96, e214_97, e214_100, e214_101, e214_102, e214_103, e214_104, e214_107, e214_108, e214_109, e214_112, e214_113, e214_114, e214_117, e214_118, e214_119, p_al0, p_il1, p_push, p_cs3_0, p_cs3_1, p_cs3_2, p_cs3_3, p_cs3_4, zK_v, zK_0, WN_ncl, p_ifeq, p_goto, p_cv1_0, p_cv1_1, p_cv1_2, p_cv1_3, p_cv1_4, p_ret0, p_sw, zsw, p_getR, p_iald, p_cv0_0, p_cv0_1, p_cv0_2, p_cv0_3, p_cv0_4, p_getI, WN_nx, WN_nrt, WN_ite, ti, tf_0, zm_r0, zg_s]
      exact e
    · subst z
      simp (disch := first | assumption | exact p_c2i | exact p_c2r | exact p_c2n | omega | ((repeat (first | refine p_a1i.trans ?_ | refine p_a1r.trans ?_)); exact p_a10) | ((repeat (first | refine p_wI ?_ | refine p_wR ?_)); exact p_w0) | decide) only [reduceIte, Int.reduceLT, Int.reduceLE, Int.reduceEq, Int.reduceToNat, Int.reduceAdd, Int.reduceSub, Int.reduceMul, Int.reduceNeg, e214_0, e214_1, e214_2, e214_3, e214_5, e214_8, e214_11, e214_12, e214_15, e214_16, e214_19, e214_22, e214_23, e214_24, e214_25, e214_68, e214_69, e214_72, e214_75, e214_76, e214_77, e214_78, e214_81, e214_84, e214_85, e214_86, e214_87, e214_90, e214_91, e214_92, e214_95, e214_96, e214_97, e214_100, e214_101, e214_102, e214_103, e214_104, e214_107, e214_108, e214_109, e214_112, e214_113, e214_114, e214_117, e214_118, e214_119, p_al0, p_il1, p_push, p_cs3_0, p_cs3_1, p_cs3_2, p_cs3_3, p_cs3_4, zK_v, zK_0, WN_ncl, p_ifeq, p_goto, p_cv1_0, p_cv1_1, p_cv1_2, p_cv1_3, p_cv1_4, p_ret0, p_sw, zsw, p_getR, p_iald, p_cv0_0, p_cv0_1, p_cv0_2, p_cv0_3, p_cv0_4, p_getI, WN_nx, WN_nrt, WN_ite, ti, tf_0, zm_r0, zg_s]
      exact e
    · subst z
      simp (disch := first | assumption | exact p_c2i | exact p_c2r | exact p_c2n | omega | ((repeat (first | refine p_a1i.trans ?_ | refine p_a1r.trans ?_)); exact p_a10) | ((repeat (first | refine p_wI ?_ | refine p_wR ?_)); exact p_w0) | decide) only [reduceIte, Int.reduceLT, Int.reduceLE, Int.reduceEq, Int.reduceToNat, Int.reduceAdd, Int.reduceSub, Int.reduceMul, Int.reduceNeg, e214_0, e214_1, e214_2, e214_3, e214_5, e214_8, e214_11, e214_12, e214_15, e214_16, e214_19, e214_22, e214_23, e214_24, e214_25, e214_68, e214_69, e214_72, e214_75, e214_76, e214_77, e214_78, e214_81, e214_84, e214_85, e214_86, e214_87, e214_90, e214_91, e214_92, e214_95, e214_96, e214_97, e214_100, e214_101, e214_102, e214_103, e214_104, e214_107, e214_108, e214_109, e214_112, e214_113, e214_114, e214_117, e214_118, e214_119, p_al0, p_il1, p_push, p_cs3_0, p_cs3_1, p_cs3_2, p_cs3_3, p_cs3_4, zK_v, zK_0, WN_ncl, p_ifeq, p_goto, p_cv1_0, p_cv1_1, p_cv1_2, p_cv1_3, p_cv1_4, p_ret0, p_sw, zsw, p_getR, p_iald, p_cv0_0, p_cv0_1, p_cv0_2, p_cv0_3, p_cv0_4, p_getI, WN_nx, WN_nrt, WN_ite, ti, tf_0, zm_r0, zg_s]
      exact e
    · subst z
      simp (disch := first | assumption | exact p_c2i | exact p_c2r | exact p_c2n | omega | ((repeat (first | refine p_a1i.trans ?_ | refine p_a1r.trans ?_)); exact p_a10) | ((repeat (first | refine p_wI ?_ | refine p_wR ?_)); exact p_w0) | decide) only [reduceIte, Int.reduceLT, Int.reduceLE, Int.reduceEq, Int.reduceToNat, Int.reduceAdd, Int.reduceSub, Int.reduceMul, Int.reduceNeg, e214_0, e214_1, e214_2, e214_3, e214_5, e214_8, e214_11, e214_12, e214_15, e214_16, e214_19, e214_22, e214_23, e214_24, e214_25, e214_68, e214_69, e214_72, e214_75, e214_76, e214_77, e214_78, e214_81, e214_84, e214_85, e214_86, e214_87, e214_90, e214_91, e214_92, e214_95, e214_96, e214_97, e214_100, e214_101, e214_102, e214_103, e214_104, e214_107, e214_108, e214_109, e214_112, e214_113, e214_114, e214_117, e214_118, e214_119, p_al0, p_il1, p_push, p_cs3_0, p_cs3_1, p_cs3_2, p_cs3_3, p_cs3_4, zK_v, zK_0, WN_ncl, p_ifeq, p_goto, p_cv1_0, p_cv1_1, p_cv1_2, p_cv1_3, p_cv1_4, p_ret0, p_sw, zsw, p_getR, p_iald, p_cv0_0, p_cv0_1, p_cv0_2, p_cv0_3, p_cv0_4, p_getI, WN_nx, WN_nrt, WN_ite, ti, tf_0, zm_r0, zg_s]
      exact e
    · subst z
      simp (disch := first | assumption | exact p_c2i | exact p_c2r | exact p_c2n | omega | ((repeat (first | refine p_a1i.trans ?_ | refine p_a1r.trans ?_)); exact p_a10) | ((repeat (first | refine p_wI ?_ | refine p_wR ?_)); exact p_w0) | decide) only [reduceIte, Int.reduceLT, Int.reduceLE, Int.reduceEq, Int.reduceToNat, Int.reduceAdd, Int.reduceSub, Int.reduceMul, Int.reduceNeg, e214_0, e214_1, e214_2, e214_3, e214_5, e214_8, e214_11, e214_12, e214_15, e214_16, e214_19, e214_22, e214_23, e214_24, e214_25, e214_68, e214_69, e214_72, e214_75, e214_76, e214_77, e214_78, e214_81, e214_84, e214_85, e214_86, e214_87, e214_90, e214_91, e214_92, e214_95, e214_96, e214_97, e214_100, e214_101, e214_102, e214_103, e214_104, e214_107, e214_108, e214_109, e214_112, e214_113, e214_114, e214_117, e214_118, e214_119, p_al0, p_il1, p_push, p_cs3_0, p_cs3_1, p_cs3_2, p_cs3_3, p_cs3_4, zK_v, zK_0, WN_ncl, p_ifeq, p_goto, p_cv1_0, p_cv1_1, p_cv1_2, p_cv1_3, p_cv1_4, p_ret0, p_sw, zsw, p_getR, p_iald, p_cv0_0, p_cv0_1, p_cv0_2, p_cv0_3, p_cv0_4, p_getI, WN_nx, WN_nrt, WN_ite, ti, tf_0, zm_r0, zg_s]
      exact e
    · subst z
      simp (disch := first | assumption | exact p_c2i | exact p_c2r | exact p_c2n | omega | ((repeat (first | refine p_a1i.trans ?_ | refine p_a1r.trans ?_)); exact p_a10) | ((repeat (first | refine p_wI ?_ | refine p_wR ?_)); exact p_w0) | decide) only [reduceIte, Int.reduceLT, Int.reduceLE, Int.reduceEq, Int.reduceToNat, Int.reduceAdd, Int.reduceSub, Int.reduceMul, Int.reduceNeg, e214_0, e214_1, e214_2, e214_3, e214_5, e214_8, e214_11, e214_12, e214_15, e214_16, e214_19, e214_22, e214_23, e214_24, e214_25, e214_68, e214_69, e214_72, e214_75, e214_76, e214_77, e214_78, e214_81, e214_84, e214_85, e214_86, e214_87, e214_90, e214_91, e214_92, e214_95, e214_96, e214_97, e214_100, e214_101, e214_102, e214_103, e214_104, e214_107, e214_108, e214_109, e214_112, e214_113, e214_114, e214_117, e214_118, e214_119, p_al0, p_il1, p_push, p_cs3_0, p_cs3_1, p_cs3_2, p_cs3_3, p_cs3_4, zK_v, zK_0, WN_ncl, p_ifeq, p_goto, p_cv1_0, p_cv1_1, p_cv1_2, p_cv1_3, p_cv1_4, p_ret0, p_sw, zsw, p_getR, p_iald, p_cv0_0, p_cv0_1, p_cv0_2, p_cv0_3, p_cv0_4, p_getI, WN_nx, WN_nrt, WN_ite, ti, tf_0, t6]
      exact e
    · subst z
      simp (disch := first | assumption | exact p_c2i | exact p_c2r | exact p_c2n | omega | ((repeat (first | refine p_a1i.trans ?_ | refine p_a1r.trans ?_)); exact p_a10) | ((repeat (first | refine p_wI ?_ | refine p_wR ?_)); exact p_w0) | decide) only [reduceIte, Int.reduceLT, Int.reduceLE, Int.reduceEq, Int.reduceToNat, Int.reduceAdd, Int.reduceSub, Int.reduceMul, Int.reduceNeg, e214_0, e214_1, e214_2, e214_3, e214_5, e214_8, e214_11, e214_12, e214_15, e214_16, e214_19, e214_22, e214_23, e214_24, e214_25, e214_68, e214_69, e214_72, e214_75, e214_76, e214_77, e214_78, e214_81, e214_84, e214_85, e214_86, e214_87, e214_90, e214_91, e214_92, e214_95, e214_96, e214_97, e214_100, e214_101, e214_102, e214_103, e214_104, e214_107, e214_108, e214_109, e214_112, e214_113, e214_114, e214_117, e214_118, e214_119, p_al0, p_il1, p_push, p_cs3_0, p_cs3_1, p_cs3_2, p_cs3_3, p_cs3_4, zK_v, zK_0, WN_ncl, p_ifeq, p_goto, p_cv1_0, p_cv1_1, p_cv1_2, p_cv1_3, p_cv1_4, p_ret0, p_sw, zsw, p_getR, p_iald, p_cv0_0, p_cv0_1, p_cv0_2, p_cv0_3, p_cv0_4, p_getI, WN_nx, WN_nrt, WN_ite, ti, tf_0, t7]
      exact e
    · subst z
      simp (disch := first | assumption | exact p_c2i | exact p_c2r | exact p_c2n | omega | ((repeat (first | refine p_a1i.trans ?_ | refine p_a1r.trans ?_)); exact p_a10) | ((repeat (first | refine p_wI ?_ | refine p_wR ?_)); exact p_w0) | decide) only [reduceIte, Int.reduceLT, Int.reduceLE, Int.reduceEq, Int.reduceToNat, Int.reduceAdd, Int.reduceSub, Int.reduceMul, Int.reduceNeg, e214_0, e214_1, e214_2, e214_3, e214_5, e214_8, e214_11, e214_12, e214_15, e214_16, e214_19, e214_22, e214_23, e214_24, e214_25, e214_68, e214_69, e214_72, e214_75, e214_76, e214_77, e214_78, e214_81, e214_84, e214_85, e214_86, e214_87, e214_90, e214_91, e214_92, e214_95, e214_96, e214_97, e214_100, e214_101, e214_102, e214_103, e214_104, e214_107, e214_108, e214_109, e214_112, e214_113, e214_114, e214_117, e214_118, e214_119, p_al0, p_il1, p_push, p_cs3_0, p_cs3_1, p_cs3_2, p_cs3_3, p_cs3_4, zK_v, zK_0, WN_ncl, p_ifeq, p_goto, p_cv1_0, p_cv1_1, p_cv1_2, p_cv1_3, p_cv1_4, p_ret0, p_sw, zsw, p_getR, p_iald, p_cv0_0, p_cv0_1, p_cv0_2, p_cv0_3, p_cv0_4, p_getI, WN_nx, WN_nrt, WN_ite, ti, tf_0, zm_r0, zg_s]
      exact e
    · subst z
      simp (disch := first | assumption | exact p_c2i | exact p_c2r | exact p_c2n | omega | ((repeat (first | refine p_a1i.trans ?_ | refine p_a1r.trans ?_)); exact p_a10) | ((repeat (first | refine p_wI ?_ | refine p_wR ?_)); exact p_w0) | decide) only [reduceIte, Int.reduceLT, Int.reduceLE, Int.reduceEq, Int.reduceToNat, Int.reduceAdd, Int.reduceSub, Int.reduceMul, Int.reduceNeg, e214_0, e214_1, e214_2, e214_3, e214_5, e214_8, e214_11, e214_12, e214_15, e214_16, e214_19, e214_22, e214_23, e214_24, e214_25, e214_68, e214_69, e214_72, e214_75, e214_76, e214_77, e214_78, e214_81, e214_84, e214_85, e214_86, e214_87, e214_90, e214_91, e214_92, e214_95, e214_96, e214_97, e214_100, e214_101, e214_102, e214_103, e214_104, e214_107, e214_108, e214_109, e214_112, e214_113, e214_114, e214_117, e214_118, e214_119, p_al0, p_il1, p_push, p_cs3_0, p_cs3_1, p_cs3_2, p_cs3_3, p_cs3_4, zK_v, zK_0, WN_ncl, p_ifeq, p_goto, p_cv1_0, p_cv1_1, p_cv1_2, p_cv1_3, p_cv1_4, p_ret0, p_sw, zsw, p_getR, p_iald, p_cv0_0, p_cv0_1, p_cv0_2, p_cv0_3, p_cv0_4, p_getI, WN_nx, WN_nrt, WN_ite, ti, tf_0, zg_o3, z12]
      exact e
    · subst z
      simp (disch := first | assumption | exact p_c2i | exact p_c2r | exact p_c2n | omega | ((repeat (first | refine p_a1i.trans ?_ | refine p_a1r.trans ?_)); exact p_a10) | ((repeat (first | refine p_wI ?_ | refine p_wR ?_)); exact p_w0) | decide) only [reduceIte, Int.reduceLT, Int.reduceLE, Int.reduceEq, Int.reduceToNat, Int.reduceAdd, Int.reduceSub, Int.reduceMul, Int.reduceNeg, e214_0, e214_1, e214_2, e214_3, e214_5, e214_8, e214_11, e214_12, e214_15, e214_16, e214_19, e214_22, e214_23, e214_24, e214_25, e214_68, e214_69, e214_72, e214_75, e214_76, e214_77, e214_78, e214_81, e214_84, e214_85, e214_86, e214_87, e214_90, e214_91, e214_92, e214_95, e214_96, e214_97, e214_100, e214_101, e214_102, e214_103, e214_104, e214_107, e214_108, e214_109, e214_112, e214_113, e214_114, e214_117, e214_118, e214_119, p_al0, p_il1, p_push, p_cs3_0, p_cs3_1, p_cs3_2, p_cs3_3, p_cs3_4, zK_v, zK_0, WN_ncl, p_ifeq, p_goto, p_cv1_0, p_cv1_1, p_cv1_2, p_cv1_3, p_cv1_4, p_ret0, p_sw, zsw, p_getR, p_iald, p_cv0_0, p_cv0_1, p_cv0_2, p_cv0_3, p_cv0_4, p_getI, WN_nx, WN_nrt, WN_ite, ti, tf_0, zg_o3, z6]
      exact e
  · rw [if_neg c1] at ti
    simp (disch := first | assumption | exact p_c2i | exact p_c2r | exact p_c2n | omega | ((repeat (first | refine p_a1i.trans ?_ | refine p_a1r.trans ?_)); exact p_a10) | ((repeat (first | refine p_wI ?_ | refine p_wR ?_)); exact p_w0) | decide) only [reduceIte, Int.reduceLT, Int.reduceLE, Int.reduceEq, Int.reduceToNat, Int.reduceAdd, Int.reduceSub, Int.reduceMul, Int.reduceNeg, e214_0, e214_1, e214_2, e214_3, e214_5, e214_8, e214_11, e214_12, e214_15, e214_16, e214_19, e214_22, e214_23, p_al0, p_il1, p_push, p_cs3_0, p_cs3_1, p_cs3_2, p_cs3_3, p_cs3_4, zK_v, zK_0, WN_ncl, p_ifeq, p_goto, p_cv1_0, p_cv1_1, p_cv1_2, p_cv1_3, p_cv1_4, p_ret0, WN_nx, WN_nrt, WN_ite, ti, tf_1]
    exact K1 c1 _ _ zQy_f
theorem l_wellM (ok : zok N w) : ∀ n i : Nat, i + n = 81 → Wp 215 7 [some (.inr (.inl (some 3553))), some (.inl ((i : Int)))] [] (3565, x, zrho) (zg τ w) Q = Wp 215 39 [some (.inr (.inl (some 3553))), some (.inl 81)] [] (3565, x, zrho) (zg τ w) Q := by
  have k := zm_k
  have k4 := zm_4
  have n4 := zm_n4
  have o1 := ok.2.1
  intro n
  induction n with
  | zero =>
    intro i hi
    have e : i = 81 := by omega
    subst e
    simp (disch := first | assumption | exact p_c2i | exact p_c2r | exact p_c2n | omega | ((repeat (first | refine p_a1i.trans ?_ | refine p_a1r.trans ?_)); exact p_a10) | ((repeat (first | refine p_wI ?_ | refine p_wR ?_)); exact p_w0) | decide) only [reduceIte, Int.reduceLT, Int.reduceLE, Int.reduceEq, Int.reduceToNat, Int.reduceAdd, Int.reduceSub, Int.reduceMul, Int.reduceNeg, e215_7, e215_8, e215_10, p_il1, p_push, p_cge, WN_nx, WN_nrt, WN_ite, show ((81 : Nat) : Int) = 81 from rfl]
  | succ n ih =>
    intro i hi
    have hi8 : ((i : Int) < 81) = True := eq_true (by omega)
    have e1 : (i : Int) + 1 = ((i + 1 : Nat) : Int) := by omega
    have ei : (10 + (i : Int)).toNat = 10 + i := by omega
    have o := ok.2.2.2.2.2.2.2.1 i (by omega)
    have d1 : (w (10 + i) < w 1) = True := eq_true (by omega)
    rw [e215_7]
    simp (disch := first | assumption | exact p_c2i | exact p_c2r | exact p_c2n | omega | ((repeat (first | refine p_a1i.trans ?_ | refine p_a1r.trans ?_)); exact p_a10) | ((repeat (first | refine p_wI ?_ | refine p_wR ?_)); exact p_w0) | decide) only [reduceIte, Int.reduceLT, Int.reduceLE, Int.reduceEq, Int.reduceToNat, Int.reduceAdd, Int.reduceSub, Int.reduceMul, Int.reduceNeg, e215_8, e215_10, e215_13, e215_14, e215_17, e215_19, e215_20, e215_21, e215_22, e215_23, e215_26, e215_27, e215_28, e215_31, e215_32, e215_33, e215_36, p_il1, p_push, p_cge, p_al0, p_getR, p_bin, p_iald, p_clt, p_ret1, p_ii1, p_goto, WN_nx, WN_nrt, WN_ite, zm_r0, zg_s, hi8, ei, d1, e1]
    exact ih (i + 1) (by omega)
theorem t_isWellM (ok : zSok N w) (K0 : ∀ τ', zQy τ τ' 0 → Q (.inl (some (.inl (qWell w)))) (3565, x, zrho) (zg τ' w)) : WM 215 [.inr (.inl (some 3553))] (3565, x, zrho) (zg τ w) Q := by
  show Wp 215 0 [some (.inr (.inl (some 3553))), none] [] _ _ Q
  have k := zm_k
  have k4 := zm_4
  have n4 := zm_n4
  have o2 := ok.2.2.1.2.2.1
  have o1 := ok.1
  have tB := fun (Q : ZO → ZT → ZI → Prop) => l_wellM (τ := zup τ 3553 8 0) (x := x) (Q := Q) ok.2.2.1 81 0 rfl
  rw [show ((0 : Nat) : Int) = 0 from rfl] at tB
  simp (disch := first | assumption | exact p_c2i | exact p_c2r | exact p_c2n | omega | ((repeat (first | refine p_a1i.trans ?_ | refine p_a1r.trans ?_)); exact p_a10) | ((repeat (first | refine p_wI ?_ | refine p_wR ?_)); exact p_w0) | decide) only [reduceIte, Int.reduceLT, Int.reduceLE, Int.reduceEq, Int.reduceToNat, Int.reduceAdd, Int.reduceSub, Int.reduceMul, Int.reduceNeg, e215_0, e215_1, e215_2, e215_5, e215_6, p_al0, p_push, p_putI, p_is1, p_c2n, p_c2i, p_c2r, WN_nx, WN_nrt, WN_ite, zg_c3, tB]
  by_cases c1 : w 2 = 0
  · have d : ((0 : Int) < 0) = False := eq_false (by omega)
    by_cases c2 : w 201 = 0
    · have e := K0 _ zQy_f
      unfold qWell at e
      rw [if_neg (fun z => z.2 c2)] at e
      simp (disch := first | assumption | exact p_c2i | exact p_c2r | exact p_c2n | omega | ((repeat (first | refine p_a1i.trans ?_ | refine p_a1r.trans ?_)); exact p_a10) | ((repeat (first | refine p_wI ?_ | refine p_wR ?_)); exact p_w0) | decide) only [reduceIte, Int.reduceLT, Int.reduceLE, Int.reduceEq, Int.reduceToNat, Int.reduceAdd, Int.reduceSub, Int.reduceMul, Int.reduceNeg, e215_39, e215_40, e215_43, e215_44, e215_45, e215_48, e215_49, e215_52, e215_55, e215_56, e215_59, e215_60, e215_63, e215_66, e215_67, e215_70, e215_71, p_al0, p_getR, p_push, p_iald, p_ifgt, p_ifeq, p_cv0_0, p_cv0_1, p_cv0_2, p_cv0_3, p_cv0_4, zK_v, zK_0, WN_ncl, p_goto, p_ret1, WN_nx, WN_nrt, WN_ite, zm_r0, zg_s, c1, c2, d]
      exact e
    · simp (disch := first | assumption | exact p_c2i | exact p_c2r | exact p_c2n | omega | ((repeat (first | refine p_a1i.trans ?_ | refine p_a1r.trans ?_)); exact p_a10) | ((repeat (first | refine p_wI ?_ | refine p_wR ?_)); exact p_w0) | decide) only [reduceIte, Int.reduceLT, Int.reduceLE, Int.reduceEq, Int.reduceToNat, Int.reduceAdd, Int.reduceSub, Int.reduceMul, Int.reduceNeg, e215_39, e215_40, e215_43, e215_44, e215_45, e215_48, e215_49, e215_52, e215_55, e215_56, e215_59, e215_60, p_al0, p_getR, p_push, p_iald, p_ifgt, p_ifeq, p_cv0_0, p_cv0_1, p_cv0_2, p_cv0_3, p_cv0_4, zK_v, zK_0, WN_ncl, WN_nx, WN_nrt, WN_ite, zm_r0, zg_s, c1, c2, d]
      refine t_isInvNowM ok (by omega) ?_
      rw [zK_v]
      have e := K0 _ (zQy_0 (τ := τ) (w := w) (c := 0))
      unfold qWell at e
      rw [if_pos ⟨c1, c2⟩] at e
      unfold qInv at e
      rcases aLook_01 (aInvN (w 0).toNat w) (zgl (w 201 - 1).toNat w) with z | z
      · rw [z] at e ⊢
        simp (disch := first | assumption | exact p_c2i | exact p_c2r | exact p_c2n | omega | ((repeat (first | refine p_a1i.trans ?_ | refine p_a1r.trans ?_)); exact p_a10) | ((repeat (first | refine p_wI ?_ | refine p_wR ?_)); exact p_w0) | decide) only [reduceIte, Int.reduceLT, Int.reduceLE, Int.reduceEq, Int.reduceToNat, Int.reduceAdd, Int.reduceSub, Int.reduceMul, Int.reduceNeg, e215_63, e215_66, e215_67, e215_70, e215_71, p_ifeq, p_push, p_goto, p_ret1, WN_nx, WN_nrt, WN_ite]
        exact e
      · rw [z] at e ⊢
        have d : ((1 : Int) = 0) = False := eq_false (by omega)
        simp (disch := first | assumption | exact p_c2i | exact p_c2r | exact p_c2n | omega | ((repeat (first | refine p_a1i.trans ?_ | refine p_a1r.trans ?_)); exact p_a10) | ((repeat (first | refine p_wI ?_ | refine p_wR ?_)); exact p_w0) | decide) only [reduceIte, Int.reduceLT, Int.reduceLE, Int.reduceEq, Int.reduceToNat, Int.reduceAdd, Int.reduceSub, Int.reduceMul, Int.reduceNeg, e215_63, e215_66, e215_67, e215_70, e215_71, p_ifeq, p_push, p_goto, p_ret1, WN_nx, WN_nrt, WN_ite, d]
        exact e
  · have e := K0 _ zQy_f
    unfold qWell at e
    rw [if_neg (fun z => c1 z.1)] at e
    have d : (0 < w 2) = True := eq_true (by omega)
    simp (disch := first | assumption | exact p_c2i | exact p_c2r | exact p_c2n | omega | ((repeat (first | refine p_a1i.trans ?_ | refine p_a1r.trans ?_)); exact p_a10) | ((repeat (first | refine p_wI ?_ | refine p_wR ?_)); exact p_w0) | decide) only [reduceIte, Int.reduceLT, Int.reduceLE, Int.reduceEq, Int.reduceToNat, Int.reduceAdd, Int.reduceSub, Int.reduceMul, Int.reduceNeg, e215_39, e215_40, e215_43, e215_44, e215_45, e215_48, e215_49, e215_52, e215_55, e215_56, e215_59, e215_60, e215_63, e215_66, e215_67, e215_70, e215_71, p_al0, p_getR, p_push, p_iald, p_ifgt, p_ifeq, p_cv0_0, p_cv0_1, p_cv0_2, p_cv0_3, p_cv0_4, zK_v, zK_0, WN_ncl, p_goto, p_ret1, WN_nx, WN_nrt, WN_ite, zm_r0, zg_s, d]
    exact e
end
