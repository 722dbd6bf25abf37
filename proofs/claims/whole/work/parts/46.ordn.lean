/-! THE MODEL: drop, colours, step, back -/
def zdr (w : zW) (a i : Nat) : zW := fun j => if a ≤ j ∧ j < i then w (j + 4) else w j
theorem zdr_0 {w : zW} {a : Nat} : zdr w a a = w := by
  funext j; unfold zdr; rw [if_neg (by omega)]
theorem zdr_s {w : zW} {a i : Nat} (h : a ≤ i) : wu (zdr w a i) i (w (i + 4)) = zdr w a (i + 1) := by
  funext j
  unfold wu zdr
  by_cases h1 : j = i
  · subst h1; rw [if_pos rfl, if_pos (by omega)]
  · rw [if_neg h1]
    by_cases h2 : a ≤ j ∧ j < i
    · rw [if_pos h2, if_pos (by omega)]
    · rw [if_neg h2, if_neg (by omega)]
theorem zdr_o {w : zW} {a i j : Nat} (h : ¬ (a ≤ j ∧ j < i)) : zdr w a i j = w j := if_neg h
def zmz (w : zW) (v : Int) (i : Nat) : zW := fun j => if (10 ≤ j ∧ j < 10 + i) ∧ v ≤ w j then 0 else w j
theorem zmz_0 {w : zW} {v : Int} : zmz w v 0 = w := by
  funext j; unfold zmz; rw [if_neg (by omega)]
theorem zmz_1 {w : zW} {v : Int} {i : Nat} (h : v ≤ w (10 + i)) : wu (zmz w v i) (10 + i) 0 = zmz w v (i + 1) := by
  funext j
  unfold wu zmz
  by_cases h1 : j = 10 + i
  · subst h1; rw [if_pos rfl, if_pos ⟨by omega, h⟩]
  · rw [if_neg h1]
    by_cases h2 : (10 ≤ j ∧ j < 10 + i) ∧ v ≤ w j
    · rw [if_pos h2, if_pos ⟨by omega, h2.2⟩]
    · rw [if_neg h2, if_neg (fun z => h2 ⟨by omega, z.2⟩)]
theorem zmz_2 {w : zW} {v : Int} {i : Nat} (h : ¬ v ≤ w (10 + i)) : zmz w v (i + 1) = zmz w v i := by
  funext j
  unfold zmz
  by_cases h2 : (10 ≤ j ∧ j < 10 + i) ∧ v ≤ w j
  · rw [if_pos h2, if_pos ⟨by omega, h2.2⟩]
  · rw [if_neg h2, if_neg (fun z => by
      by_cases e : j = 10 + i
      · subst e; exact h z.2
      · exact h2 ⟨by omega, z.2⟩)]
theorem zmz_i {w : zW} {v : Int} {i : Nat} : zmz w v i (10 + i) = w (10 + i) := by unfold zmz; rw [if_neg (by omega)]
section
variable {τ σ : ZI} {Q : ZO → ZT → ZI → Prop} {x n : Nat} {w : zW} {N : Int} {θ : ZT}
theorem l_dropM {h m : Nat} {c : Int} (hm : m < 4) : ∀ (k i : Nat) (l3 : Option ZV), 172 + 4 * h ≤ i → i + k = 172 + 4 * m → w 0 = (m : Int) → Wp 157 44 [some (.inr (.inl (some 3553))), some (.inl c), some (.inl ((i : Int)))] [] (3565, x, zrho) (zg τ (zdr w (172 + 4 * h) i)) Q = Wp 157 80 [some (.inr (.inl (some 3553))), some (.inl c), some (.inl ((172 + 4 * (m : Int))))] [] (3565, x, zrho) (zg τ (zdr w (172 + 4 * h) (172 + 4 * m))) Q := by
  have hk := zm_k
  have k4 := zm_4
  have n4 := zm_n4
  intro k
  induction k with
  | zero =>
    intro i l3 h1 h2 h0
    have z0 : zdr w (172 + 4 * h) i 0 = (m : Int) := (zdr_o (by omega)).trans h0
    have e : i = 172 + 4 * m := by omega
    have ei : (i : Int) = 172 + 4 * (m : Int) := by omega
    have c1 : ((172 + 4 * (m : Int)) < 172 + 4 * (m : Int)) = False := eq_false (by omega)
    rw [e157_44]
    simp (disch := first | assumption | exact p_c2i | exact p_c2r | exact p_c2n | omega | ((repeat (first | refine p_a1i.trans ?_ | refine p_a1r.trans ?_)); exact p_a10) | ((repeat (first | refine p_wI ?_ | refine p_wR ?_)); exact p_w0) | decide) only [reduceIte, Int.reduceLT, Int.reduceLE, Int.reduceEq, Int.reduceToNat, Int.reduceAdd, Int.reduceSub, Int.reduceMul, Int.reduceNeg, e157_45, e157_48, e157_49, e157_50, e157_53, e157_54, e157_55, e157_56, e157_57, p_il2, p_push, p_al0, p_getR, p_iald, p_bin, p_cge, WN_nx, WN_nrt, WN_ite, ei, zm_r0, zg_s, z0, c1]
    rw [e]
  | succ k ih =>
    intro i l3 h1 h2 h0
    have z0 : zdr w (172 + 4 * h) i 0 = (m : Int) := (zdr_o (by omega)).trans h0
    have c1 : ((i : Int) < 172 + 4 * (m : Int)) = True := eq_true (by omega)
    have e1 : (i : Int) + 1 = ((i + 1 : Nat) : Int) := by omega
    have e2 : ((i : Int) + 4).toNat = i + 4 := by omega
    have z4 : zdr w (172 + 4 * h) i (i + 4) = w (i + 4) := zdr_o (by omega)
    have zs := zdr_s (w := w) h1
    have ih2 := ih (i + 1) l3 (by omega) (by omega) h0
    rw [e157_44]
    simp (disch := first | assumption | exact p_c2i | exact p_c2r | exact p_c2n | omega | ((repeat (first | refine p_a1i.trans ?_ | refine p_a1r.trans ?_)); exact p_a10) | ((repeat (first | refine p_wI ?_ | refine p_wR ?_)); exact p_w0) | decide) only [reduceIte, Int.reduceLT, Int.reduceLE, Int.reduceEq, Int.reduceToNat, Int.reduceAdd, Int.reduceSub, Int.reduceMul, Int.reduceNeg, e157_45, e157_48, e157_49, e157_50, e157_53, e157_54, e157_55, e157_56, e157_57, e157_60, e157_61, e157_64, e157_65, e157_66, e157_69, e157_70, e157_71, e157_72, e157_73, e157_74, e157_77, p_il2, p_push, p_al0, p_getR, p_iald, p_bin, p_cge, p_iast, p_ii2, p_goto, WN_nx, WN_nrt, WN_ite, zm_r0, zg_s, zg_u, z0, c1, e1, e2, z4, zs, Int.toNat_natCast]
    exact ih2
theorem t_dropM {h : Int} (ok : zok N w) (hh : -2147483648 ≤ h ∧ h < 2147483648) (hn : τ 3553 6 = (n : Int)) (hn8 : n ≤ 8) (h7 : τ 3553 7 = 0 ∨ τ 3553 7 = 1) (K0 : ¬ (0 ≤ h ∧ h < w 0) → ∀ τ', zOp τ τ' w (1, 0, 0) → Q (.inl (some (.inl 0))) (3565, x, zrho) (zg τ' w)) (K1 : (0 ≤ h ∧ h < w 0) → ∀ τ', zOp τ τ' w (0, 0, 0) → Q (.inl (some (.inl (w 0 - 1)))) (3565, x, zrho) (zg τ' (aDrop h.toNat (wu w 201 0)))) : WM 157 [.inr (.inl (some 3553)), .inl h] (3565, x, zrho) (zg τ w) Q := by
  show Wp 157 0 [some (.inr (.inl (some 3553))), some (.inl h), none] [] _ _ Q
  have k := zm_k
  have k4 := zm_4
  have n4 := zm_n4
  have o0 := ok.1
  have ti := fun (Q : ZO → ZT → ZI → Prop) (τ : ZI) => t_isHoeM (Q := Q) (τ := τ) (x := x) (w := w) (h := h) hh o0
  by_cases c1 : 0 ≤ h ∧ h < w 0
  · rw [if_pos c1] at ti
    simp (disch := first | assumption | exact p_c2i | exact p_c2r | exact p_c2n | omega | ((repeat (first | refine p_a1i.trans ?_ | refine p_a1r.trans ?_)); exact p_a10) | ((repeat (first | refine p_wI ?_ | refine p_wR ?_)); exact p_w0) | decide) only [reduceIte, Int.reduceLT, Int.reduceLE, Int.reduceEq, Int.reduceToNat, Int.reduceAdd, Int.reduceSub, Int.reduceMul, Int.reduceNeg, e157_0, e157_1, e157_2, e157_3, e157_6, e157_9, e157_10, e157_13, e157_14, e157_17, e157_20, e157_21, e157_22, e157_23, p_al0, p_il1, p_cv1_0, p_cv1_1, p_cv1_2, p_cv1_3, p_cv1_4, zK_v, zK_0, WN_ncl, p_ifeq, p_push, p_goto, p_ret0, p_cv0_0, p_cv0_1, p_cv0_2, p_cv0_3, p_cv0_4, WN_nx, WN_nrt, WN_ite, ti, tf_0]
    refine t_kF8 hn hn8 h7 (fun τ' hk => ?_)
    rw [zK_0]
    obtain ⟨m, hm⟩ : ∃ m : Nat, w 0 = (m : Int) + 1 := ⟨(w 0 - 1).toNat, by omega⟩
    obtain ⟨i, hi⟩ : ∃ i : Nat, h = (i : Int) := ⟨h.toNat, by omega⟩
    subst hi
    have e2 : wu w 201 0 0 = (m : Int) + 1 := (wu_o (by omega)).trans hm
    have ea : (m : Int) + 1 - 1 = (m : Int) := by omega
    have er : 172 + 4 * (i : Int) = ((172 + 4 * i : Nat) : Int) := by omega
    simp (disch := first | assumption | exact p_c2i | exact p_c2r | exact p_c2n | omega | ((repeat (first | refine p_a1i.trans ?_ | refine p_a1r.trans ?_)); exact p_a10) | ((repeat (first | refine p_wI ?_ | refine p_wR ?_)); exact p_w0) | decide) only [reduceIte, Int.reduceLT, Int.reduceLE, Int.reduceEq, Int.reduceToNat, Int.reduceAdd, Int.reduceSub, Int.reduceMul, Int.reduceNeg, e157_26, e157_27, e157_30, e157_31, e157_32, e157_33, e157_34, e157_35, e157_36, e157_39, e157_40, e157_41, e157_42, e157_43, p_al0, p_getR, p_push, p_dup2, p_iald, p_bin, p_iast, p_il1, p_is2, p_c2n, p_c2i, p_c2r, WN_nx, WN_nrt, WN_ite, zm_r0, zg_s, zg_u, e2, ea, er]
    have hl := l_dropM (τ := τ') (Q := Q) (x := x) (w := wu (wu w 201 0) 0 (m : Int)) (h := i) (m := m) (c := (i : Int)) (by omega) (4 * m - 4 * i) (172 + 4 * i) none (Nat.le_refl _) (by omega) wu_s
    rw [zdr_0] at hl
    rw [hl]
    have z0 : zdr (wu (wu w 201 0) 0 (m : Int)) (172 + 4 * i) (172 + 4 * m) 0 = (m : Int) := (zdr_o (by omega)).trans wu_s
    have tl := fun (Q : ZO → ZT → ZI → Prop) (τ : ZI) (w : zW) (j v : Int) (h1 : 0 ≤ j) (h2 : j < 4) => t_laysM (Q := Q) (x := x) (τ := τ) (w := w) (h := m) (j := j) (v := v) (by omega) h1 h2
    have u1 : ∀ w : zW, ∀ k v, wu w (172 + 4 * m + k) v 0 = w 0 := fun w k v => wu_o (by omega)
    simp (disch := first | assumption | exact p_c2i | exact p_c2r | exact p_c2n | omega | ((repeat (first | refine p_a1i.trans ?_ | refine p_a1r.trans ?_)); exact p_a10) | ((repeat (first | refine p_wI ?_ | refine p_wR ?_)); exact p_w0) | decide) only [reduceIte, Int.reduceLT, Int.reduceLE, Int.reduceEq, Int.reduceToNat, Int.reduceAdd, Int.reduceSub, Int.reduceMul, Int.reduceNeg, e157_80, e157_81, e157_82, e157_83, e157_84, e157_87, e157_88, e157_89, e157_92, e157_93, e157_94, e157_95, e157_96, e157_99, e157_102, e157_105, e157_106, e157_109, e157_110, e157_111, p_push, p_is2, p_c2n, p_c2i, p_c2r, p_il2, p_cge, p_al0, p_getR, p_iald, p_cv3_0, p_cv3_1, p_cv3_2, p_cv3_3, p_cv3_4, zK_v, zK_0, WN_ncl, p_ii2, p_goto, p_ret0, WN_nx, WN_nrt, WN_ite, zm_r0, zg_s, zg_u, z0, tl, u1]
    have e := K1 c1 τ' hk
    rw [hm, ea, Int.toNat_natCast] at e
    have ed : wu (wu (wu (wu (zdr (wu (wu w 201 0) 0 (m : Int)) (172 + 4 * i) (172 + 4 * m)) (172 + 4 * m + 0) 0) (172 + 4 * m + 1) 0) (172 + 4 * m + 2) 0) (172 + 4 * m + 3) 0 = aDrop i (wu w 201 0) := by
      funext j
      unfold aDrop
      rw [e2, show ((m : Int) + 1).toNat = m + 1 by omega, show m + 1 - 1 = m by omega]
      by_cases j0 : j = 0
      · subst j0
        rw [if_pos rfl, wu_o (by omega), wu_o (by omega), wu_o (by omega), wu_o (by omega), z0, ea]
      · rw [if_neg j0]
        by_cases j1 : 172 + 4 * i ≤ j ∧ j < 172 + 4 * m
        · rw [if_pos j1, wu_o (by omega), wu_o (by omega), wu_o (by omega), wu_o (by omega)]
          unfold zdr
          rw [if_pos j1, wu_o (by omega)]
        · rw [if_neg j1]
          by_cases j2 : 172 + 4 * m ≤ j ∧ j < 172 + 4 * (m + 1)
          · rw [if_pos j2]
            have : j = 172 + 4 * m + 0 ∨ j = 172 + 4 * m + 1 ∨ j = 172 + 4 * m + 2 ∨ j = 172 + 4 * m + 3 := by omega
            rcases this with rfl | rfl | rfl | rfl
            · rw [wu_o (by omega), wu_o (by omega), wu_o (by omega), wu_s]
            · rw [wu_o (by omega), wu_o (by omega), wu_s]
            · rw [wu_o (by omega), wu_s]
            · rw [wu_s]
          · rw [if_neg j2, wu_o (by omega), wu_o (by omega), wu_o (by omega), wu_o (by omega), zdr_o j1, wu_o j0]
    rw [← ed] at e
    exact e
  · rw [if_neg c1] at ti
    simp (disch := first | assumption | exact p_c2i | exact p_c2r | exact p_c2n | omega | ((repeat (first | refine p_a1i.trans ?_ | refine p_a1r.trans ?_)); exact p_a10) | ((repeat (first | refine p_wI ?_ | refine p_wR ?_)); exact p_w0) | decide) only [reduceIte, Int.reduceLT, Int.reduceLE, Int.reduceEq, Int.reduceToNat, Int.reduceAdd, Int.reduceSub, Int.reduceMul, Int.reduceNeg, e157_0, e157_1, e157_2, e157_3, e157_6, e157_9, e157_10, e157_13, e157_14, e157_17, e157_20, e157_21, e157_22, e157_23, e157_26, e157_27, e157_30, e157_31, e157_32, e157_33, e157_34, e157_35, e157_36, e157_39, e157_40, e157_41, e157_42, e157_43, e157_44, e157_45, e157_48, e157_49, e157_50, e157_53, e157_54, e157_55, e157_56, e157_57, e157_60, e157_61, e157_64, e157_65, e157_66, e157_69, e157_70, e157_71, e157_72, e157_73, e157_74, e157_77, e157_80, e157_81, e157_82, e157_83, e157_84, e157_87, e157_88, e157_89, e157_92, e157_93, e157_94, e157_95, e157_96, e157_99, e157_102, e157_105, e157_106, e157_109, e157_110, e157_111, p_al0, p_il1, p_cv1_0, p_cv1_1, p_cv1_2, p_cv1_3, p_cv1_4, zK_v, zK_0, WN_ncl, p_ifeq, p_push, p_goto, p_ret0, p_cv0_0, p_cv0_1, p_cv0_2, p_cv0_3, p_cv0_4, p_getR, p_dup2, p_iald, p_bin, p_iast, p_is2, p_c2n, p_c2i, p_c2r, p_il2, p_cge, p_ii2, p_cv3_0, p_cv3_1, p_cv3_2, p_cv3_3, p_cv3_4, WN_nx, WN_nrt, WN_ite, ti, tf_1]
    exact K0 c1 _ (zOp_f (by decide))
theorem l_manyM {v : Int} (hv : 2 ≤ v ∧ v ≤ 4) (hb : ∀ c, c < 81 → 0 ≤ w (10 + c) ∧ w (10 + c) < 4) : ∀ n i : Nat, i + n = 81 → Wp 158 49 [some (.inr (.inl (some 3553))), some (.inl v), some (.inl (zct (fun c => decide (v ≤ w (10 + c))) i)), some (.inl ((i : Int)))] [] (3565, x, zrho) (zg τ (zmz w v i)) Q = Q (.inl (some (.inl (zct (fun c => decide (v ≤ w (10 + c))) 81)))) (3565, x, zrho) (zg τ (wu (zmz w v 81) 1 v)) := by
  have hk := zm_k
  have k4 := zm_4
  have n4 := zm_n4
  obtain ⟨hv1, hv2⟩ := hv
  intro n
  induction n with
  | zero =>
    intro i hi
    have e : i = 81 := by omega
    subst e
    simp (disch := first | assumption | exact p_c2i | exact p_c2r | exact p_c2n | omega | ((repeat (first | refine p_a1i.trans ?_ | refine p_a1r.trans ?_)); exact p_a10) | ((repeat (first | refine p_wI ?_ | refine p_wR ?_)); exact p_w0) | decide) only [reduceIte, Int.reduceLT, Int.reduceLE, Int.reduceEq, Int.reduceToNat, Int.reduceAdd, Int.reduceSub, Int.reduceMul, Int.reduceNeg, e158_49, e158_50, e158_52, e158_55, e158_56, e158_59, e158_61, e158_62, e158_63, e158_64, e158_65, e158_68, e158_71, e158_72, e158_75, e158_77, e158_78, e158_79, e158_80, e158_81, e158_84, e158_87, e158_90, e158_91, e158_94, e158_95, e158_96, e158_97, e158_98, p_il3, p_push, p_cge, p_al0, p_getR, p_bin, p_iald, p_il1, p_goto, p_iast, p_ii2, p_ii3, p_il2, p_ret0, WN_nx, WN_nrt, WN_ite, show ((81 : Nat) : Int) = 81 from rfl, zm_r0, zg_u]
  | succ n ih =>
    intro i hi
    have hi8 : ((i : Int) < 81) = True := eq_true (by omega)
    have e1 : (i : Int) + 1 = ((i + 1 : Nat) : Int) := by omega
    have ei : (10 + (i : Int)).toNat = 10 + i := by omega
    have ih2 := ih (i + 1) (by omega)
    have b1 := hb i (by omega)
    have g := zmz_i (w := w) (v := v) (i := i)
    have ci := zct_in (p := fun c => decide (v ≤ w (10 + c))) i
    by_cases hcc : v ≤ w (10 + i)
    · have hlt : (w (10 + i) < v) = False := eq_false (by omega)
      have u := zmz_1 (w := w) (v := v) (i := i) hcc
      rw [e158_49]
      simp (disch := first | assumption | exact p_c2i | exact p_c2r | exact p_c2n | omega | ((repeat (first | refine p_a1i.trans ?_ | refine p_a1r.trans ?_)); exact p_a10) | ((repeat (first | refine p_wI ?_ | refine p_wR ?_)); exact p_w0) | decide) only [reduceIte, Int.reduceLT, Int.reduceLE, Int.reduceEq, Int.reduceToNat, Int.reduceAdd, Int.reduceSub, Int.reduceMul, Int.reduceNeg, e158_50, e158_52, e158_55, e158_56, e158_59, e158_61, e158_62, e158_63, e158_64, e158_65, e158_68, e158_71, e158_72, e158_75, e158_77, e158_78, e158_79, e158_80, e158_81, e158_84, e158_87, p_il3, p_push, p_cge, p_al0, p_getR, p_bin, p_iald, p_il1, p_goto, p_iast, p_ii2, p_ii3, WN_nx, WN_nrt, WN_ite, zm_r0, zg_s, zg_u, hi8, ei, g, hlt, e1, u]
      rw [← ih2, zct_s, if_pos (decide_eq_true hcc)]
    · have hlt : (w (10 + i) < v) = True := eq_true (by omega)
      have u := zmz_2 (w := w) (v := v) (i := i) hcc
      rw [e158_49]
      simp (disch := first | assumption | exact p_c2i | exact p_c2r | exact p_c2n | omega | ((repeat (first | refine p_a1i.trans ?_ | refine p_a1r.trans ?_)); exact p_a10) | ((repeat (first | refine p_wI ?_ | refine p_wR ?_)); exact p_w0) | decide) only [reduceIte, Int.reduceLT, Int.reduceLE, Int.reduceEq, Int.reduceToNat, Int.reduceAdd, Int.reduceSub, Int.reduceMul, Int.reduceNeg, e158_50, e158_52, e158_55, e158_56, e158_59, e158_61, e158_62, e158_63, e158_64, e158_65, e158_68, e158_71, e158_72, e158_75, e158_77, e158_78, e158_79, e158_80, e158_81, e158_84, e158_87, p_il3, p_push, p_cge, p_al0, p_getR, p_bin, p_iald, p_il1, p_goto, p_iast, p_ii2, p_ii3, WN_nx, WN_nrt, WN_ite, zm_r0, zg_s, zg_u, hi8, ei, g, hlt, e1]
      rw [← ih2, u, zct_s, if_neg (by rw [decide_eq_true_iff]; exact hcc), Int.add_zero]
theorem t_coloursM {v : Int} (ok : zok N w) (hv : -2147483648 ≤ v ∧ v < 2147483648) (hn : τ 3553 6 = (n : Int)) (hn8 : n ≤ 8) (h7 : τ 3553 7 = 0 ∨ τ 3553 7 = 1) (K0 : (oMany w v).1 ≠ 0 → ∀ τ', zOp τ τ' w (oMany w v) → Q (.inl (some (.inl 0))) (3565, x, zrho) (zg τ' w)) (K1 : (oMany w v).1 = 0 → ∀ τ', zOp τ τ' w (0, 0, 0) → Q (.inl (some (.inl (zct (fun c => decide (v ≤ w (10 + c))) 81)))) (3565, x, zrho) (zg τ' (aMany v (wu w 201 0)))) : WM 158 [.inr (.inl (some 3553)), .inl v] (3565, x, zrho) (zg τ w) Q := by
  show Wp 158 0 [some (.inr (.inl (some 3553))), some (.inl v), none, none] [] _ _ Q
  have k := zm_k
  have k4 := zm_4
  have n4 := zm_n4
  have o1 := ok.2.1
  have ti := fun (Q : ZO → ZT → ZI → Prop) (σ : ZI) (θ : ZT) => t_in (Q := Q) (θ := θ) (σ := σ) (a := v) (b := 2) (c := 4) hv (by omega) (by omega)
  obtain ⟨hv1, hv2⟩ := hv
  unfold oMany at K0 K1
  by_cases c1 : 2 ≤ v ∧ v ≤ 4
  · rw [if_pos c1] at ti
    rw [if_neg (fun z => z c1)] at K0 K1
    by_cases c2 : v = w 1
    · rw [if_pos c2] at K0
      have c3 : (v = w 1) = True := eq_true c2
      simp (disch := first | assumption | exact p_c2i | exact p_c2r | exact p_c2n | omega | ((repeat (first | refine p_a1i.trans ?_ | refine p_a1r.trans ?_)); exact p_a10) | ((repeat (first | refine p_wI ?_ | refine p_wR ?_)); exact p_w0) | decide) only [reduceIte, Int.reduceLT, Int.reduceLE, Int.reduceEq, Int.reduceToNat, Int.reduceAdd, Int.reduceSub, Int.reduceMul, Int.reduceNeg, e158_0, e158_1, e158_2, e158_3, e158_4, e158_7, e158_10, e158_11, e158_14, e158_15, e158_18, e158_21, e158_22, e158_23, e158_24, e158_25, e158_28, e158_29, e158_30, e158_33, e158_34, e158_35, e158_36, e158_37, e158_40, e158_41, e158_42, e158_45, e158_46, e158_47, e158_48, e158_49, e158_50, e158_52, e158_55, e158_56, e158_59, e158_61, e158_62, e158_63, e158_64, e158_65, e158_68, e158_71, e158_72, e158_75, e158_77, e158_78, e158_79, e158_80, e158_81, e158_84, e158_87, e158_90, e158_91, e158_94, e158_95, e158_96, e158_97, e158_98, p_al0, p_il1, p_push, p_cs3_0, p_cs3_1, p_cs3_2, p_cs3_3, p_cs3_4, zK_v, zK_0, WN_ncl, p_ifeq, p_goto, p_cv1_0, p_cv1_1, p_cv1_2, p_cv1_3, p_cv1_4, p_ret0, p_getR, p_iald, p_cne, p_cv3_0, p_cv3_1, p_cv3_2, p_cv3_3, p_cv3_4, p_cv0_0, p_cv0_1, p_cv0_2, p_cv0_3, p_cv0_4, p_is2, p_c2n, p_c2i, p_c2r, p_is3, p_il3, p_cge, p_bin, p_iast, p_ii2, p_ii3, p_il2, WN_nx, WN_nrt, WN_ite, ti, tf_0, zm_r0, zg_s, c3, t_refuses]
      exact K0 (show (2 : Int) ≠ 0 by decide) _ (zOp_8 (zOp_r1 (by decide) (by decide)))
    · rw [if_neg c2] at K1
      simp (disch := first | assumption | exact p_c2i | exact p_c2r | exact p_c2n | omega | ((repeat (first | refine p_a1i.trans ?_ | refine p_a1r.trans ?_)); exact p_a10) | ((repeat (first | refine p_wI ?_ | refine p_wR ?_)); exact p_w0) | decide) only [reduceIte, Int.reduceLT, Int.reduceLE, Int.reduceEq, Int.reduceToNat, Int.reduceAdd, Int.reduceSub, Int.reduceMul, Int.reduceNeg, e158_0, e158_1, e158_2, e158_3, e158_4, e158_7, e158_10, e158_11, e158_14, e158_15, e158_18, e158_21, e158_22, e158_23, e158_24, e158_25, e158_28, e158_29, e158_30, e158_33, e158_34, e158_35, e158_36, e158_37, e158_40, e158_41, e158_42, p_al0, p_il1, p_push, p_cs3_0, p_cs3_1, p_cs3_2, p_cs3_3, p_cs3_4, zK_v, zK_0, WN_ncl, p_ifeq, p_goto, p_cv1_0, p_cv1_1, p_cv1_2, p_cv1_3, p_cv1_4, p_ret0, p_getR, p_iald, p_cne, p_cv3_0, p_cv3_1, p_cv3_2, p_cv3_3, p_cv3_4, p_cv0_0, p_cv0_1, p_cv0_2, p_cv0_3, p_cv0_4, WN_nx, WN_nrt, WN_ite, ti, tf_0, zm_r0, zg_s, c2]
      refine t_kF8 hn hn8 h7 (fun τ' hk => ?_)
      rw [zK_0]
      simp (disch := first | assumption | exact p_c2i | exact p_c2r | exact p_c2n | omega | ((repeat (first | refine p_a1i.trans ?_ | refine p_a1r.trans ?_)); exact p_a10) | ((repeat (first | refine p_wI ?_ | refine p_wR ?_)); exact p_w0) | decide) only [reduceIte, Int.reduceLT, Int.reduceLE, Int.reduceEq, Int.reduceToNat, Int.reduceAdd, Int.reduceSub, Int.reduceMul, Int.reduceNeg, e158_45, e158_46, e158_47, e158_48, p_push, p_is2, p_c2n, p_c2i, p_c2r, p_is3, WN_nx, WN_nrt, WN_ite]
      have hl := l_manyM (τ := τ') (Q := Q) (x := x) (w := wu w 201 0) (v := v) c1 (fun c hc => by rw [wu_o (by omega)]; have := ok.2.2.2.2.2.2.2.1 c hc; omega) 81 0 rfl
      rw [zmz_0] at hl
      refine Eq.mpr hl ?_
      have e := K1 rfl τ' hk
      have ez : zct (fun c => decide (v ≤ wu w 201 0 (10 + c))) 81 = zct (fun c => decide (v ≤ w (10 + c))) 81 := by
        have : ∀ n, n ≤ 81 → zct (fun c => decide (v ≤ wu w 201 0 (10 + c))) n = zct (fun c => decide (v ≤ w (10 + c))) n := by
          intro n
          induction n with
          | zero => intro _; rfl
          | succ n ih => intro h; rw [zct_s, zct_s, ih (by omega), wu_o (by omega)]
        exact this 81 (Nat.le_refl _)
      have er : wu (zmz (wu w 201 0) v 81) 1 v = aMany v (wu w 201 0) := by
        funext j
        unfold aMany
        by_cases j1 : j = 1
        · subst j1; rw [wu_s, if_pos rfl]
        · rw [wu_o j1, if_neg j1]
          rfl
      rw [ez, er]
      exact e
  · rw [if_neg c1] at ti
    rw [if_pos c1] at K0
    simp (disch := first | assumption | exact p_c2i | exact p_c2r | exact p_c2n | omega | ((repeat (first | refine p_a1i.trans ?_ | refine p_a1r.trans ?_)); exact p_a10) | ((repeat (first | refine p_wI ?_ | refine p_wR ?_)); exact p_w0) | decide) only [reduceIte, Int.reduceLT, Int.reduceLE, Int.reduceEq, Int.reduceToNat, Int.reduceAdd, Int.reduceSub, Int.reduceMul, Int.reduceNeg, e158_0, e158_1, e158_2, e158_3, e158_4, e158_7, e158_10, e158_11, e158_14, e158_15, e158_18, e158_21, e158_22, e158_23, e158_24, e158_25, e158_28, e158_29, e158_30, e158_33, e158_34, e158_35, e158_36, e158_37, e158_40, e158_41, e158_42, e158_45, e158_46, e158_47, e158_48, e158_49, e158_50, e158_52, e158_55, e158_56, e158_59, e158_61, e158_62, e158_63, e158_64, e158_65, e158_68, e158_71, e158_72, e158_75, e158_77, e158_78, e158_79, e158_80, e158_81, e158_84, e158_87, e158_90, e158_91, e158_94, e158_95, e158_96, e158_97, e158_98, p_al0, p_il1, p_push, p_cs3_0, p_cs3_1, p_cs3_2, p_cs3_3, p_cs3_4, zK_v, zK_0, WN_ncl, p_ifeq, p_goto, p_cv1_0, p_cv1_1, p_cv1_2, p_cv1_3, p_cv1_4, p_ret0, p_getR, p_iald, p_cne, p_cv3_0, p_cv3_1, p_cv3_2, p_cv3_3, p_cv3_4, p_cv0_0, p_cv0_1, p_cv0_2, p_cv0_3, p_cv0_4, p_is2, p_c2n, p_c2i, p_c2r, p_is3, p_il3, p_cge, p_bin, p_iast, p_ii2, p_ii3, p_il2, WN_nx, WN_nrt, WN_ite, ti, tf_1]
    exact K0 (show (1 : Int) ≠ 0 by decide) _ (zOp_f (by decide))
theorem t_stepOM {v : Int} (ok : zSok N w) (hN : N ≤ 80000000) (hv : -2147483648 ≤ v ∧ v < 2147483648) (hn : τ 3553 6 = (n : Int)) (hn8 : n ≤ 8) (h7 : τ 3553 7 = 0 ∨ τ 3553 7 = 1) (K0 : (oStep w v).1 ≠ 0 → ∀ τ', zOp τ τ' w (oStep w v) → Q (.inl (some (.inl 0))) (3565, x, zrho) (zg τ' w)) (K1 : (oStep w v).1 = 0 → ∀ τ', zOp τ τ' w (0, 0, 0) → Q (.inl (some (.inl (aGS w v.toNat)))) (3565, x, zrho) (zg τ' (aStN v.toNat w))) : WM 173 [.inr (.inl (some 3553)), .inl v] (3565, x, zrho) (zg τ w) Q := by
  show Wp 173 0 [some (.inr (.inl (some 3553))), some (.inl v), none, none] [] _ _ Q
  have k := zm_k
  have k4 := zm_4
  have n4 := zm_n4
  have o0 := ok.2.2.1.1
  have ti := fun (Q : ZO → ZT → ZI → Prop) (σ : ZI) (θ : ZT) => t_in (Q := Q) (θ := θ) (σ := σ) (a := v) (b := 1) (c := 40) hv (by omega) (by omega)
  obtain ⟨hv1, hv2⟩ := hv
  unfold oStep at K0 K1
  by_cases c1 : 1 ≤ v ∧ v ≤ 40
  · rw [if_pos c1] at ti
    rw [if_neg (fun z => z c1)] at K0 K1
    by_cases c2 : w 0 = 0
    · rw [if_pos c2] at K0
      simp (disch := first | assumption | exact p_c2i | exact p_c2r | exact p_c2n | omega | ((repeat (first | refine p_a1i.trans ?_ | refine p_a1r.trans ?_)); exact p_a10) | ((repeat (first | refine p_wI ?_ | refine p_wR ?_)); exact p_w0) | decide) only [reduceIte, Int.reduceLT, Int.reduceLE, Int.reduceEq, Int.reduceToNat, Int.reduceAdd, Int.reduceSub, Int.reduceMul, Int.reduceNeg, e173_0, e173_1, e173_2, e173_3, e173_5, e173_8, e173_11, e173_12, e173_15, e173_16, e173_19, e173_22, e173_23, e173_24, e173_25, e173_28, e173_29, e173_30, e173_33, e173_34, e173_35, e173_36, e173_37, e173_40, e173_41, e173_42, e173_45, p_al0, p_il1, p_push, p_cs3_0, p_cs3_1, p_cs3_2, p_cs3_3, p_cs3_4, zK_v, zK_0, WN_ncl, p_ifeq, p_goto, p_cv1_0, p_cv1_1, p_cv1_2, p_cv1_3, p_cv1_4, p_ret0, p_getR, p_iald, p_ifne, p_cv3_0, p_cv3_1, p_cv3_2, p_cv3_3, p_cv3_4, WN_nx, WN_nrt, WN_ite, ti, tf_0, zm_r0, zg_s, c2, t_refuses]
      exact K0 (show (2 : Int) ≠ 0 by decide) _ (zOp_8 (zOp_r1 (by decide) (by decide)))
    · rw [if_neg c2] at K1
      simp (disch := first | assumption | exact p_c2i | exact p_c2r | exact p_c2n | omega | ((repeat (first | refine p_a1i.trans ?_ | refine p_a1r.trans ?_)); exact p_a10) | ((repeat (first | refine p_wI ?_ | refine p_wR ?_)); exact p_w0) | decide) only [reduceIte, Int.reduceLT, Int.reduceLE, Int.reduceEq, Int.reduceToNat, Int.reduceAdd, Int.reduceSub, Int.reduceMul, Int.reduceNeg, e173_0, e173_1, e173_2, e173_3, e173_5, e173_8, e173_11, e173_12, e173_15, e173_16, e173_19, e173_22, e173_23, e173_24, e173_25, e173_28, e173_29, e173_30, e173_33, e173_34, e173_35, e173_36, e173_37, e173_40, e173_41, e173_42, e173_45, e173_46, e173_47, e173_48, e173_51, p_al0, p_il1, p_push, p_cs3_0, p_cs3_1, p_cs3_2, p_cs3_3, p_cs3_4, zK_v, zK_0, WN_ncl, p_ifeq, p_goto, p_cv1_0, p_cv1_1, p_cv1_2, p_cv1_3, p_cv1_4, p_ret0, p_getR, p_iald, p_ifne, p_cv3_0, p_cv3_1, p_cv3_2, p_cv3_3, p_cv3_4, WN_nx, WN_nrt, WN_ite, ti, tf_0, zm_r0, zg_s, c2]
      refine t_keeps k4 n4 (by omega) (n := n) (by rw [zg_o3, zup_j (by omega)]; exact hn) hn8 (by rw [zg_o3, zup_j (by omega)]; exact h7) (fun σ' hk => ?_)
      rw [zg_s] at hk
      rw [zK_0, hk.isg]
      obtain ⟨m, hm⟩ : ∃ m : Nat, v = (m : Int) := ⟨v.toNat, by omega⟩
      subst hm
      simp (disch := first | assumption | exact p_c2i | exact p_c2r | exact p_c2n | omega | ((repeat (first | refine p_a1i.trans ?_ | refine p_a1r.trans ?_)); exact p_a10) | ((repeat (first | refine p_wI ?_ | refine p_wR ?_)); exact p_w0) | decide) only [reduceIte, Int.reduceLT, Int.reduceLE, Int.reduceEq, Int.reduceToNat, Int.reduceAdd, Int.reduceSub, Int.reduceMul, Int.reduceNeg, e173_54, e173_55, e173_56, e173_57, p_push, p_is2, p_c2n, p_c2i, p_c2r, p_is3, WN_nx, WN_nrt, WN_ite]
      refine Eq.mpr (l_stepM (τ := σ') (Q := Q) (x := x) (m := m) ok hN (by omega) m 0 (by omega)) ?_
      exact K1 rfl σ' (zOp_8 (zOp_k hk))
  · rw [if_neg c1] at ti
    rw [if_pos c1] at K0
    simp (disch := first | assumption | exact p_c2i | exact p_c2r | exact p_c2n | omega | ((repeat (first | refine p_a1i.trans ?_ | refine p_a1r.trans ?_)); exact p_a10) | ((repeat (first | refine p_wI ?_ | refine p_wR ?_)); exact p_w0) | decide) only [reduceIte, Int.reduceLT, Int.reduceLE, Int.reduceEq, Int.reduceToNat, Int.reduceAdd, Int.reduceSub, Int.reduceMul, Int.reduceNeg, e173_0, e173_1, e173_2, e173_3, e173_5, e173_8, e173_11, e173_12, e173_15, e173_16, e173_19, e173_22, e173_23, p_al0, p_il1, p_push, p_cs3_0, p_cs3_1, p_cs3_2, p_cs3_3, p_cs3_4, zK_v, zK_0, WN_ncl, p_ifeq, p_goto, p_cv1_0, p_cv1_1, p_cv1_2, p_cv1_3, p_cv1_4, p_ret0, WN_nx, WN_nrt, WN_ite, ti, tf_1]
    exact K0 (show (1 : Int) ≠ 0 by decide) _ (zOp_f (by decide))
theorem t_backM (ok : zSok N w) (hN : N ≤ 80000000) (hn : τ 3553 6 = (n : Int)) (hn8 : n ≤ 8) (h7 : τ 3553 7 = 0 ∨ τ 3553 7 = 1) (K0 : (oBack w).1 ≠ 0 → ∀ τ', zOp τ τ' w (oBack w) → Q (.inl (some (.inl 0))) (3565, x, zrho) (zg τ' w)) (K1 : (oBack w).1 = 0 → ∀ τ', zOp τ τ' w (0, 0, 0) → Q (.inl (some (.inl (w 201 - 1)))) (3565, x, zrho) (zg τ' (aTake w))) : WM 174 [.inr (.inl (some 3553))] (3565, x, zrho) (zg τ w) Q := by
  show Wp 174 0 [some (.inr (.inl (some 3553)))] [] _ _ Q
  have k := zm_k
  have k4 := zm_4
  have n4 := zm_n4
  have o1 := ok.1
  unfold oBack at K0 K1
  by_cases c1 : w 201 = 0
  · rw [if_pos c1] at K0
    simp (disch := first | assumption | exact p_c2i | exact p_c2r | exact p_c2n | omega | ((repeat (first | refine p_a1i.trans ?_ | refine p_a1r.trans ?_)); exact p_a10) | ((repeat (first | refine p_wI ?_ | refine p_wR ?_)); exact p_w0) | decide) only [reduceIte, Int.reduceLT, Int.reduceLE, Int.reduceEq, Int.reduceToNat, Int.reduceAdd, Int.reduceSub, Int.reduceMul, Int.reduceNeg, e174_0, e174_1, e174_4, e174_7, e174_8, e174_11, e174_12, e174_13, e174_14, e174_15, e174_18, e174_21, e174_22, e174_25, e174_26, e174_27, e174_28, e174_31, e174_34, e174_35, e174_38, e174_41, e174_42, e174_43, e174_44, e174_45, e174_46, e174_47, e174_50, e174_53, e174_54, e174_55, e174_56, e174_57, e174_58, e174_59, e174_62, e174_65, e174_68, e174_69, e174_72, e174_75, e174_76, e174_77, e174_78, e174_79, e174_82, e174_83, e174_86, e174_89, e174_90, e174_93, e174_96, e174_97, p_al0, p_getR, p_push, p_iald, p_ifne, p_cv3_0, p_cv3_1, p_cv3_2, p_cv3_3, p_cv3_4, zK_v, zK_0, WN_ncl, p_ret0, p_cv1_0, p_cv1_1, p_cv1_2, p_cv1_3, p_cv1_4, p_dup2, p_bin, p_iast, p_cs5_0, p_cs5_1, p_cs5_2, p_cs5_3, p_cs5_4, WN_nx, WN_nrt, WN_ite, zm_r0, zg_s, c1, t_refuses]
    exact K0 (show (1 : Int) ≠ 0 by decide) _ (zOp_r1 (by decide) (by decide))
  · rw [if_neg c1] at K1
    simp (disch := first | assumption | exact p_c2i | exact p_c2r | exact p_c2n | omega | ((repeat (first | refine p_a1i.trans ?_ | refine p_a1r.trans ?_)); exact p_a10) | ((repeat (first | refine p_wI ?_ | refine p_wR ?_)); exact p_w0) | decide) only [reduceIte, Int.reduceLT, Int.reduceLE, Int.reduceEq, Int.reduceToNat, Int.reduceAdd, Int.reduceSub, Int.reduceMul, Int.reduceNeg, e174_0, e174_1, e174_4, e174_7, e174_8, e174_11, e174_12, e174_13, e174_14, e174_15, e174_18, e174_21, e174_22, e174_25, e174_26, e174_27, e174_28, e174_31, p_al0, p_getR, p_push, p_iald, p_ifne, p_cv3_0, p_cv3_1, p_cv3_2, p_cv3_3, p_cv3_4, zK_v, zK_0, WN_ncl, p_ret0, p_cv1_0, p_cv1_1, p_cv1_2, p_cv1_3, p_cv1_4, WN_nx, WN_nrt, WN_ite, zm_r0, zg_s, c1]
    refine t_keeps k4 n4 (by omega) (n := n) (by rw [zg_o3]; exact hn) hn8 (by rw [zg_o3]; exact h7) (fun σ' hk => ?_)
    rw [zg_s] at hk
    rw [zK_0, hk.isg]
    obtain ⟨m, hm⟩ : ∃ m : Nat, w 201 = (m : Int) + 1 := ⟨(w 201 - 1).toNat, by omega⟩
    have ea : (m : Int) + 1 - 1 = (m : Int) := by omega
    have u1 : wu w 201 (m : Int) 200 = w 200 := wu_o (by omega)
    have u2 : wu (wu w 201 (m : Int)) 200 (w 200 + 1) 201 = (m : Int) := by rw [wu_o (by omega), wu_s]
    have t2 := fun (Q : ZO → ZT → ZI → Prop) (w : zW) => t_copG (Q := Q) (τ := σ') (w := w) (x := x) (p := 202 + 200 * (m : Int)) (q := 0) (m := 200) (by omega) (by omega) (by omega) (by omega) (by omega) (by omega)
    rw [show (0 : Int).toNat = 0 from rfl, show (202 + 200 * (m : Int)).toNat = 202 + 200 * m by omega, show (200 : Int).toNat = 200 from rfl] at t2
    have et := aTake_e hm
    have u3 : aTake w 201 = (m : Int) := by
      unfold aTake
      rw [if_neg (by omega), if_neg (by omega), if_pos rfl, hm, ea]
    simp (disch := first | assumption | exact p_c2i | exact p_c2r | exact p_c2n | omega | ((repeat (first | refine p_a1i.trans ?_ | refine p_a1r.trans ?_)); exact p_a10) | ((repeat (first | refine p_wI ?_ | refine p_wR ?_)); exact p_w0) | decide) only [reduceIte, Int.reduceLT, Int.reduceLE, Int.reduceEq, Int.reduceToNat, Int.reduceAdd, Int.reduceSub, Int.reduceMul, Int.reduceNeg, e174_34, e174_35, e174_38, e174_41, e174_42, e174_43, e174_44, e174_45, e174_46, e174_47, e174_50, e174_53, e174_54, e174_55, e174_56, e174_57, e174_58, e174_59, e174_62, e174_65, e174_68, e174_69, e174_72, e174_75, e174_76, e174_77, e174_78, e174_79, e174_82, e174_83, e174_86, e174_89, e174_90, e174_93, e174_96, e174_97, p_al0, p_getR, p_push, p_dup2, p_iald, p_bin, p_iast, p_cs5_0, p_cs5_1, p_cs5_2, p_cs5_3, p_cs5_4, zK_v, zK_0, WN_ncl, p_ret0, WN_nx, WN_nrt, WN_ite, zm_r0, zg_s, zg_u, hm, ea, u1, u2, t2, et, u3]
    have e := K1 rfl σ' (zOp_k hk)
    rw [hm, ea] at e
    exact e
end
