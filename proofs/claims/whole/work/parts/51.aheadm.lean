/-! THE MODEL: looking ahead -/
/-- the first 200 of the row are spared -/
def zsp (τ : ZI) (w : zW) : ZI := fun a j => if a = 3558 ∧ j < 200 then w j else τ a j
theorem zsp_f {τ : ZI} {w : zW} {a : Nat} (h : a ≠ 3558) : zsp τ w a = τ a := funext fun _ => if_neg (fun z => h z.1)
theorem zm_8 : zkd 3558 = 10 := rfl
theorem zm_n8 : zln 3558 = 6202 := rfl
/-- a question was asked, with a code -/
def zQy (τ τ' : ZI) (p : Int) : Prop := τ' 3553 8 = p ∧ (∀ k, k ≠ 8 → τ' 3553 k = τ 3553 k) ∧ ∀ a, a ≠ 3553 → a ≠ 3554 → a ≠ 3558 → a ≠ 3561 → a ≠ 3562 → τ' a = τ a
theorem zQy_f {τ : ZI} {p : Int} : zQy τ (zup τ 3553 8 p) p := ⟨zup_s, fun k h => zup_j h, fun a h _ _ _ _ => zup_f h⟩
theorem zQy_8 {τ τ' : ZI} {p c : Int} (h : zQy (zup τ 3553 8 c) τ' p) : zQy τ τ' p := ⟨h.1, fun k hk => (h.2.1 k hk).trans (zup_j hk), fun a h1 h2 h3 h4 h5 => (h.2.2 a h1 h2 h3 h4 h5).trans (zup_f h1)⟩
theorem zQy_s {τ τ' : ZI} {w : zW} {p : Int} (h : zQy (zsp τ w) τ' p) : zQy τ τ' p := ⟨h.1, fun k hk => (h.2.1 k hk).trans (by rw [zsp_f (by omega)]), fun a h1 h2 h3 h4 h5 => (h.2.2 a h1 h2 h3 h4 h5).trans (zsp_f h3)⟩
theorem zQy_0 {τ : ZI} {w : zW} {c : Int} : zQy τ (zsp (zup τ 3553 8 c) w) c := zQy_8 ⟨by rw [zsp_f (by omega)]; exact zup_s, fun k hk => by rw [zsp_f (by omega)], fun a h1 h2 h3 h4 h5 => zsp_f h3⟩
section
variable {τ : ZI} {Q : ZO → ZT → ZI → Prop} {x n : Nat} {w w' : zW} {N : Int}
theorem t_save : WM 147 [.inr (.inl (some 3554)), .inl 0, .inr (.inl (some 3558)), .inl 0, .inl 200] (3565, x, zrho) (zg τ w) Q = Q (.inl none) (3565, x, zrho) (zg (zsp τ w) w) := by
  have t := t_copies (Q := Q) (σ := zg τ w) (x := x) (a := 3554) (b := 3558) (p := 0) (q := 0) (m := 200) zm_4 zm_8 (by omega) (by omega) (by omega) (by rw [zm_n4]; omega) (by rw [zm_n8]; omega) (by omega) (by omega) (Or.inl (by omega))
  rw [t]
  have e : zcpy (zg τ w) 3554 (0 : Int).toNat 3558 (0 : Int).toNat (200 : Int).toNat = zg (zsp τ w) w := by
    funext a j
    show (if a = 3558 ∧ 0 ≤ j ∧ j < 0 + 200 then zg τ w 3554 (0 + (j - 0)) else zg τ w a j) = zg (zsp τ w) w a j
    rw [zg_s]
    unfold zg zsp
    by_cases h : a = 3558 ∧ j < 200
    · rw [if_pos ⟨h.1, by omega, by omega⟩, if_neg (by omega), if_pos h]
      exact congrArg w (show 0 + (j - 0) = j by omega)
    · rw [if_neg (fun z => h ⟨z.1, by omega⟩), if_neg h]
  rw [e]
theorem t_rest (hs : ∀ j, j < 200 → τ 3558 j = w j) (he : ∀ j, 200 ≤ j → w' j = w j) : WM 147 [.inr (.inl (some 3558)), .inl 0, .inr (.inl (some 3554)), .inl 0, .inl 200] (3565, x, zrho) (zg τ w') Q = Q (.inl none) (3565, x, zrho) (zg τ w) := by
  have t := t_copies (Q := Q) (σ := zg τ w') (x := x) (a := 3558) (b := 3554) (p := 0) (q := 0) (m := 200) zm_8 zm_4 (by omega) (by omega) (by omega) (by rw [zm_n8]; omega) (by rw [zm_n4]; omega) (by omega) (by omega) (Or.inl (by omega))
  rw [t]
  have e : zcpy (zg τ w') 3558 (0 : Int).toNat 3554 (0 : Int).toNat (200 : Int).toNat = zg τ w := by
    funext a j
    show (if a = 3554 ∧ 0 ≤ j ∧ j < 0 + 200 then zg τ w' 3558 (0 + (j - 0)) else zg τ w' a j) = zg τ w a j
    rw [zg_o (by omega)]
    unfold zg
    by_cases h : a = 3554
    · by_cases h2 : j < 200
      · rw [if_pos ⟨h, by omega, by omega⟩, if_pos h, show 0 + (j - 0) = j by omega]
        exact hs j h2
      · rw [if_neg (fun z => h2 (by omega)), if_pos h, if_pos h]
        exact he j (by omega)
    · rw [if_neg (fun z => h z.1), if_neg h, if_neg h]
  rw [e]
theorem zsp_s {j : Nat} (h : j < 200) : zsp τ w 3558 j = w j := if_pos ⟨rfl, h⟩
theorem l_willBeM {h m : Nat} (ok : zok N w) (hN : N ≤ 80000000) (hh : (h : Int) < w 0) (hm : m ≤ 200) : ∀ (n i : Nat) (s : Int), i + n = m → 0 ≤ s → s ≤ 4 * i → Wp 188 58 [some (.inr (.inl (some 3553))), some (.inl ((h : Int))), some (.inl ((m : Int))), some (.inl s), some (.inl ((i : Int)))] [] (3565, x, zrho) (zg (zsp τ w) (aIt i w)) Q = Q (.inl (some (.inl (aIt m w (172 + 4 * h))))) (3565, x, zrho) (zg (zsp τ w) w) := by
  have hk := zm_k
  have o0 := ok.1
  intro n
  induction n with
  | zero =>
    intro i s hi h1 h2
    have e : i = m := by omega
    subst e
    obtain ⟨g1, g2, g3⟩ := aIt_ok ok i
    have c1 : ((i : Int) < (i : Int)) = False := eq_false (by omega)
    have c2 : (s < 0) = False := eq_false (by omega)
    have to := fun (Q : ZO → ZT → ZI → Prop) => t_ofM (Q := Q) (x := x) (τ := zsp τ w) (w := aIt i w) (h := h) (j := 0) (by omega) (by omega) (by omega)
    rw [show 172 + 4 * h + Int.toNat 0 = 172 + 4 * h from rfl] at to
    have tr := fun (Q : ZO → ZT → ZI → Prop) => t_rest (τ := zsp τ w) (Q := Q) (x := x) (w := w) (w' := aIt i w) (fun j hj => zsp_s hj) g3
    simp (disch := first | assumption | exact p_c2i | exact p_c2r | exact p_c2n | omega | ((repeat (first | refine p_a1i.trans ?_ | refine p_a1r.trans ?_)); exact p_a10) | ((repeat (first | refine p_wI ?_ | refine p_wR ?_)); exact p_w0) | decide) only [reduceIte, Int.reduceLT, Int.reduceLE, Int.reduceEq, Int.reduceToNat, Int.reduceAdd, Int.reduceSub, Int.reduceMul, Int.reduceNeg, e188_58, e188_60, e188_61, e188_77, e188_78, e188_81, e188_82, e188_85, e188_86, e188_87, e188_88, e188_91, e188_93, e188_94, e188_97, e188_98, e188_99, e188_102, e188_103, e188_106, e188_109, e188_111, p_il4, p_il2, p_cge, p_il3, p_ifge, p_push, p_goto, p_al0, p_il1, p_cv2_0, p_cv2_1, p_cv2_2, p_cv2_3, p_cv2_4, zK_v, zK_0, WN_ncl, p_is4, p_c2n, p_c2i, p_c2r, p_getR, p_cs5_0, p_cs5_1, p_cs5_2, p_cs5_3, p_cs5_4, p_ret0, WN_nx, WN_nrt, WN_ite, c1, c2, to, zm_r0, zm_r4, tr]
  | succ n ih =>
    intro i s hi h1 h2
    obtain ⟨g1, g2, g3⟩ := aIt_ok ok i
    have c1 : ((i : Int) < (m : Int)) = True := eq_true (by omega)
    have e1 : (i : Int) + 1 = ((i + 1 : Nat) : Int) := by omega
    have ts := fun (Q : ZO → ZT → ZI → Prop) => t_stepsOnceM (Q := Q) (x := x) (τ := zsp τ w) (w := aIt i w) g1 (by omega)
    rw [g2] at ts
    have hg := aGN_in (w := aIt i w) (w 0).toNat
    rw [e188_58]
    simp (disch := first | assumption | exact p_c2i | exact p_c2r | exact p_c2n | omega | ((repeat (first | refine p_a1i.trans ?_ | refine p_a1r.trans ?_)); exact p_a10) | ((repeat (first | refine p_wI ?_ | refine p_wR ?_)); exact p_w0) | decide) only [reduceIte, Int.reduceLT, Int.reduceLE, Int.reduceEq, Int.reduceToNat, Int.reduceAdd, Int.reduceSub, Int.reduceMul, Int.reduceNeg, e188_60, e188_61, e188_64, e188_65, e188_66, e188_69, e188_70, e188_71, e188_74, p_il4, p_il2, p_cge, p_il3, p_al0, p_cv0_0, p_cv0_1, p_cv0_2, p_cv0_3, p_cv0_4, zK_v, zK_0, WN_ncl, p_bin, p_is3, p_c2n, p_c2i, p_c2r, p_ii4, p_goto, WN_nx, WN_nrt, WN_ite, c1, ts, e1]
    exact ih (i + 1) _ (by omega) (by omega) (by omega)
theorem t_willBeM {h v : Int} (ok : zok N w) (hN : N ≤ 80000000) (hh : -2147483648 ≤ h ∧ h < 2147483648) (hv : -2147483648 ≤ v ∧ v < 2147483648) (K1 : ¬ (0 ≤ h ∧ h < w 0) → ∀ τ' b, zQy τ τ' 1 → Q (.inl (some (.inl b))) (3565, x, zrho) (zg τ' w)) (K2 : (0 ≤ h ∧ h < w 0) → ¬ (0 ≤ v ∧ v ≤ 200) → ∀ τ' b, zQy τ τ' 2 → Q (.inl (some (.inl b))) (3565, x, zrho) (zg τ' w)) (K0 : (0 ≤ h ∧ h < w 0) → (0 ≤ v ∧ v ≤ 200) → ∀ τ', zQy τ τ' 0 → Q (.inl (some (.inl (aIt v.toNat w (172 + 4 * h.toNat))))) (3565, x, zrho) (zg τ' w)) : WM 188 [.inr (.inl (some 3553)), .inl h, .inl v] (3565, x, zrho) (zg τ w) Q := by
  show Wp 188 0 [some (.inr (.inl (some 3553))), some (.inl h), some (.inl v), none, none] [] _ _ Q
  have k := zm_k
  have o0 := ok.1
  have ti := fun (Q : ZO → ZT → ZI → Prop) (τ : ZI) => t_isHoeM (Q := Q) (τ := τ) (x := x) (w := w) (h := h) hh o0
  have tj := fun (Q : ZO → ZT → ZI → Prop) (σ : ZI) (θ : ZT) => t_in (Q := Q) (θ := θ) (σ := σ) (a := v) (b := 0) (c := 200) hv (by omega) (by omega)
  by_cases c1 : 0 ≤ h ∧ h < w 0
  · rw [if_pos c1] at ti
    by_cases c2 : 0 ≤ v ∧ v ≤ 200
    · rw [if_pos c2] at tj
      obtain ⟨i, hi⟩ : ∃ i : Nat, h = (i : Int) := ⟨h.toNat, by omega⟩
      obtain ⟨m, hm⟩ : ∃ m : Nat, v = (m : Int) := ⟨v.toNat, by omega⟩
      subst hi
      subst hm
      simp (disch := first | assumption | exact p_c2i | exact p_c2r | exact p_c2n | omega | ((repeat (first | refine p_a1i.trans ?_ | refine p_a1r.trans ?_)); exact p_a10) | ((repeat (first | refine p_wI ?_ | refine p_wR ?_)); exact p_w0) | decide) only [reduceIte, Int.reduceLT, Int.reduceLE, Int.reduceEq, Int.reduceToNat, Int.reduceAdd, Int.reduceSub, Int.reduceMul, Int.reduceNeg, e188_0, e188_1, e188_2, e188_3, e188_6, e188_9, e188_10, e188_13, e188_14, e188_15, e188_18, e188_21, e188_24, e188_25, e188_28, e188_29, e188_32, e188_35, e188_36, e188_37, e188_38, e188_41, e188_42, e188_43, e188_46, e188_47, e188_50, e188_53, e188_54, e188_55, e188_56, p_al0, p_il1, p_cv1_0, p_cv1_1, p_cv1_2, p_cv1_3, p_cv1_4, zK_v, zK_0, WN_ncl, p_ifne, p_push, p_goto, p_il2, p_cs3_0, p_cs3_1, p_cs3_2, p_cs3_3, p_cs3_4, p_ifeq, p_ret0, p_getR, p_cs5_0, p_cs5_1, p_cs5_2, p_cs5_3, p_cs5_4, p_is3, p_c2n, p_c2i, p_c2r, p_is4, WN_nx, WN_nrt, WN_ite, ti, tj, tf_0, zm_r0, zm_r4, t_save]
      refine Eq.mpr (l_willBeM (τ := zup τ 3553 8 0) (Q := Q) (x := x) (h := i) (m := m) ok hN c1.2 (by omega) m 0 0 (by omega) (by omega) (by omega)) ?_
      exact K0 c1 c2 _ zQy_0
    · rw [if_neg c2] at tj
      simp (disch := first | assumption | exact p_c2i | exact p_c2r | exact p_c2n | omega | ((repeat (first | refine p_a1i.trans ?_ | refine p_a1r.trans ?_)); exact p_a10) | ((repeat (first | refine p_wI ?_ | refine p_wR ?_)); exact p_w0) | decide) only [reduceIte, Int.reduceLT, Int.reduceLE, Int.reduceEq, Int.reduceToNat, Int.reduceAdd, Int.reduceSub, Int.reduceMul, Int.reduceNeg, e188_0, e188_1, e188_2, e188_3, e188_6, e188_9, e188_10, e188_13, e188_14, e188_15, e188_18, e188_21, e188_24, e188_25, e188_28, e188_29, e188_32, e188_35, e188_36, p_al0, p_il1, p_cv1_0, p_cv1_1, p_cv1_2, p_cv1_3, p_cv1_4, zK_v, zK_0, WN_ncl, p_ifne, p_push, p_goto, p_il2, p_cs3_0, p_cs3_1, p_cs3_2, p_cs3_3, p_cs3_4, p_ifeq, p_ret0, WN_nx, WN_nrt, WN_ite, ti, tj, tf_2]
      exact K2 c1 c2 _ _ zQy_f
  · rw [if_neg c1] at ti
    simp (disch := first | assumption | exact p_c2i | exact p_c2r | exact p_c2n | omega | ((repeat (first | refine p_a1i.trans ?_ | refine p_a1r.trans ?_)); exact p_a10) | ((repeat (first | refine p_wI ?_ | refine p_wR ?_)); exact p_w0) | decide) only [reduceIte, Int.reduceLT, Int.reduceLE, Int.reduceEq, Int.reduceToNat, Int.reduceAdd, Int.reduceSub, Int.reduceMul, Int.reduceNeg, e188_0, e188_1, e188_2, e188_3, e188_6, e188_9, e188_10, e188_13, e188_14, e188_15, e188_18, e188_21, e188_24, e188_25, e188_28, e188_29, e188_32, e188_35, e188_36, p_al0, p_il1, p_cv1_0, p_cv1_1, p_cv1_2, p_cv1_3, p_cv1_4, zK_v, zK_0, WN_ncl, p_ifne, p_push, p_goto, p_il2, p_cs3_0, p_cs3_1, p_cs3_2, p_cs3_3, p_cs3_4, p_ifeq, p_ret0, WN_nx, WN_nrt, WN_ite, ti, tf_1]
    exact K1 c1 _ _ zQy_f
theorem l_willMeetM {m : Nat} (ok : zok N w) (hN : N ≤ 80000000) (hm : m ≤ 200) : ∀ (n i : Nat) (s : Int), i + n = m → 0 ≤ s → s ≤ 4 * i → Wp 189 45 [some (.inr (.inl (some 3553))), some (.inl ((m : Int))), some (.inl s), some (.inl ((i : Int)))] [] (3565, x, zrho) (zg (zsp τ w) (aIt i w)) Q = Q (.inl (some (.inl (aIt m w 5 - w 5)))) (3565, x, zrho) (zg (zsp τ w) w) := by
  have hk := zm_k
  have k4 := zm_4
  have n4 := zm_n4
  have o0 := ok.1
  intro n
  induction n with
  | zero =>
    intro i s hi h1 h2
    have e : i = m := by omega
    subst e
    obtain ⟨g1, g2, g3⟩ := aIt_ok ok i
    have c1 : ((i : Int) < (i : Int)) = False := eq_false (by omega)
    have c2 : (s < 0) = False := eq_false (by omega)
    have tr := fun (Q : ZO → ZT → ZI → Prop) => t_rest (τ := zsp τ w) (Q := Q) (x := x) (w := w) (w' := aIt i w) (fun j hj => zsp_s hj) g3
    simp (disch := first | assumption | exact p_c2i | exact p_c2r | exact p_c2n | omega | ((repeat (first | refine p_a1i.trans ?_ | refine p_a1r.trans ?_)); exact p_a10) | ((repeat (first | refine p_wI ?_ | refine p_wR ?_)); exact p_w0) | decide) only [reduceIte, Int.reduceLT, Int.reduceLE, Int.reduceEq, Int.reduceToNat, Int.reduceAdd, Int.reduceSub, Int.reduceMul, Int.reduceNeg, e189_45, e189_46, e189_47, e189_63, e189_64, e189_67, e189_68, e189_71, e189_72, e189_75, e189_76, e189_77, e189_78, e189_79, e189_82, e189_83, e189_84, e189_87, e189_88, e189_91, e189_94, e189_95, e189_96, e189_99, e189_100, e189_101, e189_102, p_il3, p_il1, p_cge, p_il2, p_ifge, p_push, p_goto, p_al0, p_getR, p_iald, p_is3, p_c2n, p_c2i, p_c2r, p_cs5_0, p_cs5_1, p_cs5_2, p_cs5_3, p_cs5_4, zK_v, zK_0, WN_ncl, p_bin, p_ret0, WN_nx, WN_nrt, WN_ite, c1, c2, zm_r0, zm_r4, zg_s, tr]
  | succ n ih =>
    intro i s hi h1 h2
    obtain ⟨g1, g2, g3⟩ := aIt_ok ok i
    have c1 : ((i : Int) < (m : Int)) = True := eq_true (by omega)
    have e1 : (i : Int) + 1 = ((i + 1 : Nat) : Int) := by omega
    have ts := fun (Q : ZO → ZT → ZI → Prop) => t_stepsOnceM (Q := Q) (x := x) (τ := zsp τ w) (w := aIt i w) g1 (by omega)
    rw [g2] at ts
    have hg := aGN_in (w := aIt i w) (w 0).toNat
    rw [e189_45]
    simp (disch := first | assumption | exact p_c2i | exact p_c2r | exact p_c2n | omega | ((repeat (first | refine p_a1i.trans ?_ | refine p_a1r.trans ?_)); exact p_a10) | ((repeat (first | refine p_wI ?_ | refine p_wR ?_)); exact p_w0) | decide) only [reduceIte, Int.reduceLT, Int.reduceLE, Int.reduceEq, Int.reduceToNat, Int.reduceAdd, Int.reduceSub, Int.reduceMul, Int.reduceNeg, e189_46, e189_47, e189_50, e189_51, e189_52, e189_55, e189_56, e189_57, e189_60, p_il3, p_il1, p_cge, p_il2, p_al0, p_cv0_0, p_cv0_1, p_cv0_2, p_cv0_3, p_cv0_4, zK_v, zK_0, WN_ncl, p_bin, p_is2, p_c2n, p_c2i, p_c2r, p_ii3, p_goto, WN_nx, WN_nrt, WN_ite, c1, ts, e1]
    exact ih (i + 1) _ (by omega) (by omega) (by omega)
theorem t_willMeetM {v : Int} (ok : zok N w) (hN : N ≤ 80000000) (hv : -2147483648 ≤ v ∧ v < 2147483648) (K1 : ¬ (0 ≤ v ∧ v ≤ 200) → ∀ τ' b, zQy τ τ' 1 → Q (.inl (some (.inl b))) (3565, x, zrho) (zg τ' w)) (K0 : (0 ≤ v ∧ v ≤ 200) → ∀ τ', zQy τ τ' 0 → Q (.inl (some (.inl (aIt v.toNat w 5 - w 5)))) (3565, x, zrho) (zg τ' w)) : WM 189 [.inr (.inl (some 3553)), .inl v] (3565, x, zrho) (zg τ w) Q := by
  show Wp 189 0 [some (.inr (.inl (some 3553))), some (.inl v), none, none] [] _ _ Q
  have k := zm_k
  have tj := fun (Q : ZO → ZT → ZI → Prop) (σ : ZI) (θ : ZT) => t_in (Q := Q) (θ := θ) (σ := σ) (a := v) (b := 0) (c := 200) hv (by omega) (by omega)
  by_cases c2 : 0 ≤ v ∧ v ≤ 200
  · rw [if_pos c2] at tj
    obtain ⟨m, hm⟩ : ∃ m : Nat, v = (m : Int) := ⟨v.toNat, by omega⟩
    subst hm
    simp (disch := first | assumption | exact p_c2i | exact p_c2r | exact p_c2n | omega | ((repeat (first | refine p_a1i.trans ?_ | refine p_a1r.trans ?_)); exact p_a10) | ((repeat (first | refine p_wI ?_ | refine p_wR ?_)); exact p_w0) | decide) only [reduceIte, Int.reduceLT, Int.reduceLE, Int.reduceEq, Int.reduceToNat, Int.reduceAdd, Int.reduceSub, Int.reduceMul, Int.reduceNeg, e189_0, e189_1, e189_2, e189_3, e189_6, e189_9, e189_12, e189_13, e189_16, e189_17, e189_20, e189_23, e189_24, e189_25, e189_26, e189_29, e189_30, e189_31, e189_34, e189_35, e189_38, e189_41, e189_42, e189_43, e189_44, p_al0, p_il1, p_push, p_cs3_0, p_cs3_1, p_cs3_2, p_cs3_3, p_cs3_4, zK_v, zK_0, WN_ncl, p_ifeq, p_goto, p_cv1_0, p_cv1_1, p_cv1_2, p_cv1_3, p_cv1_4, p_ret0, p_getR, p_cs5_0, p_cs5_1, p_cs5_2, p_cs5_3, p_cs5_4, p_is2, p_c2n, p_c2i, p_c2r, p_is3, WN_nx, WN_nrt, WN_ite, tj, tf_0, zm_r0, zm_r4, t_save]
    refine Eq.mpr (l_willMeetM (τ := zup τ 3553 8 0) (Q := Q) (x := x) (m := m) ok hN (by omega) m 0 0 (by omega) (by omega) (by omega)) ?_
    exact K0 c2 _ zQy_0
  · rw [if_neg c2] at tj
    simp (disch := first | assumption | exact p_c2i | exact p_c2r | exact p_c2n | omega | ((repeat (first | refine p_a1i.trans ?_ | refine p_a1r.trans ?_)); exact p_a10) | ((repeat (first | refine p_wI ?_ | refine p_wR ?_)); exact p_w0) | decide) only [reduceIte, Int.reduceLT, Int.reduceLE, Int.reduceEq, Int.reduceToNat, Int.reduceAdd, Int.reduceSub, Int.reduceMul, Int.reduceNeg, e189_0, e189_1, e189_2, e189_3, e189_6, e189_9, e189_12, e189_13, e189_16, e189_17, e189_20, e189_23, e189_24, p_al0, p_il1, p_push, p_cs3_0, p_cs3_1, p_cs3_2, p_cs3_3, p_cs3_4, zK_v, zK_0, WN_ncl, p_ifeq, p_goto, p_cv1_0, p_cv1_1, p_cv1_2, p_cv1_3, p_cv1_4, p_ret0, WN_nx, WN_nrt, WN_ite, tj, tf_1]
    exact K1 c2 _ _ zQy_f
theorem l_meetInM (ok : zok N w) (hN : N ≤ 80000000) (K1 : aFst (fun k => decide (aIt k w 5 ≠ w 5)) 1 200 = 0 → ∀ τ' b, zQy τ τ' 1 → Q (.inl (some (.inl b))) (3565, x, zrho) (zg τ' w)) (K0 : aFst (fun k => decide (aIt k w 5 ≠ w 5)) 1 200 ≠ 0 → ∀ τ', zQy τ τ' 0 → Q (.inl (some (.inl ((aFst (fun k => decide (aIt k w 5 ≠ w 5)) 1 200 : Nat) : Int)))) (3565, x, zrho) (zg τ' w)) : ∀ (n i : Nat), i + n = 201 → 1 ≤ i → aFst (fun k => decide (aIt k w 5 ≠ w 5)) i n = aFst (fun k => decide (aIt k w 5 ≠ w 5)) 1 200 → Wp 190 25 [some (.inr (.inl (some 3553))), some (.inl (w 5)), some (.inl ((i : Int)))] [] (3565, x, zrho) (zg (zsp τ w) (aIt i w)) Q := by
  have hk := zm_k
  have k4 := zm_4
  have n4 := zm_n4
  have o0 := ok.1
  have o5 := ok.2.2.2.2.2.1
  intro n
  induction n with
  | zero =>
    intro i hi h1 he
    have e : i = 201 := by omega
    subst e
    obtain ⟨g1, g2, g3⟩ := aIt_ok ok 201
    have tr := fun (Q : ZO → ZT → ZI → Prop) => t_rest (τ := zsp τ w) (Q := Q) (x := x) (w := w) (w' := aIt 201 w) (fun j hj => zsp_s hj) g3
    simp (disch := first | assumption | exact p_c2i | exact p_c2r | exact p_c2n | omega | ((repeat (first | refine p_a1i.trans ?_ | refine p_a1r.trans ?_)); exact p_a10) | ((repeat (first | refine p_wI ?_ | refine p_wR ?_)); exact p_w0) | decide) only [reduceIte, Int.reduceLT, Int.reduceLE, Int.reduceEq, Int.reduceToNat, Int.reduceAdd, Int.reduceSub, Int.reduceMul, Int.reduceNeg, e190_25, e190_26, e190_29, e190_60, e190_61, e190_64, e190_65, e190_66, e190_69, e190_70, e190_73, e190_76, e190_77, e190_78, e190_81, e190_84, e190_85, e190_88, e190_89, e190_92, e190_95, e190_96, e190_99, e190_100, p_il2, p_push, p_cgt, p_al0, p_getR, p_cs5_0, p_cs5_1, p_cs5_2, p_cs5_3, p_cs5_4, zK_v, zK_0, WN_ncl, p_cle, p_goto, p_cv1_0, p_cv1_1, p_cv1_2, p_cv1_3, p_cv1_4, p_ifeq, p_ret0, WN_nx, WN_nrt, WN_ite, show ((201 : Nat) : Int) = 201 from rfl, zm_r0, zm_r4, tr, tf_1]
    exact K1 he.symm _ _ (zQy_s zQy_f)
  | succ n ih =>
    intro i hi h1 he
    obtain ⟨g1, g2, g3⟩ := aIt_ok ok i
    have g5 := g1.2.2.2.2.2.1
    have c1 : ((200 : Int) < (i : Int)) = False := eq_false (by omega)
    have e1 : (i : Int) + 1 = ((i + 1 : Nat) : Int) := by omega
    rw [aFst_s] at he
    by_cases hd : aIt i w 5 = w 5
    · rw [if_neg (by rw [decide_eq_true_iff]; exact fun z => z hd)] at he
      have ts := fun (Q : ZO → ZT → ZI → Prop) => t_stepsOnceM (Q := Q) (x := x) (τ := zsp τ w) (w := aIt i w) g1 (by omega)
      rw [g2] at ts
      have hg := aGN_in (w := aIt i w) (w 0).toNat
      have c2 : (aGN (aIt i w) (w 0).toNat < 0) = False := eq_false (by omega)
      rw [e190_25]
      simp (disch := first | assumption | exact p_c2i | exact p_c2r | exact p_c2n | omega | ((repeat (first | refine p_a1i.trans ?_ | refine p_a1r.trans ?_)); exact p_a10) | ((repeat (first | refine p_wI ?_ | refine p_wR ?_)); exact p_w0) | decide) only [reduceIte, Int.reduceLT, Int.reduceLE, Int.reduceEq, Int.reduceToNat, Int.reduceAdd, Int.reduceSub, Int.reduceMul, Int.reduceNeg, e190_26, e190_29, e190_32, e190_33, e190_36, e190_37, e190_38, e190_39, e190_42, e190_43, e190_44, e190_47, e190_50, e190_51, e190_54, e190_55, e190_56, e190_57, p_il2, p_push, p_cgt, p_al0, p_getR, p_iald, p_il1, p_cne, p_cv0_0, p_cv0_1, p_cv0_2, p_cv0_3, p_cv0_4, zK_v, zK_0, WN_ncl, p_ifge, p_goto, p_bin, p_is2, p_c2n, p_c2i, p_c2r, WN_nx, WN_nrt, WN_ite, c1, zm_r0, zg_s, hd, ts, c2, e1]
      exact ih (i + 1) (by omega) (by omega) he
    · rw [if_pos (decide_eq_true hd)] at he
      have tr := fun (Q : ZO → ZT → ZI → Prop) => t_rest (τ := zsp τ w) (Q := Q) (x := x) (w := w) (w' := aIt i w) (fun j hj => zsp_s hj) g3
      simp (disch := first | assumption | exact p_c2i | exact p_c2r | exact p_c2n | omega | ((repeat (first | refine p_a1i.trans ?_ | refine p_a1r.trans ?_)); exact p_a10) | ((repeat (first | refine p_wI ?_ | refine p_wR ?_)); exact p_w0) | decide) only [reduceIte, Int.reduceLT, Int.reduceLE, Int.reduceEq, Int.reduceToNat, Int.reduceAdd, Int.reduceSub, Int.reduceMul, Int.reduceNeg, e190_25, e190_26, e190_29, e190_32, e190_33, e190_36, e190_37, e190_38, e190_39, e190_60, e190_61, e190_64, e190_65, e190_66, e190_69, e190_70, e190_73, e190_76, e190_77, e190_78, e190_81, e190_84, e190_85, e190_88, e190_89, e190_92, e190_95, e190_96, e190_99, e190_100, p_il2, p_push, p_cgt, p_al0, p_getR, p_iald, p_il1, p_cne, p_cs5_0, p_cs5_1, p_cs5_2, p_cs5_3, p_cs5_4, zK_v, zK_0, WN_ncl, p_cle, p_goto, p_cv1_0, p_cv1_1, p_cv1_2, p_cv1_3, p_cv1_4, p_ifeq, p_ret0, WN_nx, WN_nrt, WN_ite, c1, zm_r0, zg_s, hd, zm_r4, tr, tf_0]
      have := K0 (by rw [← he]; omega) _ (zQy_s (τ := τ) (w := w) zQy_f)
      rw [← he] at this
      exact this
theorem t_meetInM (ok : zok N w) (hN : N ≤ 80000000) (K1 : aFst (fun k => decide (aIt k w 5 ≠ w 5)) 1 200 = 0 → ∀ τ' b, zQy τ τ' 1 → Q (.inl (some (.inl b))) (3565, x, zrho) (zg τ' w)) (K0 : aFst (fun k => decide (aIt k w 5 ≠ w 5)) 1 200 ≠ 0 → ∀ τ', zQy τ τ' 0 → Q (.inl (some (.inl ((aFst (fun k => decide (aIt k w 5 ≠ w 5)) 1 200 : Nat) : Int)))) (3565, x, zrho) (zg τ' w)) : WM 190 [.inr (.inl (some 3553))] (3565, x, zrho) (zg τ w) Q := by
  show Wp 190 0 [some (.inr (.inl (some 3553))), none, none] [] _ _ Q
  have k := zm_k
  have k4 := zm_4
  have n4 := zm_n4
  have o0 := ok.1
  have o5 := ok.2.2.2.2.2.1
  have ts := fun (Q : ZO → ZT → ZI → Prop) (τ : ZI) => t_stepsOnceM (Q := Q) (x := x) (τ := τ) (w := w) ok (by omega)
  have hg := aGN_in (w := w) (w 0).toNat
  have c2 : (aGN w (w 0).toNat < 0) = False := eq_false (by omega)
  simp (disch := first | assumption | exact p_c2i | exact p_c2r | exact p_c2n | omega | ((repeat (first | refine p_a1i.trans ?_ | refine p_a1r.trans ?_)); exact p_a10) | ((repeat (first | refine p_wI ?_ | refine p_wR ?_)); exact p_w0) | decide) only [reduceIte, Int.reduceLT, Int.reduceLE, Int.reduceEq, Int.reduceToNat, Int.reduceAdd, Int.reduceSub, Int.reduceMul, Int.reduceNeg, e190_0, e190_1, e190_4, e190_5, e190_6, e190_9, e190_10, e190_13, e190_16, e190_17, e190_20, e190_21, e190_22, e190_23, e190_24, p_al0, p_getR, p_push, p_cs5_0, p_cs5_1, p_cs5_2, p_cs5_3, p_cs5_4, zK_v, zK_0, WN_ncl, p_iald, p_is1, p_c2n, p_c2i, p_c2r, p_is2, WN_nx, WN_nrt, WN_ite, zm_r0, zm_r4, t_save, zg_s]
  rw [e190_25]
  simp (disch := first | assumption | exact p_c2i | exact p_c2r | exact p_c2n | omega | ((repeat (first | refine p_a1i.trans ?_ | refine p_a1r.trans ?_)); exact p_a10) | ((repeat (first | refine p_wI ?_ | refine p_wR ?_)); exact p_w0) | decide) only [reduceIte, Int.reduceLT, Int.reduceLE, Int.reduceEq, Int.reduceToNat, Int.reduceAdd, Int.reduceSub, Int.reduceMul, Int.reduceNeg, e190_26, e190_29, e190_32, e190_33, e190_36, e190_37, e190_38, e190_39, e190_42, e190_43, e190_44, e190_47, e190_50, e190_51, e190_54, e190_55, e190_56, e190_57, p_il2, p_push, p_cgt, p_al0, p_getR, p_iald, p_il1, p_cne, p_cv0_0, p_cv0_1, p_cv0_2, p_cv0_3, p_cv0_4, zK_v, zK_0, WN_ncl, p_ifge, p_goto, p_bin, p_is2, p_c2n, p_c2i, p_c2r, WN_nx, WN_nrt, WN_ite, zm_r0, zg_s, ts, c2]
  exact l_meetInM ok hN K1 K0 200 1 rfl (Nat.le_refl _) rfl
end
