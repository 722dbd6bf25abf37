/-! A LAWN: changes, counts -/
def zcz (σ : ZI) (a : Nat) (v : Int) (i : Nat) : ZI := fun b j => if b = a ∧ j < i ∧ v ≤ σ a j then 0 else σ b j
theorem zcz_0 {σ : ZI} {a : Nat} {v : Int} : zcz σ a v 0 = σ := by
  funext b j; unfold zcz; rw [if_neg (fun z => Nat.not_lt_zero _ z.2.1)]
theorem zcz_1 {σ : ZI} {a i : Nat} {v : Int} (h : v ≤ σ a i) : zup (zcz σ a v i) a i 0 = zcz σ a v (i + 1) := by
  funext b j
  unfold zup zcz
  by_cases h1 : b = a ∧ j = i
  · rw [if_pos h1, if_pos ⟨h1.1, by omega, by rw [h1.2]; exact h⟩]
  · rw [if_neg h1]
    by_cases h2 : b = a ∧ j < i ∧ v ≤ σ a j
    · rw [if_pos h2, if_pos ⟨h2.1, by omega, h2.2.2⟩]
    · rw [if_neg h2, if_neg (fun z => h2 ⟨z.1, by have := fun e => h1 ⟨z.1, e⟩; omega, z.2.2⟩)]
theorem zcz_2 {σ : ZI} {a i : Nat} {v : Int} (h : ¬ v ≤ σ a i) : zcz σ a v (i + 1) = zcz σ a v i := by
  funext b j
  unfold zcz
  by_cases h2 : b = a ∧ j < i ∧ v ≤ σ a j
  · rw [if_pos h2, if_pos ⟨h2.1, by omega, h2.2.2⟩]
  · rw [if_neg h2, if_neg (fun z => by
      by_cases e : j = i
      · exact h (e ▸ z.2.2)
      · exact h2 ⟨z.1, by omega, z.2.2⟩)]
theorem zcz_at {σ : ZI} {a i : Nat} {v : Int} : zcz σ a v i a i = σ a i := by unfold zcz; rw [if_neg (by omega)]
theorem zcz_o {σ : ZI} {a b i j : Nat} {v : Int} (h : b ≠ a) : zcz σ a v i b j = σ b j := by unfold zcz; rw [if_neg (fun z => h z.1)]
/-- so many colours there are now -/
def aMany (v : Int) (w : zW) : zW := fun j => if j = 1 then v else if (10 ≤ j ∧ j < 91) ∧ v ≤ w j then 0 else w j
theorem aMany_o {v : Int} {w : zW} {j : Nat} (h1 : j ≠ 1) (h : j < 10 ∨ 91 ≤ j) : aMany v w j = w j := by unfold aMany; rw [if_neg h1, if_neg (by omega)]
def aAdd (c d : Int) (w : zW) : zW := wu (wu (wu (wu (wu w (172 + 4 * (w 0).toNat + 0) c) (172 + 4 * (w 0).toNat + 1) d) (172 + 4 * (w 0).toNat + 2) 0) (172 + 4 * (w 0).toNat + 3) 0) 0 (w 0 + 1)
def aRank (w : zW) (h n : Nat) : Int := zct (fun o => decide (w (172 + 4 * h + 2) < w (172 + 4 * o + 2) ∨ (w (172 + 4 * o + 2) = w (172 + 4 * h + 2) ∧ o < h))) n
def aRkF (w : zW) (p : Int) : Nat → Nat → Int
  | _, 0 => 0
  | i, f + 1 => if aRank w i (w 0).toNat = p then (i : Int) else aRkF w p (i + 1) f
def aRanked (w : zW) (p : Int) : Int := aRkF w p 0 (w 0).toNat
section
variable {L : Nat} {σ : ZI} {Q : ZO → ZT → ZI → Prop} {x : Nat} {w : zW} {N : Int}
theorem zLr.f10 {v : Int} (h : zLr σ L w) (hn : ∀ i : Nat, w 0 ≤ (i : Int) → (i : Int) < v → σ (L + 5) i = w (172 + 4 * i) ∧ σ (L + 6) i = w (173 + 4 * i) ∧ σ (L + 7) i = w (174 + 4 * i) ∧ σ (L + 8) i = w (175 + 4 * i)) : zLr (zup σ L 10 v) L (wu w 0 v) := by
  obtain ⟨⟨a0, a1, a2, a3, a4⟩, b1, b2, b3, b4, b5⟩ := h
  refine ⟨⟨by rw [zup_s, wu_s], by rw [zup_j (by omega), wu_o (by omega)]; exact a1, by rw [zup_j (by omega), wu_o (by omega)]; exact a2, by rw [zup_j (by omega), wu_o (by omega)]; exact a3, by rw [zup_j (by omega), wu_o (by omega)]; exact a4⟩, fun d h => by rw [zup_o (by omega), wu_o (by omega)]; exact b1 d h, fun d h => by rw [zup_o (by omega), wu_o (by omega)]; exact b2 d h, fun d h => by rw [zup_o (by omega), wu_o (by omega)]; exact b3 d h, fun i hi => ?_, fun k h => by rw [zup_o (by omega), wu_o (by omega)]; exact b5 k (by rwa [wu_o (by omega)] at h)⟩
  rw [wu_s] at hi
  rw [zup_o (by omega), zup_o (by omega), zup_o (by omega), zup_o (by omega), wu_o (by omega), wu_o (by omega), wu_o (by omega), wu_o (by omega)]
  by_cases e : (i : Int) < w 0
  · exact b4 i e
  · exact hn i (by omega) hi
theorem t_addHoe {c d : Int} (hk : zkd L = 2) (hR : zLr σ L w) (h1 : 0 ≤ w 0) (h2 : w 0 < 4) (K : ∀ σ', zLr σ' L (aAdd c d w) → zfr σ σ' L → Q (.inl (some (.inl (w 0)))) (3565, x, zrho) σ') : WM 26 [.inr (.inl (some L)), .inl c, .inl d] (3565, x, zrho) σ Q := by
  show Wp 26 0 [some (.inr (.inl (some L))), some (.inl c), some (.inl d), none] [] _ σ Q
  have h0 := hR.h0
  have k5 := zkL5 hk
  have n5 := znL5 hk
  have k6 := zkL6 hk
  have n6 := znL6 hk
  have k7 := zkL7 hk
  have n7 := znL7 hk
  have k8 := zkL8 hk
  have n8 := znL8 hk
  obtain ⟨i, hi⟩ : ∃ i : Nat, w 0 = (i : Int) := ⟨(w 0).toNat, (Int.toNat_of_nonneg h1).symm⟩
  have hi4 : i < 4 := by omega
  rw [hi] at h0
  have c1 : ((i : Int) < 0) = False := eq_false (by omega)
  have c2 : ((i : Int) < 4) = True := eq_true (by omega)
  have u0 : ∀ (σ' : ZI), (∀ j, σ' L j = σ L j) → σ' L 10 = (i : Int) := fun σ' h => (h 10).trans h0
  have u1 : zup (zup (zup (zup σ (L + 5) i c) (L + 6) i d) (L + 7) i 0) (L + 8) i 0 L 10 = (i : Int) := by simp (disch := omega) only [zup_o]; exact h0
  have f1 : zLr (zup (zup (zup (zup σ (L + 5) i c) (L + 6) i d) (L + 7) i 0) (L + 8) i 0) L _ := (((hR.hoe (j := 0) (v := c) hi4 (by omega)).hoe (j := 1) (v := d) hi4 (by omega)).hoe (j := 2) (v := 0) hi4 (by omega)).hoe (j := 3) (v := 0) hi4 (by omega)
  have f2 := f1.f10 (v := (i : Int) + 1) (fun j h1 h2 => by
    rw [wu_o (by omega), wu_o (by omega), wu_o (by omega), wu_o (by omega), hi] at h1
    have e : j = i := by omega
    subst e
    refine ⟨?_, ?_, ?_, ?_⟩
    · rw [show 172 + 4 * j = 172 + 4 * j + 0 by omega]; simp (disch := omega) only [zup_o, wu_o, zup_s, wu_s]
    · rw [show 173 + 4 * j = 172 + 4 * j + 1 by omega]; simp (disch := omega) only [zup_o, wu_o, zup_s, wu_s]
    · rw [show 174 + 4 * j = 172 + 4 * j + 2 by omega]; simp (disch := omega) only [zup_o, wu_o, zup_s, wu_s]
    · rw [show 175 + 4 * j = 172 + 4 * j + 3 by omega]; simp (disch := omega) only [zup_o, wu_o, zup_s, wu_s])
  simp (disch := first | assumption | exact p_c2i | exact p_c2r | exact p_c2n | omega | ((repeat (first | refine p_a1i.trans ?_ | refine p_a1r.trans ?_)); exact p_a10) | ((repeat (first | refine p_wI ?_ | refine p_wR ?_)); exact p_w0) | decide) only [reduceIte, Int.reduceLT, Int.reduceLE, Int.reduceEq, Int.reduceToNat, Int.reduceAdd, Int.reduceSub, Int.reduceMul, Int.reduceNeg, e26_0, e26_1, e26_4, e26_5, e26_6, e26_9, e26_10, e26_11, e26_14, e26_15, e26_16, e26_17, e26_20, e26_21, e26_22, e26_23, e26_24, e26_27, e26_28, e26_29, e26_30, e26_31, e26_34, e26_35, e26_36, e26_37, e26_38, e26_41, e26_42, e26_43, e26_44, e26_45, e26_46, e26_49, e26_50, e26_51, e26_54, e26_55, p_al0, p_getI, p_is3, p_c2n, p_c2i, p_c2r, p_il3, p_iflt, p_push, p_clt, p_ret0, p_getR, p_il1, p_iast, p_il2, p_dupi, p_dupr, p_bin, p_putI, WN_nx, WN_nrt, WN_ite, h0, c1, c2, zrL4 hk, zrL5 hk, zrL6 hk, zrL7 hk, u1, Int.toNat_natCast]
  rw [hi] at K
  refine K _ ?_ ?_
  · have ea : aAdd c d w = wu (wu (wu (wu (wu w (172 + 4 * i + 0) c) (172 + 4 * i + 1) d) (172 + 4 * i + 2) 0) (172 + 4 * i + 3) 0) 0 ((i : Int) + 1) := by
      unfold aAdd
      rw [hi, Int.toNat_natCast]
    rw [ea]
    exact f2
  · exact zfr_t (zfr_t (zfr_t (zfr_t (zfr_u (by omega)) (zfr_u (by omega))) (zfr_u (by omega))) (zfr_u (by omega))) zfr_u0
theorem l_changeMany {v : Int} (hk : zkd L = 2) (hv : -2147483648 ≤ v ∧ v < 2147483648) (hR : ∀ c, c < 81 → σ (L + 1) c = w (10 + c)) (hb : ∀ c, c < 81 → 0 ≤ w (10 + c) ∧ w (10 + c) < 4) : ∀ n i : Nat, i + n = 81 → Wp 28 9 [some (.inr (.inl (some L))), some (.inl v), some (.inl (zct (fun c => decide (v ≤ w (10 + c))) i)), some (.inl ((i : Int)))] [] (3565, x, zrho) (zcz σ (L + 1) v i) Q = Q (.inl (some (.inl (zct (fun c => decide (v ≤ w (10 + c))) 81)))) (3565, x, zrho) (zcz σ (L + 1) v 81) := by
  have k1 := zkL1 hk
  have n1 := znL1 hk
  obtain ⟨hv1, hv2⟩ := hv
  intro n
  induction n with
  | zero =>
    intro i hi
    have e : i = 81 := by omega
    subst e
    simp (disch := first | assumption | exact p_c2i | exact p_c2r | exact p_c2n | omega | ((repeat (first | refine p_a1i.trans ?_ | refine p_a1r.trans ?_)); exact p_a10) | ((repeat (first | refine p_wI ?_ | refine p_wR ?_)); exact p_w0) | decide) only [reduceIte, Int.reduceLT, Int.reduceLE, Int.reduceEq, Int.reduceToNat, Int.reduceAdd, Int.reduceSub, Int.reduceMul, Int.reduceNeg, e28_0, e28_1, e28_2, e28_5, e28_6, e28_7, e28_8, e28_9, e28_10, e28_12, e28_15, e28_16, e28_19, e28_20, e28_21, e28_22, e28_25, e28_26, e28_29, e28_30, e28_31, e28_32, e28_35, e28_38, e28_41, e28_42, p_al0, p_il1, p_putI, p_push, p_is2, p_c2n, p_c2i, p_c2r, p_is3, p_il3, p_cge, p_getR, p_iald, p_clt, p_iast, p_ii2, p_ii3, p_goto, p_il2, p_ret0, WN_nx, WN_nrt, WN_ite, show ((81 : Nat) : Int) = 81 from rfl]
  | succ n ih =>
    intro i hi
    have hi8 : ((i : Int) < 81) = True := eq_true (by omega)
    have e1 : (i : Int) + 1 = ((i + 1 : Nat) : Int) := by omega
    have ih2 := ih (i + 1) (by omega)
    have c1 := hR i (by omega)
    have b1 := hb i (by omega)
    have ci := zct_in (p := fun c => decide (v ≤ w (10 + c))) i
    have g := (zcz_at (σ := σ) (a := L + 1) (i := i) (v := v)).trans c1
    by_cases hcc : v ≤ w (10 + i)
    · have hlt : (w (10 + i) < v) = False := eq_false (by omega)
      have u := zcz_1 (σ := σ) (a := L + 1) (i := i) (v := v) (by rw [c1]; exact hcc)
      rw [e28_9]
      simp (disch := first | assumption | exact p_c2i | exact p_c2r | exact p_c2n | omega | ((repeat (first | refine p_a1i.trans ?_ | refine p_a1r.trans ?_)); exact p_a10) | ((repeat (first | refine p_wI ?_ | refine p_wR ?_)); exact p_w0) | decide) only [reduceIte, Int.reduceLT, Int.reduceLE, Int.reduceEq, Int.reduceToNat, Int.reduceAdd, Int.reduceSub, Int.reduceMul, Int.reduceNeg, e28_10, e28_12, e28_15, e28_16, e28_19, e28_20, e28_21, e28_22, e28_25, e28_26, e28_29, e28_30, e28_31, e28_32, e28_35, e28_38, p_il3, p_push, p_cge, p_al0, p_getR, p_iald, p_il1, p_clt, p_iast, p_ii2, p_ii3, p_goto, WN_nx, WN_nrt, WN_ite, zrL0 hk, hi8, g, hlt, Int.toNat_natCast, e1, u]
      rw [← ih2, zct_s, if_pos (decide_eq_true hcc)]
    · have hlt : (w (10 + i) < v) = True := eq_true (by omega)
      have u := zcz_2 (σ := σ) (a := L + 1) (i := i) (v := v) (by rw [c1]; exact hcc)
      rw [e28_9]
      simp (disch := first | assumption | exact p_c2i | exact p_c2r | exact p_c2n | omega | ((repeat (first | refine p_a1i.trans ?_ | refine p_a1r.trans ?_)); exact p_a10) | ((repeat (first | refine p_wI ?_ | refine p_wR ?_)); exact p_w0) | decide) only [reduceIte, Int.reduceLT, Int.reduceLE, Int.reduceEq, Int.reduceToNat, Int.reduceAdd, Int.reduceSub, Int.reduceMul, Int.reduceNeg, e28_10, e28_12, e28_15, e28_16, e28_19, e28_20, e28_21, e28_22, e28_25, e28_26, e28_29, e28_30, e28_31, e28_32, e28_35, e28_38, p_il3, p_push, p_cge, p_al0, p_getR, p_iald, p_il1, p_clt, p_iast, p_ii2, p_ii3, p_goto, WN_nx, WN_nrt, WN_ite, zrL0 hk, hi8, g, hlt, Int.toNat_natCast, e1]
      rw [← ih2, u, zct_s, if_neg (by rw [decide_eq_true_iff]; exact hcc), Int.add_zero]
theorem t_changeMany {v : Int} (hk : zkd L = 2) (hv : -2147483648 ≤ v ∧ v < 2147483648) (hR : zLr σ L w) (ok : zok N w) (K : ∀ σ', zLr σ' L (aMany v w) → zfr σ σ' L → Q (.inl (some (.inl (zct (fun c => decide (v ≤ w (10 + c))) 81)))) (3565, x, zrho) σ') : WM 28 [.inr (.inl (some L)), .inl v] (3565, x, zrho) σ Q := by
  show Wp 28 0 [some (.inr (.inl (some L))), some (.inl v), none, none] [] _ σ Q
  have o1 := ok.2.1
  obtain ⟨hv1, hv2⟩ := hv
  simp (disch := first | assumption | exact p_c2i | exact p_c2r | exact p_c2n | omega | ((repeat (first | refine p_a1i.trans ?_ | refine p_a1r.trans ?_)); exact p_a10) | ((repeat (first | refine p_wI ?_ | refine p_wR ?_)); exact p_w0) | decide) only [reduceIte, Int.reduceLT, Int.reduceLE, Int.reduceEq, Int.reduceToNat, Int.reduceAdd, Int.reduceSub, Int.reduceMul, Int.reduceNeg, e28_0, e28_1, e28_2, e28_5, e28_6, e28_7, e28_8, p_al0, p_il1, p_putI, p_push, p_is2, p_c2n, p_c2i, p_c2r, p_is3, WN_nx, WN_nrt, WN_ite]
  have hl := l_changeMany (Q := Q) (x := x) (σ := zup σ L 11 v) (v := v) hk ⟨hv1, hv2⟩ (fun c hc => by rw [zup_o (by omega)]; exact hR.2.2.1 c hc) (fun c hc => by have := ok.2.2.2.2.2.2.2.1 c hc; omega) 81 0 rfl
  rw [zcz_0] at hl
  refine Eq.mpr hl ?_
  refine K _ ?_ (fun a ha => ?_)
  · obtain ⟨⟨a0, a1, a2, a3, a4⟩, b1, b2, b3, b4, b5⟩ := hR
    have e0 : ∀ j, zcz (zup σ L 11 v) (L + 1) v 81 L j = zup σ L 11 v L j := fun j => zcz_o (by omega)
    have e1 : ∀ o j, o ≠ 1 → 0 < o → zcz (zup σ L 11 v) (L + 1) v 81 (L + o) j = σ (L + o) j := fun o j h1 h2 => by rw [zcz_o (by omega), zup_o (by omega)]
    refine ⟨⟨by rw [e0, zup_j (by omega), aMany_o (by omega) (by omega)]; exact a0, by rw [e0, zup_s]; unfold aMany; rw [if_pos rfl], by rw [e0, zup_j (by omega), aMany_o (by omega) (by omega)]; exact a2, by rw [e0, zup_j (by omega), aMany_o (by omega) (by omega)]; exact a3, by rw [e0, zup_j (by omega), aMany_o (by omega) (by omega)]; exact a4⟩, fun d h => by rw [e1 _ _ (by omega) (by omega), aMany_o (by omega) (by omega)]; exact b1 d h, fun d h => ?_, fun d h => by rw [e1 _ _ (by omega) (by omega), aMany_o (by omega) (by omega)]; exact b3 d h, fun i hi => ?_, fun k h => by rw [e1 _ _ (by omega) (by omega), aMany_o (by omega) (by omega)]; exact b5 k (by rwa [aMany_o (by omega) (by omega)] at h)⟩
    · unfold zcz aMany
      rw [zup_o (by omega), b2 d h, if_neg (show ¬ 10 + d = 1 by omega)]
      by_cases hh : v ≤ w (10 + d)
      · rw [if_pos ⟨rfl, h, hh⟩, if_pos ⟨by omega, hh⟩]
      · rw [if_neg (fun z => hh z.2.2), if_neg (fun z => hh z.2)]
    · rw [aMany_o (by omega) (by omega)] at hi
      rw [e1 _ _ (by omega) (by omega), e1 _ _ (by omega) (by omega), e1 _ _ (by omega) (by omega), e1 _ _ (by omega) (by omega), aMany_o (by omega) (by omega), aMany_o (by omega) (by omega), aMany_o (by omega) (by omega), aMany_o (by omega) (by omega)]
      exact b4 i hi
  · funext j
    rw [zcz_o (by omega), zup_o (by omega)]
theorem t_changeTurn {t v : Int} (hk : zkd L = 2) (ht : 0 ≤ t ∧ t < 4) (hR : zLr σ L w) (K : ∀ σ', zLr σ' L (wu w (6 + t.toNat) v) → zfr σ σ' L → Q (.inl (some (.inl (w (6 + t.toNat))))) (3565, x, zrho) σ') : WM 29 [.inr (.inl (some L)), .inl t, .inl v] (3565, x, zrho) σ Q := by
  show Wp 29 0 [some (.inr (.inl (some L))), some (.inl t), some (.inl v), none] [] _ σ Q
  have k3 := zkL3 hk
  have n3 := znL3 hk
  obtain ⟨ht1, ht2⟩ := ht
  have c1 : (t < 0) = False := eq_false (by omega)
  have c2 : (t < 4) = True := eq_true (by omega)
  have g := hR.2.1 t.toNat (by omega)
  simp (disch := first | assumption | exact p_c2i | exact p_c2r | exact p_c2n | omega | ((repeat (first | refine p_a1i.trans ?_ | refine p_a1r.trans ?_)); exact p_a10) | ((repeat (first | refine p_wI ?_ | refine p_wR ?_)); exact p_w0) | decide) only [reduceIte, Int.reduceLT, Int.reduceLE, Int.reduceEq, Int.reduceToNat, Int.reduceAdd, Int.reduceSub, Int.reduceMul, Int.reduceNeg, e29_0, e29_1, e29_2, e29_5, e29_6, e29_7, e29_10, e29_11, e29_12, e29_15, e29_16, e29_19, e29_20, e29_21, e29_22, e29_23, p_al0, p_il1, p_cv1_0, p_cv1_1, p_cv1_2, p_cv1_3, p_cv1_4, zK_v, zK_0, WN_ncl, p_is3, p_c2n, p_c2i, p_c2r, p_iflt, p_push, p_cge, p_getR, p_il2, p_iast, p_il3, p_ret0, WN_nx, WN_nrt, WN_ite, t_turnOf, zrL2 hk, c1, c2, g]
  exact K _ (hR.trn (by omega)) (zfr_u (by omega))
theorem t_changeColour {t v : Int} (hk : zkd L = 2) (ht : 0 ≤ t ∧ t < 81) (hR : zLr σ L w) (K : ∀ σ', zLr σ' L (wu w (10 + t.toNat) v) → zfr σ σ' L → Q (.inl (some (.inl (w (10 + t.toNat))))) (3565, x, zrho) σ') : WM 30 [.inr (.inl (some L)), .inl t, .inl v] (3565, x, zrho) σ Q := by
  show Wp 30 0 [some (.inr (.inl (some L))), some (.inl t), some (.inl v), none] [] _ σ Q
  have k1 := zkL1 hk
  have n1 := znL1 hk
  obtain ⟨ht1, ht2⟩ := ht
  have c1 : (t < 0) = False := eq_false (by omega)
  have c2 : (t < 81) = True := eq_true (by omega)
  have g := hR.2.2.1 t.toNat (by omega)
  simp (disch := first | assumption | exact p_c2i | exact p_c2r | exact p_c2n | omega | ((repeat (first | refine p_a1i.trans ?_ | refine p_a1r.trans ?_)); exact p_a10) | ((repeat (first | refine p_wI ?_ | refine p_wR ?_)); exact p_w0) | decide) only [reduceIte, Int.reduceLT, Int.reduceLE, Int.reduceEq, Int.reduceToNat, Int.reduceAdd, Int.reduceSub, Int.reduceMul, Int.reduceNeg, e30_0, e30_1, e30_2, e30_5, e30_6, e30_7, e30_10, e30_11, e30_13, e30_16, e30_17, e30_20, e30_21, e30_22, e30_23, e30_24, p_al0, p_il1, p_cv1_0, p_cv1_1, p_cv1_2, p_cv1_3, p_cv1_4, zK_v, zK_0, WN_ncl, p_is3, p_c2n, p_c2i, p_c2r, p_iflt, p_push, p_cge, p_getR, p_il2, p_iast, p_il3, p_ret0, WN_nx, WN_nrt, WN_ite, t_colourOf, zrL0 hk, c1, c2, g]
  exact K _ (hR.col (by omega)) (zfr_u (by omega))
theorem l_cellsWith {v : Int} (hk : zkd L = 2) (hv : -2147483648 ≤ v ∧ v < 2147483648) (hR : zLr σ L w) (ok : zok N w) : ∀ n i : Nat, i + n = 81 → Wp 44 4 [some (.inr (.inl (some L))), some (.inl v), some (.inl (zct (fun c => decide (w (10 + c) = v)) i)), some (.inl ((i : Int)))] [] (3565, x, zrho) σ Q = Q (.inl (some (.inl (zct (fun c => decide (w (10 + c) = v)) 81)))) (3565, x, zrho) σ := by
  have k1 := zkL1 hk
  have n1 := znL1 hk
  have o1 := ok.2.1
  obtain ⟨hv1, hv2⟩ := hv
  intro n
  induction n with
  | zero =>
    intro i hi
    have e : i = 81 := by omega
    subst e
    simp (disch := first | assumption | exact p_c2i | exact p_c2r | exact p_c2n | omega | ((repeat (first | refine p_a1i.trans ?_ | refine p_a1r.trans ?_)); exact p_a10) | ((repeat (first | refine p_wI ?_ | refine p_wR ?_)); exact p_w0) | decide) only [reduceIte, Int.reduceLT, Int.reduceLE, Int.reduceEq, Int.reduceToNat, Int.reduceAdd, Int.reduceSub, Int.reduceMul, Int.reduceNeg, e44_0, e44_1, e44_2, e44_3, e44_4, e44_5, e44_7, e44_10, e44_11, e44_14, e44_15, e44_16, e44_17, e44_20, e44_23, e44_26, e44_29, e44_30, p_push, p_is2, p_c2n, p_c2i, p_c2r, p_is3, p_il3, p_cge, p_al0, p_getR, p_iald, p_il1, p_cne, p_ii2, p_ii3, p_goto, p_il2, p_ret0, WN_nx, WN_nrt, WN_ite, show ((81 : Nat) : Int) = 81 from rfl]
  | succ n ih =>
    intro i hi
    have hi8 : ((i : Int) < 81) = True := eq_true (by omega)
    have e1 : (i : Int) + 1 = ((i + 1 : Nat) : Int) := by omega
    have ih2 := ih (i + 1) (by omega)
    have c1 := hR.2.2.1 i (by omega)
    have b1 := ok.2.2.2.2.2.2.2.1 i (by omega)
    have ci := zct_in (p := fun c => decide (w (10 + c) = v)) i
    by_cases hcc : w (10 + i) = v
    · rw [e44_4]
      simp (disch := first | assumption | exact p_c2i | exact p_c2r | exact p_c2n | omega | ((repeat (first | refine p_a1i.trans ?_ | refine p_a1r.trans ?_)); exact p_a10) | ((repeat (first | refine p_wI ?_ | refine p_wR ?_)); exact p_w0) | decide) only [reduceIte, Int.reduceLT, Int.reduceLE, Int.reduceEq, Int.reduceToNat, Int.reduceAdd, Int.reduceSub, Int.reduceMul, Int.reduceNeg, e44_5, e44_7, e44_10, e44_11, e44_14, e44_15, e44_16, e44_17, e44_20, e44_23, e44_26, p_il3, p_push, p_cge, p_al0, p_getR, p_iald, p_il1, p_cne, p_ii2, p_ii3, p_goto, WN_nx, WN_nrt, WN_ite, zrL0 hk, hi8, c1, hcc, Int.toNat_natCast, e1]
      rw [← ih2, zct_s, if_pos (decide_eq_true hcc)]
    · rw [e44_4]
      simp (disch := first | assumption | exact p_c2i | exact p_c2r | exact p_c2n | omega | ((repeat (first | refine p_a1i.trans ?_ | refine p_a1r.trans ?_)); exact p_a10) | ((repeat (first | refine p_wI ?_ | refine p_wR ?_)); exact p_w0) | decide) only [reduceIte, Int.reduceLT, Int.reduceLE, Int.reduceEq, Int.reduceToNat, Int.reduceAdd, Int.reduceSub, Int.reduceMul, Int.reduceNeg, e44_5, e44_7, e44_10, e44_11, e44_14, e44_15, e44_16, e44_17, e44_20, e44_23, e44_26, p_il3, p_push, p_cge, p_al0, p_getR, p_iald, p_il1, p_cne, p_ii2, p_ii3, p_goto, WN_nx, WN_nrt, WN_ite, zrL0 hk, hi8, c1, hcc, Int.toNat_natCast, e1]
      rw [← ih2, zct_s, if_neg (by rw [decide_eq_true_iff]; exact hcc), Int.add_zero]
theorem t_cellsWith {v : Int} (hk : zkd L = 2) (hv : -2147483648 ≤ v ∧ v < 2147483648) (hR : zLr σ L w) (ok : zok N w) : WM 44 [.inr (.inl (some L)), .inl v] (3565, x, zrho) σ Q = Q (.inl (some (.inl (zct (fun c => decide (w (10 + c) = v)) 81)))) (3565, x, zrho) σ := by
  show Wp 44 0 [some (.inr (.inl (some L))), some (.inl v), none, none] [] _ σ Q = _
  simp (disch := first | assumption | exact p_c2i | exact p_c2r | exact p_c2n | omega | ((repeat (first | refine p_a1i.trans ?_ | refine p_a1r.trans ?_)); exact p_a10) | ((repeat (first | refine p_wI ?_ | refine p_wR ?_)); exact p_w0) | decide) only [reduceIte, Int.reduceLT, Int.reduceLE, Int.reduceEq, Int.reduceToNat, Int.reduceAdd, Int.reduceSub, Int.reduceMul, Int.reduceNeg, e44_0, e44_1, e44_2, e44_3, p_push, p_is2, p_c2n, p_c2i, p_c2r, p_is3, WN_nx, WN_nrt, WN_ite]
  exact l_cellsWith hk hv hR ok 81 0 rfl
theorem l_cellsPainted (hk : zkd L = 2) (hR : zLr σ L w) (ok : zok N w) (hN : N ≤ 100000000) : ∀ n i : Nat, i + n = 81 → Wp 45 4 [some (.inr (.inl (some L))), some (.inl (zct (fun c => decide (0 < w (91 + c))) i)), some (.inl ((i : Int)))] [] (3565, x, zrho) σ Q = Q (.inl (some (.inl (zct (fun c => decide (0 < w (91 + c))) 81)))) (3565, x, zrho) σ := by
  have k1 := zkL2 hk
  have n1 := znL2 hk
  intro n
  induction n with
  | zero =>
    intro i hi
    have e : i = 81 := by omega
    subst e
    simp (disch := first | assumption | exact p_c2i | exact p_c2r | exact p_c2n | omega | ((repeat (first | refine p_a1i.trans ?_ | refine p_a1r.trans ?_)); exact p_a10) | ((repeat (first | refine p_wI ?_ | refine p_wR ?_)); exact p_w0) | decide) only [reduceIte, Int.reduceLT, Int.reduceLE, Int.reduceEq, Int.reduceToNat, Int.reduceAdd, Int.reduceSub, Int.reduceMul, Int.reduceNeg, e45_0, e45_1, e45_2, e45_3, e45_4, e45_5, e45_7, e45_10, e45_11, e45_14, e45_15, e45_16, e45_19, e45_22, e45_25, e45_28, e45_29, p_push, p_is1, p_c2n, p_c2i, p_c2r, p_is2, p_il2, p_cge, p_al0, p_getR, p_iald, p_ifle, p_ii1, p_ii2, p_goto, p_il1, p_ret0, WN_nx, WN_nrt, WN_ite, show ((81 : Nat) : Int) = 81 from rfl]
  | succ n ih =>
    intro i hi
    have hi8 : ((i : Int) < 81) = True := eq_true (by omega)
    have e1 : (i : Int) + 1 = ((i + 1 : Nat) : Int) := by omega
    have ih2 := ih (i + 1) (by omega)
    have c1 := hR.2.2.2.1 i (by omega)
    have b1 := ok.2.2.2.2.2.2.2.2.1 i (by omega)
    have ci := zct_in (p := fun c => decide (0 < w (91 + c))) i
    by_cases hcc : 0 < w (91 + i)
    · rw [e45_4]
      simp (disch := first | assumption | exact p_c2i | exact p_c2r | exact p_c2n | omega | ((repeat (first | refine p_a1i.trans ?_ | refine p_a1r.trans ?_)); exact p_a10) | ((repeat (first | refine p_wI ?_ | refine p_wR ?_)); exact p_w0) | decide) only [reduceIte, Int.reduceLT, Int.reduceLE, Int.reduceEq, Int.reduceToNat, Int.reduceAdd, Int.reduceSub, Int.reduceMul, Int.reduceNeg, e45_5, e45_7, e45_10, e45_11, e45_14, e45_15, e45_16, e45_19, e45_22, e45_25, p_il2, p_push, p_cge, p_al0, p_getR, p_iald, p_ifle, p_ii1, p_ii2, p_goto, WN_nx, WN_nrt, WN_ite, zrL1 hk, hi8, c1, hcc, Int.toNat_natCast, e1]
      rw [← ih2, zct_s, if_pos (decide_eq_true hcc)]
    · rw [e45_4]
      simp (disch := first | assumption | exact p_c2i | exact p_c2r | exact p_c2n | omega | ((repeat (first | refine p_a1i.trans ?_ | refine p_a1r.trans ?_)); exact p_a10) | ((repeat (first | refine p_wI ?_ | refine p_wR ?_)); exact p_w0) | decide) only [reduceIte, Int.reduceLT, Int.reduceLE, Int.reduceEq, Int.reduceToNat, Int.reduceAdd, Int.reduceSub, Int.reduceMul, Int.reduceNeg, e45_5, e45_7, e45_10, e45_11, e45_14, e45_15, e45_16, e45_19, e45_22, e45_25, p_il2, p_push, p_cge, p_al0, p_getR, p_iald, p_ifle, p_ii1, p_ii2, p_goto, WN_nx, WN_nrt, WN_ite, zrL1 hk, hi8, c1, hcc, Int.toNat_natCast, e1]
      rw [← ih2, zct_s, if_neg (by rw [decide_eq_true_iff]; exact hcc), Int.add_zero]
theorem t_cellsPainted (hk : zkd L = 2) (hR : zLr σ L w) (ok : zok N w) (hN : N ≤ 100000000) : WM 45 [.inr (.inl (some L))] (3565, x, zrho) σ Q = Q (.inl (some (.inl (zct (fun c => decide (0 < w (91 + c))) 81)))) (3565, x, zrho) σ := by
  show Wp 45 0 [some (.inr (.inl (some L))), none, none] [] _ σ Q = _
  simp (disch := first | assumption | exact p_c2i | exact p_c2r | exact p_c2n | omega | ((repeat (first | refine p_a1i.trans ?_ | refine p_a1r.trans ?_)); exact p_a10) | ((repeat (first | refine p_wI ?_ | refine p_wR ?_)); exact p_w0) | decide) only [reduceIte, Int.reduceLT, Int.reduceLE, Int.reduceEq, Int.reduceToNat, Int.reduceAdd, Int.reduceSub, Int.reduceMul, Int.reduceNeg, e45_0, e45_1, e45_2, e45_3, p_push, p_is1, p_c2n, p_c2i, p_c2r, p_is2, WN_nx, WN_nrt, WN_ite]
  exact l_cellsPainted hk hR ok hN 81 0 rfl
theorem l_sumOfColours (hk : zkd L = 2) (hR : zLr σ L w) (ok : zok N w) : ∀ n i : Nat, i + n = 81 → Wp 46 4 [some (.inr (.inl (some L))), some (.inl (zsm (fun c => w (10 + c)) i)), some (.inl ((i : Int)))] [] (3565, x, zrho) σ Q = Q (.inl (some (.inl (zsm (fun c => w (10 + c)) 81)))) (3565, x, zrho) σ := by
  have k1 := zkL1 hk
  have n1 := znL1 hk
  have o1 := ok.2.1
  intro n
  induction n with
  | zero =>
    intro i hi
    have e : i = 81 := by omega
    subst e
    simp (disch := first | assumption | exact p_c2i | exact p_c2r | exact p_c2n | omega | ((repeat (first | refine p_a1i.trans ?_ | refine p_a1r.trans ?_)); exact p_a10) | ((repeat (first | refine p_wI ?_ | refine p_wR ?_)); exact p_w0) | decide) only [reduceIte, Int.reduceLT, Int.reduceLE, Int.reduceEq, Int.reduceToNat, Int.reduceAdd, Int.reduceSub, Int.reduceMul, Int.reduceNeg, e46_0, e46_1, e46_2, e46_3, e46_4, e46_5, e46_7, e46_10, e46_11, e46_12, e46_15, e46_16, e46_17, e46_18, e46_19, e46_22, e46_25, e46_26, p_push, p_is1, p_c2n, p_c2i, p_c2r, p_is2, p_il2, p_cge, p_il1, p_al0, p_getR, p_iald, p_bin, p_ii2, p_goto, p_ret0, WN_nx, WN_nrt, WN_ite, show ((81 : Nat) : Int) = 81 from rfl]
  | succ n ih =>
    intro i hi
    have hi8 : ((i : Int) < 81) = True := eq_true (by omega)
    have e1 : (i : Int) + 1 = ((i + 1 : Nat) : Int) := by omega
    have ih2 := ih (i + 1) (by omega)
    have c1 := hR.2.2.1 i (by omega)
    have b1 := ok.2.2.2.2.2.2.2.1 i (by omega)
    have ci := zsm_in (f := fun c => w (10 + c)) (M := 4) i (fun k hk => by have := ok.2.2.2.2.2.2.2.1 k (by omega); omega)
    rw [e46_4]
    simp (disch := first | assumption | exact p_c2i | exact p_c2r | exact p_c2n | omega | ((repeat (first | refine p_a1i.trans ?_ | refine p_a1r.trans ?_)); exact p_a10) | ((repeat (first | refine p_wI ?_ | refine p_wR ?_)); exact p_w0) | decide) only [reduceIte, Int.reduceLT, Int.reduceLE, Int.reduceEq, Int.reduceToNat, Int.reduceAdd, Int.reduceSub, Int.reduceMul, Int.reduceNeg, e46_5, e46_7, e46_10, e46_11, e46_12, e46_15, e46_16, e46_17, e46_18, e46_19, e46_22, p_il2, p_push, p_cge, p_il1, p_al0, p_getR, p_iald, p_bin, p_is1, p_c2n, p_c2i, p_c2r, p_ii2, p_goto, WN_nx, WN_nrt, WN_ite, zrL0 hk, hi8, c1, Int.toNat_natCast, e1]
    rw [← ih2]
    rfl
theorem t_sumOfColours (hk : zkd L = 2) (hR : zLr σ L w) (ok : zok N w) : WM 46 [.inr (.inl (some L))] (3565, x, zrho) σ Q = Q (.inl (some (.inl (zsm (fun c => w (10 + c)) 81)))) (3565, x, zrho) σ := by
  show Wp 46 0 [some (.inr (.inl (some L))), none, none] [] _ σ Q = _
  simp (disch := first | assumption | exact p_c2i | exact p_c2r | exact p_c2n | omega | ((repeat (first | refine p_a1i.trans ?_ | refine p_a1r.trans ?_)); exact p_a10) | ((repeat (first | refine p_wI ?_ | refine p_wR ?_)); exact p_w0) | decide) only [reduceIte, Int.reduceLT, Int.reduceLE, Int.reduceEq, Int.reduceToNat, Int.reduceAdd, Int.reduceSub, Int.reduceMul, Int.reduceNeg, e46_0, e46_1, e46_2, e46_3, p_push, p_is1, p_c2n, p_c2i, p_c2r, p_is2, WN_nx, WN_nrt, WN_ite]
  exact l_sumOfColours hk hR ok 81 0 rfl
end
