/-! A LAWN: all hoes move; sums; copies -/
def aMvN (w : zW) : Nat → zW
  | 0 => w
  | n + 1 => aMove n (aMvN w n)
theorem aMvN_s {w : zW} {n : Nat} : aMvN w (n + 1) = aMove n (aMvN w n) := rfl
def aStep (w : zW) : zW := wu (aMvN w (w 0).toNat) 3 (w 3 + 1)
def aSm (w : zW) (j n : Nat) : Int := zsm (fun h => w (172 + 4 * h + j)) n
theorem zsm_s {f : Nat → Int} {n : Nat} : zsm f (n + 1) = zsm f n + f n := rfl
theorem zct_s {p : Nat → Bool} {n : Nat} : zct p (n + 1) = zct p n + (if p n = true then 1 else 0) := rfl
theorem aMove_k {w : zW} {N : Int} {i k : Nat} (ok : zok N w) (hi : (i : Int) < w 0) (hk : k < 4) : aMove i w k = w k := by
  have o := ok.2.2.2.2.2.2.2.2.2.1 i hi
  have hp : ∀ k, k < 4 → aPre i w k = w k := fun k hk => aPre_k o.1 (by omega) (by omega)
  unfold aMove
  split
  · split
    · unfold aGo aMeet
      rw [wu_o (by omega), wu_o (by omega), wu_o (by omega), wu_o (by omega)]
      exact hp k hk
    · split
      · unfold aBk aMeet
        rw [if_neg (by omega), wu_o (by omega), wu_o (by omega)]
        exact hp k hk
      · unfold aMeet
        rw [wu_o (by omega), wu_o (by omega)]
        exact hp k hk
  · unfold aGo
    rw [wu_o (by omega), wu_o (by omega)]
    exact hp k hk
theorem aMvN_ok {w : zW} {N : Int} (ok : zok N w) (n : Nat) (hn : (n : Int) ≤ w 0) : zok (N + 3 * n) (aMvN w n) ∧ ∀ k, k < 4 → aMvN w n k = w k := by
  induction n with
  | zero => exact ⟨zok_mono ok (by omega), fun _ _ => rfl⟩
  | succ n ih =>
    obtain ⟨h1, h2⟩ := ih (by omega)
    have hi : (n : Int) < aMvN w n 0 := by rw [h2 0 (by omega)]; omega
    rw [aMvN_s]
    exact ⟨zok_mono (zok_move h1 hi) (by omega), fun k hk => by rw [aMove_k h1 hi hk]; exact h2 k hk⟩
theorem aStep_k {w : zW} {N : Int} {k : Nat} (ok : zok N w) (hk : k < 3) : aStep w k = w k := by
  have o0 := ok.1
  unfold aStep
  rw [wu_o (by omega)]
  exact (aMvN_ok ok _ (by omega)).2 k (by omega)
theorem zok_step {w : zW} {N : Int} (ok : zok N w) : zok (N + 13) (aStep w) := by
  have o0 := ok.1
  have o3 := ok.2.2.2.1
  obtain ⟨h1, h2⟩ := aMvN_ok ok (w 0).toNat (by omega)
  unfold aStep
  obtain ⟨a0, a1, a2, a3, a4, a5, a6, a7, a8, a9, a10⟩ := zok_mono h1 (M := N + 13) (by omega)
  refine ⟨by rw [wu_o (by omega)]; exact a0, by rw [wu_o (by omega)]; exact a1, by rw [wu_o (by omega)]; exact a2, by rw [wu_s]; omega, by rw [wu_o (by omega)]; exact a4, by rw [wu_o (by omega)]; exact a5, fun t h => by rw [wu_o (by omega)]; exact a6 t h, fun t h => by rw [wu_o (by omega), wu_o (by omega)]; exact a7 t h, fun t h => by rw [wu_o (by omega)]; exact a8 t h, fun k h => ?_, fun k h => by rw [wu_o (by omega)] at h; rw [wu_o (by omega)]; exact a10 k h⟩
  rw [wu_o (by omega)] at h
  rw [wu_o (by omega), wu_o (by omega), wu_o (by omega), wu_o (by omega)]
  exact a9 k h
theorem zcp_o {σ : ZI} {s sp d dp m b j : Nat} (h : b ≠ d) : zcpy σ s sp d dp m b j = σ b j := if_neg (fun z => h z.1)
theorem zcp_s {σ : ZI} {s d m j : Nat} (h : j < m) : zcpy σ s 0 d 0 m d j = σ s j := by unfold zcpy; rw [if_pos ⟨rfl, by omega, by omega⟩]; simp
theorem zlw_dis {L M : Nat} (h1 : zkd L = 2) (h2 : zkd M = 2) (h : L ≠ M) : L + 10 ≤ M ∨ M + 10 ≤ L := by
  have key : ∀ {L : Nat}, zkd L = 2 → ∃ a b : Nat, b < 31 ∧ (a = 0 ∨ a = 1 ∨ a = 2 ∨ (3 ≤ a ∧ a < 12)) ∧ ((a < 3 ∧ ((b = 0 ∧ L = 102 + 312 * a) ∨ (0 < b ∧ L = 103 + 312 * a + 10 * b))) ∨ (3 ≤ a ∧ a < 11 ∧ ((b = 0 ∧ L = 104 + 312 * a) ∨ (0 < b ∧ L = 105 + 312 * a + 10 * b))) ∨ (a = 11 ∧ b = 0 ∧ L = 3535)) := by
    intro L h
    rcases zkd2 h with ⟨S, hS, h1⟩ | rfl
    · rcases hS with rfl | rfl | rfl | ⟨i, hi, rfl⟩
      · rcases h1 with rfl | ⟨j, hj, rfl⟩
        · exact ⟨0, 0, by omega, by omega, by omega⟩
        · exact ⟨0, j + 1, by omega, by omega, by omega⟩
      · rcases h1 with rfl | ⟨j, hj, rfl⟩
        · exact ⟨1, 0, by omega, by omega, by omega⟩
        · exact ⟨1, j + 1, by omega, by omega, by omega⟩
      · rcases h1 with rfl | ⟨j, hj, rfl⟩
        · exact ⟨2, 0, by omega, by omega, by omega⟩
        · exact ⟨2, j + 1, by omega, by omega, by omega⟩
      · rcases h1 with rfl | ⟨j, hj, rfl⟩
        · exact ⟨i + 3, 0, by omega, by omega, by omega⟩
        · exact ⟨i + 3, j + 1, by omega, by omega, by omega⟩
    · exact ⟨11, 0, by omega, by omega, by omega⟩
  obtain ⟨a, b, g1, g2, g3⟩ := key h1
  obtain ⟨c, d, f1, f2, f3⟩ := key h2
  rcases Nat.lt_trichotomy a c with z | z | z
  · omega
  · subst z; omega
  · omega
section
variable {L : Nat} {σ : ZI} {Q : ZO → ZT → ZI → Prop} {x : Nat} {w : zW} {N : Int}
theorem l_moveAll (hk : zkd L = 2) (ok : zok N w) (hN : N ≤ 90000000) (K : ∀ σ', zLr σ' L (aStep w) → zfr σ σ' L → (∀ h : Nat, (h : Int) < w 0 → σ' (L + 9) h = aTurn (aMvN w h) h) → Q (.inl none) (3565, x, zrho) σ') : ∀ (n i : Nat) (σ1 : ZI), ((i + n : Nat) : Int) = w 0 → zLr σ1 L (aMvN w i) → zfr σ σ1 L → (∀ h : Nat, h < i → σ1 (L + 9) h = aTurn (aMvN w h) h) → Wp 33 2 [some (.inr (.inl (some L))), some (.inl ((i : Int)))] [] (3565, x, zrho) σ1 Q := by
  have o0 := ok.1
  have o3 := ok.2.2.2.1
  intro n
  induction n with
  | zero =>
    intro i σ1 hi hR hf hl
    have ei : i = (w 0).toNat := by omega
    have hm := (aMvN_ok ok i (by omega)).2
    have h0 : σ1 L 10 = w 0 := by rw [hR.h0]; exact hm 0 (by omega)
    have h3 : σ1 L 13 = w 3 := by rw [hR.h3]; exact hm 3 (by omega)
    have hc : ((i : Int) < w 0) = False := eq_false (by omega)
    simp (disch := first | assumption | exact p_c2i | exact p_c2r | exact p_c2n | omega | ((repeat (first | refine p_a1i.trans ?_ | refine p_a1r.trans ?_)); exact p_a10) | ((repeat (first | refine p_wI ?_ | refine p_wR ?_)); exact p_w0) | decide) only [reduceIte, Int.reduceLT, Int.reduceLE, Int.reduceEq, Int.reduceToNat, Int.reduceAdd, Int.reduceSub, Int.reduceMul, Int.reduceNeg, e33_0, e33_1, e33_2, e33_3, e33_4, e33_7, e33_10, e33_11, e33_12, e33_15, e33_18, e33_21, e33_22, e33_23, e33_26, e33_27, e33_28, e33_31, p_push, p_is1, p_c2n, p_c2i, p_c2r, p_il1, p_al0, p_getI, p_cge, p_cv1_0, p_cv1_1, p_cv1_2, p_cv1_3, p_cv1_4, zK_v, zK_0, WN_ncl, p_ii1, p_goto, p_dupi, p_dupr, p_bin, p_putI, p_vret, WN_nx, WN_nrt, WN_ite, h0, h3, hc]
    refine K _ ?_ (zfr_t hf zfr_u0) (fun h hh => ?_)
    · have := hR.f13 (v := w 3 + 1)
      rw [ei] at this
      exact this
    · rw [zup_o (by omega)]
      exact hl h (by omega)
  | succ n ih =>
    intro i σ1 hi hR hf hl
    obtain ⟨h1, hm⟩ := aMvN_ok ok i (by omega)
    have h0 : σ1 L 10 = w 0 := by rw [hR.h0]; exact hm 0 (by omega)
    have hc : ((i : Int) < w 0) = True := eq_true (by omega)
    have hi' : (i : Int) < aMvN w i 0 := by rw [hm 0 (by omega)]; omega
    rw [e33_2]
    simp (disch := first | assumption | exact p_c2i | exact p_c2r | exact p_c2n | omega | ((repeat (first | refine p_a1i.trans ?_ | refine p_a1r.trans ?_)); exact p_a10) | ((repeat (first | refine p_wI ?_ | refine p_wR ?_)); exact p_w0) | decide) only [reduceIte, Int.reduceLT, Int.reduceLE, Int.reduceEq, Int.reduceToNat, Int.reduceAdd, Int.reduceSub, Int.reduceMul, Int.reduceNeg, e33_3, e33_4, e33_7, e33_10, e33_11, e33_12, p_il1, p_al0, p_getI, p_cge, p_cv1_0, p_cv1_1, p_cv1_2, p_cv1_3, p_cv1_4, zK_v, zK_0, WN_ncl, WN_nx, WN_nrt, WN_ite, h0, hc]
    refine t_moveHoe hk hR h1 (by omega) hi' (fun σ2 hR2 hf2 hl2 => ?_)
    rw [zK_0]
    have e1 : (i : Int) + 1 = ((i + 1 : Nat) : Int) := by omega
    simp (disch := first | assumption | exact p_c2i | exact p_c2r | exact p_c2n | omega | ((repeat (first | refine p_a1i.trans ?_ | refine p_a1r.trans ?_)); exact p_a10) | ((repeat (first | refine p_wI ?_ | refine p_wR ?_)); exact p_w0) | decide) only [reduceIte, Int.reduceLT, Int.reduceLE, Int.reduceEq, Int.reduceToNat, Int.reduceAdd, Int.reduceSub, Int.reduceMul, Int.reduceNeg, e33_15, e33_18, p_ii1, p_goto, WN_nx, WN_nrt, WN_ite, e1]
    refine ih (i + 1) σ2 (by omega) hR2 (zfr_t hf hf2) (fun h hh => ?_)
    rw [hl2]
    by_cases e : h = i
    · subst e; exact zup_s
    · rw [zup_j e]; exact hl h (by omega)
theorem t_moveAll (hk : zkd L = 2) (hR : zLr σ L w) (ok : zok N w) (hN : N ≤ 90000000) (K : ∀ σ', zLr σ' L (aStep w) → zfr σ σ' L → (∀ h : Nat, (h : Int) < w 0 → σ' (L + 9) h = aTurn (aMvN w h) h) → Q (.inl none) (3565, x, zrho) σ') : WM 33 [.inr (.inl (some L))] (3565, x, zrho) σ Q := by
  show Wp 33 0 [some (.inr (.inl (some L))), none] [] _ σ Q
  have o0 := ok.1
  simp (disch := first | assumption | exact p_c2i | exact p_c2r | exact p_c2n | omega | ((repeat (first | refine p_a1i.trans ?_ | refine p_a1r.trans ?_)); exact p_a10) | ((repeat (first | refine p_wI ?_ | refine p_wR ?_)); exact p_w0) | decide) only [reduceIte, Int.reduceLT, Int.reduceLE, Int.reduceEq, Int.reduceToNat, Int.reduceAdd, Int.reduceSub, Int.reduceMul, Int.reduceNeg, e33_0, e33_1, p_push, p_is1, p_c2n, p_c2i, p_c2r, WN_nx, WN_nrt, WN_ite]
  exact l_moveAll hk ok hN K (w 0).toNat 0 σ (by omega) hR zfr_r (fun h hh => absurd hh (Nat.not_lt_zero _))
theorem l_allGoings (hk : zkd L = 2) (hR : zLr σ L w) (ok : zok N w) (hN : N ≤ 100000000) : ∀ n i : Nat, ((i + n : Nat) : Int) = w 0 → Wp 40 4 [some (.inr (.inl (some L))), some (.inl (aSm w 2 i)), some (.inl ((i : Int)))] [] (3565, x, zrho) σ Q = Q (.inl (some (.inl (aSm w 2 (w 0).toNat)))) (3565, x, zrho) σ := by
  have o0 := ok.1
  have h0 := hR.h0
  intro n
  induction n with
  | zero =>
    intro i hi
    have ei : i = (w 0).toNat := by omega
    have hc : ((i : Int) < w 0) = False := eq_false (by omega)
    simp (disch := first | assumption | exact p_c2i | exact p_c2r | exact p_c2n | omega | ((repeat (first | refine p_a1i.trans ?_ | refine p_a1r.trans ?_)); exact p_a10) | ((repeat (first | refine p_wI ?_ | refine p_wR ?_)); exact p_w0) | decide) only [reduceIte, Int.reduceLT, Int.reduceLE, Int.reduceEq, Int.reduceToNat, Int.reduceAdd, Int.reduceSub, Int.reduceMul, Int.reduceNeg, e40_0, e40_1, e40_2, e40_3, e40_4, e40_5, e40_6, e40_9, e40_12, e40_13, e40_14, e40_15, e40_18, e40_19, e40_20, e40_23, e40_26, e40_27, p_push, p_is1, p_c2n, p_c2i, p_c2r, p_is2, p_il2, p_al0, p_getI, p_cge, p_il1, p_cv1_0, p_cv1_1, p_cv1_2, p_cv1_3, p_cv1_4, zK_v, zK_0, WN_ncl, p_bin, p_ii2, p_goto, p_ret0, WN_nx, WN_nrt, WN_ite, h0, hc]
    rw [ei]
  | succ n ih =>
    intro i hi
    have hc : (i : Int) < w 0 := by omega
    have e1 : (i : Int) + 1 = ((i + 1 : Nat) : Int) := by omega
    have g := (hR.2.2.2.2.1 i hc).2.2.1
    rw [show 174 + 4 * i = 172 + 4 * i + 2 by omega] at g
    have ih2 := ih (i + 1) (by omega)
    have tg := fun (Q : ZO → ZT → ZI → Prop) => t_goingsOfHoe (Q := Q) (x := x) (σ := σ) (h := (i : Int)) hk (by omega) (by omega) (by omega)
    rw [e40_4]
    simp (disch := first | assumption | exact p_c2i | exact p_c2r | exact p_c2n | omega | ((repeat (first | refine p_a1i.trans ?_ | refine p_a1r.trans ?_)); exact p_a10) | ((repeat (first | refine p_wI ?_ | refine p_wR ?_)); exact p_w0) | decide) only [reduceIte, Int.reduceLT, Int.reduceLE, Int.reduceEq, Int.reduceToNat, Int.reduceAdd, Int.reduceSub, Int.reduceMul, Int.reduceNeg, e40_5, e40_6, e40_9, e40_12, e40_13, e40_14, e40_15, e40_18, e40_19, e40_20, e40_23, p_il2, p_al0, p_getI, p_cge, p_il1, p_cv1_0, p_cv1_1, p_cv1_2, p_cv1_3, p_cv1_4, zK_v, zK_0, WN_ncl, p_bin, p_is1, p_c2n, p_c2i, p_c2r, p_ii2, p_goto, WN_nx, WN_nrt, WN_ite, h0, hc, tg, g, e1, Int.toNat_natCast]
    rw [← ih2]
    rfl
theorem t_allGoings (hk : zkd L = 2) (hR : zLr σ L w) (ok : zok N w) (hN : N ≤ 100000000) : WM 40 [.inr (.inl (some L))] (3565, x, zrho) σ Q = Q (.inl (some (.inl (aSm w 2 (w 0).toNat)))) (3565, x, zrho) σ := by
  show Wp 40 0 [some (.inr (.inl (some L))), none, none] [] _ σ Q = _
  have o0 := ok.1
  simp (disch := first | assumption | exact p_c2i | exact p_c2r | exact p_c2n | omega | ((repeat (first | refine p_a1i.trans ?_ | refine p_a1r.trans ?_)); exact p_a10) | ((repeat (first | refine p_wI ?_ | refine p_wR ?_)); exact p_w0) | decide) only [reduceIte, Int.reduceLT, Int.reduceLE, Int.reduceEq, Int.reduceToNat, Int.reduceAdd, Int.reduceSub, Int.reduceMul, Int.reduceNeg, e40_0, e40_1, e40_2, e40_3, p_push, p_is1, p_c2n, p_c2i, p_c2r, p_is2, WN_nx, WN_nrt, WN_ite]
  exact l_allGoings hk hR ok hN (w 0).toNat 0 (by omega)
theorem l_allMeetings (hk : zkd L = 2) (hR : zLr σ L w) (ok : zok N w) (hN : N ≤ 100000000) : ∀ n i : Nat, ((i + n : Nat) : Int) = w 0 → Wp 41 4 [some (.inr (.inl (some L))), some (.inl (aSm w 3 i)), some (.inl ((i : Int)))] [] (3565, x, zrho) σ Q = Q (.inl (some (.inl (aSm w 3 (w 0).toNat)))) (3565, x, zrho) σ := by
  have o0 := ok.1
  have h0 := hR.h0
  intro n
  induction n with
  | zero =>
    intro i hi
    have ei : i = (w 0).toNat := by omega
    have hc : ((i : Int) < w 0) = False := eq_false (by omega)
    simp (disch := first | assumption | exact p_c2i | exact p_c2r | exact p_c2n | omega | ((repeat (first | refine p_a1i.trans ?_ | refine p_a1r.trans ?_)); exact p_a10) | ((repeat (first | refine p_wI ?_ | refine p_wR ?_)); exact p_w0) | decide) only [reduceIte, Int.reduceLT, Int.reduceLE, Int.reduceEq, Int.reduceToNat, Int.reduceAdd, Int.reduceSub, Int.reduceMul, Int.reduceNeg, e41_0, e41_1, e41_2, e41_3, e41_4, e41_5, e41_6, e41_9, e41_12, e41_13, e41_14, e41_15, e41_18, e41_19, e41_20, e41_23, e41_26, e41_27, p_push, p_is1, p_c2n, p_c2i, p_c2r, p_is2, p_il2, p_al0, p_getI, p_cge, p_il1, p_cv1_0, p_cv1_1, p_cv1_2, p_cv1_3, p_cv1_4, zK_v, zK_0, WN_ncl, p_bin, p_ii2, p_goto, p_ret0, WN_nx, WN_nrt, WN_ite, h0, hc]
    rw [ei]
  | succ n ih =>
    intro i hi
    have hc : (i : Int) < w 0 := by omega
    have e1 : (i : Int) + 1 = ((i + 1 : Nat) : Int) := by omega
    have g := (hR.2.2.2.2.1 i hc).2.2.2
    rw [show 175 + 4 * i = 172 + 4 * i + 3 by omega] at g
    have ih2 := ih (i + 1) (by omega)
    have tg := fun (Q : ZO → ZT → ZI → Prop) => t_meetingsOfHoe (Q := Q) (x := x) (σ := σ) (h := (i : Int)) hk (by omega) (by omega) (by omega)
    rw [e41_4]
    simp (disch := first | assumption | exact p_c2i | exact p_c2r | exact p_c2n | omega | ((repeat (first | refine p_a1i.trans ?_ | refine p_a1r.trans ?_)); exact p_a10) | ((repeat (first | refine p_wI ?_ | refine p_wR ?_)); exact p_w0) | decide) only [reduceIte, Int.reduceLT, Int.reduceLE, Int.reduceEq, Int.reduceToNat, Int.reduceAdd, Int.reduceSub, Int.reduceMul, Int.reduceNeg, e41_5, e41_6, e41_9, e41_12, e41_13, e41_14, e41_15, e41_18, e41_19, e41_20, e41_23, p_il2, p_al0, p_getI, p_cge, p_il1, p_cv1_0, p_cv1_1, p_cv1_2, p_cv1_3, p_cv1_4, zK_v, zK_0, WN_ncl, p_bin, p_is1, p_c2n, p_c2i, p_c2r, p_ii2, p_goto, WN_nx, WN_nrt, WN_ite, h0, hc, tg, g, e1, Int.toNat_natCast]
    rw [← ih2]
    rfl
theorem t_allMeetings (hk : zkd L = 2) (hR : zLr σ L w) (ok : zok N w) (hN : N ≤ 100000000) : WM 41 [.inr (.inl (some L))] (3565, x, zrho) σ Q = Q (.inl (some (.inl (aSm w 3 (w 0).toNat)))) (3565, x, zrho) σ := by
  show Wp 41 0 [some (.inr (.inl (some L))), none, none] [] _ σ Q = _
  have o0 := ok.1
  simp (disch := first | assumption | exact p_c2i | exact p_c2r | exact p_c2n | omega | ((repeat (first | refine p_a1i.trans ?_ | refine p_a1r.trans ?_)); exact p_a10) | ((repeat (first | refine p_wI ?_ | refine p_wR ?_)); exact p_w0) | decide) only [reduceIte, Int.reduceLT, Int.reduceLE, Int.reduceEq, Int.reduceToNat, Int.reduceAdd, Int.reduceSub, Int.reduceMul, Int.reduceNeg, e41_0, e41_1, e41_2, e41_3, p_push, p_is1, p_c2n, p_c2i, p_c2r, p_is2, WN_nx, WN_nrt, WN_ite]
  exact l_allMeetings hk hR ok hN (w 0).toNat 0 (by omega)
set_option maxHeartbeats 4000000 in
theorem t_copyLawn {M : Nat} (hk : zkd L = 2) (hm : zkd M = 2) (hne : L ≠ M) (K : ∀ σ', (∀ w, w 0 ≤ 4 → w 4 ≤ 12 → zLr σ M w → zLr σ' L w) → zfr σ σ' L → Q (.inl none) (3565, x, zrho) σ') : WM 15 [.inr (.inl (some L)), .inr (.inl (some M))] (3565, x, zrho) σ Q := by
  show Wp 15 0 [some (.inr (.inl (some L))), some (.inr (.inl (some M)))] [] _ σ Q
  have hd := zlw_dis hk hm hne
  have a1 := zkL1 hk
  have a2 := zkL2 hk
  have a3 := zkL3 hk
  have a4 := zkL4 hk
  have a5 := zkL5 hk
  have a6 := zkL6 hk
  have a7 := zkL7 hk
  have a8 := zkL8 hk
  have b1 := zkL1 hm
  have b2 := zkL2 hm
  have b3 := zkL3 hm
  have b4 := zkL4 hm
  have b5 := zkL5 hm
  have b6 := zkL6 hm
  have b7 := zkL7 hm
  have b8 := zkL8 hm
  have cpy : ∀ (σ : ZI) (a b n : Nat) (m : Int) (pc : Nat) (ls : ZL), zkd a = 10 → zkd b = 10 → m = (n : Int) → n ≤ zln a → n ≤ zln b → o_acopy pc ls [.inl m, .inl 0, .inr (.inl (some b)), .inl 0, .inr (.inl (some a))] (3565, x, zrho) σ = nx pc ls [] (3565, x, zrho) (zcpy σ a 0 b 0 n) := by
    intro σ a b n m pc ls h1 h2 h3 h4 h5
    subst h3
    show (if _ then _ else none) = _
    rw [if_pos ⟨⟨h1, h2⟩, ⟨by omega, by omega, by omega⟩, by omega, by omega⟩]
    simp
  have c1 := fun σ pc ls => cpy σ (M + 1) (L + 1) 81 81 pc ls b1 a1 rfl (by rw [znL1 hm]; omega) (by rw [znL1 hk]; omega)
  have c2 := fun σ pc ls => cpy σ (M + 2) (L + 2) 81 81 pc ls b2 a2 rfl (by rw [znL2 hm]; omega) (by rw [znL2 hk]; omega)
  have c3 := fun σ pc ls => cpy σ (M + 3) (L + 3) 4 4 pc ls b3 a3 rfl (by rw [znL3 hm]; omega) (by rw [znL3 hk]; omega)
  have c4 := fun σ pc ls => cpy σ (M + 4) (L + 4) 12 12 pc ls b4 a4 rfl (by rw [znL4 hm]; omega) (by rw [znL4 hk]; omega)
  have c5 := fun σ pc ls => cpy σ (M + 5) (L + 5) 4 4 pc ls b5 a5 rfl (by rw [znL5 hm]; omega) (by rw [znL5 hk]; omega)
  have c6 := fun σ pc ls => cpy σ (M + 6) (L + 6) 4 4 pc ls b6 a6 rfl (by rw [znL6 hm]; omega) (by rw [znL6 hk]; omega)
  have c7 := fun σ pc ls => cpy σ (M + 7) (L + 7) 4 4 pc ls b7 a7 rfl (by rw [znL7 hm]; omega) (by rw [znL7 hk]; omega)
  have c8 := fun σ pc ls => cpy σ (M + 8) (L + 8) 4 4 pc ls b8 a8 rfl (by rw [znL8 hm]; omega) (by rw [znL8 hk]; omega)
  simp (disch := first | assumption | exact p_c2i | exact p_c2r | exact p_c2n | omega | ((repeat (first | refine p_a1i.trans ?_ | refine p_a1r.trans ?_)); exact p_a10) | ((repeat (first | refine p_wI ?_ | refine p_wR ?_)); exact p_w0) | decide) only [reduceIte, Int.reduceLT, Int.reduceLE, Int.reduceEq, Int.reduceToNat, Int.reduceAdd, Int.reduceSub, Int.reduceMul, Int.reduceNeg, e15_0, e15_1, e15_4, e15_5, e15_6, e15_9, e15_10, e15_11, e15_14, e15_15, e15_17, e15_20, e15_21, e15_24, e15_25, e15_26, e15_29, e15_30, e15_32, e15_35, e15_36, e15_39, e15_40, e15_41, e15_44, e15_45, e15_46, e15_49, e15_50, e15_53, e15_54, e15_55, e15_58, e15_59, e15_61, e15_64, e15_65, e15_68, e15_69, e15_70, e15_73, e15_74, e15_75, e15_78, e15_79, e15_82, e15_83, e15_84, e15_87, e15_88, e15_89, e15_92, e15_93, e15_96, e15_97, e15_98, e15_101, e15_102, e15_103, e15_106, e15_107, e15_110, e15_111, e15_112, e15_115, e15_116, e15_117, e15_120, e15_121, e15_122, e15_125, e15_128, e15_129, e15_130, e15_133, e15_136, e15_137, e15_138, e15_141, e15_144, e15_145, e15_146, e15_149, e15_152, e15_153, e15_154, e15_157, e15_160, p_al1, p_nn0, p_nn1, p_vret, p_getR, p_push, p_al0, p_getI, p_putI, WN_nx, WN_nrt, WN_ite, zrL0 hk, zrL1 hk, zrL2 hk, zrL3 hk, zrL4 hk, zrL5 hk, zrL6 hk, zrL7 hk, zrL0 hm, zrL1 hm, zrL2 hm, zrL3 hm, zrL4 hm, zrL5 hm, zrL6 hm, zrL7 hm, c1, c2, c3, c4, c5, c6, c7, c8]
  refine K _ (fun w w04 w12 h => ?_) (fun a ha => ?_)
  · obtain ⟨⟨q0, q1, q2, q3, q4⟩, p1, p2, p3, p4, p5⟩ := h
    refine ⟨⟨?_, ?_, ?_, ?_, ?_⟩, fun t h => ?_, fun t h => ?_, fun t h => ?_, fun i hi => ?_, fun k h => ?_⟩
    · simp (disch := omega) only [zup_s, zup_j, zup_o, zcp_o]; exact q0
    · simp (disch := omega) only [zup_s, zup_j, zup_o, zcp_o]; exact q1
    · simp (disch := omega) only [zup_s, zup_j, zup_o, zcp_o]; exact q2
    · simp (disch := omega) only [zup_s, zup_j, zup_o, zcp_o]; exact q3
    · simp (disch := omega) only [zup_s, zup_j, zup_o, zcp_o]; exact q4
    · simp (disch := omega) only [zup_o, zcp_o, zcp_s]; exact p1 t h
    · simp (disch := omega) only [zup_o, zcp_o, zcp_s]; exact p2 t h
    · simp (disch := omega) only [zup_o, zcp_o, zcp_s]; exact p3 t h
    · have hi4 : i < 4 := by omega
      simp (disch := omega) only [zup_o, zcp_o, zcp_s]; exact p4 i hi
    · have hk12 : k < 12 := by omega
      simp (disch := omega) only [zup_o, zcp_o, zcp_s]; exact p5 k h
  · funext j
    simp (disch := omega) only [zup_o, zcp_o]
end
