/-! A LAWN: ranks, signs, a hoe less -/
def aDrop (h : Nat) (w : zW) : zW := fun j => if j = 0 then w 0 - 1 else if 172 + 4 * h ≤ j ∧ j < 172 + 4 * ((w 0).toNat - 1) then w (j + 4) else if 172 + 4 * ((w 0).toNat - 1) ≤ j ∧ j < 172 + 4 * (w 0).toNat then 0 else w j
theorem aDrop_o {h : Nat} {w : zW} {j : Nat} (h1 : j ≠ 0) (hh : (h : Int) < w 0) (h2 : j < 172 ∨ 172 + 4 * (w 0).toNat ≤ j) : aDrop h w j = w j := by unfold aDrop; rw [if_neg h1, if_neg (by omega), if_neg (by omega)]
def aSign (w : zW) (c : Nat) : Int := if 0 ≤ aLow w c then 65 + aLow w c else 48 + w (10 + c)
section
variable {L : Nat} {σ : ZI} {Q : ZO → ZT → ZI → Prop} {x : Nat} {w : zW} {N : Int}
theorem l_rankOf {h : Nat} {m : Option ZV} (hk : zkd L = 2) (hR : zLr σ L w) (ok : zok N w) (hN : N ≤ 100000000) (hh : (h : Int) < w 0) : ∀ (n i : Nat) (m : Option ZV), ((i + n : Nat) : Int) = w 0 → Wp 43 4 [some (.inr (.inl (some L))), some (.inl ((h : Int))), some (.inl (aRank w h i)), some (.inl ((i : Int))), m] [] (3565, x, zrho) σ Q = Q (.inl (some (.inl (aRank w h (w 0).toNat)))) (3565, x, zrho) σ := by
  have o0 := ok.1
  have h0 := hR.h0
  have gh := (hR.2.2.2.2.1 h hh).2.2.1
  have bh := (ok.2.2.2.2.2.2.2.2.2.1 h hh).2.2.1
  rw [show 174 + 4 * h = 172 + 4 * h + 2 by omega] at gh bh
  intro n
  induction n with
  | zero =>
    intro i m hi
    have ei : i = (w 0).toNat := by omega
    have hc : ((i : Int) < w 0) = False := eq_false (by omega)
    simp (disch := first | assumption | exact p_c2i | exact p_c2r | exact p_c2n | omega | ((repeat (first | refine p_a1i.trans ?_ | refine p_a1r.trans ?_)); exact p_a10) | ((repeat (first | refine p_wI ?_ | refine p_wR ?_)); exact p_w0) | decide) only [reduceIte, Int.reduceLT, Int.reduceLE, Int.reduceEq, Int.reduceToNat, Int.reduceAdd, Int.reduceSub, Int.reduceMul, Int.reduceNeg, e43_0, e43_1, e43_2, e43_3, e43_4, e43_5, e43_6, e43_9, e43_12, e43_13, e43_14, e43_17, e43_18, e43_19, e43_22, e43_23, e43_25, e43_27, e43_30, e43_32, e43_35, e43_36, e43_37, e43_40, e43_43, e43_46, e43_49, e43_50, p_push, p_is2, p_c2n, p_c2i, p_c2r, p_is3, p_il3, p_al0, p_getI, p_cge, p_cv1_0, p_cv1_1, p_cv1_2, p_cv1_3, p_cv1_4, zK_v, zK_0, WN_ncl, p_il1, p_bin, p_is4, p_il4, p_ifgt, p_ifne, p_ii2, p_ii3, p_goto, p_il2, p_ret0, WN_nx, WN_nrt, WN_ite, h0, hc]
    rw [ei]
  | succ n ih =>
    intro i m hi
    have hc : ((i : Int) < w 0) = True := eq_true (by omega)
    have hi0 : (i : Int) < w 0 := by omega
    have e1 : (i : Int) + 1 = ((i + 1 : Nat) : Int) := by omega
    have gi := (hR.2.2.2.2.1 i hi0).2.2.1
    have bi := (ok.2.2.2.2.2.2.2.2.2.1 i hi0).2.2.1
    rw [show 174 + 4 * i = 172 + 4 * i + 2 by omega] at gi bi
    have ci := zct_in (p := fun o => decide (w (172 + 4 * h + 2) < w (172 + 4 * o + 2) ∨ (w (172 + 4 * o + 2) = w (172 + 4 * h + 2) ∧ o < h))) i
    have ci1 : 0 ≤ aRank w h i ∧ aRank w h i ≤ i := ci
    have tg := fun (Q : ZO → ZT → ZI → Prop) => t_goingsOfHoe (Q := Q) (x := x) (σ := σ) (h := (i : Int)) hk (by omega) (by omega) (by omega)
    have th := fun (Q : ZO → ZT → ZI → Prop) => t_goingsOfHoe (Q := Q) (x := x) (σ := σ) (h := (h : Int)) hk (by omega) (by omega) (by omega)
    have hs : aRank w h (i + 1) = aRank w h i + (if decide (w (172 + 4 * h + 2) < w (172 + 4 * i + 2) ∨ (w (172 + 4 * i + 2) = w (172 + 4 * h + 2) ∧ i < h)) = true then 1 else 0) := rfl
    rcases Int.lt_trichotomy (w (172 + 4 * h + 2)) (w (172 + 4 * i + 2)) with z | z | z
    · rw [if_pos (decide_eq_true (Or.inl z))] at hs
      have c1 : (0 < w (172 + 4 * i + 2) - w (172 + 4 * h + 2)) = True := eq_true (by omega)
      have ih2 := ih (i + 1) (some (.inl (w (172 + 4 * i + 2) - w (172 + 4 * h + 2)))) (by omega)
      rw [hs] at ih2
      rw [e43_4]
      simp (disch := first | assumption | exact p_c2i | exact p_c2r | exact p_c2n | omega | ((repeat (first | refine p_a1i.trans ?_ | refine p_a1r.trans ?_)); exact p_a10) | ((repeat (first | refine p_wI ?_ | refine p_wR ?_)); exact p_w0) | decide) only [reduceIte, Int.reduceLT, Int.reduceLE, Int.reduceEq, Int.reduceToNat, Int.reduceAdd, Int.reduceSub, Int.reduceMul, Int.reduceNeg, e43_5, e43_6, e43_9, e43_12, e43_13, e43_14, e43_17, e43_18, e43_19, e43_22, e43_23, e43_25, e43_27, e43_30, e43_32, e43_35, e43_36, e43_37, e43_40, e43_43, e43_46, p_il3, p_al0, p_getI, p_cge, p_cv1_0, p_cv1_1, p_cv1_2, p_cv1_3, p_cv1_4, zK_v, zK_0, WN_ncl, p_il1, p_bin, p_is4, p_c2n, p_c2i, p_c2r, p_il4, p_ifgt, p_ifne, p_ii2, p_ii3, p_goto, WN_nx, WN_nrt, WN_ite, h0, hc, tg, th, gi, gh, c1, e1, Int.toNat_natCast]
      exact ih2
    · have c1 : (0 < w (172 + 4 * i + 2) - w (172 + 4 * h + 2)) = False := eq_false (by omega)
      have c2 : (w (172 + 4 * i + 2) - w (172 + 4 * h + 2) = 0) = True := eq_true (by omega)
      have ih2 := ih (i + 1) (some (.inl (w (172 + 4 * i + 2) - w (172 + 4 * h + 2)))) (by omega)
      by_cases y : i < h
      · rw [if_pos (decide_eq_true (Or.inr ⟨z.symm, y⟩))] at hs
        rw [hs] at ih2
        have c3 : ((i : Int) < (h : Int)) = True := eq_true (by omega)
        rw [e43_4]
        simp (disch := first | assumption | exact p_c2i | exact p_c2r | exact p_c2n | omega | ((repeat (first | refine p_a1i.trans ?_ | refine p_a1r.trans ?_)); exact p_a10) | ((repeat (first | refine p_wI ?_ | refine p_wR ?_)); exact p_w0) | decide) only [reduceIte, Int.reduceLT, Int.reduceLE, Int.reduceEq, Int.reduceToNat, Int.reduceAdd, Int.reduceSub, Int.reduceMul, Int.reduceNeg, e43_5, e43_6, e43_9, e43_12, e43_13, e43_14, e43_17, e43_18, e43_19, e43_22, e43_23, e43_25, e43_27, e43_30, e43_32, e43_35, e43_36, e43_37, e43_40, e43_43, e43_46, p_il3, p_al0, p_getI, p_cge, p_cv1_0, p_cv1_1, p_cv1_2, p_cv1_3, p_cv1_4, zK_v, zK_0, WN_ncl, p_il1, p_bin, p_is4, p_c2n, p_c2i, p_c2r, p_il4, p_ifgt, p_ifne, p_ii2, p_ii3, p_goto, WN_nx, WN_nrt, WN_ite, h0, hc, tg, th, gi, gh, c1, c2, c3, e1, Int.toNat_natCast]
        exact ih2
      · rw [if_neg (by rw [decide_eq_true_iff]; omega), Int.add_zero] at hs
        rw [hs] at ih2
        have c3 : ((i : Int) < (h : Int)) = False := eq_false (by omega)
        rw [e43_4]
        simp (disch := first | assumption | exact p_c2i | exact p_c2r | exact p_c2n | omega | ((repeat (first | refine p_a1i.trans ?_ | refine p_a1r.trans ?_)); exact p_a10) | ((repeat (first | refine p_wI ?_ | refine p_wR ?_)); exact p_w0) | decide) only [reduceIte, Int.reduceLT, Int.reduceLE, Int.reduceEq, Int.reduceToNat, Int.reduceAdd, Int.reduceSub, Int.reduceMul, Int.reduceNeg, e43_5, e43_6, e43_9, e43_12, e43_13, e43_14, e43_17, e43_18, e43_19, e43_22, e43_23, e43_25, e43_27, e43_30, e43_32, e43_35, e43_36, e43_37, e43_40, e43_43, e43_46, p_il3, p_al0, p_getI, p_cge, p_cv1_0, p_cv1_1, p_cv1_2, p_cv1_3, p_cv1_4, zK_v, zK_0, WN_ncl, p_il1, p_bin, p_is4, p_c2n, p_c2i, p_c2r, p_il4, p_ifgt, p_ifne, p_ii2, p_ii3, p_goto, WN_nx, WN_nrt, WN_ite, h0, hc, tg, th, gi, gh, c1, c2, c3, e1, Int.toNat_natCast]
        exact ih2
    · rw [if_neg (by rw [decide_eq_true_iff]; omega), Int.add_zero] at hs
      have c1 : (0 < w (172 + 4 * i + 2) - w (172 + 4 * h + 2)) = False := eq_false (by omega)
      have c2 : (w (172 + 4 * i + 2) - w (172 + 4 * h + 2) = 0) = False := eq_false (by omega)
      have ih2 := ih (i + 1) (some (.inl (w (172 + 4 * i + 2) - w (172 + 4 * h + 2)))) (by omega)
      rw [hs] at ih2
      rw [e43_4]
      simp (disch := first | assumption | exact p_c2i | exact p_c2r | exact p_c2n | omega | ((repeat (first | refine p_a1i.trans ?_ | refine p_a1r.trans ?_)); exact p_a10) | ((repeat (first | refine p_wI ?_ | refine p_wR ?_)); exact p_w0) | decide) only [reduceIte, Int.reduceLT, Int.reduceLE, Int.reduceEq, Int.reduceToNat, Int.reduceAdd, Int.reduceSub, Int.reduceMul, Int.reduceNeg, e43_5, e43_6, e43_9, e43_12, e43_13, e43_14, e43_17, e43_18, e43_19, e43_22, e43_23, e43_25, e43_27, e43_30, e43_32, e43_35, e43_36, e43_37, e43_40, e43_43, e43_46, p_il3, p_al0, p_getI, p_cge, p_cv1_0, p_cv1_1, p_cv1_2, p_cv1_3, p_cv1_4, zK_v, zK_0, WN_ncl, p_il1, p_bin, p_is4, p_c2n, p_c2i, p_c2r, p_il4, p_ifgt, p_ifne, p_ii2, p_ii3, p_goto, WN_nx, WN_nrt, WN_ite, h0, hc, tg, th, gi, gh, c1, c2, e1, Int.toNat_natCast]
      exact ih2
theorem t_rankOf {h : Nat} (hk : zkd L = 2) (hR : zLr σ L w) (ok : zok N w) (hN : N ≤ 100000000) (hh : (h : Int) < w 0) : WM 43 [.inr (.inl (some L)), .inl ((h : Int))] (3565, x, zrho) σ Q = Q (.inl (some (.inl (aRank w h (w 0).toNat)))) (3565, x, zrho) σ := by
  show Wp 43 0 [some (.inr (.inl (some L))), some (.inl ((h : Int))), none, none, none] [] _ σ Q = _
  have o0 := ok.1
  simp (disch := first | assumption | exact p_c2i | exact p_c2r | exact p_c2n | omega | ((repeat (first | refine p_a1i.trans ?_ | refine p_a1r.trans ?_)); exact p_a10) | ((repeat (first | refine p_wI ?_ | refine p_wR ?_)); exact p_w0) | decide) only [reduceIte, Int.reduceLT, Int.reduceLE, Int.reduceEq, Int.reduceToNat, Int.reduceAdd, Int.reduceSub, Int.reduceMul, Int.reduceNeg, e43_0, e43_1, e43_2, e43_3, p_push, p_is2, p_c2n, p_c2i, p_c2r, p_is3, WN_nx, WN_nrt, WN_ite]
  exact l_rankOf (m := none) hk hR ok hN hh (w 0).toNat 0 none (by omega)
theorem l_hoeRanked {p : Int} (hk : zkd L = 2) (hp : -2147483648 ≤ p ∧ p < 2147483648) (hR : zLr σ L w) (ok : zok N w) (hN : N ≤ 100000000) : ∀ n i : Nat, ((i + n : Nat) : Int) = w 0 → Wp 42 2 [some (.inr (.inl (some L))), some (.inl p), some (.inl ((i : Int)))] [] (3565, x, zrho) σ Q = Q (.inl (some (.inl (aRkF w p i n)))) (3565, x, zrho) σ := by
  have o0 := ok.1
  have h0 := hR.h0
  obtain ⟨hp1, hp2⟩ := hp
  intro n
  induction n with
  | zero =>
    intro i hi
    have hc : ((i : Int) < w 0) = False := eq_false (by omega)
    simp (disch := first | assumption | exact p_c2i | exact p_c2r | exact p_c2n | omega | ((repeat (first | refine p_a1i.trans ?_ | refine p_a1r.trans ?_)); exact p_a10) | ((repeat (first | refine p_wI ?_ | refine p_wR ?_)); exact p_w0) | decide) only [reduceIte, Int.reduceLT, Int.reduceLE, Int.reduceEq, Int.reduceToNat, Int.reduceAdd, Int.reduceSub, Int.reduceMul, Int.reduceNeg, e42_0, e42_1, e42_2, e42_3, e42_4, e42_7, e42_10, e42_11, e42_12, e42_15, e42_16, e42_19, e42_20, e42_21, e42_24, e42_27, e42_28, p_push, p_is2, p_c2n, p_c2i, p_c2r, p_il2, p_al0, p_getI, p_cge, p_cv1_0, p_cv1_1, p_cv1_2, p_cv1_3, p_cv1_4, zK_v, zK_0, WN_ncl, p_il1, p_cne, p_ret0, p_ii2, p_goto, WN_nx, WN_nrt, WN_ite, h0, hc]
    rfl
  | succ n ih =>
    intro i hi
    have hc : ((i : Int) < w 0) = True := eq_true (by omega)
    have hi0 : (i : Int) < w 0 := by omega
    have e1 : (i : Int) + 1 = ((i + 1 : Nat) : Int) := by omega
    have ih2 := ih (i + 1) (by omega)
    have tr := fun (Q : ZO → ZT → ZI → Prop) => t_rankOf (Q := Q) (x := x) hk hR ok hN hi0
    have ci : 0 ≤ aRank w i (w 0).toNat ∧ aRank w i (w 0).toNat ≤ (w 0).toNat := zct_in (w 0).toNat
    unfold aRkF
    by_cases hcc : aRank w i (w 0).toNat = p
    · rw [e42_2]
      simp (disch := first | assumption | exact p_c2i | exact p_c2r | exact p_c2n | omega | ((repeat (first | refine p_a1i.trans ?_ | refine p_a1r.trans ?_)); exact p_a10) | ((repeat (first | refine p_wI ?_ | refine p_wR ?_)); exact p_w0) | decide) only [reduceIte, Int.reduceLT, Int.reduceLE, Int.reduceEq, Int.reduceToNat, Int.reduceAdd, Int.reduceSub, Int.reduceMul, Int.reduceNeg, e42_3, e42_4, e42_7, e42_10, e42_11, e42_12, e42_15, e42_16, e42_19, e42_20, e42_21, e42_24, p_il2, p_al0, p_getI, p_cge, p_cv1_0, p_cv1_1, p_cv1_2, p_cv1_3, p_cv1_4, zK_v, zK_0, WN_ncl, p_il1, p_cne, p_ret0, p_ii2, p_goto, WN_nx, WN_nrt, WN_ite, h0, hc, tr, hcc, e1]
    · rw [e42_2]
      simp (disch := first | assumption | exact p_c2i | exact p_c2r | exact p_c2n | omega | ((repeat (first | refine p_a1i.trans ?_ | refine p_a1r.trans ?_)); exact p_a10) | ((repeat (first | refine p_wI ?_ | refine p_wR ?_)); exact p_w0) | decide) only [reduceIte, Int.reduceLT, Int.reduceLE, Int.reduceEq, Int.reduceToNat, Int.reduceAdd, Int.reduceSub, Int.reduceMul, Int.reduceNeg, e42_3, e42_4, e42_7, e42_10, e42_11, e42_12, e42_15, e42_16, e42_19, e42_20, e42_21, e42_24, p_il2, p_al0, p_getI, p_cge, p_cv1_0, p_cv1_1, p_cv1_2, p_cv1_3, p_cv1_4, zK_v, zK_0, WN_ncl, p_il1, p_cne, p_ret0, p_ii2, p_goto, WN_nx, WN_nrt, WN_ite, h0, hc, tr, hcc, e1]
      exact ih2
theorem t_hoeRanked {p : Int} (hk : zkd L = 2) (hp : -2147483648 ≤ p ∧ p < 2147483648) (hR : zLr σ L w) (ok : zok N w) (hN : N ≤ 100000000) : WM 42 [.inr (.inl (some L)), .inl p] (3565, x, zrho) σ Q = Q (.inl (some (.inl (aRanked w p)))) (3565, x, zrho) σ := by
  show Wp 42 0 [some (.inr (.inl (some L))), some (.inl p), none] [] _ σ Q = _
  have o0 := ok.1
  simp (disch := first | assumption | exact p_c2i | exact p_c2r | exact p_c2n | omega | ((repeat (first | refine p_a1i.trans ?_ | refine p_a1r.trans ?_)); exact p_a10) | ((repeat (first | refine p_wI ?_ | refine p_wR ?_)); exact p_w0) | decide) only [reduceIte, Int.reduceLT, Int.reduceLE, Int.reduceEq, Int.reduceToNat, Int.reduceAdd, Int.reduceSub, Int.reduceMul, Int.reduceNeg, e42_0, e42_1, p_push, p_is2, p_c2n, p_c2i, p_c2r, WN_nx, WN_nrt, WN_ite]
  exact l_hoeRanked hk hp hR ok hN (w 0).toNat 0 (by omega)
theorem aLowF_in {c : Int} : ∀ f i : Nat, -1 ≤ aLowF w c i f ∧ aLowF w c i f < i + f + 1 := by
  intro f
  induction f with
  | zero => intro i; unfold aLowF; omega
  | succ f ih =>
    intro i
    unfold aLowF
    have := ih (i + 1)
    split <;> omega
theorem aSign_in {c : Nat} (ok : zok N w) (hc : c < 81) : 0 ≤ aSign w c ∧ aSign w c < 128 := by
  have o1 := ok.2.1
  have oc := ok.2.2.2.2.2.2.2.1 c hc
  have := aLowF_in (w := w) (c := (c : Int)) 4 0
  unfold aSign
  unfold aLow
  split <;> omega
theorem t_signOf {c : Nat} (hk : zkd L = 2) (hR : zLr σ L w) (ok : zok N w) (hc : c < 81) : WM 47 [.inr (.inl (some L)), .inl ((c : Int))] (3565, x, zrho) σ Q = Q (.inl (some (.inl (aSign w c)))) (3565, x, zrho) σ := by
  show Wp 47 0 [some (.inr (.inl (some L))), some (.inl ((c : Int))), none] [] _ σ Q = _
  have o1 := ok.2.1
  have oc := ok.2.2.2.2.2.2.2.1 c hc
  have gc := hR.2.2.1 c hc
  have hl := aLowF_in (w := w) (c := (c : Int)) 4 0
  have hl : -1 ≤ aLow w c ∧ aLow w c < 5 := ⟨hl.1, by have := hl.2; have e : aLow w c = aLowF w c 0 4 := rfl; rw [e]; omega⟩
  have tl := fun (Q : ZO → ZT → ZI → Prop) => t_lowestOn (Q := Q) (x := x) (c := (c : Int)) hk hR ok (by omega)
  unfold aSign
  by_cases h : 0 ≤ aLow w c
  · have c1 : (aLow w c < 0) = False := eq_false (by omega)
    have m1 : (65 + aLow w c) % 65536 = 65 + aLow w c := by omega
    simp (disch := first | assumption | exact p_c2i | exact p_c2r | exact p_c2n | omega | ((repeat (first | refine p_a1i.trans ?_ | refine p_a1r.trans ?_)); exact p_a10) | ((repeat (first | refine p_wI ?_ | refine p_wR ?_)); exact p_w0) | decide) only [reduceIte, Int.reduceLT, Int.reduceLE, Int.reduceEq, Int.reduceToNat, Int.reduceAdd, Int.reduceSub, Int.reduceMul, Int.reduceNeg, e47_0, e47_1, e47_2, e47_5, e47_6, e47_7, e47_10, e47_12, e47_13, e47_14, e47_15, e47_18, e47_20, e47_21, e47_22, e47_25, e47_26, e47_27, p_al0, p_il1, p_cv1_0, p_cv1_1, p_cv1_2, p_cv1_3, p_cv1_4, zK_v, zK_0, WN_ncl, p_is2, p_c2n, p_c2i, p_c2r, p_il2, p_iflt, p_push, p_bin, p_i2c, p_goto, p_ret2, WN_nx, WN_nrt, WN_ite, tl, c1, m1, h]
  · have c1 : (aLow w c < 0) = True := eq_true (by omega)
    have m1 : (48 + w (10 + c)) % 65536 = 48 + w (10 + c) := by omega
    simp (disch := first | assumption | exact p_c2i | exact p_c2r | exact p_c2n | omega | ((repeat (first | refine p_a1i.trans ?_ | refine p_a1r.trans ?_)); exact p_a10) | ((repeat (first | refine p_wI ?_ | refine p_wR ?_)); exact p_w0) | decide) only [reduceIte, Int.reduceLT, Int.reduceLE, Int.reduceEq, Int.reduceToNat, Int.reduceAdd, Int.reduceSub, Int.reduceMul, Int.reduceNeg, e47_0, e47_1, e47_2, e47_5, e47_6, e47_7, e47_10, e47_12, e47_13, e47_14, e47_15, e47_18, e47_20, e47_21, e47_22, e47_25, e47_26, e47_27, p_al0, p_il1, p_cv1_0, p_cv1_1, p_cv1_2, p_cv1_3, p_cv1_4, zK_v, zK_0, WN_ncl, p_is2, p_c2n, p_c2i, p_c2r, p_il2, p_iflt, p_push, p_bin, p_i2c, p_goto, p_ret2, WN_nx, WN_nrt, WN_ite, tl, c1, t_colourOf, gc, m1, h, Int.toNat_natCast]
end
