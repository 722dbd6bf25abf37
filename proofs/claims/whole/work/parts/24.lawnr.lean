/-! WHAT A LAWN TELLS -/
def aOnN (w : zW) (c : Int) : Nat → Int
  | 0 => 0
  | n + 1 => aOnN w c n + (if (n : Int) < w 0 ∧ w (172 + 4 * n) = c then 1 else 0)
theorem aOnN_s {w : zW} {c : Int} {n : Nat} : aOnN w c (n + 1) = aOnN w c n + (if (n : Int) < w 0 ∧ w (172 + 4 * n) = c then 1 else 0) := rfl
def aOn (w : zW) (c : Int) : Int := aOnN w c 4
def aLowF (w : zW) (c : Int) : Nat → Nat → Int
  | _, 0 => -1
  | i, f + 1 => if (i : Int) < w 0 ∧ w (172 + 4 * i) = c then (i : Int) else aLowF w c (i + 1) f
def aLow (w : zW) (c : Int) : Int := aLowF w c 0 4
def aSumN (w : zW) (j : Nat) : Nat → Int
  | 0 => 0
  | n + 1 => aSumN w j n + (if (n : Int) < w 0 then w (172 + 4 * n + j) else 0)
/-- how many of n numbers -/
def zct (p : Nat → Bool) : Nat → Int
  | 0 => 0
  | n + 1 => zct p n + (if p n = true then 1 else 0)
def zsm (f : Nat → Int) : Nat → Int
  | 0 => 0
  | n + 1 => zsm f n + f n
theorem aOnN_in {w : zW} {c : Int} (n : Nat) : 0 ≤ aOnN w c n ∧ aOnN w c n ≤ n := by
  induction n with
  | zero => exact ⟨Int.le_refl _, Int.le_refl _⟩
  | succ n ih =>
    unfold aOnN
    split <;> omega
theorem zct_in {p : Nat → Bool} (n : Nat) : 0 ≤ zct p n ∧ zct p n ≤ n := by
  induction n with
  | zero => exact ⟨Int.le_refl _, Int.le_refl _⟩
  | succ n ih =>
    unfold zct
    split <;> omega
theorem zsm_in {f : Nat → Int} {M : Int} (n : Nat) (h : ∀ k, k < n → 0 ≤ f k ∧ f k ≤ M) : 0 ≤ zsm f n ∧ zsm f n ≤ n * M := by
  induction n with
  | zero => exact ⟨Int.le_refl _, by simp [zsm]⟩
  | succ n ih =>
    have h1 := ih (fun k hk => h k (by omega))
    have h2 := h n (by omega)
    have e : ((n + 1 : Nat) : Int) * M = n * M + M := by rw [Int.natCast_succ, Int.add_mul, Int.one_mul]
    rw [e]
    show 0 ≤ zsm f n + f n ∧ zsm f n + f n ≤ _
    omega
section
variable {L : Nat} {σ : ZI} {Q : ZO → ZT → ZI → Prop} {x : Nat} {w : zW} {N : Int}
theorem zLr.h0 (h : zLr σ L w) : σ L 10 = w 0 := h.1.1
theorem zLr.h1 (h : zLr σ L w) : σ L 11 = w 1 := h.1.2.1
theorem zLr.h2 (h : zLr σ L w) : σ L 12 = w 2 := h.1.2.2.1
theorem zLr.h3 (h : zLr σ L w) : σ L 13 = w 3 := h.1.2.2.2.1
theorem zLr.h4 (h : zLr σ L w) : σ L 9 = w 4 := h.1.2.2.2.2
theorem l_hoesOn {c : Int} (hk : zkd L = 2) (hR : zLr σ L w) (ok : zok N w) (hc : -2147483648 ≤ c ∧ c < 2147483648) : ∀ n i : Nat, i + n = 4 → Wp 31 4 [some (.inr (.inl (some L))), some (.inl c), some (.inl (aOnN w c i)), some (.inl ((i : Int)))] [] (3565, x, zrho) σ Q = Q (.inl (some (.inl (aOn w c)))) (3565, x, zrho) σ := by
  have k5 := zkL5 hk
  have n5 := znL5 hk
  have h0 := hR.h0
  have o0 := ok.1
  obtain ⟨hc1, hc2⟩ := hc
  intro n
  induction n with
  | zero =>
    intro i hi
    have e : i = 4 := by omega
    subst e
    simp (disch := first | assumption | exact p_c2i | exact p_c2r | exact p_c2n | omega | ((repeat (first | refine p_a1i.trans ?_ | refine p_a1r.trans ?_)); exact p_a10) | ((repeat (first | refine p_wI ?_ | refine p_wR ?_)); exact p_w0) | decide) only [reduceIte, Int.reduceLT, Int.reduceLE, Int.reduceEq, Int.reduceToNat, Int.reduceAdd, Int.reduceSub, Int.reduceMul, Int.reduceNeg, e31_0, e31_1, e31_2, e31_3, e31_4, e31_5, e31_6, e31_9, e31_10, e31_11, e31_14, e31_17, e31_18, e31_21, e31_22, e31_23, e31_24, e31_27, e31_30, e31_33, e31_36, e31_37, p_push, p_is2, p_c2n, p_c2i, p_c2r, p_is3, p_il3, p_cge, p_al0, p_getI, p_getR, p_iald, p_il1, p_cne, p_ii2, p_ii3, p_goto, p_il2, p_ret0, WN_nx, WN_nrt, WN_ite, show ((4 : Nat) : Int) = 4 from rfl]
    rfl
  | succ n ih =>
    intro i hi
    have hi4 : ((i : Int) < 4) = True := by simp; omega
    have e1 : (i : Int) + 1 = ((i + 1 : Nat) : Int) := by omega
    have ih2 := ih (i + 1) (by omega)
    by_cases hh : (i : Int) < w 0
    · have c5 := (hR.2.2.2.2.1 i hh).1
      have o5 := (ok.2.2.2.2.2.2.2.2.2.1 i hh).1
      by_cases hcc : w (172 + 4 * i) = c
      · rw [e31_4]
        simp (disch := first | assumption | exact p_c2i | exact p_c2r | exact p_c2n | omega | ((repeat (first | refine p_a1i.trans ?_ | refine p_a1r.trans ?_)); exact p_a10) | ((repeat (first | refine p_wI ?_ | refine p_wR ?_)); exact p_w0) | decide) only [reduceIte, Int.reduceLT, Int.reduceLE, Int.reduceEq, Int.reduceToNat, Int.reduceAdd, Int.reduceSub, Int.reduceMul, Int.reduceNeg, e31_5, e31_6, e31_9, e31_10, e31_11, e31_14, e31_17, e31_18, e31_21, e31_22, e31_23, e31_24, e31_27, e31_30, e31_33, p_il3, p_push, p_cge, p_al0, p_getI, p_getR, p_iald, p_il1, p_cne, p_ii2, p_ii3, p_goto, WN_nx, WN_nrt, WN_ite, zrL4 hk, h0, hi4, hh, c5, hcc, Int.toNat_natCast, e1]
        rw [← ih2]
        rw [aOnN_s, if_pos ⟨hh, hcc⟩]
      · rw [e31_4]
        simp (disch := first | assumption | exact p_c2i | exact p_c2r | exact p_c2n | omega | ((repeat (first | refine p_a1i.trans ?_ | refine p_a1r.trans ?_)); exact p_a10) | ((repeat (first | refine p_wI ?_ | refine p_wR ?_)); exact p_w0) | decide) only [reduceIte, Int.reduceLT, Int.reduceLE, Int.reduceEq, Int.reduceToNat, Int.reduceAdd, Int.reduceSub, Int.reduceMul, Int.reduceNeg, e31_5, e31_6, e31_9, e31_10, e31_11, e31_14, e31_17, e31_18, e31_21, e31_22, e31_23, e31_24, e31_27, e31_30, e31_33, p_il3, p_push, p_cge, p_al0, p_getI, p_getR, p_iald, p_il1, p_cne, p_ii2, p_ii3, p_goto, WN_nx, WN_nrt, WN_ite, zrL4 hk, h0, hi4, hh, c5, hcc, Int.toNat_natCast, e1]
        rw [← ih2]
        rw [aOnN_s, if_neg (fun z => hcc z.2), Int.add_zero]
    · rw [e31_4]
      simp (disch := first | assumption | exact p_c2i | exact p_c2r | exact p_c2n | omega | ((repeat (first | refine p_a1i.trans ?_ | refine p_a1r.trans ?_)); exact p_a10) | ((repeat (first | refine p_wI ?_ | refine p_wR ?_)); exact p_w0) | decide) only [reduceIte, Int.reduceLT, Int.reduceLE, Int.reduceEq, Int.reduceToNat, Int.reduceAdd, Int.reduceSub, Int.reduceMul, Int.reduceNeg, e31_5, e31_6, e31_9, e31_10, e31_11, e31_14, e31_17, e31_18, e31_21, e31_22, e31_23, e31_24, e31_27, e31_30, e31_33, p_il3, p_push, p_cge, p_al0, p_getI, p_getR, p_iald, p_il1, p_cne, p_ii2, p_ii3, p_goto, WN_nx, WN_nrt, WN_ite, h0, hi4, hh, e1]
      rw [← ih2]
      rw [aOnN_s, if_neg (fun z => hh z.1), Int.add_zero]
theorem t_hoesOn {c : Int} (hk : zkd L = 2) (hR : zLr σ L w) (ok : zok N w) (hc : -2147483648 ≤ c ∧ c < 2147483648) : WM 31 [.inr (.inl (some L)), .inl c] (3565, x, zrho) σ Q = Q (.inl (some (.inl (aOn w c)))) (3565, x, zrho) σ := by
  show Wp 31 0 [some (.inr (.inl (some L))), some (.inl c), none, none] [] _ σ Q = _
  simp (disch := first | assumption | exact p_c2i | exact p_c2r | exact p_c2n | omega | ((repeat (first | refine p_a1i.trans ?_ | refine p_a1r.trans ?_)); exact p_a10) | ((repeat (first | refine p_wI ?_ | refine p_wR ?_)); exact p_w0) | decide) only [reduceIte, Int.reduceLT, Int.reduceLE, Int.reduceEq, Int.reduceToNat, Int.reduceAdd, Int.reduceSub, Int.reduceMul, Int.reduceNeg, e31_0, e31_1, e31_2, e31_3, p_push, p_is2, p_c2n, p_c2i, p_c2r, p_is3, WN_nx, WN_nrt, WN_ite]
  exact l_hoesOn hk hR ok hc 4 0 rfl
theorem l_lowestOn {c : Int} (hk : zkd L = 2) (hR : zLr σ L w) (ok : zok N w) (hc : -2147483648 ≤ c ∧ c < 2147483648) : ∀ n i : Nat, i + n = 4 → Wp 32 2 [some (.inr (.inl (some L))), some (.inl c), some (.inl ((i : Int)))] [] (3565, x, zrho) σ Q = Q (.inl (some (.inl (aLowF w c i n)))) (3565, x, zrho) σ := by
  have k5 := zkL5 hk
  have n5 := znL5 hk
  have h0 := hR.h0
  have o0 := ok.1
  obtain ⟨hc1, hc2⟩ := hc
  intro n
  induction n with
  | zero =>
    intro i hi
    have e : i = 4 := by omega
    subst e
    simp (disch := first | assumption | exact p_c2i | exact p_c2r | exact p_c2n | omega | ((repeat (first | refine p_a1i.trans ?_ | refine p_a1r.trans ?_)); exact p_a10) | ((repeat (first | refine p_wI ?_ | refine p_wR ?_)); exact p_w0) | decide) only [reduceIte, Int.reduceLT, Int.reduceLE, Int.reduceEq, Int.reduceToNat, Int.reduceAdd, Int.reduceSub, Int.reduceMul, Int.reduceNeg, e32_0, e32_1, e32_2, e32_3, e32_4, e32_7, e32_8, e32_9, e32_12, e32_15, e32_16, e32_19, e32_20, e32_21, e32_22, e32_25, e32_26, e32_27, e32_30, e32_33, e32_34, p_push, p_is2, p_c2n, p_c2i, p_c2r, p_il2, p_cge, p_al0, p_getI, p_getR, p_iald, p_il1, p_cne, p_ret0, p_ii2, p_goto, WN_nx, WN_nrt, WN_ite, show ((4 : Nat) : Int) = 4 from rfl]
    rfl
  | succ n ih =>
    intro i hi
    have hi4 : ((i : Int) < 4) = True := by simp; omega
    have e1 : (i : Int) + 1 = ((i + 1 : Nat) : Int) := by omega
    have ih2 := ih (i + 1) (by omega)
    unfold aLowF
    by_cases hh : (i : Int) < w 0
    · have c5 := (hR.2.2.2.2.1 i hh).1
      have o5 := (ok.2.2.2.2.2.2.2.2.2.1 i hh).1
      by_cases hcc : w (172 + 4 * i) = c
      · rw [e32_2]
        simp (disch := first | assumption | exact p_c2i | exact p_c2r | exact p_c2n | omega | ((repeat (first | refine p_a1i.trans ?_ | refine p_a1r.trans ?_)); exact p_a10) | ((repeat (first | refine p_wI ?_ | refine p_wR ?_)); exact p_w0) | decide) only [reduceIte, Int.reduceLT, Int.reduceLE, Int.reduceEq, Int.reduceToNat, Int.reduceAdd, Int.reduceSub, Int.reduceMul, Int.reduceNeg, e32_3, e32_4, e32_7, e32_8, e32_9, e32_12, e32_15, e32_16, e32_19, e32_20, e32_21, e32_22, e32_25, e32_26, e32_27, e32_30, e32_33, e32_34, p_il2, p_push, p_cge, p_al0, p_getI, p_getR, p_iald, p_il1, p_cne, p_ret0, p_ii2, p_goto, WN_nx, WN_nrt, WN_ite, zrL4 hk, h0, hi4, hh, c5, hcc, Int.toNat_natCast, e1]
        rw [if_pos ⟨trivial, trivial⟩]
      · rw [e32_2]
        simp (disch := first | assumption | exact p_c2i | exact p_c2r | exact p_c2n | omega | ((repeat (first | refine p_a1i.trans ?_ | refine p_a1r.trans ?_)); exact p_a10) | ((repeat (first | refine p_wI ?_ | refine p_wR ?_)); exact p_w0) | decide) only [reduceIte, Int.reduceLT, Int.reduceLE, Int.reduceEq, Int.reduceToNat, Int.reduceAdd, Int.reduceSub, Int.reduceMul, Int.reduceNeg, e32_3, e32_4, e32_7, e32_8, e32_9, e32_12, e32_15, e32_16, e32_19, e32_20, e32_21, e32_22, e32_25, e32_26, e32_27, e32_30, e32_33, e32_34, p_il2, p_push, p_cge, p_al0, p_getI, p_getR, p_iald, p_il1, p_cne, p_ret0, p_ii2, p_goto, WN_nx, WN_nrt, WN_ite, zrL4 hk, h0, hi4, hh, c5, hcc, Int.toNat_natCast, e1]
        rw [ih2, if_neg (fun z => z.2)]
    · rw [e32_2]
      simp (disch := first | assumption | exact p_c2i | exact p_c2r | exact p_c2n | omega | ((repeat (first | refine p_a1i.trans ?_ | refine p_a1r.trans ?_)); exact p_a10) | ((repeat (first | refine p_wI ?_ | refine p_wR ?_)); exact p_w0) | decide) only [reduceIte, Int.reduceLT, Int.reduceLE, Int.reduceEq, Int.reduceToNat, Int.reduceAdd, Int.reduceSub, Int.reduceMul, Int.reduceNeg, e32_3, e32_4, e32_7, e32_8, e32_9, e32_12, e32_15, e32_16, e32_19, e32_20, e32_21, e32_22, e32_25, e32_26, e32_27, e32_30, e32_33, e32_34, p_il2, p_push, p_cge, p_al0, p_getI, p_getR, p_iald, p_il1, p_cne, p_ret0, p_ii2, p_goto, WN_nx, WN_nrt, WN_ite, h0, hi4, hh, e1]
      rw [ih2, if_neg (fun z => z.1)]
theorem t_lowestOn {c : Int} (hk : zkd L = 2) (hR : zLr σ L w) (ok : zok N w) (hc : -2147483648 ≤ c ∧ c < 2147483648) : WM 32 [.inr (.inl (some L)), .inl c] (3565, x, zrho) σ Q = Q (.inl (some (.inl (aLow w c)))) (3565, x, zrho) σ := by
  show Wp 32 0 [some (.inr (.inl (some L))), some (.inl c), none] [] _ σ Q = _
  simp (disch := first | assumption | exact p_c2i | exact p_c2r | exact p_c2n | omega | ((repeat (first | refine p_a1i.trans ?_ | refine p_a1r.trans ?_)); exact p_a10) | ((repeat (first | refine p_wI ?_ | refine p_wR ?_)); exact p_w0) | decide) only [reduceIte, Int.reduceLT, Int.reduceLE, Int.reduceEq, Int.reduceToNat, Int.reduceAdd, Int.reduceSub, Int.reduceMul, Int.reduceNeg, e32_0, e32_1, p_push, p_is2, p_c2n, p_c2i, p_c2r, WN_nx, WN_nrt, WN_ite]
  exact l_lowestOn hk hR ok hc 4 0 rfl
end
