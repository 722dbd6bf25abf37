/-! THE MODEL: a hoe moves, a step -/
def aGoes (i : Nat) (w : zW) : Int := if 0 < aOn (aPre i w) (aNext i w) then (if 0 < w 2 then 0 else 1) else 1
def aGN (w : zW) : Nat → Int
  | 0 => 0
  | n + 1 => aGN w n + aGoes n (aMvN w n)
theorem aGN_s {w : zW} {n : Nat} : aGN w (n + 1) = aGN w n + aGoes n (aMvN w n) := rfl
theorem aGoes_in {i : Nat} {w : zW} : 0 ≤ aGoes i w ∧ aGoes i w ≤ 1 := by
  unfold aGoes
  split
  · split <;> omega
  · omega
theorem aGN_in {w : zW} : ∀ n : Nat, 0 ≤ aGN w n ∧ aGN w n ≤ n := by
  intro n
  induction n with
  | zero => exact ⟨Int.le_refl _, Int.le_refl _⟩
  | succ n ih =>
    have := aGoes_in (i := n) (w := aMvN w n)
    rw [aGN_s]
    omega
theorem zmod1 {a b : Int} (h1 : 0 ≤ a) (h2 : a < b) : Int.tmod (a + 1) b = if a + 1 < b then a + 1 else 0 := by
  rw [Int.tmod_eq_emod_of_nonneg (by omega)]
  by_cases h : a + 1 < b
  · rw [if_pos h, Int.emod_eq_of_lt (by omega) h]
  · rw [if_neg h, show a + 1 = b by omega, Int.emod_self]
theorem aBk_0 {w : zW} : aBk (fun _ => false) w = w := by
  funext j
  unfold aBk
  rw [if_neg (fun z => by cases z.2.2)]
theorem aBk_cg {w : zW} {p q : Nat → Bool} (h : ∀ k, k < 4 → p k = q k) : aBk p w = aBk q w := by
  funext j
  unfold aBk
  by_cases h1 : (172 ≤ j ∧ j < 188) ∧ (j - 172) % 4 = 1
  · rw [h _ (show (j - 172) / 4 < 4 by omega)]
  · rw [if_neg (fun z => h1 ⟨z.1, z.2.1⟩), if_neg (fun z => h1 ⟨z.1, z.2.1⟩)]
section
variable {τ σ : ZI} {Q : ZO → ZT → ZI → Prop} {x : Nat} {w : zW} {N : Int} {θ : ZT}
theorem l_trfM {c : Int} (ok : zok N w) (hc : -2147483648 ≤ c ∧ c < 2147483648) : ∀ f i : Nat, i + f = 12 → Wp 169 2 [some (.inr (.inl (some 3553))), some (.inl c), some (.inl ((i : Int))), none] [] (3565, x, zrho) (zg τ w) Q = Wp 169 32 [some (.inr (.inl (some 3553))), some (.inl c), some (.inl (((aFindF w c i f : Nat) : Int))), none] [] (3565, x, zrho) (zg τ w) Q := by
  have k := zm_k
  have k4 := zm_4
  have n4 := zm_n4
  have o4 := ok.2.2.2.2.1
  obtain ⟨hc1, hc2⟩ := hc
  intro f
  induction f with
  | zero =>
    intro i hi
    have c0 : ((i : Int) < w 4) = False := eq_false (by omega)
    rw [e169_2]
    simp (disch := first | assumption | exact p_c2i | exact p_c2r | exact p_c2n | omega | ((repeat (first | refine p_a1i.trans ?_ | refine p_a1r.trans ?_)); exact p_a10) | ((repeat (first | refine p_wI ?_ | refine p_wR ?_)); exact p_w0) | decide) only [reduceIte, Int.reduceLT, Int.reduceLE, Int.reduceEq, Int.reduceToNat, Int.reduceAdd, Int.reduceSub, Int.reduceMul, Int.reduceNeg, e169_3, e169_4, e169_7, e169_8, e169_9, e169_12, e169_13, e169_16, e169_19, e169_20, e169_21, e169_22, e169_23, e169_26, e169_29, p_il2, p_al0, p_getR, p_push, p_iald, p_cge, p_bin, p_il1, p_ceq, p_ii2, p_goto, WN_nx, WN_nrt, WN_ite, zm_r0, zg_s, c0, aFindF]
  | succ f ih =>
    intro i hi
    have e1 : (i : Int) + 1 = ((i + 1 : Nat) : Int) := by omega
    have ih2 := ih (i + 1) (by omega)
    have ei : (188 + (i : Int)).toNat = 188 + i := by omega
    unfold aFindF
    by_cases hh : (i : Int) < w 4
    · have o5 := ok.2.2.2.2.2.2.2.2.2.2 i hh
      have hh1 : ((i : Int) < w 4) = True := eq_true hh
      by_cases hcc : w (188 + i) = c
      · rw [e169_2]
        simp (disch := first | assumption | exact p_c2i | exact p_c2r | exact p_c2n | omega | ((repeat (first | refine p_a1i.trans ?_ | refine p_a1r.trans ?_)); exact p_a10) | ((repeat (first | refine p_wI ?_ | refine p_wR ?_)); exact p_w0) | decide) only [reduceIte, Int.reduceLT, Int.reduceLE, Int.reduceEq, Int.reduceToNat, Int.reduceAdd, Int.reduceSub, Int.reduceMul, Int.reduceNeg, e169_3, e169_4, e169_7, e169_8, e169_9, e169_12, e169_13, e169_16, e169_19, e169_20, e169_21, e169_22, e169_23, e169_26, e169_29, p_il2, p_al0, p_getR, p_push, p_iald, p_cge, p_bin, p_il1, p_ceq, p_ii2, p_goto, WN_nx, WN_nrt, WN_ite, zm_r0, zg_s, hh1, ei, hcc, e1]
        rw [if_neg (fun z => z.2 trivial)]
      · rw [e169_2]
        simp (disch := first | assumption | exact p_c2i | exact p_c2r | exact p_c2n | omega | ((repeat (first | refine p_a1i.trans ?_ | refine p_a1r.trans ?_)); exact p_a10) | ((repeat (first | refine p_wI ?_ | refine p_wR ?_)); exact p_w0) | decide) only [reduceIte, Int.reduceLT, Int.reduceLE, Int.reduceEq, Int.reduceToNat, Int.reduceAdd, Int.reduceSub, Int.reduceMul, Int.reduceNeg, e169_3, e169_4, e169_7, e169_8, e169_9, e169_12, e169_13, e169_16, e169_19, e169_20, e169_21, e169_22, e169_23, e169_26, e169_29, p_il2, p_al0, p_getR, p_push, p_iald, p_cge, p_bin, p_il1, p_ceq, p_ii2, p_goto, WN_nx, WN_nrt, WN_ite, zm_r0, zg_s, hh1, ei, hcc, e1]
        rw [ih2, if_pos ⟨trivial, id⟩]
    · have hh1 : ((i : Int) < w 4) = False := eq_false hh
      rw [e169_2]
      simp (disch := first | assumption | exact p_c2i | exact p_c2r | exact p_c2n | omega | ((repeat (first | refine p_a1i.trans ?_ | refine p_a1r.trans ?_)); exact p_a10) | ((repeat (first | refine p_wI ?_ | refine p_wR ?_)); exact p_w0) | decide) only [reduceIte, Int.reduceLT, Int.reduceLE, Int.reduceEq, Int.reduceToNat, Int.reduceAdd, Int.reduceSub, Int.reduceMul, Int.reduceNeg, e169_3, e169_4, e169_7, e169_8, e169_9, e169_12, e169_13, e169_16, e169_19, e169_20, e169_21, e169_22, e169_23, e169_26, e169_29, p_il2, p_al0, p_getR, p_push, p_iald, p_cge, p_bin, p_il1, p_ceq, p_ii2, p_goto, WN_nx, WN_nrt, WN_ite, zm_r0, zg_s, hh1]
      rw [if_neg (fun z => z.1)]
theorem l_trsM {c p : Int} {b : Nat} (hb : b < 12) : ∀ k : Nat, k ≤ b → Wp 169 69 [some (.inr (.inl (some 3553))), some (.inl c), some (.inl p), some (.inl ((k : Int)))] [] (3565, x, zrho) (zsh σ 3554 188 k b) Q = Wp 169 101 [some (.inr (.inl (some 3553))), some (.inl c), some (.inl p), some (.inl 0)] [] (3565, x, zrho) (zsh σ 3554 188 0 b) Q := by
  have hk := zm_k
  have k4 := zm_4
  have n4 := zm_n4
  intro k
  induction k with
  | zero =>
    intro h
    rw [e169_69]
    simp (disch := first | assumption | exact p_c2i | exact p_c2r | exact p_c2n | omega | ((repeat (first | refine p_a1i.trans ?_ | refine p_a1r.trans ?_)); exact p_a10) | ((repeat (first | refine p_wI ?_ | refine p_wR ?_)); exact p_w0) | decide) only [reduceIte, Int.reduceLT, Int.reduceLE, Int.reduceEq, Int.reduceToNat, Int.reduceAdd, Int.reduceSub, Int.reduceMul, Int.reduceNeg, e169_70, e169_73, e169_74, e169_77, e169_80, e169_81, e169_82, e169_83, e169_86, e169_89, e169_90, e169_91, e169_92, e169_93, e169_94, e169_95, e169_98, p_il3, p_ifle, p_al0, p_getR, p_push, p_bin, p_iald, p_iast, p_ii3, p_goto, WN_nx, WN_nrt, WN_ite, Int.natCast_zero, Int.lt_irrefl]
  | succ k ih =>
    intro h
    have hp : ((0 : Int) < ((k + 1 : Nat) : Int)) = True := eq_true (by omega)
    have e3 : (((k + 1 : Nat) : Int) + -1) = (k : Int) := by omega
    have i1 : (188 + ((k + 1 : Nat) : Int)).toNat = 188 + (k + 1) := by omega
    have i2 : (188 + ((k + 1 : Nat) : Int) - 1).toNat = 188 + k := by omega
    have e4 : zsh σ 3554 188 (k + 1) b 3554 (188 + k) = σ 3554 (188 + k) := zsh_lo (by omega)
    have e5 := zsh_s (σ := σ) (a := 3554) (o := 188) (k := k) (b := b) (by omega)
    rw [e169_69]
    simp (disch := first | assumption | exact p_c2i | exact p_c2r | exact p_c2n | omega | ((repeat (first | refine p_a1i.trans ?_ | refine p_a1r.trans ?_)); exact p_a10) | ((repeat (first | refine p_wI ?_ | refine p_wR ?_)); exact p_w0) | decide) only [reduceIte, Int.reduceLT, Int.reduceLE, Int.reduceEq, Int.reduceToNat, Int.reduceAdd, Int.reduceSub, Int.reduceMul, Int.reduceNeg, e169_70, e169_73, e169_74, e169_77, e169_80, e169_81, e169_82, e169_83, e169_86, e169_89, e169_90, e169_91, e169_92, e169_93, e169_94, e169_95, e169_98, p_il3, p_ifle, p_al0, p_getR, p_push, p_bin, p_iald, p_iast, p_ii3, p_goto, WN_nx, WN_nrt, WN_ite, hp, zm_r0, i1, i2, e3, e4, e5]
    exact ih (by omega)
theorem t_trails {c : Int} (ok : zok N w) (hc : 0 ≤ c ∧ c < 81) : WM 169 [.inr (.inl (some 3553)), .inl c] (3565, x, zrho) (zg τ w) Q = Q (.inl none) (3565, x, zrho) (zg τ (aTrail c w)) := by
  show Wp 169 0 [some (.inr (.inl (some 3553))), some (.inl c), none, none] [] _ _ Q = _
  have k := zm_k
  have k4 := zm_4
  have n4 := zm_n4
  simp (disch := first | assumption | exact p_c2i | exact p_c2r | exact p_c2n | omega | ((repeat (first | refine p_a1i.trans ?_ | refine p_a1r.trans ?_)); exact p_a10) | ((repeat (first | refine p_wI ?_ | refine p_wR ?_)); exact p_w0) | decide) only [reduceIte, Int.reduceLT, Int.reduceLE, Int.reduceEq, Int.reduceToNat, Int.reduceAdd, Int.reduceSub, Int.reduceMul, Int.reduceNeg, e169_0, e169_1, p_push, p_is2, p_c2n, p_c2i, p_c2r, WN_nx, WN_nrt, WN_ite]
  have hF := l_trfM (τ := τ) (Q := Q) (x := x) (c := c) ok (by omega) 12 0 rfl
  rw [show ((0 : Nat) : Int) = 0 from rfl] at hF
  rw [hF]
  obtain ⟨-, f2, f3⟩ := aFindF_le (w := w) (c := c) 12 0
  have o4 := ok.2.2.2.2.1
  have f3 := f3 o4.1
  have hT : ∀ j, aTrail c w j = if j = 4 then (if w 4 ≤ ((aFindF w c 0 12 : Nat) : Int) then min (w 4 + 1) 12 else w 4) else if j = 188 then c else if 188 < j ∧ j ≤ 188 + min (aFindF w c 0 12) 11 then w (j - 1) else w j := fun j => rfl
  generalize hp : aFindF w c 0 12 = p at f2 f3 hT ⊢
  have key : ∀ (w1 : zW), (∀ j, j ≠ 4 → w1 j = w j) → (w1 4 = if w 4 ≤ (p : Int) then min (w 4 + 1) 12 else w 4) → Wp 169 67 [some (.inr (.inl (some 3553))), some (.inl c), some (.inl (((min p 11 : Nat) : Int))), none] [] (3565, x, zrho) (zg τ w1) Q = Q (.inl none) (3565, x, zrho) (zg τ (aTrail c w)) := by
    intro w1 g1 g2
    simp (disch := first | assumption | exact p_c2i | exact p_c2r | exact p_c2n | omega | ((repeat (first | refine p_a1i.trans ?_ | refine p_a1r.trans ?_)); exact p_a10) | ((repeat (first | refine p_wI ?_ | refine p_wR ?_)); exact p_w0) | decide) only [reduceIte, Int.reduceLT, Int.reduceLE, Int.reduceEq, Int.reduceToNat, Int.reduceAdd, Int.reduceSub, Int.reduceMul, Int.reduceNeg, e169_67, e169_68, p_il2, p_is3, p_c2n, p_c2i, p_c2r, WN_nx, WN_nrt, WN_ite]
    have hs := l_trsM (σ := zg τ w1) (Q := Q) (x := x) (c := c) (p := ((min p 11 : Nat) : Int)) (b := min p 11) (by omega) (min p 11) (Nat.le_refl _)
    rw [zsh_0] at hs
    rw [hs]
    simp (disch := first | assumption | exact p_c2i | exact p_c2r | exact p_c2n | omega | ((repeat (first | refine p_a1i.trans ?_ | refine p_a1r.trans ?_)); exact p_a10) | ((repeat (first | refine p_wI ?_ | refine p_wR ?_)); exact p_w0) | decide) only [reduceIte, Int.reduceLT, Int.reduceLE, Int.reduceEq, Int.reduceToNat, Int.reduceAdd, Int.reduceSub, Int.reduceMul, Int.reduceNeg, e169_101, e169_102, e169_105, e169_108, e169_109, e169_110, p_al0, p_getR, p_push, p_il1, p_iast, p_vret, WN_nx, WN_nrt, WN_ite, zm_r0]
    have e : zup (zsh (zg τ w1) 3554 188 0 (min p 11)) 3554 188 c = zg τ (aTrail c w) := by
      funext a j
      by_cases h : a = 3554
      · subst h
        rw [zg_s, hT]
        by_cases j188 : j = 188
        · subst j188; rw [zup_s, if_neg (by omega), if_pos rfl]
        · rw [zup_j j188, if_neg (c := j = 188) j188]
          unfold zsh
          rw [zg_s]
          by_cases j4 : j = 4
          · subst j4; rw [if_neg (by omega), if_pos rfl]; exact g2
          · rw [if_neg (c := j = 4) j4]
            by_cases hj : 188 < j ∧ j ≤ 188 + min p 11
            · rw [if_pos hj, if_pos ⟨rfl, by omega, hj.2⟩]; exact g1 _ (by omega)
            · rw [if_neg hj, if_neg (fun z => hj ⟨by omega, z.2.2⟩)]; exact g1 _ j4
      · rw [zup_o h, zsh_ne h, zg_o h, zg_o h]
    rw [e]
  by_cases h1 : (p : Int) = w 4
  · by_cases h2 : p < 12
    · have c1 : ((p : Int) = w 4) = True := eq_true h1
      have c2 : ((p : Int) < 12) = True := eq_true (by omega)
      have c3 : ((p : Int) = 12) = False := eq_false (by omega)
      simp (disch := first | assumption | exact p_c2i | exact p_c2r | exact p_c2n | omega | ((repeat (first | refine p_a1i.trans ?_ | refine p_a1r.trans ?_)); exact p_a10) | ((repeat (first | refine p_wI ?_ | refine p_wR ?_)); exact p_w0) | decide) only [reduceIte, Int.reduceLT, Int.reduceLE, Int.reduceEq, Int.reduceToNat, Int.reduceAdd, Int.reduceSub, Int.reduceMul, Int.reduceNeg, e169_32, e169_33, e169_34, e169_37, e169_38, e169_39, e169_42, e169_43, e169_45, e169_48, e169_49, e169_52, e169_53, e169_54, e169_55, e169_56, e169_57, e169_58, e169_59, e169_61, e169_64, p_il2, p_al0, p_getR, p_push, p_iald, p_cne, p_cge, p_dup2, p_bin, p_iast, p_ii2, WN_nx, WN_nrt, WN_ite, zm_r0, zg_s, zg_u, c1, c2, c3]
      have := key (wu w 4 (w 4 + 1)) (fun j hj => wu_o hj) (by rw [wu_s, if_pos (by omega)]; omega)
      rw [show ((min p 11 : Nat) : Int) = (p : Int) by omega] at this
      exact this
    · have c1 : ((p : Int) = w 4) = True := eq_true h1
      have hp12 : (p : Int) = 12 := by omega
      have c2 : ((12 : Int) < 12) = False := eq_false (by omega)
      have := key w (fun j hj => rfl) (by rw [if_pos (by omega)]; omega)
      rw [show ((min p 11 : Nat) : Int) = 11 by omega] at this
      rw [hp12] at h1
      have c4 : ((12 : Int) = w 4) = True := eq_true h1
      rw [hp12]
      simp (disch := first | assumption | exact p_c2i | exact p_c2r | exact p_c2n | omega | ((repeat (first | refine p_a1i.trans ?_ | refine p_a1r.trans ?_)); exact p_a10) | ((repeat (first | refine p_wI ?_ | refine p_wR ?_)); exact p_w0) | decide) only [reduceIte, Int.reduceLT, Int.reduceLE, Int.reduceEq, Int.reduceToNat, Int.reduceAdd, Int.reduceSub, Int.reduceMul, Int.reduceNeg, e169_32, e169_33, e169_34, e169_37, e169_38, e169_39, e169_42, e169_43, e169_45, e169_48, e169_49, e169_52, e169_53, e169_54, e169_55, e169_56, e169_57, e169_58, e169_59, e169_61, e169_64, p_il2, p_al0, p_getR, p_push, p_iald, p_cne, p_cge, p_dup2, p_bin, p_iast, p_ii2, WN_nx, WN_nrt, WN_ite, zm_r0, zg_s, c4, c2]
      exact this
  · have c1 : ((p : Int) = w 4) = False := eq_false h1
    have c3 : ((p : Int) = 12) = False := eq_false (by omega)
    simp (disch := first | assumption | exact p_c2i | exact p_c2r | exact p_c2n | omega | ((repeat (first | refine p_a1i.trans ?_ | refine p_a1r.trans ?_)); exact p_a10) | ((repeat (first | refine p_wI ?_ | refine p_wR ?_)); exact p_w0) | decide) only [reduceIte, Int.reduceLT, Int.reduceLE, Int.reduceEq, Int.reduceToNat, Int.reduceAdd, Int.reduceSub, Int.reduceMul, Int.reduceNeg, e169_32, e169_33, e169_34, e169_37, e169_38, e169_39, e169_42, e169_43, e169_45, e169_48, e169_49, e169_52, e169_53, e169_54, e169_55, e169_56, e169_57, e169_58, e169_59, e169_61, e169_64, p_il2, p_al0, p_getR, p_push, p_iald, p_cne, p_cge, p_dup2, p_bin, p_iast, p_ii2, WN_nx, WN_nrt, WN_ite, zm_r0, zg_s, c1, c3]
    have := key w (fun j hj => rfl) (by rw [if_neg (by omega)])
    rw [show ((min p 11 : Nat) : Int) = (p : Int) by omega] at this
    exact this
theorem l_turnsBackM {h : Nat} {c : Int} (ok : zok N w) (hh : h < 4) (hc : -2147483648 ≤ c ∧ c < 2147483648) : ∀ n i : Nat, ((i + n : Nat) : Int) = w 0 → Wp 171 2 [some (.inr (.inl (some 3553))), some (.inl ((h : Int))), some (.inl c), some (.inl ((i : Int)))] [] (3565, x, zrho) (zg τ (aBk (fun k => decide (k < i ∧ (k = h ∨ w (172 + 4 * k) = c))) w)) Q = Q (.inl none) (3565, x, zrho) (zg τ (aBk (fun k => decide ((k : Int) < w 0 ∧ (k = h ∨ w (172 + 4 * k) = c))) w)) := by
  have hk := zm_k
  have k4 := zm_4
  have n4 := zm_n4
  have o0 := ok.1
  obtain ⟨hc1, hc2⟩ := hc
  have b0 : ∀ p, aBk p w 0 = w 0 := fun p => by unfold aBk; rw [if_neg (by omega)]
  intro n
  induction n with
  | zero =>
    intro i hi
    have c0 : ((i : Int) < w 0) = False := eq_false (by omega)
    simp (disch := first | assumption | exact p_c2i | exact p_c2r | exact p_c2n | omega | ((repeat (first | refine p_a1i.trans ?_ | refine p_a1r.trans ?_)); exact p_a10) | ((repeat (first | refine p_wI ?_ | refine p_wR ?_)); exact p_w0) | decide) only [reduceIte, Int.reduceLT, Int.reduceLE, Int.reduceEq, Int.reduceToNat, Int.reduceAdd, Int.reduceSub, Int.reduceMul, Int.reduceNeg, e171_0, e171_1, e171_2, e171_3, e171_4, e171_7, e171_8, e171_9, e171_12, e171_13, e171_14, e171_17, e171_18, e171_19, e171_20, e171_23, e171_24, e171_27, e171_28, e171_29, e171_30, e171_31, e171_32, e171_33, e171_36, e171_37, e171_38, e171_39, e171_40, e171_43, e171_46, e171_49, p_push, p_is3, p_c2n, p_c2i, p_c2r, p_il3, p_al0, p_getR, p_iald, p_cge, p_il1, p_ceq, p_cv2_0, p_cv2_1, p_cv2_2, p_cv2_3, p_cv2_4, zK_v, zK_0, WN_ncl, p_il2, p_cne, p_bin, p_rem, p_cv3_0, p_cv3_1, p_cv3_2, p_cv3_3, p_cv3_4, p_ii3, p_goto, p_vret, WN_nx, WN_nrt, WN_ite, zm_r0, zg_s, b0, c0]
    rw [aBk_cg (p := fun k => decide (k < i ∧ (k = h ∨ w (172 + 4 * k) = c))) (q := fun k => decide ((k : Int) < w 0 ∧ (k = h ∨ w (172 + 4 * k) = c))) (fun k _ => by
      have : (k < i) = ((k : Int) < w 0) := propext ⟨fun _ => by omega, fun _ => by omega⟩
      simp only [this])]
  | succ n ih =>
    intro i hi
    have hi0 : (i : Int) < w 0 := by omega
    have c0 : ((i : Int) < w 0) = True := eq_true hi0
    have e1 : (i : Int) + 1 = ((i + 1 : Nat) : Int) := by omega
    have ih2 := ih (i + 1) (by omega)
    have o5 := (ok.2.2.2.2.2.2.2.2.2.1 i hi0).1
    have o6 := (ok.2.2.2.2.2.2.2.2.2.1 i hi0).2.1
    rw [show 173 + 4 * i = 172 + 4 * i + 1 by omega] at o6
    have b1 : ∀ p, aBk p w (172 + 4 * i) = w (172 + 4 * i) := fun p => by unfold aBk; rw [if_neg (by omega)]
    have b2 : aBk (fun k => decide (k < i ∧ (k = h ∨ w (172 + 4 * k) = c))) w (172 + 4 * i + 1) = w (172 + 4 * i + 1) := by
      unfold aBk
      rw [if_neg (fun z => by have := of_decide_eq_true z.2.2; omega)]
    have to := fun (Q : ZO → ZT → ZI → Prop) (w : zW) => t_ofM (Q := Q) (x := x) (τ := τ) (w := w) (h := i) (j := 0) (by omega) (by omega) (by omega)
    rw [show 172 + 4 * i + Int.toNat 0 = 172 + 4 * i from rfl] at to
    have to1 := fun (Q : ZO → ZT → ZI → Prop) (w : zW) => t_ofM (Q := Q) (x := x) (τ := τ) (w := w) (h := i) (j := 1) (by omega) (by omega) (by omega)
    rw [show 172 + 4 * i + Int.toNat 1 = 172 + 4 * i + 1 from rfl] at to1
    have tl := fun (Q : ZO → ZT → ZI → Prop) (w : zW) (v : Int) => t_laysM (Q := Q) (x := x) (τ := τ) (w := w) (h := i) (j := 1) (v := v) (by omega) (by omega) (by omega)
    rw [show 172 + 4 * i + Int.toNat 1 = 172 + 4 * i + 1 from rfl] at tl
    have m4 : Int.tmod (w (172 + 4 * i + 1) + 2) 4 = (w (172 + 4 * i + 1) + 2) % 4 := Int.tmod_eq_emod_of_nonneg (by omega)
    have yes : (i = h ∨ w (172 + 4 * i) = c) → wu (aBk (fun k => decide (k < i ∧ (k = h ∨ w (172 + 4 * k) = c))) w) (172 + 4 * i + 1) ((w (172 + 4 * i + 1) + 2) % 4) = aBk (fun k => decide (k < i + 1 ∧ (k = h ∨ w (172 + 4 * k) = c))) w := by
      intro hy
      funext j
      by_cases hj : j = 172 + 4 * i + 1
      · subst hj
        rw [wu_s]
        unfold aBk
        have ed : (172 + 4 * i + 1 - 172) / 4 = i := by omega
        rw [if_pos ⟨by omega, by omega, by rw [ed]; exact decide_eq_true ⟨by omega, hy⟩⟩]
      · rw [wu_o hj]
        unfold aBk
        by_cases hj2 : (172 ≤ j ∧ j < 188) ∧ (j - 172) % 4 = 1
        · have ed : ((j - 172) / 4 < i) = ((j - 172) / 4 < i + 1) := propext ⟨fun _ => by omega, fun _ => by omega⟩
          simp only [ed]
        · rw [if_neg (fun z => hj2 ⟨z.1, z.2.1⟩), if_neg (fun z => hj2 ⟨z.1, z.2.1⟩)]
    have no : ¬ (i = h ∨ w (172 + 4 * i) = c) → aBk (fun k => decide (k < i ∧ (k = h ∨ w (172 + 4 * k) = c))) w = aBk (fun k => decide (k < i + 1 ∧ (k = h ∨ w (172 + 4 * k) = c))) w := by
      intro hy
      refine aBk_cg (fun k _ => ?_)
      have ed : (k < i ∧ (k = h ∨ w (172 + 4 * k) = c)) = (k < i + 1 ∧ (k = h ∨ w (172 + 4 * k) = c)) := propext ⟨fun z => ⟨by omega, z.2⟩, fun z => ⟨by
        have : k ≠ i := fun e => hy (e ▸ z.2)
        omega, z.2⟩⟩
      simp only [ed]
    by_cases hy1 : i = h
    · have y := yes (Or.inl hy1)
      have d1 : ((i : Int) = (h : Int)) = True := eq_true (by omega)
      rw [e171_2]
      simp (disch := first | assumption | exact p_c2i | exact p_c2r | exact p_c2n | omega | ((repeat (first | refine p_a1i.trans ?_ | refine p_a1r.trans ?_)); exact p_a10) | ((repeat (first | refine p_wI ?_ | refine p_wR ?_)); exact p_w0) | decide) only [reduceIte, Int.reduceLT, Int.reduceLE, Int.reduceEq, Int.reduceToNat, Int.reduceAdd, Int.reduceSub, Int.reduceMul, Int.reduceNeg, e171_3, e171_4, e171_7, e171_8, e171_9, e171_12, e171_13, e171_14, e171_17, e171_18, e171_19, e171_20, e171_23, e171_24, e171_27, e171_28, e171_29, e171_30, e171_31, e171_32, e171_33, e171_36, e171_37, e171_38, e171_39, e171_40, e171_43, e171_46, p_il3, p_al0, p_getR, p_push, p_iald, p_cge, p_il1, p_ceq, p_cv2_0, p_cv2_1, p_cv2_2, p_cv2_3, p_cv2_4, zK_v, zK_0, WN_ncl, p_il2, p_cne, p_bin, p_rem, p_cv3_0, p_cv3_1, p_cv3_2, p_cv3_3, p_cv3_4, p_ii3, p_goto, WN_nx, WN_nrt, WN_ite, zm_r0, zg_s, b0, c0, d1, to1, b2, m4, tl, y, e1]
      exact ih2
    · have d1 : ((i : Int) = (h : Int)) = False := eq_false (by omega)
      by_cases hy2 : w (172 + 4 * i) = c
      · have y := yes (Or.inr hy2)
        rw [e171_2]
        simp (disch := first | assumption | exact p_c2i | exact p_c2r | exact p_c2n | omega | ((repeat (first | refine p_a1i.trans ?_ | refine p_a1r.trans ?_)); exact p_a10) | ((repeat (first | refine p_wI ?_ | refine p_wR ?_)); exact p_w0) | decide) only [reduceIte, Int.reduceLT, Int.reduceLE, Int.reduceEq, Int.reduceToNat, Int.reduceAdd, Int.reduceSub, Int.reduceMul, Int.reduceNeg, e171_3, e171_4, e171_7, e171_8, e171_9, e171_12, e171_13, e171_14, e171_17, e171_18, e171_19, e171_20, e171_23, e171_24, e171_27, e171_28, e171_29, e171_30, e171_31, e171_32, e171_33, e171_36, e171_37, e171_38, e171_39, e171_40, e171_43, e171_46, p_il3, p_al0, p_getR, p_push, p_iald, p_cge, p_il1, p_ceq, p_cv2_0, p_cv2_1, p_cv2_2, p_cv2_3, p_cv2_4, zK_v, zK_0, WN_ncl, p_il2, p_cne, p_bin, p_rem, p_cv3_0, p_cv3_1, p_cv3_2, p_cv3_3, p_cv3_4, p_ii3, p_goto, WN_nx, WN_nrt, WN_ite, zm_r0, zg_s, b0, c0, d1, to, b1, hy2, to1, b2, m4, tl, y, e1]
        exact ih2
      · have y := no (fun z => z.elim hy1 hy2)
        rw [e171_2]
        simp (disch := first | assumption | exact p_c2i | exact p_c2r | exact p_c2n | omega | ((repeat (first | refine p_a1i.trans ?_ | refine p_a1r.trans ?_)); exact p_a10) | ((repeat (first | refine p_wI ?_ | refine p_wR ?_)); exact p_w0) | decide) only [reduceIte, Int.reduceLT, Int.reduceLE, Int.reduceEq, Int.reduceToNat, Int.reduceAdd, Int.reduceSub, Int.reduceMul, Int.reduceNeg, e171_3, e171_4, e171_7, e171_8, e171_9, e171_12, e171_13, e171_14, e171_17, e171_18, e171_19, e171_20, e171_23, e171_24, e171_27, e171_28, e171_29, e171_30, e171_31, e171_32, e171_33, e171_36, e171_37, e171_38, e171_39, e171_40, e171_43, e171_46, p_il3, p_al0, p_getR, p_push, p_iald, p_cge, p_il1, p_ceq, p_cv2_0, p_cv2_1, p_cv2_2, p_cv2_3, p_cv2_4, zK_v, zK_0, WN_ncl, p_il2, p_cne, p_bin, p_rem, p_cv3_0, p_cv3_1, p_cv3_2, p_cv3_3, p_cv3_4, p_ii3, p_goto, WN_nx, WN_nrt, WN_ite, zm_r0, zg_s, b0, c0, d1, to, b1, hy2, y, e1]
        exact ih2
theorem t_turnsBackM {h : Nat} {c : Int} (ok : zok N w) (hh : h < 4) (hc : -2147483648 ≤ c ∧ c < 2147483648) : WM 171 [.inr (.inl (some 3553)), .inl ((h : Int)), .inl c] (3565, x, zrho) (zg τ w) Q = Q (.inl none) (3565, x, zrho) (zg τ (aBk (fun k => decide ((k : Int) < w 0 ∧ (k = h ∨ w (172 + 4 * k) = c))) w)) := by
  show Wp 171 0 [some (.inr (.inl (some 3553))), some (.inl ((h : Int))), some (.inl c), none] [] _ _ Q = _
  have o0 := ok.1
  simp (disch := first | assumption | exact p_c2i | exact p_c2r | exact p_c2n | omega | ((repeat (first | refine p_a1i.trans ?_ | refine p_a1r.trans ?_)); exact p_a10) | ((repeat (first | refine p_wI ?_ | refine p_wR ?_)); exact p_w0) | decide) only [reduceIte, Int.reduceLT, Int.reduceLE, Int.reduceEq, Int.reduceToNat, Int.reduceAdd, Int.reduceSub, Int.reduceMul, Int.reduceNeg, e171_0, e171_1, p_push, p_is3, p_c2n, p_c2i, p_c2r, WN_nx, WN_nrt, WN_ite]
  have hl := l_turnsBackM (τ := τ) (Q := Q) (x := x) (c := c) ok hh hc (w 0).toNat 0 (by omega)
  have e : aBk (fun k => decide (k < 0 ∧ (k = h ∨ w (172 + 4 * k) = c))) w = w := by
    rw [aBk_cg (q := fun _ => false) (fun k _ => decide_eq_false (fun z => Nat.not_lt_zero _ z.1)), aBk_0]
  rw [e] at hl
  exact hl
end
