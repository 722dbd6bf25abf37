/-! WHAT CHANGES A LAWN: painting, trail, moving -/
theorem zand3 {v : Int} (h1 : -4 ≤ v) (h2 : v < 8) : z_and v 3 = v % 4 := by
  have h : v = -4 ∨ v = -3 ∨ v = -2 ∨ v = -1 ∨ v = 0 ∨ v = 1 ∨ v = 2 ∨ v = 3 ∨ v = 4 ∨ v = 5 ∨ v = 6 ∨ v = 7 := by omega
  rcases h with rfl | rfl | rfl | rfl | rfl | rfl | rfl | rfl | rfl | rfl | rfl | rfl <;> decide
def aPaint (c : Nat) (w : zW) : zW := wu (wu w (10 + c) (if w (10 + c) + 1 < w 1 then w (10 + c) + 1 else 0)) (91 + c) (w (91 + c) + 1)
def aFindF (w : zW) (c : Int) : Nat → Nat → Nat
  | i, 0 => i
  | i, f + 1 => if (i : Int) < w 4 ∧ ¬ w (188 + i) = c then aFindF w c (i + 1) f else i
theorem aFindF_le {w : zW} {c : Int} : ∀ f i : Nat, i ≤ aFindF w c i f ∧ aFindF w c i f ≤ i + f ∧ (((i : Int) ≤ w 4) → ((aFindF w c i f : Nat) : Int) ≤ w 4) := by
  intro f
  induction f with
  | zero => intro i; exact ⟨Nat.le_refl _, Nat.le_refl _, fun h => h⟩
  | succ f ih =>
    intro i
    unfold aFindF
    split
    next h =>
      obtain ⟨h1, h2, h3⟩ := ih (i + 1)
      exact ⟨by omega, by omega, fun _ => h3 (by omega)⟩
    next => exact ⟨Nat.le_refl _, by omega, fun h => h⟩
/-- the trail with a cell put on it -/
def aTrail (c : Int) (w : zW) : zW := fun j =>
  if j = 4 then (if w 4 ≤ ((aFindF w c 0 12 : Nat) : Int) then min (w 4 + 1) 12 else w 4)
  else if j = 188 then c else if 188 < j ∧ j ≤ 188 + min (aFindF w c 0 12) 11 then w (j - 1) else w j
/-- a row in the midst of being shifted up by one: from k + 1 to b it is done -/
def zsh (σ : ZI) (a o k b : Nat) : ZI := fun a' j => if a' = a ∧ o + k < j ∧ j ≤ o + b then σ a (j - 1) else σ a' j
theorem zsh_0 {σ : ZI} {a o b : Nat} : zsh σ a o b b = σ := by
  funext a' j
  unfold zsh
  rw [if_neg (by omega)]
theorem zsh_s {σ : ZI} {a o k b : Nat} (h : k < b) : zup (zsh σ a o (k + 1) b) a (o + (k + 1)) (σ a (o + k)) = zsh σ a o k b := by
  funext a' j
  unfold zup zsh
  by_cases h1 : a' = a ∧ j = o + (k + 1)
  · rw [if_pos h1, if_pos ⟨h1.1, by omega, by omega⟩, h1.2, show o + (k + 1) - 1 = o + k by omega]
  · rw [if_neg h1]
    by_cases h2 : a' = a ∧ o + (k + 1) < j ∧ j ≤ o + b
    · rw [if_pos h2, if_pos ⟨h2.1, by omega, h2.2.2⟩]
    · rw [if_neg h2, if_neg (fun z => h2 ⟨z.1, by have := fun e => h1 ⟨z.1, e⟩; omega, z.2.2⟩)]
theorem zsh_lo {σ : ZI} {a o k b j : Nat} (h : j ≤ o + k) : zsh σ a o k b a j = σ a j := by unfold zsh; rw [if_neg (by omega)]
theorem zsh_ne {σ : ZI} {a o k b a' : Nat} (h : a' ≠ a) : zsh σ a o k b a' = σ a' := by funext j; unfold zsh; rw [if_neg (fun z => h z.1)]
section
variable {L : Nat} {σ : ZI} {Q : ZO → ZT → ZI → Prop} {x : Nat} {w : zW} {N : Int}
theorem t_paintByHoe {c : Nat} (hk : zkd L = 2) (hR : zLr σ L w) (ok : zok N w) (hN : N ≤ 100000000) (hc : c < 81) (K : ∀ σ', zLr σ' L (aPaint c w) → zfr σ σ' L → σ' (L + 9) = σ (L + 9) → Q (.inl none) (3565, x, zrho) σ') : WM 36 [.inr (.inl (some L)), .inl ((c : Int))] (3565, x, zrho) σ Q := by
  show Wp 36 0 [some (.inr (.inl (some L))), some (.inl ((c : Int)))] [] _ σ Q
  have k1 := zkL1 hk
  have n1 := znL1 hk
  have k2 := zkL2 hk
  have n2 := znL2 hk
  have h1 := hR.h1
  have ok1 := ok.2.1
  have g1 := hR.2.2.1 c hc
  have g2 := hR.2.2.2.1 c hc
  have o1 := ok.2.2.2.2.2.2.2.1 c hc
  have c0 : ((c : Int) < 0) = False := eq_false (by omega)
  have c8 : ((c : Int) < 81) = True := eq_true (by omega)
  have r0 := zrL0 hk
  have r1 := zrL1 hk
  have e1 : zup σ (L + 1) c (if w (10 + c) + 1 < w 1 then w (10 + c) + 1 else 0) (L + 2) c = w (91 + c) := by rw [zup_o (by omega)]; exact g2
  have hf : zLr (zup (zup σ (L + 1) c (if w (10 + c) + 1 < w 1 then w (10 + c) + 1 else 0)) (L + 2) c (w (91 + c) + 1)) L (aPaint c w) := (hR.col hc).pnt hc
  have hz : zfr σ (zup (zup σ (L + 1) c (if w (10 + c) + 1 < w 1 then w (10 + c) + 1 else 0)) (L + 2) c (w (91 + c) + 1)) L := zfr_t (zfr_u (by omega)) (zfr_u (by omega))
  have hl : zup (zup σ (L + 1) c (if w (10 + c) + 1 < w 1 then w (10 + c) + 1 else 0)) (L + 2) c (w (91 + c) + 1) (L + 9) = σ (L + 9) := by rw [zup_f (by omega), zup_f (by omega)]
  have KK := K _ hf hz hl
  by_cases hlt : w (10 + c) + 1 < w 1
  · rw [if_pos hlt] at KK e1
    simp (disch := first | assumption | exact p_c2i | exact p_c2r | exact p_c2n | omega | ((repeat (first | refine p_a1i.trans ?_ | refine p_a1r.trans ?_)); exact p_a10) | ((repeat (first | refine p_wI ?_ | refine p_wR ?_)); exact p_w0) | decide) only [reduceIte, Int.reduceLT, Int.reduceLE, Int.reduceEq, Int.reduceToNat, Int.reduceAdd, Int.reduceSub, Int.reduceMul, Int.reduceNeg, e36_0, e36_1, e36_4, e36_5, e36_7, e36_10, e36_11, e36_12, e36_15, e36_16, e36_17, e36_20, e36_21, e36_22, e36_23, e36_24, e36_25, e36_28, e36_31, e36_32, e36_35, e36_36, e36_37, e36_38, e36_39, e36_42, e36_43, e36_44, e36_45, e36_48, e36_49, e36_50, e36_51, e36_52, e36_53, e36_54, p_il1, p_iflt, p_push, p_clt, p_vret, p_al0, p_getR, p_iald, p_bin, p_getI, p_cge, p_goto, p_iast, p_dup2, WN_nx, WN_nrt, WN_ite, c0, c8, r0, r1, g1, h1, hlt, e1, Int.toNat_natCast]
    exact KK
  · rw [if_neg hlt] at KK e1
    simp (disch := first | assumption | exact p_c2i | exact p_c2r | exact p_c2n | omega | ((repeat (first | refine p_a1i.trans ?_ | refine p_a1r.trans ?_)); exact p_a10) | ((repeat (first | refine p_wI ?_ | refine p_wR ?_)); exact p_w0) | decide) only [reduceIte, Int.reduceLT, Int.reduceLE, Int.reduceEq, Int.reduceToNat, Int.reduceAdd, Int.reduceSub, Int.reduceMul, Int.reduceNeg, e36_0, e36_1, e36_4, e36_5, e36_7, e36_10, e36_11, e36_12, e36_15, e36_16, e36_17, e36_20, e36_21, e36_22, e36_23, e36_24, e36_25, e36_28, e36_31, e36_32, e36_35, e36_36, e36_37, e36_38, e36_39, e36_42, e36_43, e36_44, e36_45, e36_48, e36_49, e36_50, e36_51, e36_52, e36_53, e36_54, p_il1, p_iflt, p_push, p_clt, p_vret, p_al0, p_getR, p_iald, p_bin, p_getI, p_cge, p_goto, p_iast, p_dup2, WN_nx, WN_nrt, WN_ite, c0, c8, r0, r1, g1, h1, hlt, e1, Int.toNat_natCast]
    exact KK
theorem l_trfind {c : Int} (hk : zkd L = 2) (hR : zLr σ L w) (ok : zok N w) (hc : 0 ≤ c ∧ c < 81) : ∀ f i : Nat, i + f = 12 → Wp 37 2 [some (.inr (.inl (some L))), some (.inl c), some (.inl ((i : Int))), none] [] (3565, x, zrho) σ Q = Wp 37 32 [some (.inr (.inl (some L))), some (.inl c), some (.inl (((aFindF w c i f : Nat) : Int))), none] [] (3565, x, zrho) σ Q := by
  have k4 := zkL4 hk
  have n4 := znL4 hk
  have h4 := hR.h4
  have o4 := ok.2.2.2.2.1
  obtain ⟨hc1, hc2⟩ := hc
  intro f
  induction f with
  | zero =>
    intro i hi
    have e : i = 12 := by omega
    subst e
    have hh : ((12 : Int) < w 4) = False := eq_false (by omega)
    rw [e37_2]
    simp (disch := first | assumption | exact p_c2i | exact p_c2r | exact p_c2n | omega | ((repeat (first | refine p_a1i.trans ?_ | refine p_a1r.trans ?_)); exact p_a10) | ((repeat (first | refine p_wI ?_ | refine p_wR ?_)); exact p_w0) | decide) only [reduceIte, Int.reduceLT, Int.reduceLE, Int.reduceEq, Int.reduceToNat, Int.reduceAdd, Int.reduceSub, Int.reduceMul, Int.reduceNeg, e37_3, e37_4, e37_7, e37_10, e37_11, e37_13, e37_16, e37_17, e37_20, e37_21, e37_22, e37_23, e37_26, e37_29, p_il2, p_al0, p_getI, p_cge, p_push, p_getR, p_iald, p_il1, p_ceq, p_ii2, p_goto, WN_nx, WN_nrt, WN_ite, h4, show ((12 : Nat) : Int) = 12 from rfl, hh, aFindF]
  | succ f ih =>
    intro i hi
    have hi12 : ((i : Int) < 12) = True := eq_true (by omega)
    have e1 : (i : Int) + 1 = ((i + 1 : Nat) : Int) := by omega
    have ih2 := ih (i + 1) (by omega)
    unfold aFindF
    by_cases hh : (i : Int) < w 4
    · have c4 := hR.2.2.2.2.2 i hh
      have o5 := ok.2.2.2.2.2.2.2.2.2.2 i hh
      by_cases hcc : w (188 + i) = c
      · rw [e37_2]
        simp (disch := first | assumption | exact p_c2i | exact p_c2r | exact p_c2n | omega | ((repeat (first | refine p_a1i.trans ?_ | refine p_a1r.trans ?_)); exact p_a10) | ((repeat (first | refine p_wI ?_ | refine p_wR ?_)); exact p_w0) | decide) only [reduceIte, Int.reduceLT, Int.reduceLE, Int.reduceEq, Int.reduceToNat, Int.reduceAdd, Int.reduceSub, Int.reduceMul, Int.reduceNeg, e37_3, e37_4, e37_7, e37_10, e37_11, e37_13, e37_16, e37_17, e37_20, e37_21, e37_22, e37_23, e37_26, e37_29, p_il2, p_al0, p_getI, p_cge, p_push, p_getR, p_iald, p_il1, p_ceq, p_ii2, p_goto, WN_nx, WN_nrt, WN_ite, h4, zrL3 hk, hi12, hh, c4, hcc, Int.toNat_natCast, e1]
        rw [if_neg (fun z => z.2 trivial)]
      · rw [e37_2]
        simp (disch := first | assumption | exact p_c2i | exact p_c2r | exact p_c2n | omega | ((repeat (first | refine p_a1i.trans ?_ | refine p_a1r.trans ?_)); exact p_a10) | ((repeat (first | refine p_wI ?_ | refine p_wR ?_)); exact p_w0) | decide) only [reduceIte, Int.reduceLT, Int.reduceLE, Int.reduceEq, Int.reduceToNat, Int.reduceAdd, Int.reduceSub, Int.reduceMul, Int.reduceNeg, e37_3, e37_4, e37_7, e37_10, e37_11, e37_13, e37_16, e37_17, e37_20, e37_21, e37_22, e37_23, e37_26, e37_29, p_il2, p_al0, p_getI, p_cge, p_push, p_getR, p_iald, p_il1, p_ceq, p_ii2, p_goto, WN_nx, WN_nrt, WN_ite, h4, zrL3 hk, hi12, hh, c4, hcc, Int.toNat_natCast, e1]
        rw [ih2, if_pos ⟨trivial, id⟩]
    · rw [e37_2]
      simp (disch := first | assumption | exact p_c2i | exact p_c2r | exact p_c2n | omega | ((repeat (first | refine p_a1i.trans ?_ | refine p_a1r.trans ?_)); exact p_a10) | ((repeat (first | refine p_wI ?_ | refine p_wR ?_)); exact p_w0) | decide) only [reduceIte, Int.reduceLT, Int.reduceLE, Int.reduceEq, Int.reduceToNat, Int.reduceAdd, Int.reduceSub, Int.reduceMul, Int.reduceNeg, e37_3, e37_4, e37_7, e37_10, e37_11, e37_13, e37_16, e37_17, e37_20, e37_21, e37_22, e37_23, e37_26, e37_29, p_il2, p_al0, p_getI, p_cge, p_push, p_getR, p_iald, p_il1, p_ceq, p_ii2, p_goto, WN_nx, WN_nrt, WN_ite, h4, hh]
      rw [if_neg (fun z => z.1)]
theorem l_trshift {c p : Int} {b : Nat} (hk : zkd L = 2) (hb : b < 12) : ∀ k : Nat, k ≤ b → Wp 37 62 [some (.inr (.inl (some L))), some (.inl c), some (.inl p), some (.inl ((k : Int)))] [] (3565, x, zrho) (zsh σ (L + 4) 0 k b) Q = Wp 37 86 [some (.inr (.inl (some L))), some (.inl c), some (.inl p), some (.inl 0)] [] (3565, x, zrho) (zsh σ (L + 4) 0 0 b) Q := by
  have k4 := zkL4 hk
  have n4 := znL4 hk
  intro k
  induction k with
  | zero =>
    intro h
    rw [e37_62]
    simp (disch := first | assumption | exact p_c2i | exact p_c2r | exact p_c2n | omega | ((repeat (first | refine p_a1i.trans ?_ | refine p_a1r.trans ?_)); exact p_a10) | ((repeat (first | refine p_wI ?_ | refine p_wR ?_)); exact p_w0) | decide) only [reduceIte, Int.reduceLT, Int.reduceLE, Int.reduceEq, Int.reduceToNat, Int.reduceAdd, Int.reduceSub, Int.reduceMul, Int.reduceNeg, e37_63, e37_66, e37_67, e37_70, e37_71, e37_72, e37_75, e37_76, e37_77, e37_78, e37_79, e37_80, e37_83, p_il3, p_ifle, p_al0, p_getR, p_push, p_bin, p_iald, p_iast, p_ii3, p_goto, WN_nx, WN_nrt, WN_ite, Int.natCast_zero, Int.lt_irrefl]
  | succ k ih =>
    intro h
    have hp : ((0 : Int) < ((k + 1 : Nat) : Int)) = True := eq_true (by omega)
    have e2 : (((k + 1 : Nat) : Int) - 1) = (k : Int) := by omega
    have e3 : (((k + 1 : Nat) : Int) + -1) = (k : Int) := by omega
    have e4 : zsh σ (L + 4) 0 (k + 1) b (L + 4) k = σ (L + 4) (0 + k) := by rw [zsh_lo (by omega), Nat.zero_add]
    have e5 : zup (zsh σ (L + 4) 0 (k + 1) b) (L + 4) (k + 1) (σ (L + 4) (0 + k)) = zsh σ (L + 4) 0 k b := by
      have := zsh_s (σ := σ) (a := L + 4) (o := 0) (k := k) (b := b) (by omega)
      rw [Nat.zero_add (k + 1)] at this
      exact this
    rw [e37_62]
    simp (disch := first | assumption | exact p_c2i | exact p_c2r | exact p_c2n | omega | ((repeat (first | refine p_a1i.trans ?_ | refine p_a1r.trans ?_)); exact p_a10) | ((repeat (first | refine p_wI ?_ | refine p_wR ?_)); exact p_w0) | decide) only [reduceIte, Int.reduceLT, Int.reduceLE, Int.reduceEq, Int.reduceToNat, Int.reduceAdd, Int.reduceSub, Int.reduceMul, Int.reduceNeg, e37_63, e37_66, e37_67, e37_70, e37_71, e37_72, e37_75, e37_76, e37_77, e37_78, e37_79, e37_80, e37_83, p_il3, p_ifle, p_al0, p_getR, p_push, p_bin, p_iald, p_iast, p_ii3, p_goto, WN_nx, WN_nrt, WN_ite, hp, zrL3 hk, e2, e3, e4, e5, Int.toNat_natCast]
    exact ih (by omega)
theorem t_putOnTrail {c : Int} (hk : zkd L = 2) (hR : zLr σ L w) (ok : zok N w) (hc : 0 ≤ c ∧ c < 81) (K : ∀ σ', zLr σ' L (aTrail c w) → zfr σ σ' L → σ' (L + 9) = σ (L + 9) → Q (.inl none) (3565, x, zrho) σ') : WM 37 [.inr (.inl (some L)), .inl c] (3565, x, zrho) σ Q := by
  show Wp 37 0 [some (.inr (.inl (some L))), some (.inl c), none, none] [] _ σ Q
  simp (disch := first | assumption | exact p_c2i | exact p_c2r | exact p_c2n | omega | ((repeat (first | refine p_a1i.trans ?_ | refine p_a1r.trans ?_)); exact p_a10) | ((repeat (first | refine p_wI ?_ | refine p_wR ?_)); exact p_w0) | decide) only [reduceIte, Int.reduceLT, Int.reduceLE, Int.reduceEq, Int.reduceToNat, Int.reduceAdd, Int.reduceSub, Int.reduceMul, Int.reduceNeg, e37_0, e37_1, p_push, p_is2, p_c2n, p_c2i, p_c2r, WN_nx, WN_nrt, WN_ite]
  have hF := l_trfind (Q := Q) (x := x) hk hR ok hc 12 0 rfl
  rw [show ((0 : Nat) : Int) = 0 from rfl] at hF
  rw [hF]
  obtain ⟨-, f2, f3⟩ := aFindF_le (w := w) (c := c) 12 0
  have o4 := ok.2.2.2.2.1
  have f3 := f3 o4.1
  have h4 := hR.h4
  have k4 := zkL4 hk
  have n4 := znL4 hk
  generalize hp : aFindF w c 0 12 = p at f2 f3
  -- behind the search
  have key : ∀ σ1 : ZI, (σ1 L 9 = (if w 4 ≤ (p : Int) then min (w 4 + 1) 12 else w 4) ∧ (∀ j, j ≠ 9 → σ1 L j = σ L j) ∧ ∀ a, a ≠ L → σ1 a = σ a) → Wp 37 55 [some (.inr (.inl (some L))), some (.inl c), some (.inl ((p : Int))), none] [] (3565, x, zrho) σ1 Q := by
    rintro σ1 ⟨g1, g2, g3⟩
    have em : min (p : Int) 11 = ((min p 11 : Nat) : Int) := by omega
    simp (disch := first | assumption | exact p_c2i | exact p_c2r | exact p_c2n | omega | ((repeat (first | refine p_a1i.trans ?_ | refine p_a1r.trans ?_)); exact p_a10) | ((repeat (first | refine p_wI ?_ | refine p_wR ?_)); exact p_w0) | decide) only [reduceIte, Int.reduceLT, Int.reduceLE, Int.reduceEq, Int.reduceToNat, Int.reduceAdd, Int.reduceSub, Int.reduceMul, Int.reduceNeg, e37_55, e37_56, e37_58, e37_61, p_il2, p_push, p_cs2_0, p_cs2_1, p_cs2_2, p_cs2_3, p_cs2_4, zK_v, zK_0, WN_ncl, p_is3, p_c2n, p_c2i, p_c2r, WN_nx, WN_nrt, WN_ite, t_min, em, zK_v, WN_ncl]
    have hs := l_trshift (σ := σ1) (Q := Q) (x := x) (c := c) (p := (p : Int)) (b := min p 11) hk (by omega) (min p 11) (Nat.le_refl _)
    rw [zsh_0] at hs
    rw [hs]
    simp (disch := first | assumption | exact p_c2i | exact p_c2r | exact p_c2n | omega | ((repeat (first | refine p_a1i.trans ?_ | refine p_a1r.trans ?_)); exact p_a10) | ((repeat (first | refine p_wI ?_ | refine p_wR ?_)); exact p_w0) | decide) only [reduceIte, Int.reduceLT, Int.reduceLE, Int.reduceEq, Int.reduceToNat, Int.reduceAdd, Int.reduceSub, Int.reduceMul, Int.reduceNeg, e37_86, e37_87, e37_90, e37_91, e37_92, e37_93, p_al0, p_getR, p_push, p_il1, p_iast, p_vret, WN_nx, WN_nrt, WN_ite, zrL3 hk, Int.toNat_zero]
    obtain ⟨⟨a0, a1, a2, a3, a4⟩, b1, b2, b3, b4, b5⟩ := hR
    refine K _ ?_ ?_ ?_
    · have e0 : ∀ j, zup (zsh σ1 (L + 4) 0 0 (min p 11)) (L + 4) 0 c L j = σ1 L j := fun j => by rw [zup_o (by omega), zsh_ne (by omega)]
      have e1 : ∀ o j, 0 < o → o ≠ 4 → zup (zsh σ1 (L + 4) 0 0 (min p 11)) (L + 4) 0 c (L + o) j = σ (L + o) j := fun o j h1 h2 => by rw [zup_o (by omega), zsh_ne (by omega), g3 _ (by omega)]
      have et : ∀ j, j ≠ 4 → j < 188 → aTrail c w j = w j := fun j h1 h2 => by unfold aTrail; rw [if_neg h1, if_neg (by omega), if_neg (by omega)]
      refine ⟨⟨by rw [e0, g2 _ (by omega), et _ (by omega) (by omega)]; exact a0, by rw [e0, g2 _ (by omega), et _ (by omega) (by omega)]; exact a1, by rw [e0, g2 _ (by omega), et _ (by omega) (by omega)]; exact a2, by rw [e0, g2 _ (by omega), et _ (by omega) (by omega)]; exact a3, by rw [e0, g1]; unfold aTrail; rw [if_pos rfl, hp]⟩, fun t h => by rw [e1 _ _ (by omega) (by omega), et _ (by omega) (by omega)]; exact b1 t h, fun t h => by rw [e1 _ _ (by omega) (by omega), et _ (by omega) (by omega)]; exact b2 t h, fun t h => by rw [e1 _ _ (by omega) (by omega), et _ (by omega) (by omega)]; exact b3 t h, fun i hi => ?_, fun k hkk => ?_⟩
      · rw [et _ (by omega) (by omega)] at hi
        have hi4 := ok.1
        rw [e1 _ _ (by omega) (by omega), e1 _ _ (by omega) (by omega), e1 _ _ (by omega) (by omega), e1 _ _ (by omega) (by omega), et _ (by omega) (by omega), et _ (by omega) (by omega), et _ (by omega) (by omega), et _ (by omega) (by omega)]
        exact b4 i hi
      · have hk2 : (k : Int) < (if w 4 ≤ (p : Int) then min (w 4 + 1) 12 else w 4) := by
          have := hkk
          unfold aTrail at this
          rw [if_pos rfl, hp] at this
          exact this
        unfold aTrail
        rw [if_neg (by omega), hp]
        by_cases k0 : k = 0
        · subst k0; rw [zup_s, if_pos (by omega)]
        · rw [zup_j k0, if_neg (by omega)]
          unfold zsh
          by_cases hkp : k ≤ min p 11
          · rw [if_pos ⟨rfl, by omega, by omega⟩, if_pos (by omega), g3 _ (by omega), show 188 + k - 1 = 188 + (k - 1) by omega]
            exact b5 _ (by omega)
          · rw [if_neg (by omega), if_neg (by omega), g3 _ (by omega)]
            refine b5 _ ?_
            split at hk2 <;> omega
    · intro a ha
      rw [zup_f (by omega), zsh_ne (by omega), g3 _ (by omega)]
    · rw [zup_f (by omega), zsh_ne (by omega), g3 _ (by omega)]
  by_cases hle : w 4 ≤ (p : Int)
  · have hlt : ((p : Int) < w 4) = False := eq_false (by omega)
    have em : min (w 4 + 1) 12 = min (w 4 + 1) 12 := rfl
    simp (disch := first | assumption | exact p_c2i | exact p_c2r | exact p_c2n | omega | ((repeat (first | refine p_a1i.trans ?_ | refine p_a1r.trans ?_)); exact p_a10) | ((repeat (first | refine p_wI ?_ | refine p_wR ?_)); exact p_w0) | decide) only [reduceIte, Int.reduceLT, Int.reduceLE, Int.reduceEq, Int.reduceToNat, Int.reduceAdd, Int.reduceSub, Int.reduceMul, Int.reduceNeg, e37_32, e37_33, e37_34, e37_37, e37_40, e37_41, e37_42, e37_45, e37_46, e37_47, e37_49, e37_52, p_il2, p_al0, p_getI, p_clt, p_push, p_bin, p_cs2_0, p_cs2_1, p_cs2_2, p_cs2_3, p_cs2_4, zK_v, zK_0, WN_ncl, p_putI, WN_nx, WN_nrt, WN_ite, h4, hlt, t_min, zK_v, WN_ncl]
    exact key _ ⟨by rw [zup_s, if_pos hle], fun j hj => by rw [zup_j hj], fun a ha => zup_f ha⟩
  · have hlt : ((p : Int) < w 4) = True := eq_true (by omega)
    simp (disch := first | assumption | exact p_c2i | exact p_c2r | exact p_c2n | omega | ((repeat (first | refine p_a1i.trans ?_ | refine p_a1r.trans ?_)); exact p_a10) | ((repeat (first | refine p_wI ?_ | refine p_wR ?_)); exact p_w0) | decide) only [reduceIte, Int.reduceLT, Int.reduceLE, Int.reduceEq, Int.reduceToNat, Int.reduceAdd, Int.reduceSub, Int.reduceMul, Int.reduceNeg, e37_32, e37_33, e37_34, e37_37, e37_40, e37_41, e37_42, e37_45, e37_46, e37_47, e37_49, e37_52, p_il2, p_al0, p_getI, p_clt, p_push, p_bin, p_cs2_0, p_cs2_1, p_cs2_2, p_cs2_3, p_cs2_4, zK_v, zK_0, WN_ncl, p_putI, WN_nx, WN_nrt, WN_ite, h4, hlt]
    exact key _ ⟨by rw [if_neg hle]; exact h4, fun j hj => rfl, fun a ha => rfl⟩
end
