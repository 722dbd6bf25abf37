/-! MOVING -/
def aTurn (w : zW) (i : Nat) : Int := w (6 + (w (10 + (w (172 + 4 * i)).toNat)).toNat)
def aGo (i : Nat) (t : Int) (w : zW) : zW := wu (wu w (172 + 4 * i + 0) t) (172 + 4 * i + 2) (w (172 + 4 * i + 2) + 1)
/-- the headings of some hoes turned back -/
def aBk (p : Nat → Bool) (w : zW) : zW := fun j => if (172 ≤ j ∧ j < 188) ∧ (j - 172) % 4 = 1 ∧ p ((j - 172) / 4) = true then (w j + 2) % 4 else w j
def aFace (i : Nat) (w : zW) : zW := wu w (172 + 4 * i + 1) ((w (172 + 4 * i + 1) + aQ (aTurn w i)) % 4)
def aMeet (i : Nat) (w : zW) : zW := wu (wu w (172 + 4 * i + 3) (w (172 + 4 * i + 3) + 1)) 5 (w 5 + 1)
/-- the lawn once the hoe i has turned, painted and left its trail -/
def aPre (i : Nat) (w : zW) : zW := aTrail (w (172 + 4 * i)) (aPaint (w (172 + 4 * i)).toNat (aFace i w))
def aNext (i : Nat) (w : zW) : Int := aTo (w (172 + 4 * i)) ((w (172 + 4 * i + 1) + aQ (aTurn w i)) % 4)
def aMove (i : Nat) (w : zW) : zW :=
  if 0 < aOn (aPre i w) (aNext i w) then
    (if w 2 = 0 then aGo i (aNext i w) (aMeet i (aPre i w)) else if w 2 = 2 then aBk (fun k => decide ((k : Int) < w 0 ∧ (k = i ∨ aPre i w (172 + 4 * k) = aNext i w))) (aMeet i (aPre i w)) else aMeet i (aPre i w))
  else aGo i (aNext i w) (aPre i w)
section
variable {w : zW} {N : Int} {c : Int} {i : Nat}
theorem aTrail_o {j : Nat} (h4 : j ≠ 4) (h : j < 188) : aTrail c w j = w j := by
  unfold aTrail
  rw [if_neg h4, if_neg (by omega), if_neg (by omega)]
theorem aPre_h {j : Nat} (hc : 0 ≤ w (172 + 4 * i) ∧ w (172 + 4 * i) < 81) (h1 : 172 ≤ j) (h2 : j < 188) (h3 : j ≠ 172 + 4 * i + 1) : aPre i w j = w j := by
  unfold aPre
  rw [aTrail_o (by omega) h2]
  unfold aPaint aFace
  rw [wu_o (by omega), wu_o (by omega), wu_o h3]
theorem aPre_d (hc : 0 ≤ w (172 + 4 * i) ∧ w (172 + 4 * i) < 81) (hi : i < 4) : aPre i w (172 + 4 * i + 1) = (w (172 + 4 * i + 1) + aQ (aTurn w i)) % 4 := by
  unfold aPre
  rw [aTrail_o (by omega) (by omega)]
  unfold aPaint aFace
  rw [wu_o (by omega), wu_o (by omega), wu_s]
theorem aPre_k {j : Nat} (hc : 0 ≤ w (172 + 4 * i) ∧ w (172 + 4 * i) < 81) (h4 : j ≠ 4) (h : j < 10) : aPre i w j = w j := by
  unfold aPre
  rw [aTrail_o h4 (by omega)]
  unfold aPaint aFace
  rw [wu_o (by omega), wu_o (by omega), wu_o (by omega)]
theorem zok_face (ok : zok N w) (hi : (i : Int) < w 0) : zok N (aFace i w) := by
  have o0 := ok.1
  obtain ⟨a0, a1, a2, a3, a4, a5, a6, a7, a8, a9, a10⟩ := ok
  unfold aFace
  refine ⟨by rw [wu_o (by omega)]; exact a0, by rw [wu_o (by omega)]; exact a1, by rw [wu_o (by omega)]; exact a2, by rw [wu_o (by omega)]; exact a3, by rw [wu_o (by omega)]; exact a4, by rw [wu_o (by omega)]; exact a5, fun t h => by rw [wu_o (by omega)]; exact a6 t h, fun t h => by rw [wu_o (by omega), wu_o (by omega)]; exact a7 t h, fun t h => by rw [wu_o (by omega)]; exact a8 t h, fun k h => ?_, fun k h => by rw [wu_o (by omega)]; exact a10 k (by rwa [wu_o (by omega)] at h)⟩
  rw [wu_o (by omega)] at h
  obtain ⟨b1, b2, b3, b4⟩ := a9 k h
  refine ⟨by rw [wu_o (by omega)]; exact b1, ?_, by rw [wu_o (by omega)]; exact b3, by rw [wu_o (by omega)]; exact b4⟩
  by_cases e : k = i
  · subst e
    rw [show 173 + 4 * k = 172 + 4 * k + 1 by omega, wu_s]
    omega
  · rw [wu_o (by omega)]; exact b2
theorem zok_paint {c : Nat} (ok : zok N w) (hc : c < 81) : zok (N + 1) (aPaint c w) := by
  have b8 := ok.2.2.2.2.2.2.2.2.1
  have ok := zok_mono ok (show N ≤ N + 1 by omega)
  have o0 := ok.1
  obtain ⟨a0, a1, a2, a3, a4, a5, a6, a7, a8, a9, a10⟩ := ok
  unfold aPaint
  refine ⟨by rw [wu_o (by omega), wu_o (by omega)]; exact a0, by rw [wu_o (by omega), wu_o (by omega)]; exact a1, by rw [wu_o (by omega), wu_o (by omega)]; exact a2, by rw [wu_o (by omega), wu_o (by omega)]; exact a3, by rw [wu_o (by omega), wu_o (by omega)]; exact a4, by rw [wu_o (by omega), wu_o (by omega)]; exact a5, fun t h => by rw [wu_o (by omega), wu_o (by omega)]; exact a6 t h, fun t h => ?_, fun t h => ?_, fun k h => ?_, fun k h => by rw [wu_o (by omega), wu_o (by omega)]; exact a10 k (by rwa [wu_o (by omega), wu_o (by omega)] at h)⟩
  · rw [wu_o (by omega), wu_o (j := 1) (by omega), wu_o (j := 1) (by omega)]
    by_cases e : t = c
    · subst e
      rw [wu_s]
      have := a7 t h
      split <;> omega
    · rw [wu_o (by omega)]; exact a7 t h
  · by_cases e : t = c
    · subst e
      rw [wu_s]
      have := b8 t h
      omega
    · rw [wu_o (by omega), wu_o (by omega)]; exact a8 t h
  · rw [wu_o (by omega), wu_o (by omega)] at h
    rw [wu_o (by omega), wu_o (by omega), wu_o (by omega), wu_o (by omega), wu_o (by omega), wu_o (by omega), wu_o (by omega), wu_o (by omega)]
    exact a9 k h
theorem zok_trail (ok : zok N w) (hc : 0 ≤ c ∧ c < 81) : zok N (aTrail c w) := by
  have o0 := ok.1
  have o4 := ok.2.2.2.2.1
  obtain ⟨a0, a1, a2, a3, a4, a5, a6, a7, a8, a9, a10⟩ := ok
  obtain ⟨-, f2, f3⟩ := aFindF_le (w := w) (c := c) 12 0
  have f3 := f3 o4.1
  have e4 : aTrail c w 4 = if w 4 ≤ ((aFindF w c 0 12 : Nat) : Int) then min (w 4 + 1) 12 else w 4 := by unfold aTrail; rw [if_pos rfl]
  refine ⟨by rw [aTrail_o (by omega) (by omega)]; exact a0, by rw [aTrail_o (by omega) (by omega)]; exact a1, by rw [aTrail_o (by omega) (by omega)]; exact a2, by rw [aTrail_o (by omega) (by omega)]; exact a3, by rw [e4]; split <;> omega, by rw [aTrail_o (by omega) (by omega)]; exact a5, fun t h => by rw [aTrail_o (by omega) (by omega)]; exact a6 t h, fun t h => by rw [aTrail_o (by omega) (by omega), aTrail_o (by omega) (by omega)]; exact a7 t h, fun t h => by rw [aTrail_o (by omega) (by omega)]; exact a8 t h, fun k h => ?_, fun k h => ?_⟩
  · rw [aTrail_o (by omega) (by omega)] at h
    rw [aTrail_o (by omega) (by omega), aTrail_o (by omega) (by omega), aTrail_o (by omega) (by omega), aTrail_o (by omega) (by omega)]
    exact a9 k h
  · rw [e4] at h
    generalize hp : aFindF w c 0 12 = p at *
    unfold aTrail
    rw [if_neg (by omega), hp]
    by_cases k0 : k = 0
    · rw [if_pos (by omega)]; exact hc
    · rw [if_neg (by omega)]
      by_cases hk : k ≤ min p 11
      · rw [if_pos (by omega), show 188 + k - 1 = 188 + (k - 1) by omega]
        exact a10 _ (by omega)
      · rw [if_neg (by omega)]
        refine a10 _ ?_
        split at h <;> omega
end
section
variable {L : Nat} {σ : ZI} {Q : ZO → ZT → ZI → Prop} {x : Nat} {w : zW} {N : Int}
/-- headings turned back, of the hoes below n -/
def zbk (σ : ZI) (a n : Nat) (p : Nat → Bool) : ZI := fun b j => if b = a ∧ j < n ∧ p j = true then (σ a j + 2) % 4 else σ b j
theorem zbk_s {σ : ZI} {a n : Nat} {p : Nat → Bool} (h : p n = true) : zup (zbk σ a n p) a n ((σ a n + 2) % 4) = zbk σ a (n + 1) p := by
  funext b j
  unfold zup zbk
  by_cases h1 : b = a ∧ j = n
  · obtain ⟨rfl, rfl⟩ := h1
    rw [if_pos ⟨rfl, rfl⟩, if_pos ⟨rfl, by omega, h⟩]
  · rw [if_neg h1]
    by_cases h2 : b = a ∧ j < n ∧ p j = true
    · rw [if_pos h2, if_pos ⟨h2.1, by omega, h2.2.2⟩]
    · rw [if_neg h2, if_neg (fun z => h2 ⟨z.1, by have := fun e => h1 ⟨z.1, e⟩; omega, z.2.2⟩)]
theorem zbk_n {σ : ZI} {a n : Nat} {p : Nat → Bool} (h : ¬ p n = true) : zbk σ a n p = zbk σ a (n + 1) p := by
  funext b j
  unfold zbk
  by_cases h2 : b = a ∧ j < n + 1 ∧ p j = true
  · have : j ≠ n := fun e => h (e ▸ h2.2.2)
    rw [if_pos h2, if_pos ⟨h2.1, by omega, h2.2.2⟩]
  · rw [if_neg h2, if_neg (fun z => h2 ⟨z.1, by omega, z.2.2⟩)]
theorem zbk_x {σ : ZI} {a n b : Nat} {p : Nat → Bool} (h : b ≠ a) : zbk σ a n p b = σ b := by funext j; unfold zbk; rw [if_neg (fun z => h z.1)]
theorem zbk_i {σ : ZI} {a n : Nat} {p : Nat → Bool} : zbk σ a n p a n = σ a n := by unfold zbk; rw [if_neg (by omega)]
theorem l_turnBack {c : Int} (hk : zkd L = 2) (hR : zLr σ L w) (ok : zok N w) (hc : -2147483648 ≤ c ∧ c < 2147483648) : ∀ n i : Nat, i + n = 4 → Wp 35 2 [some (.inr (.inl (some L))), some (.inl c), some (.inl ((i : Int)))] [] (3565, x, zrho) (zbk σ (L + 6) i (fun k => decide ((k : Int) < w 0 ∧ w (172 + 4 * k) = c))) Q = Q (.inl none) (3565, x, zrho) (zbk σ (L + 6) 4 (fun k => decide ((k : Int) < w 0 ∧ w (172 + 4 * k) = c))) := by
  have k5 := zkL5 hk
  have n5 := znL5 hk
  have k6 := zkL6 hk
  have n6 := znL6 hk
  have h0 : ∀ n, zbk σ (L + 6) n (fun k => decide ((k : Int) < w 0 ∧ w (172 + 4 * k) = c)) L 10 = w 0 := fun n => by rw [zbk_x (by omega)]; exact hR.h0
  have o0 := ok.1
  obtain ⟨hc1, hc2⟩ := hc
  intro n
  induction n with
  | zero =>
    intro i hi
    have e : i = 4 := by omega
    subst e
    simp (disch := first | assumption | exact p_c2i | exact p_c2r | exact p_c2n | omega | ((repeat (first | refine p_a1i.trans ?_ | refine p_a1r.trans ?_)); exact p_a10) | ((repeat (first | refine p_wI ?_ | refine p_wR ?_)); exact p_w0) | decide) only [reduceIte, Int.reduceLT, Int.reduceLE, Int.reduceEq, Int.reduceToNat, Int.reduceAdd, Int.reduceSub, Int.reduceMul, Int.reduceNeg, e35_0, e35_1, e35_2, e35_3, e35_4, e35_7, e35_8, e35_9, e35_12, e35_15, e35_16, e35_19, e35_20, e35_21, e35_22, e35_25, e35_26, e35_29, e35_30, e35_31, e35_34, e35_35, e35_36, e35_37, e35_38, e35_39, e35_40, e35_41, e35_44, e35_47, p_push, p_is2, p_c2n, p_c2i, p_c2r, p_il2, p_cge, p_al0, p_getI, p_getR, p_iald, p_il1, p_cne, p_bin, p_iast, p_ii2, p_goto, p_vret, WN_nx, WN_nrt, WN_ite, show ((4 : Nat) : Int) = 4 from rfl]
  | succ n ih =>
    intro i hi
    have hi4 : ((i : Int) < 4) = True := eq_true (by omega)
    have e1 : (i : Int) + 1 = ((i + 1 : Nat) : Int) := by omega
    have ih2 := ih (i + 1) (by omega)
    by_cases hh : (i : Int) < w 0
    · have c5 : zbk σ (L + 6) i (fun k => decide ((k : Int) < w 0 ∧ w (172 + 4 * k) = c)) (L + 5) i = w (172 + 4 * i) := by rw [zbk_x (by omega)]; exact (hR.2.2.2.2.1 i hh).1
      have c6 : zbk σ (L + 6) i (fun k => decide ((k : Int) < w 0 ∧ w (172 + 4 * k) = c)) (L + 6) i = σ (L + 6) i := zbk_i
      have g6 := (hR.2.2.2.2.1 i hh).2.1
      have o5 := (ok.2.2.2.2.2.2.2.2.2.1 i hh).1
      have o6 := (ok.2.2.2.2.2.2.2.2.2.1 i hh).2.1
      by_cases hcc : w (172 + 4 * i) = c
      · have e6 := zbk_s (σ := σ) (a := L + 6) (n := i) (p := fun k => decide ((k : Int) < w 0 ∧ w (172 + 4 * k) = c)) (decide_eq_true ⟨hh, hcc⟩)
        have z3 : z_and (σ (L + 6) i + 2) 3 = (σ (L + 6) i + 2) % 4 := zand3 (by omega) (by omega)
        rw [e35_2]
        simp (disch := first | assumption | exact p_c2i | exact p_c2r | exact p_c2n | omega | ((repeat (first | refine p_a1i.trans ?_ | refine p_a1r.trans ?_)); exact p_a10) | ((repeat (first | refine p_wI ?_ | refine p_wR ?_)); exact p_w0) | decide) only [reduceIte, Int.reduceLT, Int.reduceLE, Int.reduceEq, Int.reduceToNat, Int.reduceAdd, Int.reduceSub, Int.reduceMul, Int.reduceNeg, e35_3, e35_4, e35_7, e35_8, e35_9, e35_12, e35_15, e35_16, e35_19, e35_20, e35_21, e35_22, e35_25, e35_26, e35_29, e35_30, e35_31, e35_34, e35_35, e35_36, e35_37, e35_38, e35_39, e35_40, e35_41, e35_44, p_il2, p_push, p_cge, p_al0, p_getI, p_getR, p_iald, p_il1, p_cne, p_bin, p_iast, p_ii2, p_goto, WN_nx, WN_nrt, WN_ite, zrL4 hk, zrL5 hk, h0, hi4, hh, c5, c6, hcc, z3, Int.toNat_natCast, e1]
        rw [e6]
        exact ih2
      · have e6 := zbk_n (σ := σ) (a := L + 6) (n := i) (p := fun k => decide ((k : Int) < w 0 ∧ w (172 + 4 * k) = c)) (fun z => hcc (of_decide_eq_true z).2)
        rw [e35_2]
        simp (disch := first | assumption | exact p_c2i | exact p_c2r | exact p_c2n | omega | ((repeat (first | refine p_a1i.trans ?_ | refine p_a1r.trans ?_)); exact p_a10) | ((repeat (first | refine p_wI ?_ | refine p_wR ?_)); exact p_w0) | decide) only [reduceIte, Int.reduceLT, Int.reduceLE, Int.reduceEq, Int.reduceToNat, Int.reduceAdd, Int.reduceSub, Int.reduceMul, Int.reduceNeg, e35_3, e35_4, e35_7, e35_8, e35_9, e35_12, e35_15, e35_16, e35_19, e35_20, e35_21, e35_22, e35_25, e35_26, e35_29, e35_30, e35_31, e35_34, e35_35, e35_36, e35_37, e35_38, e35_39, e35_40, e35_41, e35_44, p_il2, p_push, p_cge, p_al0, p_getI, p_getR, p_iald, p_il1, p_cne, p_bin, p_iast, p_ii2, p_goto, WN_nx, WN_nrt, WN_ite, zrL4 hk, zrL5 hk, h0, hi4, hh, c5, c6, hcc, Int.toNat_natCast, e1]
        rw [e6]
        exact ih2
    · have e6 := zbk_n (σ := σ) (a := L + 6) (n := i) (p := fun k => decide ((k : Int) < w 0 ∧ w (172 + 4 * k) = c)) (fun z => hh (of_decide_eq_true z).1)
      rw [e35_2]
      simp (disch := first | assumption | exact p_c2i | exact p_c2r | exact p_c2n | omega | ((repeat (first | refine p_a1i.trans ?_ | refine p_a1r.trans ?_)); exact p_a10) | ((repeat (first | refine p_wI ?_ | refine p_wR ?_)); exact p_w0) | decide) only [reduceIte, Int.reduceLT, Int.reduceLE, Int.reduceEq, Int.reduceToNat, Int.reduceAdd, Int.reduceSub, Int.reduceMul, Int.reduceNeg, e35_3, e35_4, e35_7, e35_8, e35_9, e35_12, e35_15, e35_16, e35_19, e35_20, e35_21, e35_22, e35_25, e35_26, e35_29, e35_30, e35_31, e35_34, e35_35, e35_36, e35_37, e35_38, e35_39, e35_40, e35_41, e35_44, p_il2, p_push, p_cge, p_al0, p_getI, p_getR, p_iald, p_il1, p_cne, p_bin, p_iast, p_ii2, p_goto, WN_nx, WN_nrt, WN_ite, h0, hi4, hh, e1]
      rw [e6]
      exact ih2
theorem t_turnBackOn {c : Int} (hk : zkd L = 2) (hR : zLr σ L w) (ok : zok N w) (hc : -2147483648 ≤ c ∧ c < 2147483648) : WM 35 [.inr (.inl (some L)), .inl c] (3565, x, zrho) σ Q = Q (.inl none) (3565, x, zrho) (zbk σ (L + 6) 4 (fun k => decide ((k : Int) < w 0 ∧ w (172 + 4 * k) = c))) := by
  show Wp 35 0 [some (.inr (.inl (some L))), some (.inl c), none] [] _ σ Q = _
  simp (disch := first | assumption | exact p_c2i | exact p_c2r | exact p_c2n | omega | ((repeat (first | refine p_a1i.trans ?_ | refine p_a1r.trans ?_)); exact p_a10) | ((repeat (first | refine p_wI ?_ | refine p_wR ?_)); exact p_w0) | decide) only [reduceIte, Int.reduceLT, Int.reduceLE, Int.reduceEq, Int.reduceToNat, Int.reduceAdd, Int.reduceSub, Int.reduceMul, Int.reduceNeg, e35_0, e35_1, p_push, p_is2, p_c2n, p_c2i, p_c2r, WN_nx, WN_nrt, WN_ite]
  have := l_turnBack (Q := Q) (x := x) hk hR ok hc 4 0 rfl
  have e : zbk σ (L + 6) 0 (fun k => decide ((k : Int) < w 0 ∧ w (172 + 4 * k) = c)) = σ := by
    funext b j
    unfold zbk
    rw [if_neg (by omega)]
  rw [e] at this
  exact this
theorem zLr.bk {p : Nat → Bool} (hR : zLr σ L w) (ok : zok N w) : zLr (zbk σ (L + 6) 4 p) L (aBk p w) := by
  have o0 := ok.1
  have hd : ∀ j, j < 172 ∨ 188 ≤ j → aBk p w j = w j := fun j h => by unfold aBk; rw [if_neg (by omega)]
  obtain ⟨⟨a0, a1, a2, a3, a4⟩, b1, b2, b3, b4, b5⟩ := hR
  refine ⟨⟨by rw [zbk_x (by omega), hd _ (by omega)]; exact a0, by rw [zbk_x (by omega), hd _ (by omega)]; exact a1, by rw [zbk_x (by omega), hd _ (by omega)]; exact a2, by rw [zbk_x (by omega), hd _ (by omega)]; exact a3, by rw [zbk_x (by omega), hd _ (by omega)]; exact a4⟩, fun t h => by rw [zbk_x (by omega), hd _ (by omega)]; exact b1 t h, fun t h => by rw [zbk_x (by omega), hd _ (by omega)]; exact b2 t h, fun t h => by rw [zbk_x (by omega), hd _ (by omega)]; exact b3 t h, fun i hi => ?_, fun k h => by rw [zbk_x (by omega), hd _ (by omega)]; exact b5 k (by rwa [hd _ (by omega)] at h)⟩
  rw [hd _ (by omega)] at hi
  obtain ⟨c1, c2, c3, c4⟩ := b4 i hi
  have e1 : aBk p w (172 + 4 * i) = w (172 + 4 * i) := by unfold aBk; rw [if_neg (by omega)]
  have e3 : aBk p w (174 + 4 * i) = w (174 + 4 * i) := by unfold aBk; rw [if_neg (by omega)]
  have e4 : aBk p w (175 + 4 * i) = w (175 + 4 * i) := by unfold aBk; rw [if_neg (by omega)]
  refine ⟨by rw [zbk_x (by omega), e1]; exact c1, ?_, by rw [zbk_x (by omega), e3]; exact c3, by rw [zbk_x (by omega), e4]; exact c4⟩
  unfold zbk aBk
  have hi4 : i < 4 := by omega
  have ed : (173 + 4 * i - 172) / 4 = i := by omega
  by_cases hp : p i = true
  · rw [if_pos ⟨rfl, hi4, hp⟩, if_pos ⟨by omega, by omega, by rw [ed]; exact hp⟩, c2]
  · rw [if_neg (fun z => hp z.2.2), if_neg (fun z => hp (by have := z.2.2; rwa [ed] at this))]
    exact c2
end
