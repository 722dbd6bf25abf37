/-! SUMS: the meetings of all hoes, and the model's number of them -/
def aMts (i : Nat) (w : zW) : Int := if 0 < aOn (aPre i w) (aNext i w) then 1 else 0
section
variable {w : zW} {N : Int}
theorem aMv_m {i : Nat} (ok : zok N w) (hi : (i : Int) < w 0) : (∀ h : Nat, h < 4 → aMove i w (172 + 4 * h + 3) = w (172 + 4 * h + 3) + if h = i then aMts i w else 0) ∧ aMove i w 5 = w 5 + aMts i w := by
  have o0 := ok.1
  have o9 := (ok.2.2.2.2.2.2.2.2.2.1 i hi).1
  have p5 : aPre i w 5 = w 5 := aPre_k o9 (by omega) (by omega)
  have hgo : ∀ (t : Int) (u : zW) (h : Nat), aGo i t u (172 + 4 * h + 3) = u (172 + 4 * h + 3) := by
    intro t u h
    unfold aGo
    rw [wu_o (by omega), wu_o (by omega)]
  have hgo5 : ∀ (t : Int) (u : zW), aGo i t u 5 = u 5 := by
    intro t u
    unfold aGo
    rw [wu_o (by omega), wu_o (by omega)]
  have hme : ∀ (u : zW) (h : Nat), aMeet i u (172 + 4 * h + 3) = u (172 + 4 * h + 3) + if h = i then 1 else 0 := by
    intro u h
    unfold aMeet
    rw [wu_o (by omega)]
    by_cases e : h = i
    · subst e; rw [wu_s, if_pos rfl]
    · rw [wu_o (by omega), if_neg e, Int.add_zero]
  have hme5 : ∀ (u : zW), aMeet i u 5 = u 5 + 1 := by
    intro u
    unfold aMeet
    rw [wu_s]
  have hbk : ∀ p (u : zW) (h : Nat), aBk p u (172 + 4 * h + 3) = u (172 + 4 * h + 3) := by
    intro p u h
    unfold aBk
    rw [if_neg (by omega)]
  have hbk5 : ∀ p (u : zW), aBk p u 5 = u 5 := by
    intro p u
    unfold aBk
    rw [if_neg (by omega)]
  unfold aMove aMts
  by_cases h1 : 0 < aOn (aPre i w) (aNext i w)
  · rw [if_pos h1, if_pos h1]
    by_cases h2 : w 2 = 0
    · rw [if_pos h2]
      exact ⟨fun h hh => by rw [hgo, hme, (aPre_g ok hi hh).2], by rw [hgo5, hme5, p5]⟩
    · rw [if_neg h2]
      by_cases h3 : w 2 = 2
      · rw [if_pos h3]
        exact ⟨fun h hh => by rw [hbk, hme, (aPre_g ok hi hh).2], by rw [hbk5, hme5, p5]⟩
      · rw [if_neg h3]
        exact ⟨fun h hh => by rw [hme, (aPre_g ok hi hh).2], by rw [hme5, p5]⟩
  · rw [if_neg h1, if_neg h1]
    refine ⟨fun h hh => ?_, by rw [hgo5, p5]; omega⟩
    rw [hgo, (aPre_g ok hi hh).2]
    split <;> omega
theorem aSm3_N {m : Nat} (ok : zok N w) (hm4 : m ≤ 4) : ∀ n : Nat, (n : Int) ≤ w 0 → n ≤ m → aSm (aMvN w n) 3 m - aMvN w n 5 = aSm w 3 m - w 5 := by
  have o0 := ok.1
  intro n
  induction n with
  | zero => intro _ _; rfl
  | succ n ih =>
    intro h1 h2
    obtain ⟨k1, k2⟩ := aMvN_ok ok n (by omega)
    have hi : (n : Int) < aMvN w n 0 := by rw [k2 0 (by omega)]; omega
    obtain ⟨g1, g2⟩ := aMv_m k1 hi
    have e : aSm (aMvN w (n + 1)) 3 m = aSm (aMvN w n) 3 m + aMts n (aMvN w n) := by
      unfold aSm
      have z := zsm_up (f := fun h => aMvN w n (172 + 4 * h + 3)) (g := fun h => aMvN w n (172 + 4 * h + 3) + if h = n then aMts n (aMvN w n) else 0) (i := n) (v := aMts n (aMvN w n)) (fun k => rfl) m
      rw [if_pos (by omega)] at z
      rw [← z]
      exact zsm_cg m (fun k hk => g1 k (by omega))
    have e5 : aMvN w (n + 1) 5 = aMvN w n 5 + aMts n (aMvN w n) := g2
    have := ih (by omega) (by omega)
    rw [e, e5]
    omega
theorem aSm3_It (ok : zok N w) : ∀ k : Nat, aSm (aIt k w) 3 (w 0).toNat - aSm w 3 (w 0).toNat = aIt k w 5 - w 5 := by
  intro k
  induction k with
  | zero => show aSm w 3 (w 0).toNat - aSm w 3 (w 0).toNat = w 5 - w 5; omega
  | succ k ih =>
    obtain ⟨h1, h2, h3⟩ := aIt_ok ok k
    have o0 := h1.1
    have e := aSm3_N (m := (aIt k w 0).toNat) h1 (by omega) (aIt k w 0).toNat (by omega) (Nat.le_refl _)
    rw [h2] at e
    have e1 : aSm (aIt (k + 1) w) 3 (w 0).toNat = aSm (aMvN (aIt k w) (w 0).toNat) 3 (w 0).toNat := by
      unfold aSm
      refine zsm_cg _ (fun j hj => ?_)
      show aStep (aIt k w) (172 + 4 * j + 3) = _
      unfold aStep
      rw [wu_o (by omega), h2]
    have e2 : aIt (k + 1) w 5 = aMvN (aIt k w) (w 0).toNat 5 := by
      show aStep (aIt k w) 5 = _
      unfold aStep
      rw [wu_o (by omega), h2]
    rw [e1, e2]
    omega
/-- the first meeting is the same by both -/
theorem aFst_cg {p q : Nat → Bool} (h : ∀ k, p k = q k) : ∀ f i, aFst p i f = aFst q i f := by
  intro f i
  rw [show p = q from funext h]
theorem aFst_meet (ok : zok N w) : aFst (fun k => decide (aSm (aIt k w) 3 (w 0).toNat ≠ aSm w 3 (w 0).toNat)) 1 200 = aFst (fun k => decide (aIt k w 5 ≠ w 5)) 1 200 := by
  refine aFst_cg (fun k => ?_) 200 1
  have e := aSm3_It ok k
  by_cases h : aIt k w 5 = w 5
  · rw [decide_eq_false (fun z => z (by omega)), decide_eq_false (fun z => z h)]
  · rw [decide_eq_true (show aSm (aIt k w) 3 (w 0).toNat ≠ aSm w 3 (w 0).toNat by omega), decide_eq_true h]
end
