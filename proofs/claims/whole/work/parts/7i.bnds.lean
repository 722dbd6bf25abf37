/-! BOUNDS of the answers -/
section
variable {w : zW} {N : Int}
theorem b_at {r c : Int} (ok : zok N w) (z : (0 ≤ r ∧ r < 9) ∧ (0 ≤ c ∧ c < 9)) : zi3 (w (10 + (9 * r + c).toNat)) := by
  have h1 := ok.2.2.2.2.2.2.2.1 (9 * r + c).toNat (by omega)
  have h2 := ok.2.1
  exact ⟨by omega, by omega⟩
theorem b_painted {r c : Int} (ok : zok N w) (hN : N ≤ 100000000) (z : (0 ≤ r ∧ r < 9) ∧ (0 ≤ c ∧ c < 9)) : zi3 (w (91 + (9 * r + c).toNat)) := by
  have h1 := ok.2.2.2.2.2.2.2.2.1 (9 * r + c).toNat (by omega)
  exact ⟨by omega, by omega⟩
theorem b_on {c : Int} : zi3 (aOn w c) := by
  have h : 0 ≤ aOn w c ∧ aOn w c ≤ (4 : Nat) := aOnN_in 4
  exact ⟨by omega, by omega⟩
theorem b_zct {p : Nat → Bool} : zi3 (zct p 81) := by
  have h := zct_in (p := p) 81
  exact ⟨by omega, by omega⟩
theorem b_field {c : Nat} : zi3 (fSize w c) := b_zct
theorem b_fMany {v : Int} : zi3 (fMany w v) := b_zct
theorem b_great {v : Int} : zi3 (fGreat w v 81) := by
  have h := fGreat_in (w := w) (v := v) 81
  exact ⟨by omega, by omega⟩
theorem b_hoeOf {h v : Int} (ok : zok N w) (hN : N ≤ 100000000) (z : 0 ≤ h ∧ h < w 0) (z2 : 0 ≤ v ∧ v ≤ 4) : zi3 (if v = 0 then w (172 + 4 * h.toNat) / 9 else if v = 1 then w (172 + 4 * h.toNat) % 9 else w (172 + 4 * h.toNat + (v - 1).toNat)) := by
  obtain ⟨h1, h2, h3, h4⟩ := ok.2.2.2.2.2.2.2.2.2.1 h.toNat (by omega)
  unfold zi3
  split
  · omega
  · split
    · omega
    · rcases (show v = 2 ∨ v = 3 ∨ v = 4 by omega) with e | e | e
      · rw [show 172 + 4 * h.toNat + (v - 1).toNat = 173 + 4 * h.toNat by omega]; omega
      · rw [show 172 + 4 * h.toNat + (v - 1).toNat = 174 + 4 * h.toNat by omega]; omega
      · rw [show 172 + 4 * h.toNat + (v - 1).toNat = 175 + 4 * h.toNat by omega]; omega
theorem b_trail {p : Int} (ok : zok N w) (z : 0 ≤ p ∧ p < w 4) : zi3 (w (188 + p.toNat)) := by
  have h := ok.2.2.2.2.2.2.2.2.2.2 p.toNat (by omega)
  exact ⟨by omega, by omega⟩
theorem aRkF_in {p : Int} : ∀ f i : Nat, 0 ≤ aRkF w p i f ∧ aRkF w p i f ≤ i + f := by
  intro f
  induction f with
  | zero => intro i; unfold aRkF; omega
  | succ f ih =>
    intro i
    unfold aRkF
    have := ih (i + 1)
    split <;> omega
theorem b_ranked {p : Int} (ok : zok N w) : zi3 (aRanked w p) := by
  have h := aRkF_in (w := w) (p := p) (w 0).toNat 0
  have o0 := ok.1
  unfold zi3 aRanked
  omega
theorem b_willBe {h v : Int} (ok : zok N w) (z : 0 ≤ h ∧ h < w 0) : zi3 (aIt v.toNat w (172 + 4 * h.toNat)) := by
  obtain ⟨a1, a2, a3⟩ := aIt_ok ok v.toNat
  have h1 := (a1.2.2.2.2.2.2.2.2.2.1 h.toNat (by omega)).1
  exact ⟨by omega, by omega⟩
theorem b_willMeet {v : Int} (ok : zok N w) (hN : N ≤ 100000000) (z : 0 ≤ v ∧ v ≤ 200) : zi3 (aIt v.toNat w 5 - w 5) := by
  obtain ⟨a1, a2, a3⟩ := aIt_ok ok v.toNat
  have h1 := a1.2.2.2.2.2.1
  have h2 := ok.2.2.2.2.2.1
  exact ⟨by omega, by omega⟩
theorem b_fst {p : Nat → Bool} {n : Nat} (hn : n ≤ 200) : zi3 ((aFst p 1 n : Nat) : Int) := by
  have h := aFst_b (p := p) n 1
  exact ⟨by omega, by omega⟩
theorem b_inv : zi3 (qInv w) := by
  rcases aLook_01 (aInvN (w 0).toNat w) (zgl (w 201 - 1).toNat w) with z | z
  · unfold qInv; rw [z]; exact ⟨by omega, by omega⟩
  · unfold qInv; rw [z]; exact ⟨by omega, by omega⟩
theorem b_acc {v tl n : Int} (ok : zSok N w) (hN : N ≤ 100000000) (z : 0 ≤ v ∧ v ≤ 10) (ht : 0 ≤ tl ∧ tl ≤ 60) (hn : 0 ≤ n ∧ n ≤ 8) : zi3 (qAcc w v tl n) := by
  have o0 := ok.2.2.1.1
  have o1 := ok.2.2.1.2.1
  have o2 := ok.2.2.1.2.2.1
  have o3 := ok.2.2.1.2.2.2.1
  have o4 := ok.2.2.1.2.2.2.2.1
  have p1 := ok.1
  have p2 := ok.2.1
  have c6 := zct_in (p := fun c => decide (0 < w (91 + c))) 81
  have s7 := zsm_in (f := fun h => w (172 + 4 * h + 3)) (M := N) (w 0).toNat (fun k hk => by
    have h := (ok.2.2.1.2.2.2.2.2.2.2.2.2.1 k (by omega)).2.2.2
    rw [show 175 + 4 * k = 172 + 4 * k + 3 by omega] at h
    exact h)
  have s8 : ((w 0).toNat : Int) * N ≤ 400000000 := by
    have h4 : ((w 0).toNat : Int) ≤ 4 := by omega
    have h5 : ((w 0).toNat : Int) * N ≤ 4 * N := Int.mul_le_mul_of_nonneg_right h4 (by omega)
    omega
  unfold zi3 qAcc
  split
  · omega
  split
  · omega
  split
  · omega
  split
  · unfold aSm; omega
  split
  · omega
  split
  · omega
  split
  · omega
  rcases (show v = 0 ∨ v = 1 ∨ v = 2 ∨ v = 3 by omega) with e | e | e | e
  · subst e; exact ⟨by show _ ≤ w 0; omega, by show w 0 < _; omega⟩
  · subst e; exact ⟨by show _ ≤ w 1; omega, by show w 1 < _; omega⟩
  · subst e; exact ⟨by show _ ≤ w 2; omega, by show w 2 < _; omega⟩
  · subst e; exact ⟨by show _ ≤ w 3; omega, by show w 3 < _; omega⟩
theorem aGS_in (ok : zSok N w) : ∀ k : Nat, 0 ≤ aGS w k ∧ aGS w k ≤ 4 * k := by
  intro k
  have o0 := ok.2.2.1.1
  induction k with
  | zero => exact ⟨Int.le_refl 0, Int.le_refl 0⟩
  | succ k ih =>
    have h := aGN_in (w := aKeep (aStN k w)) (w 0).toNat
    show 0 ≤ aGS w k + aGN (aKeep (aStN k w)) (w 0).toNat ∧ aGS w k + aGN (aKeep (aStN k w)) (w 0).toNat ≤ 4 * ((k + 1 : Nat) : Int)
    omega
theorem b_step {v : Int} (ok : zSok N w) (h0 : (oStep w v).1 = 0) : zi3 (aGS w v.toNat) := by
  have h := aGS_in ok v.toNat
  have hz := oStep_0 h0
  exact ⟨by omega, by omega⟩
theorem b_turn {t v : Int} (ok : zok N w) (h0 : (oTurn w t v).1 = 0) : zi3 (w (6 + t.toNat)) := by
  have hz := oTurn_0 h0
  have h := ok.2.2.2.2.2.2.1 t.toNat (by omega)
  exact ⟨by omega, by omega⟩
theorem b_paint {r c v : Int} (ok : zok N w) (h0 : (oPaint w r c v).1 = 0) : zi3 (w (10 + (9 * r + c).toNat)) := b_at ok (oPaint_0 h0).1
theorem b_w0 (ok : zok N w) : zi3 (w 0) := by
  have h := ok.1
  exact ⟨by omega, by omega⟩
theorem b_w01 (ok : zok N w) : zi3 (w 0 - 1) := by
  have h := ok.1
  exact ⟨by omega, by omega⟩
theorem b_w2 (ok : zok N w) : zi3 (w 2) := by
  have h := ok.2.2.1
  exact ⟨by omega, by omega⟩
theorem b_back (ok : zSok N w) : zi3 (w 201 - 1) := by
  have h := ok.1
  exact ⟨by omega, by omega⟩
end
