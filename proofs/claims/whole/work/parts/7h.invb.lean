/-! THE LOOP's invariant: undo, restore, save, append, run -/
section
variable {σ σ' τ τ' s0 : ZI} {x n m : Nat} {w w' v : zW} {N N' u : Int} {kp kq : Nat → zW} {o : Int × Int × Int}
theorem inv_ur (h : zInv s0 N σ) (hN : N ≤ N') (hR : zSr σ' 101 v) (ov : zSok N v) (hC : zCr σ' kq m) (hm : m ≤ 8) (hk : ∀ k, k < m → zSok N (kq k)) (hK : ∀ k, k < m → ∀ j, j < 6202 → σ 3555 (6202 * k + j) = kq k j) (f : ∀ a, (a < 101 ∨ 413 ≤ a) → a ≠ 1037 → (1038 ≤ a ∧ a < 3535) = False → σ' a = σ a) (e : zeq 6202 w' v) (t6 : τ' 3553 6 = (m : Int)) (t3 : ∀ k, k ≠ 6 → k ≠ 8 → τ' 3553 k = zup σ' 3564 0 u 3553 k) (ta : ∀ a, a ≠ 3553 → τ' a = zup σ' 3564 0 u a) : zInv s0 N' (zg τ' w') := by
  obtain ⟨ha, hb, hc, hd, he, hf, hg, hh⟩ := h
  have ec : ∀ a, a ≠ 3553 → a ≠ 3554 → a ≠ 3564 → zg τ' w' a = σ' a := fun a h1 h2 h3 => by rw [zg_o h2, ta a h1, zup_f h3]
  have e0 : ∀ a, a ≠ 3553 → a ≠ 3554 → a ≠ 3564 → (a < 101 ∨ (413 ≤ a ∧ a < 1037) ∨ 3535 ≤ a) → zg τ' w' a = σ a := fun a h1 h2 h3 h4 => (ec a h1 h2 h3).trans (f a (by omega) (by omega) (eq_false (by omega)))
  have e3 : ∀ k, k ≠ 6 → k ≠ 8 → zg τ' w' 3553 k = σ 3553 k := fun k h1 h2 => by rw [zg_o (by omega), t3 k h1 h2, zup_f (by omega), f 3553 (by omega) (by omega) (eq_false (by omega))]
  have e1 : ∀ k, zg τ' w' 100 k = σ 100 k := fun k => by rw [e0 100 (by omega) (by omega) (by omega) (by omega)]
  refine ⟨?_, ⟨kq, m, hC.frame (fun a _ _ => ec a (by omega) (by omega) (by omega)), ⟨?_, fun k hk2 j hj => ?_⟩, hm, fun k hk2 => zSok_mono (hk k hk2) hN⟩,
    zIc_f hc (fun a h1 h2 => e0 a (by omega) (by omega) (by omega) (by omega)) (e1 3) (e3 5 (by omega) (by omega)) (e0 3556 (by omega) (by omega) (by omega) (by omega)) hN,
    zId_f hd (e1 12) (e1 13) (e3 9 (by omega) (by omega)) (e3 10 (by omega) (by omega)),
    zIe_f he (by rw [e0 3550 (by omega) (by omega) (by omega) (by omega)]) (e0 3551 (by omega) (by omega) (by omega) (by omega)) (e3 12 (by omega) (by omega)) (e0 3559 (by omega) (by omega) (by omega) (by omega)),
    zIf_f hf (e1 9) (e3 13 (by omega) (by omega)),
    zIg_f hg (e1 11) (e0 3552 (by omega) (by omega) (by omega) (by omega)) (e3 15 (by omega) (by omega)) (e0 3560 (by omega) (by omega) (by omega) (by omega)),
    zIh_f hh (e3 7 (by omega) (by omega)) (fun a h1 => e0 a (by omega) (by omega) (by omega) (by omega))⟩
  · unfold zIa
    rw [zg_s]
    exact ⟨(hR.cg ov e).frame (fun a _ _ => ec a (by omega) (by omega) (by omega)), zSok_mono (zSok_cg ov e) hN⟩
  · rw [zg_o (by omega)]; exact t6
  · rw [e0 3555 (by omega) (by omega) (by omega) (by omega)]; exact hK k hk2 j hj
theorem inv_s (h : zInv s0 N σ) (hN : N ≤ N') (h7 : zSr σ' 725 (σ 3554)) (h1 : zSr σ' 101 (σ 3554)) (c3 : σ' 100 3 = 1) (cj : ∀ j, j ≠ 3 → σ' 100 j = σ 100 j) (f : ∀ a, a ≠ 100 → (a < 725 ∨ 1037 ≤ a) → σ' a = σ a) (t6 : ∀ j, j < 6202 → τ' 3556 j = σ 3554 j) (t5 : τ' 3553 5 = 1) (t3 : ∀ k, k ≠ 5 → k ≠ 8 → τ' 3553 k = σ' 3553 k) (ta : ∀ a, a ≠ 3553 → a ≠ 3556 → τ' a = σ' a) : zInv s0 N' (zg τ' (σ 3554)) := by
  obtain ⟨ha, hb, hc, hd, he, hf, hg, hh⟩ := h
  have ec : ∀ a, a ≠ 3553 → a ≠ 3554 → a ≠ 3556 → zg τ' (σ 3554) a = σ' a := fun a h1 h2 h3 => by rw [zg_o h2, ta a h1 h3]
  have e0 : ∀ a, a ≠ 100 → a ≠ 3553 → a ≠ 3554 → a ≠ 3556 → (a < 725 ∨ 1037 ≤ a) → zg τ' (σ 3554) a = σ a := fun a h0 h1 h2 h3 h4 => (ec a h1 h2 h3).trans (f a h0 h4)
  have e3 : ∀ k, k ≠ 5 → k ≠ 8 → zg τ' (σ 3554) 3553 k = σ 3553 k := fun k h1 h2 => by rw [zg_o (by omega), t3 k h1 h2, f 3553 (by omega) (by omega)]
  have e1 : ∀ k, k ≠ 3 → zg τ' (σ 3554) 100 k = σ 100 k := fun k hk => by rw [ec 100 (by omega) (by omega) (by omega), cj k hk]
  have eq6 : zeq 6202 (zg τ' (σ 3554) 3556) (σ 3554) := fun j hj => by rw [zg_o (by omega)]; exact t6 j hj
  refine ⟨zIa_f ha (fun a h1 h2 => e0 a (by omega) (by omega) (by omega) (by omega) (by omega)) zg_s hN,
    zIb_f hb (fun a h1 h2 => e0 a (by omega) (by omega) (by omega) (by omega) (by omega)) (e3 6 (by omega) (by omega)) (e0 3555 (by omega) (by omega) (by omega) (by omega) (by omega)) hN,
    ⟨?_, Or.inr ?_, fun _ => ⟨?_, ?_⟩⟩,
    zId_f hd (e1 12 (by omega)) (e1 13 (by omega)) (e3 9 (by omega) (by omega)) (e3 10 (by omega) (by omega)),
    zIe_f he (by rw [e0 3550 (by omega) (by omega) (by omega) (by omega) (by omega)]) (e0 3551 (by omega) (by omega) (by omega) (by omega) (by omega)) (e3 12 (by omega) (by omega)) (e0 3559 (by omega) (by omega) (by omega) (by omega) (by omega)),
    zIf_f hf (e1 9 (by omega)) (e3 13 (by omega) (by omega)),
    zIg_f hg (e1 11 (by omega)) (e0 3552 (by omega) (by omega) (by omega) (by omega) (by omega)) (e3 15 (by omega) (by omega)) (e0 3560 (by omega) (by omega) (by omega) (by omega) (by omega)),
    zIh_f hh (e3 7 (by omega) (by omega)) (fun a h1 => e0 a (by omega) (by omega) (by omega) (by omega) (by omega))⟩
  · rw [ec 100 (by omega) (by omega) (by omega), zg_o (by omega), c3, t5]
  · rw [zg_o (by omega)]; exact t5
  · exact (h7.cg ha.2 eq6).frame (fun a _ _ => ec a (by omega) (by omega) (by omega))
  · exact zSok_mono (zSok_cg ha.2 eq6) hN
theorem inv_a {ts : Nat → Int} {tl : Nat} (h : zInv s0 N σ) (hN : N ≤ N') (hs : zTt ts tl) (hT : zTc σ' ts tl) (f : ∀ a, a ≠ 3550 → a ≠ 3551 → σ' a = σ a) (hM : zTm τ' ts tl) (t3 : ∀ k, k ≠ 8 → k ≠ 12 → τ' 3553 k = zup σ' 3564 0 u 3553 k) (ta : ∀ a, a ≠ 3553 → a ≠ 3559 → τ' a = zup σ' 3564 0 u a) : zInv s0 N' (zg τ' (σ 3554)) := by
  obtain ⟨ha, hb, hc, hd, he, hf, hg, hh⟩ := h
  have ec : ∀ a, a ≠ 3553 → a ≠ 3554 → a ≠ 3559 → a ≠ 3564 → zg τ' (σ 3554) a = σ' a := fun a h1 h2 h3 h4 => by rw [zg_o h2, ta a h1 h3, zup_f h4]
  have e0 : ∀ a, a ≠ 3550 → a ≠ 3551 → a ≠ 3553 → a ≠ 3554 → a ≠ 3559 → a ≠ 3564 → zg τ' (σ 3554) a = σ a := fun a h0 h1 h2 h3 h4 h5 => (ec a h2 h3 h4 h5).trans (f a h0 h1)
  have e3 : ∀ k, k ≠ 8 → k ≠ 12 → zg τ' (σ 3554) 3553 k = σ 3553 k := fun k h1 h2 => by rw [zg_o (by omega), t3 k h1 h2, zup_f (by omega), f 3553 (by omega) (by omega)]
  have e1 : ∀ k, zg τ' (σ 3554) 100 k = σ 100 k := fun k => by rw [e0 100 (by omega) (by omega) (by omega) (by omega) (by omega) (by omega)]
  refine ⟨zIa_f ha (fun a h1 h2 => e0 a (by omega) (by omega) (by omega) (by omega) (by omega) (by omega)) zg_s hN,
    zIb_f hb (fun a h1 h2 => e0 a (by omega) (by omega) (by omega) (by omega) (by omega) (by omega)) (e3 6 (by omega) (by omega)) (e0 3555 (by omega) (by omega) (by omega) (by omega) (by omega) (by omega)) hN,
    zIc_f hc (fun a h1 h2 => e0 a (by omega) (by omega) (by omega) (by omega) (by omega) (by omega)) (e1 3) (e3 5 (by omega) (by omega)) (e0 3556 (by omega) (by omega) (by omega) (by omega) (by omega) (by omega)) hN,
    zId_f hd (e1 12) (e1 13) (e3 9 (by omega) (by omega)) (e3 10 (by omega) (by omega)),
    ⟨ts, tl, hs, ⟨?_, fun i hi => ?_⟩, ⟨?_, fun i hi => ?_⟩⟩,
    zIf_f hf (e1 9) (e3 13 (by omega) (by omega)),
    zIg_f hg (e1 11) (e0 3552 (by omega) (by omega) (by omega) (by omega) (by omega) (by omega)) (e3 15 (by omega) (by omega)) (e0 3560 (by omega) (by omega) (by omega) (by omega) (by omega) (by omega)),
    zIh_f hh (e3 7 (by omega) (by omega)) (fun a h1 => e0 a (by omega) (by omega) (by omega) (by omega) (by omega) (by omega))⟩
  · rw [ec 3550 (by omega) (by omega) (by omega) (by omega)]; exact hT.1
  · rw [ec 3551 (by omega) (by omega) (by omega) (by omega)]; exact hT.2 i hi
  · rw [zg_o (by omega)]; exact hM.1
  · rw [zg_o (by omega)]; exact hM.2 i hi
theorem zTt_0 {ts : Nat → Int} : zTt ts 0 := ⟨Nat.zero_le _, fun i hi => absurd hi (Nat.not_lt_zero i)⟩
theorem inv_re {e : Int} (h : zInv s0 N σ) (hN : N ≤ N') (he3 : zi3 e) (t12 : τ' 3553 12 = 0) (t13 : τ' 3553 13 = e) (t3 : ∀ k, k ≠ 8 → k ≠ 12 → k ≠ 13 → k ≠ 18 → k ≠ 20 → τ' 3553 k = zup (zup σ 100 9 e) 3550 1 0 3553 k) (ta : ∀ a, a ≠ 3553 → a ≠ 3563 → τ' a = zup (zup σ 100 9 e) 3550 1 0 a) : zInv s0 N' (zg τ' (σ 3554)) := by
  obtain ⟨ha, hb, hc, hd, he, hf, hg, hh⟩ := h
  have ec : ∀ a, a ≠ 3553 → a ≠ 3554 → a ≠ 3563 → zg τ' (σ 3554) a = zup (zup σ 100 9 e) 3550 1 0 a := fun a h1 h2 h3 => by rw [zg_o h2, ta a h1 h3]
  have e0 : ∀ a, a ≠ 100 → a ≠ 3550 → a ≠ 3553 → a ≠ 3554 → a ≠ 3563 → zg τ' (σ 3554) a = σ a := fun a h0 h1 h2 h3 h4 => by rw [ec a h2 h3 h4, zup_f h1, zup_f h0]
  have e3 : ∀ k, k ≠ 8 → k ≠ 12 → k ≠ 13 → k ≠ 18 → k ≠ 20 → zg τ' (σ 3554) 3553 k = σ 3553 k := fun k h1 h2 h3 h4 h5 => by rw [zg_o (by omega), t3 k h1 h2 h3 h4 h5, zup_f (by omega), zup_f (by omega)]
  have e1 : ∀ k, k ≠ 9 → zg τ' (σ 3554) 100 k = σ 100 k := fun k hk => by rw [ec 100 (by omega) (by omega) (by omega), zup_f (by omega), zup_j hk]
  refine ⟨zIa_f ha (fun a h1 h2 => e0 a (by omega) (by omega) (by omega) (by omega) (by omega)) zg_s hN,
    zIb_f hb (fun a h1 h2 => e0 a (by omega) (by omega) (by omega) (by omega) (by omega)) (e3 6 (by omega) (by omega) (by omega) (by omega) (by omega)) (e0 3555 (by omega) (by omega) (by omega) (by omega) (by omega)) hN,
    zIc_f hc (fun a h1 h2 => e0 a (by omega) (by omega) (by omega) (by omega) (by omega)) (e1 3 (by omega)) (e3 5 (by omega) (by omega) (by omega) (by omega) (by omega)) (e0 3556 (by omega) (by omega) (by omega) (by omega) (by omega)) hN,
    zId_f hd (e1 12 (by omega)) (e1 13 (by omega)) (e3 9 (by omega) (by omega) (by omega) (by omega) (by omega)) (e3 10 (by omega) (by omega) (by omega) (by omega) (by omega)),
    ⟨fun _ => 0, 0, zTt_0, ⟨?_, fun i hi => absurd hi (Nat.not_lt_zero i)⟩, ⟨?_, fun i hi => absurd hi (Nat.not_lt_zero i)⟩⟩,
    ⟨?_, ?_⟩,
    zIg_f hg (e1 11 (by omega)) (e0 3552 (by omega) (by omega) (by omega) (by omega) (by omega)) (e3 15 (by omega) (by omega) (by omega) (by omega) (by omega)) (e0 3560 (by omega) (by omega) (by omega) (by omega) (by omega)),
    zIh_f hh (e3 7 (by omega) (by omega) (by omega) (by omega) (by omega)) (fun a h1 => e0 a (by omega) (by omega) (by omega) (by omega) (by omega))⟩
  · rw [ec 3550 (by omega) (by omega) (by omega), zup_s]; rfl
  · rw [zg_o (by omega)]; exact t12
  · rw [ec 100 (by omega) (by omega) (by omega), zup_f (by omega), zup_s, zg_o (by omega)]; exact t13.symm
  · rw [zg_o (by omega), t13]; exact he3
theorem inv_rf {E : Int} (h : zInv s0 N σ) (hN : N ≤ N') (r1 : zi3 o.2.1) (r2 : zi3 o.2.2) (c : zRf σ σ' (σ 3554) o (-1)) (e : zeq 6202 w' (σ 3554)) (z : zRe σ' τ' o E (-1)) : zInv s0 N' (zg τ' w') := by
  obtain ⟨ha, hb, hc, hd, he, hf, hg, hh⟩ := h
  obtain ⟨c1, c2, c3, c4, c5, c6, c7⟩ := c
  obtain ⟨z1, z2, z3, z4, z5, z6, z7, z8⟩ := z
  have ec : ∀ a, a ≠ 3553 → a ≠ 3554 → a ≠ 3557 → a ≠ 3563 → zg τ' w' a = σ' a := fun a h1 h2 h3 h4 => by rw [zg_o h2, z8 a h1 h2 h3 h4]
  have e0 : ∀ a, a ≠ 100 → a ≠ 3550 → a ≠ 3553 → a ≠ 3554 → a ≠ 3557 → a ≠ 3563 → (a < 101 ∨ 725 ≤ a) → zg τ' w' a = σ a := fun a h0 h1 h2 h3 h4 h5 h6 => by rw [ec a h2 h3 h4 h5, c7 a h0 h1 h6]
  have c73 : σ' 3553 = σ 3553 := c7 3553 (by omega) (by omega) (by omega)
  have e3 : ∀ k, k ≠ 7 → k ≠ 8 → k ≠ 9 → k ≠ 10 → k ≠ 12 → k ≠ 13 → k ≠ 18 → k ≠ 20 → zg τ' w' 3553 k = σ 3553 k := fun k h1 h2 h3 h4 h5 h6 h7 h8 => by rw [zg_o (by omega), z7 k h1 h2 h3 h4 h5 h6 h7 h8, c73]
  have e1 : ∀ k, k ≠ 9 → k ≠ 12 → k ≠ 13 → zg τ' w' 100 k = σ 100 k := fun k h1 h2 h3 => by rw [ec 100 (by omega) (by omega) (by omega) (by omega), c6 k h1 h2 h3]
  refine ⟨?_,
    zIb_f hb (fun a h1 h2 => e0 a (by omega) (by omega) (by omega) (by omega) (by omega) (by omega) (by omega)) (e3 6 (by omega) (by omega) (by omega) (by omega) (by omega) (by omega) (by omega) (by omega)) (e0 3555 (by omega) (by omega) (by omega) (by omega) (by omega) (by omega) (by omega)) hN,
    zIc_f hc (fun a h1 h2 => e0 a (by omega) (by omega) (by omega) (by omega) (by omega) (by omega) (by omega)) (e1 3 (by omega) (by omega) (by omega)) (e3 5 (by omega) (by omega) (by omega) (by omega) (by omega) (by omega) (by omega) (by omega)) (e0 3556 (by omega) (by omega) (by omega) (by omega) (by omega) (by omega) (by omega)) hN,
    ⟨?_, ?_, ?_, ?_⟩,
    ⟨fun _ => 0, 0, zTt_0, ⟨?_, fun i hi => absurd hi (Nat.not_lt_zero i)⟩, ⟨?_, fun i hi => absurd hi (Nat.not_lt_zero i)⟩⟩,
    ⟨?_, ?_⟩,
    zIg_f hg (e1 11 (by omega) (by omega) (by omega)) (e0 3552 (by omega) (by omega) (by omega) (by omega) (by omega) (by omega) (by omega)) (e3 15 (by omega) (by omega) (by omega) (by omega) (by omega) (by omega) (by omega) (by omega)) (e0 3560 (by omega) (by omega) (by omega) (by omega) (by omega) (by omega) (by omega)),
    ⟨?_, fun a h1 => (e0 a (by omega) (by omega) (by omega) (by omega) (by omega) (by omega) (by omega)).trans (hh.2 a h1)⟩⟩
  · unfold zIa
    rw [zg_s]
    exact ⟨(c1.cg ha.2 e).frame (fun a _ _ => ec a (by omega) (by omega) (by omega) (by omega)), zSok_mono (zSok_cg ha.2 e) hN⟩
  · rw [ec 100 (by omega) (by omega) (by omega) (by omega), zg_o (by omega), c4, z2, c73, hd.1]
  · rw [ec 100 (by omega) (by omega) (by omega) (by omega), zg_o (by omega), c5, z3, c73, hd.2.1]
  · rw [zg_o (by omega), z2, c73]
    split
    · exact hd.2.2.1
    · exact r1
  · rw [zg_o (by omega), z3, c73]
    split
    · exact hd.2.2.2
    · exact r2
  · rw [ec 3550 (by omega) (by omega) (by omega) (by omega)]; exact c3
  · rw [zg_o (by omega)]; exact z5
  · rw [ec 100 (by omega) (by omega) (by omega) (by omega), zg_o (by omega), c2, z6]
  · rw [zg_o (by omega), z6]; exact ⟨by omega, by omega⟩
  · rw [zg_o (by omega)]; exact z4
theorem inv_rg (h : zInv s0 N σ) (hN : N ≤ N') (hR : zSr σ' 101 w') (ow : zSok N' w') (hC : zCr σ' (aPushK kp n (σ 3554)) (aPushN n)) (hn : n ≤ 8) (hk : ∀ k, k < n → zSok N (kp k)) (c1 : σ' 3550 1 = 0) (c9 : σ' 100 9 = -1) (cj : ∀ k, k ≠ 9 → σ' 100 k = σ 100 k) (f : ∀ a, a ≠ 100 → a ≠ 3550 → (a < 101 ∨ (725 ≤ a ∧ a < 1037) ∨ 3535 ≤ a) → σ' a = σ a) (z : zRg (zup σ' 3564 0 u) τ' kp n (σ 3554)) : zInv s0 N' (zg τ' w') := by
  obtain ⟨ha, hb, hc, hd, he, hf, hg, hh⟩ := h
  obtain ⟨z1, z2, z3, z4, z5, z6, z7⟩ := z
  have ec : ∀ a, a ≠ 3553 → a ≠ 3554 → a ≠ 3555 → a ≠ 3557 → a ≠ 3563 → a ≠ 3564 → zg τ' w' a = σ' a := fun a h1 h2 h3 h4 h5 h6 => by rw [zg_o h2, z7 a h1 h2 h3 h4 h5, zup_f h6]
  have e0 : ∀ a, a ≠ 100 → a ≠ 3550 → a ≠ 3553 → a ≠ 3554 → a ≠ 3555 → a ≠ 3557 → a ≠ 3563 → a ≠ 3564 → (a < 101 ∨ (725 ≤ a ∧ a < 1037) ∨ 3535 ≤ a) → zg τ' w' a = σ a := fun a h0 h1 h2 h3 h4 h5 h6 h7 h8 => by rw [ec a h2 h3 h4 h5 h6 h7, f a h0 h1 h8]
  have e3 : ∀ k, k ≠ 6 → k ≠ 7 → k ≠ 8 → k ≠ 12 → k ≠ 13 → k ≠ 18 → k ≠ 20 → zg τ' w' 3553 k = σ 3553 k := fun k h1 h2 h3 h4 h5 h6 h7 => by rw [zg_o (by omega), z6 k h1 h2 h3 h4 h5 h6 h7, zup_f (by omega), f 3553 (by omega) (by omega) (by omega)]
  have e1 : ∀ k, k ≠ 9 → zg τ' w' 100 k = σ 100 k := fun k h1 => by rw [ec 100 (by omega) (by omega) (by omega) (by omega) (by omega) (by omega), cj k h1]
  refine ⟨?_, ⟨aPushK kp n (σ 3554), aPushN n, ?_, ?_, aPushN_8 hn, fun k hk2 => zSok_mono (zSok_aPush hk hn ha.2 k hk2) hN⟩,
    zIc_f hc (fun a h1 h2 => e0 a (by omega) (by omega) (by omega) (by omega) (by omega) (by omega) (by omega) (by omega) (by omega)) (e1 3 (by omega)) (e3 5 (by omega) (by omega) (by omega) (by omega) (by omega) (by omega) (by omega)) (e0 3556 (by omega) (by omega) (by omega) (by omega) (by omega) (by omega) (by omega) (by omega) (by omega)) hN,
    zId_f hd (e1 12 (by omega)) (e1 13 (by omega)) (e3 9 (by omega) (by omega) (by omega) (by omega) (by omega) (by omega) (by omega)) (e3 10 (by omega) (by omega) (by omega) (by omega) (by omega) (by omega) (by omega)),
    ⟨fun _ => 0, 0, zTt_0, ⟨?_, fun i hi => absurd hi (Nat.not_lt_zero i)⟩, ⟨?_, fun i hi => absurd hi (Nat.not_lt_zero i)⟩⟩,
    ⟨?_, ?_⟩,
    zIg_f hg (e1 11 (by omega)) (e0 3552 (by omega) (by omega) (by omega) (by omega) (by omega) (by omega) (by omega) (by omega) (by omega)) (e3 15 (by omega) (by omega) (by omega) (by omega) (by omega) (by omega) (by omega)) (e0 3560 (by omega) (by omega) (by omega) (by omega) (by omega) (by omega) (by omega) (by omega) (by omega)),
    ⟨?_, fun a h1 => (e0 a (by omega) (by omega) (by omega) (by omega) (by omega) (by omega) (by omega) (by omega) (by omega)).trans (hh.2 a h1)⟩⟩
  · unfold zIa
    rw [zg_s]
    exact ⟨hR.frame (fun a _ _ => ec a (by omega) (by omega) (by omega) (by omega) (by omega) (by omega)), ow⟩
  · exact hC.frame (fun a _ _ => ec a (by omega) (by omega) (by omega) (by omega) (by omega) (by omega))
  · exact zKr_fr z5 (by rw [zg_o (by omega)]) (zg_o (by omega))
  · rw [ec 3550 (by omega) (by omega) (by omega) (by omega) (by omega) (by omega)]; exact c1
  · rw [zg_o (by omega)]; exact z3
  · rw [ec 100 (by omega) (by omega) (by omega) (by omega) (by omega) (by omega), zg_o (by omega), c9, z4]
  · rw [zg_o (by omega), z4]; exact ⟨by omega, by omega⟩
  · rw [zg_o (by omega)]; exact z2
end
