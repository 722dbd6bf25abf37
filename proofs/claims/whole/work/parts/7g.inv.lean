/-! THE LOOP's invariant -/
def zIa (N : Int) (σ : ZI) : Prop := zSr σ 101 (σ 3554) ∧ zSok N (σ 3554)
def zIb (N : Int) (σ : ZI) : Prop := ∃ (kp : Nat → zW) (n : Nat), zCr σ kp n ∧ zKr σ kp n ∧ n ≤ 8 ∧ ∀ k, k < n → zSok N (kp k)
def zIc (N : Int) (σ : ZI) : Prop := σ 100 3 = σ 3553 5 ∧ (σ 3553 5 = 0 ∨ σ 3553 5 = 1) ∧ (σ 3553 5 ≠ 0 → zSr σ 725 (σ 3556) ∧ zSok N (σ 3556))
def zId (σ : ZI) : Prop := σ 100 12 = σ 3553 9 ∧ σ 100 13 = σ 3553 10 ∧ zi3 (σ 3553 9) ∧ zi3 (σ 3553 10)
def zIe (σ : ZI) : Prop := ∃ (ts : Nat → Int) (tl : Nat), zTt ts tl ∧ zTc σ ts tl ∧ zTm σ ts tl
def zIf (σ : ZI) : Prop := σ 100 9 = σ 3553 13 ∧ zi3 (σ 3553 13)
def zIg (σ : ZI) : Prop := ∃ (ll : Nat) (f : Nat → Int), ll ≤ 9 ∧ σ 100 11 = (ll : Int) ∧ σ 3553 15 = (ll : Int) ∧ ∀ k, k < ll → σ 3552 k = f k ∧ σ 3560 k = f k ∧ 0 ≤ f k ∧ f k < 65536
def zIh (s0 : ZI) (σ : ZI) : Prop := σ 3553 7 = 0 ∧ ∀ a, a < 100 → σ a = s0 a
def zInv (s0 : ZI) (N : Int) (σ : ZI) : Prop := zIa N σ ∧ zIb N σ ∧ zIc N σ ∧ zId σ ∧ zIe σ ∧ zIf σ ∧ zIg σ ∧ zIh s0 σ
section
variable {σ σ' τ τ' s0 : ZI} {x n : Nat} {w w' : zW} {N N' : Int} {kp : Nat → zW} {o : Int × Int × Int}
theorem zIa_f (h : zIa N σ) (f : ∀ a, 101 ≤ a → a < 413 → σ' a = σ a) (g : σ' 3554 = σ 3554) (hN : N ≤ N') : zIa N' σ' := by
  unfold zIa
  rw [g]
  exact ⟨h.1.frame (fun a h1 h2 => f a h1 (by omega)), zSok_mono h.2 hN⟩
theorem zIb_f (h : zIb N σ) (f : ∀ a, 1037 ≤ a → a < 3535 → σ' a = σ a) (g6 : σ' 3553 6 = σ 3553 6) (g5 : σ' 3555 = σ 3555) (hN : N ≤ N') : zIb N' σ' := by
  obtain ⟨kp, n, h1, h2, h3, h4⟩ := h
  exact ⟨kp, n, h1.frame f, zKr_fr h2 g6 g5, h3, fun k hk => zSok_mono (h4 k hk) hN⟩
theorem zIc_f (h : zIc N σ) (f : ∀ a, 725 ≤ a → a < 1037 → σ' a = σ a) (g3 : σ' 100 3 = σ 100 3) (g5 : σ' 3553 5 = σ 3553 5) (g6 : σ' 3556 = σ 3556) (hN : N ≤ N') : zIc N' σ' := by
  unfold zIc
  rw [g3, g5, g6]
  exact ⟨h.1, h.2.1, fun z => ⟨(h.2.2 z).1.frame (fun a h1 h2 => f a h1 (by omega)), zSok_mono (h.2.2 z).2 hN⟩⟩
theorem zId_f (h : zId σ) (g1 : σ' 100 12 = σ 100 12) (g2 : σ' 100 13 = σ 100 13) (g3 : σ' 3553 9 = σ 3553 9) (g4 : σ' 3553 10 = σ 3553 10) : zId σ' := by
  unfold zId
  rw [g1, g2, g3, g4]
  exact h
theorem zIe_f (h : zIe σ) (g1 : σ' 3550 1 = σ 3550 1) (g2 : σ' 3551 = σ 3551) (g3 : σ' 3553 12 = σ 3553 12) (g4 : σ' 3559 = σ 3559) : zIe σ' := by
  obtain ⟨ts, tl, h1, h2, h3⟩ := h
  exact ⟨ts, tl, h1, ⟨by rw [g1]; exact h2.1, fun i hi => by rw [g2]; exact h2.2 i hi⟩, ⟨by rw [g3]; exact h3.1, fun i hi => by rw [g4]; exact h3.2 i hi⟩⟩
theorem zIf_f (h : zIf σ) (g1 : σ' 100 9 = σ 100 9) (g2 : σ' 3553 13 = σ 3553 13) : zIf σ' := by
  unfold zIf
  rw [g1, g2]
  exact h
theorem zIg_f (h : zIg σ) (g1 : σ' 100 11 = σ 100 11) (g2 : σ' 3552 = σ 3552) (g3 : σ' 3553 15 = σ 3553 15) (g4 : σ' 3560 = σ 3560) : zIg σ' := by
  unfold zIg
  rw [g1, g2, g3, g4]
  exact h
theorem zIh_f (h : zIh s0 σ) (g1 : σ' 3553 7 = σ 3553 7) (g2 : ∀ a, a < 100 → σ' a = σ a) : zIh s0 σ' := ⟨by rw [g1]; exact h.1, fun a ha => (g2 a ha).trans (h.2 a ha)⟩
/-- outside the class's scratch and the answer nothing differs -/
def zfx (σ σ' : ZI) : Prop := ∀ a : Nat, (a < 3535 ∨ 3550 ≤ a) → a ≠ 3564 → σ' a = σ a
theorem zfx_r : zfx σ σ := fun _ _ _ => rfl
theorem zfx_u {v : Int} (h : zfq σ σ') : zfx σ (zup σ' 3564 0 v) := fun a h1 h2 => (zup_f h2).trans (h a h1)
theorem zfx_q (h : zfq σ σ') : zfx σ σ' := fun a h1 _ => h a h1
/-- a question leaves the invariant -/
theorem inv_q {p : Int} (h : zInv s0 N σ) (hN : N ≤ N') (f : zfx σ σ') (q : zQy σ' τ' p) : zInv s0 N' (zg τ' (σ 3554)) := by
  obtain ⟨ha, hb, hc, hd, he, hf, hg, hh⟩ := h
  obtain ⟨q1, q2, q3⟩ := q
  have e : ∀ a, a ≠ 3553 → a ≠ 3554 → a ≠ 3558 → a ≠ 3561 → a ≠ 3562 → (a < 3535 ∨ 3550 ≤ a) → a ≠ 3564 → zg τ' (σ 3554) a = σ a := fun a h1 h2 h3 h4 h5 h6 h7 => by rw [zg_o h2, q3 a h1 h2 h3 h4 h5, f a h6 h7]
  have e3 : ∀ k, k ≠ 8 → zg τ' (σ 3554) 3553 k = σ 3553 k := fun k hk => by rw [zg_o (by omega), q2 k hk, f 3553 (by omega) (by omega)]
  exact ⟨zIa_f ha (fun a h1 h2 => e a (by omega) (by omega) (by omega) (by omega) (by omega) (by omega) (by omega)) zg_s hN,
    zIb_f hb (fun a h1 h2 => e a (by omega) (by omega) (by omega) (by omega) (by omega) (by omega) (by omega)) (e3 6 (by omega)) (e 3555 (by omega) (by omega) (by omega) (by omega) (by omega) (by omega) (by omega)) hN,
    zIc_f hc (fun a h1 h2 => e a (by omega) (by omega) (by omega) (by omega) (by omega) (by omega) (by omega)) (by rw [e 100 (by omega) (by omega) (by omega) (by omega) (by omega) (by omega) (by omega)]) (e3 5 (by omega)) (e 3556 (by omega) (by omega) (by omega) (by omega) (by omega) (by omega) (by omega)) hN,
    zId_f hd (by rw [e 100 (by omega) (by omega) (by omega) (by omega) (by omega) (by omega) (by omega)]) (by rw [e 100 (by omega) (by omega) (by omega) (by omega) (by omega) (by omega) (by omega)]) (e3 9 (by omega)) (e3 10 (by omega)),
    zIe_f he (by rw [e 3550 (by omega) (by omega) (by omega) (by omega) (by omega) (by omega) (by omega)]) (e 3551 (by omega) (by omega) (by omega) (by omega) (by omega) (by omega) (by omega)) (e3 12 (by omega)) (e 3559 (by omega) (by omega) (by omega) (by omega) (by omega) (by omega) (by omega)),
    zIf_f hf (by rw [e 100 (by omega) (by omega) (by omega) (by omega) (by omega) (by omega) (by omega)]) (e3 13 (by omega)),
    zIg_f hg (by rw [e 100 (by omega) (by omega) (by omega) (by omega) (by omega) (by omega) (by omega)]) (e 3552 (by omega) (by omega) (by omega) (by omega) (by omega) (by omega) (by omega)) (e3 15 (by omega)) (e 3560 (by omega) (by omega) (by omega) (by omega) (by omega) (by omega) (by omega)),
    zIh_f hh (e3 7 (by omega)) (fun a h1 => e a (by omega) (by omega) (by omega) (by omega) (by omega) (by omega) (by omega))⟩
/-- a line that is written -/
theorem inv_l {m : Nat} {f : Nat → Int} {v : Int} (h : zInv s0 N σ) (hN : N ≤ N') (hm : m ≤ 9) (hf01 : ∀ k, k < m → 0 ≤ f k ∧ f k < 65536) (hC : zLnC σ σ' m f) (hM : zLnM σ' τ' m f ∨ zLnM (zup σ' 3564 0 v) τ' m f) : zInv s0 N' (zg τ' (σ 3554)) := by
  obtain ⟨ha, hb, hc, hd, he, hf, hg, hh⟩ := h
  obtain ⟨c1, c2, c3, c4⟩ := hC
  have hM2 : τ' 3553 15 = (m : Int) ∧ (∀ k, k < m → τ' 3560 k = f k) ∧ τ' 3553 8 = 0 ∧ (∀ j, j ≠ 8 → j ≠ 15 → τ' 3553 j = σ' 3553 j) ∧ ∀ a, a ≠ 3553 → a ≠ 3560 → a ≠ 3564 → τ' a = σ' a := by
    rcases hM with ⟨m1, m2, m3, m4, m5⟩ | ⟨m1, m2, m3, m4, m5⟩
    · exact ⟨m1, m2, m3, m4, fun a h1 h2 _ => m5 a h1 h2⟩
    · exact ⟨m1, m2, m3, fun j h1 h2 => by rw [m4 j h1 h2, zup_f (by omega)], fun a h1 h2 h3 => by rw [m5 a h1 h2, zup_f h3]⟩
  obtain ⟨m1, m2, m3, m4, m5⟩ := hM2
  have e : ∀ a, a ≠ 100 → a ≠ 3552 → a ≠ 3553 → a ≠ 3554 → a ≠ 3560 → a ≠ 3564 → zg τ' (σ 3554) a = σ a := fun a h1 h2 h3 h4 h5 h6 => by rw [zg_o h4, m5 a h3 h5 h6, c4 a h1 h2]
  have e3 : ∀ k, k ≠ 8 → k ≠ 15 → zg τ' (σ 3554) 3553 k = σ 3553 k := fun k h1 h2 => by rw [zg_o (by omega), m4 k h1 h2, c4 3553 (by omega) (by omega)]
  have e1 : ∀ k, k ≠ 11 → zg τ' (σ 3554) 100 k = σ 100 k := fun k h1 => by rw [zg_o (by omega), m5 100 (by omega) (by omega) (by omega), c3 k h1]
  refine ⟨zIa_f ha (fun a h1 h2 => e a (by omega) (by omega) (by omega) (by omega) (by omega) (by omega)) zg_s hN,
    zIb_f hb (fun a h1 h2 => e a (by omega) (by omega) (by omega) (by omega) (by omega) (by omega)) (e3 6 (by omega) (by omega)) (e 3555 (by omega) (by omega) (by omega) (by omega) (by omega) (by omega)) hN,
    zIc_f hc (fun a h1 h2 => e a (by omega) (by omega) (by omega) (by omega) (by omega) (by omega)) (e1 3 (by omega)) (e3 5 (by omega) (by omega)) (e 3556 (by omega) (by omega) (by omega) (by omega) (by omega) (by omega)) hN,
    zId_f hd (e1 12 (by omega)) (e1 13 (by omega)) (e3 9 (by omega) (by omega)) (e3 10 (by omega) (by omega)),
    zIe_f he (by rw [e 3550 (by omega) (by omega) (by omega) (by omega) (by omega) (by omega)]) (e 3551 (by omega) (by omega) (by omega) (by omega) (by omega) (by omega)) (e3 12 (by omega) (by omega)) (e 3559 (by omega) (by omega) (by omega) (by omega) (by omega) (by omega)),
    zIf_f hf (e1 9 (by omega)) (e3 13 (by omega) (by omega)),
    ⟨m, f, hm, ?_, ?_, fun k hk => ⟨?_, ?_, hf01 k hk⟩⟩,
    zIh_f hh (e3 7 (by omega) (by omega)) (fun a h1 => e a (by omega) (by omega) (by omega) (by omega) (by omega) (by omega))⟩
  · rw [zg_o (by omega), m5 100 (by omega) (by omega) (by omega)]; exact c1
  · rw [zg_o (by omega)]; exact m1
  · rw [zg_o (by omega), m5 3552 (by omega) (by omega) (by omega)]; exact c2 k hk
  · rw [zg_o (by omega)]; exact m2 k hk
/-- an order that is refused, or that has a fault -/
theorem inv_f (h : zInv s0 N σ) (hN : N ≤ N') (h0 : o.1 ≠ 0) (r1 : zi3 o.2.1) (r2 : zi3 o.2.2) (z : zOp (zref σ o) τ' (σ 3554) o) : zInv s0 N' (zg τ' (σ 3554)) := by
  obtain ⟨ha, hb, hc, hd, he, hf, hg, hh⟩ := h
  obtain ⟨z1, z2, z3, z4, z5, z6, z7⟩ := z
  obtain ⟨z6a, z6b⟩ := z6 (Or.inl h0)
  rw [zref_f (by omega)] at z2 z3 z6a z6b
  have e : ∀ a, a ≠ 100 → a ≠ 3553 → a ≠ 3554 → zg τ' (σ 3554) a = σ a := by
    intro a h1 h2 h3
    rw [zg_o h3]
    by_cases a5 : a = 3555
    · subst a5; exact z6b
    · rw [z5 a h2 h3 a5, zref_f h1]
  have e3 : ∀ k, k ≠ 8 → k ≠ 9 → k ≠ 10 → zg τ' (σ 3554) 3553 k = σ 3553 k := by
    intro k h1 h2 h3
    rw [zg_o (by omega)]
    by_cases a6 : k = 6
    · subst a6; exact z6a
    · rw [z4 k a6 h1 h2 h3, zref_f (by omega)]
  have e1 : ∀ k, k ≠ 12 → k ≠ 13 → zg τ' (σ 3554) 100 k = σ 100 k := fun k h1 h2 => by rw [zg_o (by omega), z5 100 (by omega) (by omega) (by omega), zref_k h1 h2]
  refine ⟨zIa_f ha (fun a h1 h2 => e a (by omega) (by omega) (by omega)) zg_s hN,
    zIb_f hb (fun a h1 h2 => e a (by omega) (by omega) (by omega)) (e3 6 (by omega) (by omega) (by omega)) (e 3555 (by omega) (by omega) (by omega)) hN,
    zIc_f hc (fun a h1 h2 => e a (by omega) (by omega) (by omega)) (e1 3 (by omega) (by omega)) (e3 5 (by omega) (by omega) (by omega)) (e 3556 (by omega) (by omega) (by omega)) hN,
    ⟨?_, ?_, ?_, ?_⟩,
    zIe_f he (by rw [e 3550 (by omega) (by omega) (by omega)]) (e 3551 (by omega) (by omega) (by omega)) (e3 12 (by omega) (by omega) (by omega)) (e 3559 (by omega) (by omega) (by omega)),
    zIf_f hf (e1 9 (by omega) (by omega)) (e3 13 (by omega) (by omega) (by omega)),
    zIg_f hg (e1 11 (by omega) (by omega)) (e 3552 (by omega) (by omega) (by omega)) (e3 15 (by omega) (by omega) (by omega)) (e 3560 (by omega) (by omega) (by omega)),
    zIh_f hh (e3 7 (by omega) (by omega) (by omega)) (fun a h1 => e a (by omega) (by omega) (by omega))⟩
  · rw [zg_o (by omega), zg_o (by omega), z5 100 (by omega) (by omega) (by omega), zref_12, z2, hd.1]
  · rw [zg_o (by omega), zg_o (by omega), z5 100 (by omega) (by omega) (by omega), zref_13, z3, hd.2.1]
  · rw [zg_o (by omega), z2]
    split
    · exact hd.2.2.1
    · exact r1
  · rw [zg_o (by omega), z3]
    split
    · exact hd.2.2.2
    · exact r2
theorem zSok_aPush (hk : ∀ k, k < n → zSok N (kp k)) (hn : n ≤ 8) (hw : zSok N w) : ∀ k, k < aPushN n → zSok N (aPushK kp n w k) := by
  intro k h
  unfold aPushN at h
  unfold aPushK
  split
  · next e =>
    split
    · exact hk _ (by omega)
    · exact hw
  · next e =>
    rw [if_neg e] at h
    split
    · exact hw
    · exact hk k (by omega)
theorem aPushN_8 (hn : n ≤ 8) : aPushN n ≤ 8 := by
  unfold aPushN
  split <;> omega
/-- a change that is made -/
theorem inv_c {v : Int} (h : zInv s0 N σ) (hN : N ≤ N') (hR : zSr σ' 101 w') (hC : zCr σ' (aPushK kp n (σ 3554)) (aPushN n)) (hK : zKr σ kp n) (hn : n ≤ 8) (hk : ∀ k, k < n → zSok N (kp k)) (f : ∀ a, a < 101 ∨ (413 ≤ a ∧ a < 1037) ∨ 3535 ≤ a → σ' a = σ a) (z : zOp (zup σ' 3564 0 v) τ' (σ 3554) (0, 0, 0)) (ow : zSok N' w') : zInv s0 N' (zg τ' w') := by
  obtain ⟨ha, hb, hc, hd, he, hf, hg, hh⟩ := h
  obtain ⟨z1, z2, z3, z4, z5, z6, z7⟩ := z
  rw [if_pos rfl] at z2 z3
  have k7 : zup σ' 3564 0 v 3553 7 = 0 := by rw [zup_f (by omega), f 3553 (by omega)]; exact hh.1
  have z8 := z7 rfl k7 kp n (zKr_fr hK (by rw [zup_f (by omega), f 3553 (by omega)]) (by rw [zup_f (by omega), f 3555 (by omega)]))
  have ec : ∀ a, a ≠ 3553 → a ≠ 3554 → a ≠ 3555 → a ≠ 3564 → zg τ' w' a = σ' a := fun a h1 h2 h3 h4 => by rw [zg_o h2, z5 a h1 h2 h3, zup_f h4]
  have e : ∀ a, a ≠ 3553 → a ≠ 3554 → a ≠ 3555 → a ≠ 3564 → (a < 101 ∨ (413 ≤ a ∧ a < 1037) ∨ 3535 ≤ a) → zg τ' w' a = σ a := fun a h1 h2 h3 h4 h5 => (ec a h1 h2 h3 h4).trans (f a h5)
  have e3 : ∀ k, k ≠ 6 → k ≠ 8 → zg τ' w' 3553 k = σ 3553 k := by
    intro k h1 h2
    rw [zg_o (by omega)]
    by_cases k9 : k = 9
    · subst k9; rw [z2, zup_f (by omega), f 3553 (by omega)]
    · by_cases k10 : k = 10
      · subst k10; rw [z3, zup_f (by omega), f 3553 (by omega)]
      · rw [z4 k h1 h2 k9 k10, zup_f (by omega), f 3553 (by omega)]
  have e1 : ∀ k, zg τ' w' 100 k = σ 100 k := fun k => by rw [e 100 (by omega) (by omega) (by omega) (by omega) (by omega)]
  refine ⟨?_, ⟨aPushK kp n (σ 3554), aPushN n, ?_, ?_, aPushN_8 hn, fun k hk2 => zSok_mono (zSok_aPush hk hn ha.2 k hk2) hN⟩,
    zIc_f hc (fun a h1 h2 => e a (by omega) (by omega) (by omega) (by omega) (by omega)) (e1 3) (e3 5 (by omega) (by omega)) (e 3556 (by omega) (by omega) (by omega) (by omega) (by omega)) hN,
    zId_f hd (e1 12) (e1 13) (e3 9 (by omega) (by omega)) (e3 10 (by omega) (by omega)),
    zIe_f he (by rw [e 3550 (by omega) (by omega) (by omega) (by omega) (by omega)]) (e 3551 (by omega) (by omega) (by omega) (by omega) (by omega)) (e3 12 (by omega) (by omega)) (e 3559 (by omega) (by omega) (by omega) (by omega) (by omega)),
    zIf_f hf (e1 9) (e3 13 (by omega) (by omega)),
    zIg_f hg (e1 11) (e 3552 (by omega) (by omega) (by omega) (by omega) (by omega)) (e3 15 (by omega) (by omega)) (e 3560 (by omega) (by omega) (by omega) (by omega) (by omega)),
    zIh_f hh (e3 7 (by omega) (by omega)) (fun a h1 => e a (by omega) (by omega) (by omega) (by omega) (by omega))⟩
  · unfold zIa
    rw [zg_s]
    exact ⟨hR.frame (fun a _ _ => ec a (by omega) (by omega) (by omega) (by omega)), ow⟩
  · exact hC.frame (fun a _ _ => ec a (by omega) (by omega) (by omega) (by omega))
  · exact zKr_fr z8 (by rw [zg_o (by omega)]) (zg_o (by omega))
end
section
variable {w : zW} {N : Int}
theorem oHoe_r {a b c : Int} (h : (oHoe w a b c).1 ≠ 0) : zi3 (oHoe w a b c).2.1 ∧ zi3 (oHoe w a b c).2.2 := by
  have al := aLowF_in (w := w) (c := 9 * a + b) 4 0
  have al2 : -1 ≤ aLow w (9 * a + b) ∧ aLow w (9 * a + b) < 5 := by unfold aLow; omega
  unfold zi3 oHoe
  repeat' (first | (dsimp only; omega) | split)
theorem oMany_r {a : Int} (ha : zi3 a) : zi3 (oMany w a).2.1 ∧ zi3 (oMany w a).2.2 := by
  unfold zi3 at *
  unfold oMany
  repeat' (first | (dsimp only; omega) | split)
theorem oTurn_r {a b : Int} (hb : zi3 b) : zi3 (oTurn w a b).2.1 ∧ zi3 (oTurn w a b).2.2 := by
  unfold zi3 at *
  unfold oTurn
  repeat' (first | (dsimp only; omega) | split)
theorem oPaint_r {a b c : Int} (hc : zi3 c) : zi3 (oPaint w a b c).2.1 ∧ zi3 (oPaint w a b c).2.2 := by
  unfold zi3 at *
  unfold oPaint
  repeat' (first | (dsimp only; omega) | split)
theorem oManner_r {a : Int} (ha : zi3 a) : zi3 (oManner w a).2.1 ∧ zi3 (oManner w a).2.2 := by
  unfold zi3 at *
  unfold oManner
  repeat' (first | (dsimp only; omega) | split)
theorem oStep_r {a : Int} (ok : zok N w) (hN : N ≤ 100000000) : zi3 (oStep w a).2.1 ∧ zi3 (oStep w a).2.2 := by
  have o3 := ok.2.2.2.1
  unfold zi3 oStep
  repeat' (first | (dsimp only; omega) | split)
theorem oBack_r (ok : zSok N w) (hN : N ≤ 100000000) : zi3 (oBack w).2.1 ∧ zi3 (oBack w).2.2 := by
  have o3 := ok.2.1
  unfold zi3 oBack
  repeat' (first | (dsimp only; omega) | split)
theorem oDrop_r {a : Int} : zi3 (oDrop w a).2.1 ∧ zi3 (oDrop w a).2.2 := by
  unfold zi3 oDrop
  repeat' (first | (dsimp only; omega) | split)
theorem oO_r {c a1 a2 a3 : Int} (hc : zLt c) (ok : zSok N w) (hN : N ≤ 100000000) (b1 : zi3 a1) (b2 : zi3 a2) (b3 : zi3 a3) (h : (oO w c a1 a2 a3).1 ≠ 0) : zi3 (oO w c a1 a2 a3).2.1 ∧ zi3 (oO w c a1 a2 a3).2.2 := by
  rcases hc with e | e | e | e | e | e | e | e
  · subst e; exact oHoe_r (w := w) (a := a1) (b := a2) (c := a3) h
  · subst e; exact oPaint_r (w := w) (a := a1) (b := a2) b3
  · subst e; exact oTurn_r (w := w) (a := a1) b2
  · subst e; exact oStep_r (a := a1) ok.2.2.1 hN
  · subst e; exact oBack_r ok hN
  · subst e; exact oDrop_r (w := w) (a := a1)
  · subst e; exact oMany_r (w := w) b1
  · subst e; exact oManner_r (w := w) b1
end
