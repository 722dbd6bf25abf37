/-! A LAWN, as the model lays it: 0 how many hoes, 1 colours, 2 manner, 3 steps, 4 how long the trail is, 5 meetings, 6.. turns, 10.. cells, 91.. paintings, 172.. hoes by four, 188.. trail -/
abbrev zW : Type := Nat → Int
def wu (w : zW) (k : Nat) (v : Int) : zW := fun j => if j = k then v else w j
theorem wu_s {w : zW} {k : Nat} {v : Int} : wu w k v k = v := if_pos rfl
theorem wu_o {w : zW} {k j : Nat} {v : Int} (h : j ≠ k) : wu w k v j = w j := if_neg h
/-- a lawn of the class, and what it is -/
def zLr (σ : ZI) (L : Nat) (w : zW) : Prop :=
  (σ L 10 = w 0 ∧ σ L 11 = w 1 ∧ σ L 12 = w 2 ∧ σ L 13 = w 3 ∧ σ L 9 = w 4) ∧ (∀ t, t < 4 → σ (L + 3) t = w (6 + t)) ∧ (∀ c, c < 81 → σ (L + 1) c = w (10 + c)) ∧ (∀ c, c < 81 → σ (L + 2) c = w (91 + c)) ∧
  (∀ h : Nat, (h : Int) < w 0 → σ (L + 5) h = w (172 + 4 * h) ∧ σ (L + 6) h = w (173 + 4 * h) ∧ σ (L + 7) h = w (174 + 4 * h) ∧ σ (L + 8) h = w (175 + 4 * h)) ∧ ∀ k : Nat, (k : Int) < w 4 → σ (L + 4) k = w (188 + k)
/-- a lawn is in order; no count is beyond N -/
def zok (N : Int) (w : zW) : Prop :=
  (0 ≤ w 0 ∧ w 0 ≤ 4) ∧ (2 ≤ w 1 ∧ w 1 ≤ 4) ∧ (0 ≤ w 2 ∧ w 2 ≤ 2) ∧ (0 ≤ w 3 ∧ w 3 ≤ N) ∧ (0 ≤ w 4 ∧ w 4 ≤ 12) ∧ (0 ≤ w 5 ∧ w 5 ≤ N) ∧ (∀ t, t < 4 → 0 ≤ w (6 + t) ∧ w (6 + t) < 4) ∧ (∀ c, c < 81 → 0 ≤ w (10 + c) ∧ w (10 + c) < w 1) ∧ (∀ c, c < 81 → 0 ≤ w (91 + c) ∧ w (91 + c) ≤ N) ∧
  (∀ h : Nat, (h : Int) < w 0 → (0 ≤ w (172 + 4 * h) ∧ w (172 + 4 * h) < 81) ∧ (0 ≤ w (173 + 4 * h) ∧ w (173 + 4 * h) < 4) ∧ (0 ≤ w (174 + 4 * h) ∧ w (174 + 4 * h) ≤ N) ∧ (0 ≤ w (175 + 4 * h) ∧ w (175 + 4 * h) ≤ N)) ∧ ∀ k : Nat, (k : Int) < w 4 → 0 ≤ w (188 + k) ∧ w (188 + k) < 81
/-- outside a lawn's ten addresses nothing differs -/
def zfr (σ σ' : ZI) (L : Nat) : Prop := ∀ a : Nat, a < L ∨ L + 10 ≤ a → σ' a = σ a
theorem zfr_r {σ : ZI} {L : Nat} : zfr σ σ L := fun _ _ => rfl
theorem zfr_t {σ σ' σ'' : ZI} {L : Nat} (h : zfr σ σ' L) (k : zfr σ' σ'' L) : zfr σ σ'' L := fun a ha => (k a ha).trans (h a ha)
theorem zfr_u {σ : ZI} {L o k : Nat} {v : Int} (h : o < 10) : zfr σ (zup σ (L + o) k v) L := fun a ha => zup_f (by omega)
theorem zfr_u0 {σ : ZI} {L k : Nat} {v : Int} : zfr σ (zup σ L k v) L := fun a ha => zup_f (by omega)
section
variable {σ : ZI} {L : Nat} {w : zW} {v : Int}
theorem zLr.frame {σ' : ZI} (h : zLr σ L w) (hf : ∀ a, L ≤ a → a < L + 10 → σ' a = σ a) : zLr σ' L w := by
  unfold zLr at h ⊢
  rw [hf L (by omega) (by omega), hf (L + 1) (by omega) (by omega), hf (L + 2) (by omega) (by omega), hf (L + 3) (by omega) (by omega), hf (L + 4) (by omega) (by omega), hf (L + 5) (by omega) (by omega), hf (L + 6) (by omega) (by omega), hf (L + 7) (by omega) (by omega), hf (L + 8) (by omega) (by omega)]
  exact h
/-- what counts of a lawn -/
theorem zLr.to {w' : zW} (h : zLr σ L w) (h0 : w' 0 = w 0) (h4 : w' 4 = w 4) (he : ∀ k, k < 4 → w' k = w k) (ht : ∀ k, 6 ≤ k → k < 172 → w' k = w k) (hh : ∀ h : Nat, (h : Int) < w 0 → ∀ j < 4, w' (172 + 4 * h + j) = w (172 + 4 * h + j)) (hk : ∀ k : Nat, (k : Int) < w 4 → w' (188 + k) = w (188 + k)) : zLr σ L w' := by
  obtain ⟨⟨a0, a1, a2, a3, a4⟩, b1, b2, b3, b4, b5⟩ := h
  refine ⟨⟨by rw [h0]; exact a0, by rw [he 1 (by omega)]; exact a1, by rw [he 2 (by omega)]; exact a2, by rw [he 3 (by omega)]; exact a3, by rw [h4]; exact a4⟩, fun t h => by rw [ht _ (by omega) (by omega)]; exact b1 t h, fun c h => by rw [ht _ (by omega) (by omega)]; exact b2 c h, fun c h => by rw [ht _ (by omega) (by omega)]; exact b3 c h, fun i hi => ?_, fun k h => ?_⟩
  · rw [h0] at hi
    obtain ⟨c1, c2, c3, c4⟩ := b4 i hi
    have d := hh i hi
    refine ⟨?_, ?_, ?_, ?_⟩
    · rw [show 172 + 4 * i = 172 + 4 * i + 0 by omega, d 0 (by omega)]; exact c1
    · rw [show 173 + 4 * i = 172 + 4 * i + 1 by omega, d 1 (by omega), show 172 + 4 * i + 1 = 173 + 4 * i by omega]; exact c2
    · rw [show 174 + 4 * i = 172 + 4 * i + 2 by omega, d 2 (by omega), show 172 + 4 * i + 2 = 174 + 4 * i by omega]; exact c3
    · rw [show 175 + 4 * i = 172 + 4 * i + 3 by omega, d 3 (by omega), show 172 + 4 * i + 3 = 175 + 4 * i by omega]; exact c4
  · rw [h4] at h
    rw [hk k h]; exact b5 k h
/-- a cell's colour -/
theorem zLr.col {c : Nat} (h : zLr σ L w) (hc : c < 81) : zLr (zup σ (L + 1) c v) L (wu w (10 + c) v) := by
  obtain ⟨⟨a0, a1, a2, a3, a4⟩, b1, b2, b3, b4, b5⟩ := h
  refine ⟨⟨by rw [zup_o (by omega), wu_o (by omega)]; exact a0, by rw [zup_o (by omega), wu_o (by omega)]; exact a1, by rw [zup_o (by omega), wu_o (by omega)]; exact a2, by rw [zup_o (by omega), wu_o (by omega)]; exact a3, by rw [zup_o (by omega), wu_o (by omega)]; exact a4⟩, fun t h => by rw [zup_o (by omega), wu_o (by omega)]; exact b1 t h, fun d h => ?_, fun d h => by rw [zup_o (by omega), wu_o (by omega)]; exact b3 d h, fun i hi => ?_, fun k h => by rw [zup_o (by omega), wu_o (by omega)]; exact b5 k (by rwa [wu_o (by omega)] at h)⟩
  · by_cases e : d = c
    · subst e; rw [zup_s, wu_s]
    · rw [zup_j e, wu_o (by omega)]; exact b2 d h
  · rw [wu_o (by omega)] at hi
    rw [zup_o (by omega), zup_o (by omega), zup_o (by omega), zup_o (by omega), wu_o (by omega), wu_o (by omega), wu_o (by omega), wu_o (by omega)]
    exact b4 i hi
theorem zLr.pnt {c : Nat} (h : zLr σ L w) (hc : c < 81) : zLr (zup σ (L + 2) c v) L (wu w (91 + c) v) := by
  obtain ⟨⟨a0, a1, a2, a3, a4⟩, b1, b2, b3, b4, b5⟩ := h
  refine ⟨⟨by rw [zup_o (by omega), wu_o (by omega)]; exact a0, by rw [zup_o (by omega), wu_o (by omega)]; exact a1, by rw [zup_o (by omega), wu_o (by omega)]; exact a2, by rw [zup_o (by omega), wu_o (by omega)]; exact a3, by rw [zup_o (by omega), wu_o (by omega)]; exact a4⟩, fun t h => by rw [zup_o (by omega), wu_o (by omega)]; exact b1 t h, fun d h => by rw [zup_o (by omega), wu_o (by omega)]; exact b2 d h, fun d h => ?_, fun i hi => ?_, fun k h => by rw [zup_o (by omega), wu_o (by omega)]; exact b5 k (by rwa [wu_o (by omega)] at h)⟩
  · by_cases e : d = c
    · subst e; rw [zup_s, wu_s]
    · rw [zup_j e, wu_o (by omega)]; exact b3 d h
  · rw [wu_o (by omega)] at hi
    rw [zup_o (by omega), zup_o (by omega), zup_o (by omega), zup_o (by omega), wu_o (by omega), wu_o (by omega), wu_o (by omega), wu_o (by omega)]
    exact b4 i hi
theorem zLr.trn {t : Nat} (h : zLr σ L w) (ht : t < 4) : zLr (zup σ (L + 3) t v) L (wu w (6 + t) v) := by
  obtain ⟨⟨a0, a1, a2, a3, a4⟩, b1, b2, b3, b4, b5⟩ := h
  refine ⟨⟨by rw [zup_o (by omega), wu_o (by omega)]; exact a0, by rw [zup_o (by omega), wu_o (by omega)]; exact a1, by rw [zup_o (by omega), wu_o (by omega)]; exact a2, by rw [zup_o (by omega), wu_o (by omega)]; exact a3, by rw [zup_o (by omega), wu_o (by omega)]; exact a4⟩, fun d h => ?_, fun d h => by rw [zup_o (by omega), wu_o (by omega)]; exact b2 d h, fun d h => by rw [zup_o (by omega), wu_o (by omega)]; exact b3 d h, fun i hi => ?_, fun k h => by rw [zup_o (by omega), wu_o (by omega)]; exact b5 k (by rwa [wu_o (by omega)] at h)⟩
  · by_cases e : d = t
    · subst e; rw [zup_s, wu_s]
    · rw [zup_j e, wu_o (by omega)]; exact b1 d h
  · rw [wu_o (by omega)] at hi
    rw [zup_o (by omega), zup_o (by omega), zup_o (by omega), zup_o (by omega), wu_o (by omega), wu_o (by omega), wu_o (by omega), wu_o (by omega)]
    exact b4 i hi
/-- a hoe's number: j 0 its cell, 1 heading, 2 goings, 3 meetings -/
theorem zLr.hoe {i j : Nat} (h : zLr σ L w) (hi : i < 4) (hj : j < 4) : zLr (zup σ (L + 5 + j) i v) L (wu w (172 + 4 * i + j) v) := by
  obtain ⟨⟨a0, a1, a2, a3, a4⟩, b1, b2, b3, b4, b5⟩ := h
  refine ⟨⟨by rw [zup_o (by omega), wu_o (by omega)]; exact a0, by rw [zup_o (by omega), wu_o (by omega)]; exact a1, by rw [zup_o (by omega), wu_o (by omega)]; exact a2, by rw [zup_o (by omega), wu_o (by omega)]; exact a3, by rw [zup_o (by omega), wu_o (by omega)]; exact a4⟩, fun d h => by rw [zup_o (by omega), wu_o (by omega)]; exact b1 d h, fun d h => by rw [zup_o (by omega), wu_o (by omega)]; exact b2 d h, fun d h => by rw [zup_o (by omega), wu_o (by omega)]; exact b3 d h, fun k hk => ?_, fun k h => by rw [zup_o (by omega), wu_o (by omega)]; exact b5 k (by rwa [wu_o (by omega)] at h)⟩
  rw [wu_o (by omega)] at hk
  obtain ⟨c1, c2, c3, c4⟩ := b4 k hk
  have key : ∀ j' : Nat, j' < 4 → σ (L + 5 + j') k = w (172 + 4 * k + j') → zup σ (L + 5 + j) i v (L + 5 + j') k = wu w (172 + 4 * i + j) v (172 + 4 * k + j') := by
    intro j' hj' e
    by_cases e1 : j' = j
    · subst e1
      by_cases e2 : k = i
      · subst e2; rw [zup_s, wu_s]
      · rw [zup_j e2, wu_o (by omega)]; exact e
    · rw [zup_o (by omega), wu_o (by omega)]; exact e
  refine ⟨?_, ?_, ?_, ?_⟩
  · have := key 0 (by omega) c1; exact this
  · have := key 1 (by omega) (by rw [show 172 + 4 * k + 1 = 173 + 4 * k by omega]; exact c2); rw [show 173 + 4 * k = 172 + 4 * k + 1 by omega]; exact this
  · have := key 2 (by omega) (by rw [show 172 + 4 * k + 2 = 174 + 4 * k by omega]; exact c3); rw [show 174 + 4 * k = 172 + 4 * k + 2 by omega]; exact this
  · have := key 3 (by omega) (by rw [show 172 + 4 * k + 3 = 175 + 4 * k by omega]; exact c4); rw [show 175 + 4 * k = 172 + 4 * k + 3 by omega]; exact this
/-- the latest turn of a hoe is no part of what a lawn is -/
theorem zLr.lat {i : Nat} (h : zLr σ L w) : zLr (zup σ (L + 9) i v) L w := by
  unfold zLr at h ⊢
  simp only [show ∀ o j, o < 9 → zup σ (L + 9) i v (L + o) j = σ (L + o) j from fun o j ho => zup_o (by omega), show ∀ j, zup σ (L + 9) i v L j = σ L j from fun j => zup_o (by omega)] at h ⊢
  simpa (disch := omega) only [zup_o] using h
/-- fields: 11 colours, 12 manner, 13 steps -/
theorem zLr.f11 (h : zLr σ L w) : zLr (zup σ L 11 v) L (wu w 1 v) := by
  obtain ⟨⟨a0, a1, a2, a3, a4⟩, b1, b2, b3, b4, b5⟩ := h
  refine ⟨⟨by rw [zup_j (by omega), wu_o (by omega)]; exact a0, by rw [zup_s, wu_s], by rw [zup_j (by omega), wu_o (by omega)]; exact a2, by rw [zup_j (by omega), wu_o (by omega)]; exact a3, by rw [zup_j (by omega), wu_o (by omega)]; exact a4⟩, fun d h => by rw [zup_o (by omega), wu_o (by omega)]; exact b1 d h, fun d h => by rw [zup_o (by omega), wu_o (by omega)]; exact b2 d h, fun d h => by rw [zup_o (by omega), wu_o (by omega)]; exact b3 d h, fun i hi => ?_, fun k h => by rw [zup_o (by omega), wu_o (by omega)]; exact b5 k (by rwa [wu_o (by omega)] at h)⟩
  rw [wu_o (by omega)] at hi
  rw [zup_o (by omega), zup_o (by omega), zup_o (by omega), zup_o (by omega), wu_o (by omega), wu_o (by omega), wu_o (by omega), wu_o (by omega)]
  exact b4 i hi
theorem zLr.f12 (h : zLr σ L w) : zLr (zup σ L 12 v) L (wu w 2 v) := by
  obtain ⟨⟨a0, a1, a2, a3, a4⟩, b1, b2, b3, b4, b5⟩ := h
  refine ⟨⟨by rw [zup_j (by omega), wu_o (by omega)]; exact a0, by rw [zup_j (by omega), wu_o (by omega)]; exact a1, by rw [zup_s, wu_s], by rw [zup_j (by omega), wu_o (by omega)]; exact a3, by rw [zup_j (by omega), wu_o (by omega)]; exact a4⟩, fun d h => by rw [zup_o (by omega), wu_o (by omega)]; exact b1 d h, fun d h => by rw [zup_o (by omega), wu_o (by omega)]; exact b2 d h, fun d h => by rw [zup_o (by omega), wu_o (by omega)]; exact b3 d h, fun i hi => ?_, fun k h => by rw [zup_o (by omega), wu_o (by omega)]; exact b5 k (by rwa [wu_o (by omega)] at h)⟩
  rw [wu_o (by omega)] at hi
  rw [zup_o (by omega), zup_o (by omega), zup_o (by omega), zup_o (by omega), wu_o (by omega), wu_o (by omega), wu_o (by omega), wu_o (by omega)]
  exact b4 i hi
theorem zLr.f13 (h : zLr σ L w) : zLr (zup σ L 13 v) L (wu w 3 v) := by
  obtain ⟨⟨a0, a1, a2, a3, a4⟩, b1, b2, b3, b4, b5⟩ := h
  refine ⟨⟨by rw [zup_j (by omega), wu_o (by omega)]; exact a0, by rw [zup_j (by omega), wu_o (by omega)]; exact a1, by rw [zup_j (by omega), wu_o (by omega)]; exact a2, by rw [zup_s, wu_s], by rw [zup_j (by omega), wu_o (by omega)]; exact a4⟩, fun d h => by rw [zup_o (by omega), wu_o (by omega)]; exact b1 d h, fun d h => by rw [zup_o (by omega), wu_o (by omega)]; exact b2 d h, fun d h => by rw [zup_o (by omega), wu_o (by omega)]; exact b3 d h, fun i hi => ?_, fun k h => by rw [zup_o (by omega), wu_o (by omega)]; exact b5 k (by rwa [wu_o (by omega)] at h)⟩
  rw [wu_o (by omega)] at hi
  rw [zup_o (by omega), zup_o (by omega), zup_o (by omega), zup_o (by omega), wu_o (by omega), wu_o (by omega), wu_o (by omega), wu_o (by omega)]
  exact b4 i hi
theorem zok_mono {N M : Int} (h : zok N w) (hm : N ≤ M) : zok M w := by
  obtain ⟨a0, a1, a2, a3, a4, a5, a6, a7, a8, a9, a10⟩ := h
  refine ⟨a0, a1, a2, by omega, a4, by omega, a6, a7, fun c h => by have := a8 c h; omega, fun k h => ?_, a10⟩
  have := a9 k h
  omega
end
