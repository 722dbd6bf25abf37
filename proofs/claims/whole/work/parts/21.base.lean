/-! PURE PART: what refers to what after the making; simple facts of addresses -/
/-- references, by what stands at an address -/
def zrho : ZR := fun a k =>
  if zkd a = 2 then (if k < 9 then some (a + 1 + k) else none)
  else if zkd a = 3 then (if k = 0 then some (a + 1) else if k = 1 then some (a + 11) else none)
  else if zkd a = 15 then (if k < 30 then some (a + 1 + 10 * k) else none)
  else if zkd a = 14 then (if k < 8 then some (1039 + 312 * k) else none)
  else if a = 1037 then (if k = 0 then some 1038 else none)
  else if a = 3545 then (if k = 0 then some 3546 else if k = 1 then some 3547 else if k = 3 then some 3548 else none)
  else if a = 3550 then (if k = 0 then some 3551 else none)
  else if a = 100 then (if k = 0 then some 101 else if k = 1 then some 413 else if k = 2 then some 725 else if k = 4 then some 1037 else if k = 5 then some 3535 else if k = 6 then some 3545 else if k = 7 then some 3549 else if k = 8 then some 3550 else if k = 10 then some 3552 else none)
  else if a = 3553 then (if k < 5 then some (3554 + k) else if k = 11 then some 3559 else if k = 14 then some 3560 else if k = 16 then some 3561 else if k = 17 then some 3562 else if k = 19 then some 3563 else none)
  else none
/-- the lawns: one of a story, a past one, the draft -/
theorem zkd2 {L : Nat} (h : zkd L = 2) : (∃ S : Nat, (S = 101 ∨ S = 413 ∨ S = 725 ∨ ∃ i < 8, S = 1039 + 312 * i) ∧ (L = S + 1 ∨ ∃ j < 30, L = S + 12 + 10 * j)) ∨ L = 3535 := by
  unfold zkd at h
  have hS : ∀ o, zkS o = 2 → o < 312 → o = 1 ∨ ∃ j < 30, o = 12 + 10 * j := by
    intro o ho hlt
    unfold zkS at ho
    split at ho
    · omega
    · split at ho
      · omega
      · split at ho
        · omega
        · split at ho
          · omega
          · split at ho
            · exact Or.inr ⟨(o - 12) / 10, by omega, by omega⟩
            · omega
  by_cases c0 : L < 100
  · rw [if_pos c0] at h
    split at h
    · omega
    · split at h
      · omega
      · split at h <;> omega
  rw [if_neg c0] at h
  by_cases c1 : L = 100
  · rw [if_pos c1] at h; omega
  rw [if_neg c1] at h
  by_cases c2 : L < 1037
  · rw [if_pos c2] at h
    left
    rcases hS _ h (by omega) with h1 | ⟨j, hj, h1⟩
    · refine ⟨L - 1, ?_, Or.inl (by omega)⟩
      omega
    · refine ⟨L - 12 - 10 * j, ?_, Or.inr ⟨j, hj, by omega⟩⟩
      omega
  rw [if_neg c2] at h
  by_cases c3 : L = 1037
  · rw [if_pos c3] at h; omega
  rw [if_neg c3] at h
  by_cases c4 : L = 1038
  · rw [if_pos c4] at h; omega
  rw [if_neg c4] at h
  by_cases c5 : L < 3535
  · rw [if_pos c5] at h
    left
    rcases hS _ h (by omega) with h1 | ⟨j, hj, h1⟩
    · exact ⟨L - 1, Or.inr (Or.inr (Or.inr ⟨(L - 1039) / 312, by omega, by omega⟩)), Or.inl (by omega)⟩
    · exact ⟨L - 12 - 10 * j, Or.inr (Or.inr (Or.inr ⟨(L - 1039) / 312, by omega, by omega⟩)), Or.inr ⟨j, hj, by omega⟩⟩
  rw [if_neg c5] at h
  by_cases c6 : L = 3535
  · exact Or.inr c6
  rw [if_neg c6] at h
  repeat (split at h; · omega)
  omega
theorem zkd_S {S o : Nat} (hS : S = 101 ∨ S = 413 ∨ S = 725 ∨ ∃ i < 8, S = 1039 + 312 * i) (ho : o < 312) : zkd (S + o) = zkS o ∧ zln (S + o) = zlS o := by
  have hS2 : (S = 101 ∨ S = 413 ∨ S = 725) ∨ ∃ i, i < 8 ∧ S = 1039 + 312 * i := by
    rcases hS with h | h | h | h
    · exact Or.inl (Or.inl h)
    · exact Or.inl (Or.inr (Or.inl h))
    · exact Or.inl (Or.inr (Or.inr h))
    · exact Or.inr h
  clear hS
  unfold zkd zln
  rcases hS2 with hS | ⟨i, hi, hS⟩
  · have h1 : ¬ S + o < 100 := by omega
    have h2 : ¬ S + o = 100 := by omega
    have h3 : S + o < 1037 := by omega
    have e : (S + o - 101) % 312 = o := by rcases hS with rfl | rfl | rfl <;> omega
    rw [if_neg h1, if_neg h1, if_neg h2, if_neg h2, if_pos h3, if_pos h3, e]
    exact ⟨rfl, rfl⟩
  · have h1 : ¬ S + o < 100 := by omega
    have h2 : ¬ S + o = 100 := by omega
    have h3 : ¬ S + o < 1037 := by omega
    have h4 : ¬ S + o = 1037 := by omega
    have h5 : ¬ S + o = 1038 := by omega
    have h6 : S + o < 3535 := by omega
    have e : (S + o - 1039) % 312 = o := by
      subst hS
      rw [show 1039 + 312 * i + o - 1039 = o + 312 * i by omega, Nat.add_mul_mod_self_left]
      exact Nat.mod_eq_of_lt ho
    rw [if_neg h1, if_neg h1, if_neg h2, if_neg h2, if_neg h3, if_neg h3, if_neg h4, if_neg h4, if_neg h5, if_neg h5, if_pos h6, if_pos h6, e]
    exact ⟨rfl, rfl⟩
theorem zlw_k {L k : Nat} (h : zkd L = 2) (hk : k < 9) : zkd (L + 1 + k) = 10 ∧ zln (L + 1 + k) = zlL (k + 1) := by
  have key : ∀ o : Nat, (o = 1 ∨ ∃ j < 30, o = 12 + 10 * j) → zkS (o + 1 + k) = 10 ∧ zlS (o + 1 + k) = zlL (k + 1) := by
    intro o ho
    unfold zkS zlS
    rcases ho with rfl | ⟨j, hj, rfl⟩
    · rw [if_neg (by omega), if_neg (by omega), if_pos (by omega), if_neg (by omega), if_pos (by omega), show 1 + 1 + k - 1 = k + 1 by omega]
      exact ⟨rfl, rfl⟩
    · rw [if_neg (by omega), if_neg (by omega), if_neg (by omega), if_neg (by omega), if_neg (by omega), if_neg (by omega), if_neg (by omega), if_neg (by omega), show (12 + 10 * j + 1 + k - 12) % 10 = k + 1 by omega]
      exact ⟨rfl, rfl⟩
  rcases zkd2 h with ⟨S, hS, h1⟩ | rfl
  · have h2 : ∃ o, L = S + o ∧ (o = 1 ∨ ∃ j < 30, o = 12 + 10 * j) ∧ o + 1 + k < 312 := by
      rcases h1 with rfl | ⟨j, hj, rfl⟩
      · exact ⟨1, rfl, Or.inl rfl, by omega⟩
      · exact ⟨12 + 10 * j, by omega, Or.inr ⟨j, hj, rfl⟩, by omega⟩
    obtain ⟨o, rfl, ho, hlt⟩ := h2
    have h3 := zkd_S hS hlt
    rw [show S + (o + 1 + k) = S + o + 1 + k by omega] at h3
    rw [h3.1, h3.2]
    exact key o ho
  · have hh : k = 0 ∨ k = 1 ∨ k = 2 ∨ k = 3 ∨ k = 4 ∨ k = 5 ∨ k = 6 ∨ k = 7 ∨ k = 8 := by omega
    rcases hh with rfl | rfl | rfl | rfl | rfl | rfl | rfl | rfl | rfl <;> exact ⟨rfl, rfl⟩
theorem zrL {L k : Nat} (h : zkd L = 2) (hk : k < 9) : zrho L k = some (L + 1 + k) := by
  unfold zrho
  rw [if_pos h, if_pos hk]
theorem zrL0 {L : Nat} (h : zkd L = 2) : zrho L 0 = some (L + 1) := zrL h (by omega)
theorem zrL1 {L : Nat} (h : zkd L = 2) : zrho L 1 = some (L + 2) := zrL h (by omega)
theorem zrL2 {L : Nat} (h : zkd L = 2) : zrho L 2 = some (L + 3) := zrL h (by omega)
theorem zrL3 {L : Nat} (h : zkd L = 2) : zrho L 3 = some (L + 4) := zrL h (by omega)
theorem zrL4 {L : Nat} (h : zkd L = 2) : zrho L 4 = some (L + 5) := zrL h (by omega)
theorem zrL5 {L : Nat} (h : zkd L = 2) : zrho L 5 = some (L + 6) := zrL h (by omega)
theorem zrL6 {L : Nat} (h : zkd L = 2) : zrho L 6 = some (L + 7) := zrL h (by omega)
theorem zrL7 {L : Nat} (h : zkd L = 2) : zrho L 7 = some (L + 8) := zrL h (by omega)
theorem zrL8 {L : Nat} (h : zkd L = 2) : zrho L 8 = some (L + 9) := zrL h (by omega)
theorem zkL1 {L : Nat} (h : zkd L = 2) : zkd (L + 1) = 10 := (zlw_k (k := 0) h (by omega)).1
theorem zkL2 {L : Nat} (h : zkd L = 2) : zkd (L + 2) = 10 := (zlw_k (k := 1) h (by omega)).1
theorem zkL3 {L : Nat} (h : zkd L = 2) : zkd (L + 3) = 10 := (zlw_k (k := 2) h (by omega)).1
theorem zkL4 {L : Nat} (h : zkd L = 2) : zkd (L + 4) = 10 := (zlw_k (k := 3) h (by omega)).1
theorem zkL5 {L : Nat} (h : zkd L = 2) : zkd (L + 5) = 10 := (zlw_k (k := 4) h (by omega)).1
theorem zkL6 {L : Nat} (h : zkd L = 2) : zkd (L + 6) = 10 := (zlw_k (k := 5) h (by omega)).1
theorem zkL7 {L : Nat} (h : zkd L = 2) : zkd (L + 7) = 10 := (zlw_k (k := 6) h (by omega)).1
theorem zkL8 {L : Nat} (h : zkd L = 2) : zkd (L + 8) = 10 := (zlw_k (k := 7) h (by omega)).1
theorem zkL9 {L : Nat} (h : zkd L = 2) : zkd (L + 9) = 10 := (zlw_k (k := 8) h (by omega)).1
theorem znL1 {L : Nat} (h : zkd L = 2) : zln (L + 1) = 81 := (zlw_k (k := 0) h (by omega)).2
theorem znL2 {L : Nat} (h : zkd L = 2) : zln (L + 2) = 81 := (zlw_k (k := 1) h (by omega)).2
theorem znL3 {L : Nat} (h : zkd L = 2) : zln (L + 3) = 4 := (zlw_k (k := 2) h (by omega)).2
theorem znL4 {L : Nat} (h : zkd L = 2) : zln (L + 4) = 12 := (zlw_k (k := 3) h (by omega)).2
theorem znL5 {L : Nat} (h : zkd L = 2) : zln (L + 5) = 4 := (zlw_k (k := 4) h (by omega)).2
theorem znL6 {L : Nat} (h : zkd L = 2) : zln (L + 6) = 4 := (zlw_k (k := 5) h (by omega)).2
theorem znL7 {L : Nat} (h : zkd L = 2) : zln (L + 7) = 4 := (zlw_k (k := 6) h (by omega)).2
theorem znL8 {L : Nat} (h : zkd L = 2) : zln (L + 8) = 4 := (zlw_k (k := 7) h (by omega)).2
theorem znL9 {L : Nat} (h : zkd L = 2) : zln (L + 9) = 4 := (zlw_k (k := 8) h (by omega)).2
theorem zup_o {σ : ZI} {a b k j : Nat} {v : Int} (h : b ≠ a) : zup σ a k v b j = σ b j := by unfold zup; rw [if_neg (fun z => h z.1)]
theorem zup_s {σ : ZI} {a k : Nat} {v : Int} : zup σ a k v a k = v := if_pos ⟨rfl, rfl⟩
theorem zup_j {σ : ZI} {a k j : Nat} {v : Int} (h : j ≠ k) : zup σ a k v a j = σ a j := by unfold zup; rw [if_neg (fun z => h z.2)]
theorem zup_f {σ : ZI} {a b k : Nat} {v : Int} (h : b ≠ a) : zup σ a k v b = σ b := funext fun _ => zup_o h
/-- a spec with one end is an equation -/
theorem Wp_det {mi pc : Nat} {ls : ZL} {st : List ZV} {θ : ZT} {σ : ZI} {o : ZO} {θ' : ZT} {σ' : ZI} (h : Wp mi pc ls st θ σ (fun o1 θ1 σ1 => o1 = o ∧ θ1 = θ' ∧ σ1 = σ')) (Q : ZO → ZT → ZI → Prop) : Wp mi pc ls st θ σ Q = Q o θ' σ' := by
  obtain ⟨n, r, h1, h2, h3, h4⟩ := h
  apply propext
  constructor
  · rintro ⟨m, r2, g1, g2⟩
    have e1 := zrun_le (Nat.le_max_left n m) h1
    have e2 := zrun_le (Nat.le_max_right n m) g1
    rw [e1] at e2
    cases e2
    rw [h2, h3, h4] at g2
    exact g2
  · intro hQ
    exact ⟨n, r, h1, by rw [h2, h3, h4]; exact hQ⟩
theorem p_a10 : z_a1 [] = true := rfl
theorem p_a1i {x : Int} {r : List ZV} : z_a1 (.inl x :: r) = z_a1 r := rfl
theorem p_a1r {x : Option Nat} {r : List ZV} : z_a1 (.inr (.inl x) :: r) = z_a1 r := rfl
theorem z_wi {x : Int} : z_w (.inl x) = 1 := rfl
theorem z_wr {x : Option Nat} : z_w (.inr (.inl x)) = 1 := rfl
theorem p_w0 {k : Nat} : (([] : List ZV).map z_w).sum ≤ k := Nat.zero_le _
theorem p_wI {x : Int} {r : List ZV} {k : Nat} (h : (r.map z_w).sum ≤ k) : ((.inl x :: r : List ZV).map z_w).sum ≤ k + 1 := by
  rw [List.map_cons, List.sum_cons, z_wi]; omega
theorem p_wR {x : Option Nat} {r : List ZV} {k : Nat} (h : (r.map z_w).sum ≤ k) : ((.inr (.inl x) :: r : List ZV).map z_w).sum ≤ k + 1 := by
  rw [List.map_cons, List.sum_cons, z_wr]; omega
