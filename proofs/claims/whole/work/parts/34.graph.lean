/-! FIELDS: cells beside each other of one colour -/
def zT (c d : Nat) : Nat := (aTo (c : Int) (d : Int)).toNat
theorem zT_in {c d : Nat} (hc : c < 81) : zT c d < 81 := by
  have := aTo_in (c := (c : Int)) (d := (d : Int)) (by omega) (by omega)
  unfold zT
  omega
theorem zT_c {c d : Nat} (hc : c < 81) : aTo (c : Int) (d : Int) = ((zT c d : Nat) : Int) := by
  have := aTo_in (c := (c : Int)) (d := (d : Int)) (by omega) (by omega)
  unfold zT
  omega
theorem zT_b {c d : Nat} (hc : c < 81) (hd : d < 4) : zT (zT c d) ((d + 2) % 4) = c := by
  have h1 := zT_c (d := d) hc
  have h2 := zT_c (d := (d + 2) % 4) (zT_in (d := d) hc)
  have h3 := zT_in (d := d) hc
  generalize zT c d = e at h1 h2 h3 ⊢
  generalize zT e ((d + 2) % 4) = f at h2 ⊢
  have hdd : d = 0 ∨ d = 1 ∨ d = 2 ∨ d = 3 := by omega
  rcases hdd with rfl | rfl | rfl | rfl
  · rw [show (((0 + 2) % 4 : Nat) : Int) = 2 from rfl] at h2
    unfold aTo at h1 h2
    rw [if_pos (by rfl)] at h1
    rw [if_neg (by omega), if_neg (by omega), if_pos rfl] at h2
    split at h1 <;> split at h2 <;> omega
  · rw [show (((1 + 2) % 4 : Nat) : Int) = 3 from rfl] at h2
    unfold aTo at h1 h2
    rw [if_neg (by omega), if_pos (by rfl)] at h1
    rw [if_neg (by omega), if_neg (by omega), if_neg (by omega)] at h2
    split at h1 <;> split at h2 <;> omega
  · rw [show (((2 + 2) % 4 : Nat) : Int) = 0 from rfl] at h2
    unfold aTo at h1 h2
    rw [if_neg (by omega), if_neg (by omega), if_pos (by rfl)] at h1
    rw [if_pos rfl] at h2
    split at h1 <;> split at h2 <;> omega
  · rw [show (((3 + 2) % 4 : Nat) : Int) = 1 from rfl] at h2
    unfold aTo at h1 h2
    rw [if_neg (by omega), if_neg (by omega), if_neg (by omega)] at h1
    rw [if_neg (by omega), if_pos rfl] at h2
    split at h1 <;> split at h2 <;> omega
/-- those of p, and those beside one of p of their colour -/
def zN (col : Nat → Int) (p : Nat → Bool) (c : Nat) : Bool := p c || ((decide (col (zT c 0) = col c) && p (zT c 0)) || ((decide (col (zT c 1) = col c) && p (zT c 1)) || ((decide (col (zT c 2) = col c) && p (zT c 2)) || (decide (col (zT c 3) = col c) && p (zT c 3)))))
theorem zN_iff {col : Nat → Int} {p : Nat → Bool} {c : Nat} : zN col p c = true ↔ p c = true ∨ ∃ d, d < 4 ∧ col (zT c d) = col c ∧ p (zT c d) = true := by
  unfold zN
  simp only [Bool.or_eq_true, Bool.and_eq_true, decide_eq_true_iff]
  constructor
  · rintro (h | ⟨h, k⟩ | ⟨h, k⟩ | ⟨h, k⟩ | ⟨h, k⟩)
    · exact Or.inl h
    · exact Or.inr ⟨0, by omega, h, k⟩
    · exact Or.inr ⟨1, by omega, h, k⟩
    · exact Or.inr ⟨2, by omega, h, k⟩
    · exact Or.inr ⟨3, by omega, h, k⟩
  · rintro (h | ⟨d, hd, h, k⟩)
    · exact Or.inl h
    · have : d = 0 ∨ d = 1 ∨ d = 2 ∨ d = 3 := by omega
      rcases this with rfl | rfl | rfl | rfl
      · exact Or.inr (Or.inl ⟨h, k⟩)
      · exact Or.inr (Or.inr (Or.inl ⟨h, k⟩))
      · exact Or.inr (Or.inr (Or.inr (Or.inl ⟨h, k⟩)))
      · exact Or.inr (Or.inr (Or.inr (Or.inr ⟨h, k⟩)))
/-- within n of a -/
def zS (col : Nat → Int) (a : Nat) : Nat → Nat → Bool
  | 0 => fun c => decide (c = a)
  | n + 1 => zN col (zS col a n)
theorem zS_s {col : Nat → Int} {a n : Nat} : zS col a (n + 1) = zN col (zS col a n) := rfl
theorem zct_le {p q : Nat → Bool} : ∀ n, (∀ c, c < n → p c = true → q c = true) → zct p n ≤ zct q n := by
  intro n
  induction n with
  | zero => intro _; exact Int.le_refl _
  | succ n ih =>
    intro h
    have h1 := ih (fun c hc => h c (by omega))
    have h2 := h n (by omega)
    rw [zct_s, zct_s]
    by_cases e : p n = true
    · rw [if_pos e, if_pos (h2 e)]; omega
    · rw [if_neg e]
      split <;> omega
theorem zct_lt {p q : Nat → Bool} {a : Nat} (ha : q a = true) (hb : ¬ p a = true) : ∀ n, a < n → (∀ c, c < n → p c = true → q c = true) → zct p n < zct q n := by
  intro n
  induction n with
  | zero => intro h; omega
  | succ n ih =>
    intro hn h
    rw [zct_s, zct_s]
    by_cases e : a = n
    · subst e
      have h1 := zct_le (p := p) (q := q) a (fun c hc => h c (by omega))
      rw [if_neg hb, if_pos ha]
      omega
    · have h1 := ih (by omega) (fun c hc => h c (by omega))
      have h2 := h n (by omega)
      by_cases e : p n = true
      · rw [if_pos e, if_pos (h2 e)]; omega
      · rw [if_neg e]
        split <;> omega
theorem zct_pos {p : Nat → Bool} {a n : Nat} (ha : p a = true) (hn : a < n) : 1 ≤ zct p n := by
  have := zct_lt (p := fun _ => false) (q := p) (a := a) ha (by decide) n hn (fun c _ h => absurd h (by decide))
  have := (zct_in (p := fun _ => false) n).1
  omega
section
variable {col : Nat → Int} {a b c : Nat}
theorem zS_m {n : Nat} (h : zS col a n c = true) : zS col a (n + 1) c = true := zN_iff.mpr (Or.inl h)
theorem zS_st {n : Nat} (hs : ∀ c, c < 81 → zS col a (n + 1) c = true → zS col a n c = true) : ∀ m c, c < 81 → zS col a (n + m) c = true → zS col a n c = true := by
  intro m
  induction m with
  | zero => intro c _ h; exact h
  | succ m ih =>
    intro c hc h
    refine hs c hc (zN_iff.mpr ?_)
    rcases zN_iff.mp h with h | ⟨d, hd, h1, h2⟩
    · exact Or.inl (ih c hc h)
    · exact Or.inr ⟨d, hd, h1, ih _ (zT_in hc) h2⟩
theorem zS_di (ha : a < 81) : ∀ n : Nat, (n : Int) + 1 ≤ zct (zS col a n) 81 ∨ ∀ m c, c < 81 → zS col a (n + m) c = true → zS col a n c = true := by
  intro n
  induction n with
  | zero => exact Or.inl (by have := zct_pos (p := zS col a 0) (a := a) (n := 81) (decide_eq_true rfl) ha; omega)
  | succ n ih =>
    rcases ih with h | h
    · by_cases hs : ∀ c, c < 81 → zS col a (n + 1) c = true → zS col a n c = true
      · refine Or.inr (fun m c hc hm => zS_m (zS_st hs (1 + m) c hc ?_))
        rw [show n + (1 + m) = n + 1 + m by omega]
        exact hm
      · have : ∃ c, c < 81 ∧ zS col a (n + 1) c = true ∧ ¬ zS col a n c = true := by
          by_cases q : ∃ c, c < 81 ∧ zS col a (n + 1) c = true ∧ ¬ zS col a n c = true
          · exact q
          · exfalso
            refine hs (fun c hc h1 => ?_)
            by_cases k : zS col a n c = true
            · exact k
            · exact absurd ⟨c, hc, h1, k⟩ q
        obtain ⟨c, hc, h1, h2⟩ := this
        have := zct_lt (p := zS col a n) (q := zS col a (n + 1)) (a := c) h1 h2 81 hc (fun e _ he => zS_m he)
        exact Or.inl (by omega)
    · refine Or.inr (fun m c hc hm => zS_m (h (1 + m) c hc ?_))
      rw [show n + (1 + m) = n + 1 + m by omega]
      exact hm
/-- the field of a -/
def zcm (col : Nat → Int) (a c : Nat) : Bool := zS col a 81 c
theorem zcm_all (ha : a < 81) (hc : c < 81) (m : Nat) (h : zS col a (81 + m) c = true) : zcm col a c = true := by
  rcases zS_di (col := col) ha 81 with k | k
  · have := (zct_in (p := zS col a 81) 81).2
    omega
  · exact k m c hc h
theorem zcm_r : zcm col a a = true := by
  have : ∀ n, zS col a n a = true := by
    intro n
    induction n with
    | zero => exact decide_eq_true rfl
    | succ n ih => exact zS_m ih
  exact this 81
theorem zcm_s {d : Nat} (ha : a < 81) (hc : c < 81) (hd : d < 4) (h : zcm col a c = true) (hl : col (zT c d) = col c) : zcm col a (zT c d) = true := by
  refine zcm_all ha (zT_in hc) 1 (zN_iff.mpr (Or.inr ⟨(d + 2) % 4, by omega, ?_, ?_⟩))
  · rw [zT_b hc hd]; exact hl.symm
  · rw [zT_b hc hd]; exact h
/-- what is closed holds of a whole field -/
theorem zcm_ind {P : Nat → Prop} (ha : a < 81) (h0 : P a) (hs : ∀ c d, c < 81 → d < 4 → P c → col (zT c d) = col c → P (zT c d)) (hc : c < 81) (h : zcm col a c = true) : P c := by
  have : ∀ n c, c < 81 → zS col a n c = true → P c := by
    intro n
    induction n with
    | zero => intro c _ h; rw [of_decide_eq_true h]; exact h0
    | succ n ih =>
      intro c hc h
      rcases zN_iff.mp h with h | ⟨d, hd, h1, h2⟩
      · exact ih c hc h
      · have := hs (zT c d) ((d + 2) % 4) (zT_in hc) (by omega) (ih _ (zT_in hc) h2) (by rw [zT_b hc hd]; exact h1.symm)
        rw [zT_b hc hd] at this
        exact this
  exact this 81 c hc h
theorem zcm_t (ha : a < 81) (hb : b < 81) (hc : c < 81) (h1 : zcm col a b = true) (h2 : zcm col b c = true) : zcm col a c = true :=
  zcm_ind (P := fun c => zcm col a c = true) hb h1 (fun c d hc hd h hl => zcm_s ha hc hd h hl) hc h2
theorem zcm_y (ha : a < 81) (hc : c < 81) (h : zcm col a c = true) : zcm col c a = true := by
  refine zcm_ind (P := fun c => c < 81 → zcm col c a = true) ha (fun _ => zcm_r) (fun c d hc hd h hl h81 => ?_) hc h hc
  have e : zcm col (zT c d) c = true := by
    have := zcm_s (a := zT c d) (c := zT c d) (d := (d + 2) % 4) h81 h81 (by omega) zcm_r (by rw [zT_b hc hd]; exact hl.symm)
    rw [zT_b hc hd] at this
    exact this
  exact zcm_t h81 hc ha e (h hc)
theorem zcm_c (ha : a < 81) (hc : c < 81) (h : zcm col a c = true) : col c = col a :=
  zcm_ind (P := fun c => col c = col a) ha rfl (fun c d _ _ h hl => hl.trans h) hc h
/-- each cell's number is the least of its field -/
def zLab (col : Nat → Int) (l : Nat → Nat) : Prop := ∀ c, c < 81 → l c < 81 ∧ zcm col c (l c) = true ∧ ∀ b, b < 81 → zcm col c b = true → l c ≤ b
theorem zLab_u {l l' : Nat → Nat} (h : zLab col l) (h' : zLab col l') (hc : c < 81) : l c = l' c := by
  obtain ⟨a1, a2, a3⟩ := h c hc
  obtain ⟨b1, b2, b3⟩ := h' c hc
  have := a3 _ b1 b2
  have := b3 _ a1 a2
  omega
/-- numbers of the field that no neighbour betters are the least -/
theorem zLab_i {l : Nat → Nat} (h1 : ∀ c, c < 81 → l c ≤ c ∧ zcm col c (l c) = true) (h2 : ∀ c d, c < 81 → d < 4 → col (zT c d) = col c → l c ≤ l (zT c d)) : zLab col l := by
  intro c hc
  obtain ⟨k1, k2⟩ := h1 c hc
  refine ⟨by omega, k2, fun b hb h => ?_⟩
  have : l c ≤ l b := zcm_ind (P := fun b => l c ≤ l b) hc (Nat.le_refl _) (fun e d he hd hle hl => Nat.le_trans hle (h2 e d he hd hl)) hb h
  have := (h1 b hb).1
  omega
theorem zLab_e {l : Nat → Nat} (h : zLab col l) (ha : a < 81) (hc : c < 81) : zcm col a c = true ↔ l a = l c := by
  obtain ⟨a1, a2, a3⟩ := h a ha
  obtain ⟨b1, b2, b3⟩ := h c hc
  constructor
  · intro k
    have := a3 _ b1 (zcm_t ha hc b1 k b2)
    have := b3 _ a1 (zcm_t hc ha a1 (zcm_y ha hc k) a2)
    omega
  · intro k
    refine zcm_t ha a1 hc a2 ?_
    rw [k]
    exact zcm_y hc b1 b2
end
