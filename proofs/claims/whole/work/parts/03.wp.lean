/-! Runs of any length: Wp is 'it comes to an end with Q'. -/
theorem zrun_succ (n mi pc : Nat) (ls : ZL) (st : List ZV) (θ : ZT) (σ : ZI) : zrun (n + 1) mi pc ls st θ σ = (match zres mi pc with
    | none => none
    | some d => match z_sem d ls st θ σ with
      | none => none
      | some (.inl (pc', ls', st', θ', σ')) => zrun n mi pc' ls' st' θ' σ'
      | some (.inr (.inl r)) => some r
      | some (.inr (.inr (mj, vs, rest, npc))) => match zrun n mj 0 (zent mj vs) [] θ σ with
        | none => none
        | some (.inl v, θ', σ') => zrun n mi npc ls (v.toList ++ rest) θ' σ'
        | some (.inr E, θ', σ') => match zhnd mi pc E with
          | none => some (.inr E, θ', σ')
          | some (k, npc') => if k < ls.length ∧ ¬ (0 < k ∧ z_c2 (ls.getD (k - 1) none) = true) then zrun n mi npc' (ls.set k none) [] θ' σ' else none) := rfl
theorem zrun_mono (n : Nat) : ∀ (mi pc : Nat) (ls : ZL) (st : List ZV) (θ : ZT) (σ : ZI) (r : ZO × (ZT × ZI)), zrun n mi pc ls st θ σ = some r → zrun (n + 1) mi pc ls st θ σ = some r := by
  induction n with
  | zero => intro mi pc ls st θ σ r h; cases h
  | succ n ih =>
    intro mi pc ls st θ σ r h
    rw [zrun_succ] at h ⊢
    cases hr : zres mi pc with
    | none => rw [hr] at h; cases h
    | some d =>
      rw [hr] at h
      dsimp only at h ⊢
      generalize z_sem d ls st θ σ = x at h ⊢
      rcases x with _ | ⟨⟨pc', ls', st', θ', σ'⟩ | ⟨r' | ⟨mj, vs, rest, npc⟩⟩⟩
      · cases h
      · exact ih _ _ _ _ _ _ _ h
      · exact h
      · dsimp only at h ⊢
        cases hc : zrun n mj 0 (zent mj vs) [] θ σ with
        | none => rw [hc] at h; cases h
        | some z =>
          rw [hc] at h
          rw [ih _ _ _ _ _ _ _ hc]
          obtain ⟨v | E, θ', σ'⟩ := z
          · exact ih _ _ _ _ _ _ _ h
          · dsimp only at h ⊢
            cases hh : zhnd mi pc E with
            | none => rw [hh] at h; exact h
            | some q =>
              obtain ⟨k, npc'⟩ := q
              rw [hh] at h
              dsimp only at h ⊢
              split at h
              next hk => rw [if_pos hk]; exact ih _ _ _ _ _ _ _ h
              next hk => cases h
theorem zrun_le {n m : Nat} (hnm : n ≤ m) {mi pc : Nat} {ls : ZL} {st : List ZV} {θ : ZT} {σ : ZI} {r : ZO × (ZT × ZI)} (h : zrun n mi pc ls st θ σ = some r) : zrun m mi pc ls st θ σ = some r := by
  induction hnm with
  | refl => exact h
  | step _ ih => exact zrun_mono _ _ _ _ _ _ _ _ ih
def Wp (mi pc : Nat) (ls : ZL) (st : List ZV) (θ : ZT) (σ : ZI) (Q : ZO → ZT → ZI → Prop) : Prop := ∃ (n : Nat) (r : ZO × (ZT × ZI)), zrun n mi pc ls st θ σ = some r ∧ Q r.1 r.2.1 r.2.2
def zK (mi pc : Nat) (ls : ZL) (npc : Nat) (rest : List ZV) (Q : ZO → ZT → ZI → Prop) : ZO → ZT → ZI → Prop := fun o θ σ => match o with
  | .inl v => Wp mi npc ls (v.toList ++ rest) θ σ Q
  | .inr E => match zhnd mi pc E with
    | none => Q (.inr E) θ σ
    | some (k, npc') => (k < ls.length ∧ ¬ (0 < k ∧ z_c2 (ls.getD (k - 1) none) = true)) ∧ Wp mi npc' (ls.set k none) [] θ σ Q
def WN (mi pc : Nat) (ls : ZL) (θ : ZT) (σ : ZI) (Q : ZO → ZT → ZI → Prop) (x : ZN) : Prop := match x with
  | none => False
  | some (.inl (pc', ls', st', θ', σ')) => Wp mi pc' ls' st' θ' σ' Q
  | some (.inr (.inl r)) => Q r.1 r.2.1 r.2.2
  | some (.inr (.inr (mj, vs, rest, npc))) => Wp mj 0 (zent mj vs) [] θ σ (zK mi pc ls npc rest Q)
theorem Wp.mono {mi pc : Nat} {ls : ZL} {st : List ZV} {θ : ZT} {σ : ZI} {Q Q' : ZO → ZT → ZI → Prop} (h : Wp mi pc ls st θ σ Q) (hQ : ∀ o θ σ, Q o θ σ → Q' o θ σ) : Wp mi pc ls st θ σ Q' := by
  obtain ⟨n, r, h1, h2⟩ := h
  exact ⟨n, r, h1, hQ _ _ _ h2⟩
theorem Wp_e {mi pc : Nat} {d : Nat × List Int} (h : zres mi pc = some d) (ls : ZL) (st : List ZV) (θ : ZT) (σ : ZI) (Q : ZO → ZT → ZI → Prop) : Wp mi pc ls st θ σ Q = WN mi pc ls θ σ Q (z_sem d ls st θ σ) := by
  apply propext
  constructor
  · rintro ⟨n, r, h1, h2⟩
    cases n with
    | zero => cases h1
    | succ n =>
      rw [zrun_succ, h] at h1
      dsimp only at h1
      generalize z_sem d ls st θ σ = x at h1 ⊢
      rcases x with _ | ⟨⟨pc', ls', st', θ', σ'⟩ | ⟨r' | ⟨mj, vs, rest, npc⟩⟩⟩
      · cases h1
      · exact ⟨n, r, h1, h2⟩
      · cases h1; exact h2
      · dsimp only at h1
        cases hc : zrun n mj 0 (zent mj vs) [] θ σ with
        | none => rw [hc] at h1; cases h1
        | some z =>
          rw [hc] at h1
          refine ⟨n, z, hc, ?_⟩
          obtain ⟨v | E, θ', σ'⟩ := z
          · exact ⟨n, r, h1, h2⟩
          · dsimp only at h1
            show (match zhnd mi pc E with
              | none => Q (.inr E) θ' σ'
              | some (k, npc') => (k < ls.length ∧ ¬ (0 < k ∧ z_c2 (ls.getD (k - 1) none) = true)) ∧ Wp mi npc' (ls.set k none) [] θ' σ' Q)
            cases hh : zhnd mi pc E with
            | none => rw [hh] at h1; cases h1; exact h2
            | some q =>
              obtain ⟨k, npc'⟩ := q
              rw [hh] at h1
              dsimp only at h1 ⊢
              split at h1
              next hk => exact ⟨hk, n, r, h1, h2⟩
              next hk => cases h1
  · intro hw
    generalize hx : z_sem d ls st θ σ = x at hw
    rcases x with _ | ⟨⟨pc', ls', st', θ', σ'⟩ | ⟨r' | ⟨mj, vs, rest, npc⟩⟩⟩
    · exact hw.elim
    · obtain ⟨n, r, h1, h2⟩ := hw
      exact ⟨n + 1, r, by rw [zrun_succ, h]; dsimp only; rw [hx]; exact h1, h2⟩
    · exact ⟨1, r', by rw [zrun_succ, h]; dsimp only; rw [hx], hw⟩
    · obtain ⟨n, z, h1, h2⟩ := hw
      obtain ⟨v | E, θ', σ'⟩ := z
      · obtain ⟨n2, r, h3, h4⟩ := h2
        refine ⟨n + n2 + 1, r, ?_, h4⟩
        rw [zrun_succ, h]
        dsimp only
        rw [hx]
        dsimp only
        rw [zrun_le (by omega) h1]
        exact zrun_le (by omega) h3
      · have h2 : (match zhnd mi pc E with
              | none => Q (.inr E) θ' σ'
              | some (k, npc') => (k < ls.length ∧ ¬ (0 < k ∧ z_c2 (ls.getD (k - 1) none) = true)) ∧ Wp mi npc' (ls.set k none) [] θ' σ' Q) := h2
        cases hh : zhnd mi pc E with
        | none =>
          rw [hh] at h2
          refine ⟨n + 1, (.inr E, θ', σ'), ?_, h2⟩
          rw [zrun_succ, h]
          dsimp only
          rw [hx]
          dsimp only
          rw [h1]
          dsimp only
          rw [hh]
        | some q =>
          obtain ⟨k, npc'⟩ := q
          rw [hh] at h2
          dsimp only at h2
          obtain ⟨hk, n2, r, h3, h4⟩ := h2
          refine ⟨n + n2 + 1, r, ?_, h4⟩
          rw [zrun_succ, h]
          dsimp only
          rw [hx]
          dsimp only
          rw [zrun_le (by omega) h1]
          dsimp only
          rw [hh]
          dsimp only
          rw [if_pos hk]
          exact zrun_le (by omega) h3
/-- a whole method, called with these values -/
def WM (mj : Nat) (vs : List ZV) (θ : ZT) (σ : ZI) (Q : ZO → ZT → ZI → Prop) : Prop := Wp mj 0 (zent mj vs) [] θ σ Q
theorem WN_nx {mi pc n : Nat} {ls ls' : ZL} {st : List ZV} {θ θ' : ZT} {σ σ' : ZI} {Q : ZO → ZT → ZI → Prop} : WN mi pc ls θ σ Q (nx n ls' st θ' σ') = Wp mi n ls' st θ' σ' Q := rfl
theorem WN_nrt {mi pc : Nat} {ls : ZL} {o : ZO} {θ θ' : ZT} {σ σ' : ZI} {Q : ZO → ZT → ZI → Prop} : WN mi pc ls θ σ Q (nrt o θ' σ') = Q o θ' σ' := rfl
theorem WN_ncl {mi pc mj n : Nat} {ls : ZL} {vs rest : List ZV} {θ : ZT} {σ : ZI} {Q : ZO → ZT → ZI → Prop} : WN mi pc ls θ σ Q (ncl mj vs rest n) = WM mj vs θ σ (zK mi pc ls n rest Q) := rfl
theorem WN_ite {mi pc : Nat} {ls : ZL} {θ : ZT} {σ : ZI} {Q : ZO → ZT → ZI → Prop} {c : Prop} [Decidable c] {a b : ZN} : WN mi pc ls θ σ Q (if c then a else b) = if c then WN mi pc ls θ σ Q a else WN mi pc ls θ σ Q b := by
  by_cases h : c
  · rw [if_pos h, if_pos h]
  · rw [if_neg h, if_neg h]
theorem WN_none {mi pc : Nat} {ls : ZL} {θ : ZT} {σ : ZI} {Q : ZO → ZT → ZI → Prop} : WN mi pc ls θ σ Q none = False := rfl
theorem zK_v {mi pc n : Nat} {ls : ZL} {rest : List ZV} {v : ZV} {θ : ZT} {σ : ZI} {Q : ZO → ZT → ZI → Prop} : zK mi pc ls n rest Q (.inl (some v)) θ σ = Wp mi n ls (v :: rest) θ σ Q := rfl
theorem zK_0 {mi pc n : Nat} {ls : ZL} {rest : List ZV} {θ : ZT} {σ : ZI} {Q : ZO → ZT → ZI → Prop} : zK mi pc ls n rest Q (.inl none) θ σ = Wp mi n ls rest θ σ Q := rfl
theorem zK_n {mi pc n E : Nat} {ls : ZL} {rest : List ZV} {θ : ZT} {σ : ZI} {Q : ZO → ZT → ZI → Prop} (h : zhnd mi pc E = none) : zK mi pc ls n rest Q (.inr E) θ σ = Q (.inr E) θ σ := by
  show (match zhnd mi pc E with
    | none => Q (.inr E) θ σ
    | some (k, npc') => (k < ls.length ∧ ¬ (0 < k ∧ z_c2 (ls.getD (k - 1) none) = true)) ∧ Wp mi npc' (ls.set k none) [] θ σ Q) = _
  rw [h]
theorem zK_h {mi pc n E k n' : Nat} {ls : ZL} {rest : List ZV} {θ : ZT} {σ : ZI} {Q : ZO → ZT → ZI → Prop} (h : zhnd mi pc E = some (k, n')) (hk : k < ls.length) (h0 : z_c2 (ls.getD (k - 1) none) = false) : zK mi pc ls n rest Q (.inr E) θ σ = Wp mi n' (ls.set k none) [] θ σ Q := by
  show (match zhnd mi pc E with
    | none => Q (.inr E) θ σ
    | some (k, npc') => (k < ls.length ∧ ¬ (0 < k ∧ z_c2 (ls.getD (k - 1) none) = true)) ∧ Wp mi npc' (ls.set k none) [] θ σ Q) = _
  rw [h]
  apply propext
  constructor
  · exact fun z => z.2
  · exact fun z => ⟨⟨hk, by rw [h0]; simp⟩, z⟩
