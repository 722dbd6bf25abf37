/-! HEAP STEPS -/
theorem zkd_ge {a : Nat} (h : zkd a < 16) : 100 ≤ a := by
  unfold zkd at h
  by_cases c0 : a < 100
  · rw [if_pos c0] at h
    split at h
    · omega
    · split at h
      · omega
      · split at h <;> omega
  · omega
def zhp (n : Nat) : Prop := n < 20 ∨ n = 99
theorem zhp_ite {c : Prop} [Decidable c] {x y : Nat} (hx : zhp x) (hy : zhp y) : zhp (if c then x else y) := by
  by_cases h : c
  · rw [if_pos h]; exact hx
  · rw [if_neg h]; exact hy
theorem zhp_lt {x : Nat} (h : x < 20) : zhp x := Or.inl h
theorem zhp_S (o : Nat) : zhp (zkS o) := by
  unfold zkS
  repeat' (first | exact zhp_lt (by omega) | apply zhp_ite)
theorem zkd_hi {a : Nat} (h : 100 ≤ a) : zhp (zkd a) := by
  unfold zkd
  rw [if_neg (by omega)]
  repeat' (first | exact zhp_S _ | exact zhp_lt (by omega) | exact Or.inr rfl | apply zhp_ite)
theorem zkd_lo {a : Nat} (h : a < 100) : zkd a = if a = 0 then 20 else if a < 12 then 21 else if a < 23 then 22 else 99 := by
  unfold zkd
  rw [if_pos h]
theorem zkd_20 {a : Nat} (h : zkd a = 20) : a = 0 := by
  by_cases c : a < 100
  · rw [zkd_lo c] at h
    split at h
    · assumption
    · split at h
      · omega
      · split at h <;> omega
  · rcases zkd_hi (a := a) (by omega) with z | z <;> omega
theorem zkd_21 {a : Nat} (h : zkd a = 21) : 1 ≤ a ∧ a < 12 := by
  by_cases c : a < 100
  · rw [zkd_lo c] at h
    split at h
    · omega
    · split at h
      · omega
      · split at h <;> omega
  · rcases zkd_hi (a := a) (by omega) with z | z <;> omega
theorem zkd_22 {a : Nat} (h : zkd a = 22) : 12 ≤ a ∧ a < 23 := by
  by_cases c : a < 100
  · rw [zkd_lo c] at h
    split at h
    · omega
    · split at h
      · omega
      · split at h <;> omega
  · rcases zkd_hi (a := a) (by omega) with z | z <;> omega
theorem lt_ite {c : Prop} [Decidable c] {x y n : Nat} (hx : x < n) (hy : y < n) : (if c then x else y) < n := by
  by_cases h : c
  · rw [if_pos h]; exact hx
  · rw [if_neg h]; exact hy
theorem zlL_lt (o : Nat) : zlL o < 100000 := by
  unfold zlL
  repeat' (first | omega | apply lt_ite)
theorem zlS_lt (o : Nat) : zlS o < 100000 := by
  unfold zlS
  repeat' (first | omega | exact zlL_lt _ | apply lt_ite)
set_option maxRecDepth 20000 in
theorem zln_lt (a : Nat) : zln a < 100000 := by
  unfold zln
  refine lt_ite ?_ ?_
  · split <;> omega
  · repeat' (first | omega | exact zlL_lt _ | exact zlS_lt _ | apply lt_ite)
section ZEN
variable {κ : Nat → ClassId} {μ : Nat → Nat} {ρ : ZR} {σ : ZI} {a n : Nat}
theorem zcE_o (h : zkd a < 10) : zcE κ μ ρ σ a = .inr (zkd a, (List.range (zln a)).map (zfl μ ρ σ a)) := by
  unfold zcE; rw [if_pos h]
theorem zcE_i (h0 : 10 ≤ zkd a) (h : zkd a < 13) : zcE κ μ ρ σ a = .inl (κ (zkd a), zln a, .inl fun j => Int32.ofInt (σ a j)) := by
  unfold zcE; rw [if_neg (by omega), if_pos h]
theorem zcE_l (h : zkd a = 13) : zcE κ μ ρ σ a = .inl (κ 13, zln a, .inr (.inl fun j => Int64.ofInt (σ a j))) := by
  unfold zcE; rw [if_neg (by omega), if_neg (by omega), if_pos h, h]
theorem zcE_q (h0 : 14 ≤ zkd a) : zcE κ μ ρ σ a = .inl (κ (zkd a), zln a, .inr (.inr (.inr (.inr fun j => (ρ a j).map μ)))) := by
  unfold zcE; rw [if_neg (by omega), if_neg (by omega), if_neg (by omega)]
theorem zfl_get {k : Nat} (h : k < zln a) : ((List.range (zln a)).map (zfl μ ρ σ a))[k]? = some (zfl μ ρ σ a k) := by
  rw [List.getElem?_map, List.getElem?_range h]; rfl
theorem zfl_upI {k : Nat} {x : Int} (hz : zrf (zkd a) k = false) : (List.range n).map (zfl μ ρ (zup σ a k x) a) = ((List.range n).map (zfl μ ρ σ a)).set k (.int (Int32.ofInt x)) := by
  apply List.ext_getElem?
  intro j
  by_cases hj : j < n
  · rw [List.getElem?_map, List.getElem?_range hj]
    by_cases hjk : j = k
    · subst hjk
      rw [List.getElem?_set_self (by simpa using hj)]
      show some (zfl μ ρ (zup σ a j x) a j) = some _
      unfold zfl zup
      rw [if_neg (by rw [hz]; exact Bool.false_ne_true), if_pos ⟨rfl, rfl⟩]
    · rw [List.getElem?_set_ne (fun z => hjk z.symm), List.getElem?_map, List.getElem?_range hj]
      show some (zfl μ ρ (zup σ a k x) a j) = some (zfl μ ρ σ a j)
      have e : zup σ a k x a j = σ a j := by unfold zup; rw [if_neg (fun z => hjk z.2)]
      unfold zfl
      rw [e]
  · rw [List.getElem?_eq_none (by simp; omega), List.getElem?_eq_none (by simp; omega)]
theorem zfl_upR {k : Nat} {v : Option Nat} (hz : zrf (zkd a) k = true) : (List.range n).map (zfl μ (zupR ρ a k v) σ a) = ((List.range n).map (zfl μ ρ σ a)).set k (va_rf (v.map μ)) := by
  apply List.ext_getElem?
  intro j
  by_cases hj : j < n
  · rw [List.getElem?_map, List.getElem?_range hj]
    by_cases hjk : j = k
    · subst hjk
      rw [List.getElem?_set_self (by simpa using hj)]
      show some (zfl μ (zupR ρ a j v) σ a j) = some _
      unfold zfl zupR
      rw [if_pos hz, if_pos ⟨rfl, rfl⟩]
    · rw [List.getElem?_set_ne (fun z => hjk z.symm), List.getElem?_map, List.getElem?_range hj]
      show some (zfl μ (zupR ρ a k v) σ a j) = some (zfl μ ρ σ a j)
      have e : zupR ρ a k v a j = ρ a j := by unfold zupR; rw [if_neg (fun z => hjk z.2)]
      unfold zfl
      rw [e]
  · rw [List.getElem?_eq_none (by simp; omega), List.getElem?_eq_none (by simp; omega)]
theorem zup_ne {σ : ZI} {a b k : Nat} {x : Int} (h : b ≠ a) : zup σ a k x b = σ b := by
  funext j; unfold zup; rw [if_neg (fun z => h z.1)]
theorem zupR_ne {ρ : ZR} {a b k : Nat} {x : Option Nat} (h : b ≠ a) : zupR ρ a k x b = ρ b := by
  funext j; unfold zupR; rw [if_neg (fun z => h z.1)]
end ZEN
section ZOU
variable {E : zE} {B : zB} {s : State} {ls : ZL} {st : List ZV} {θ : ZT} {σ : ZI} {μ : Nat → Nat} {H : Heap} {locs : List Loc} {Ls : Array Slot} {a : Nat}
theorem zOn.at (O : zOn E B s ls st θ σ μ H locs Ls) (h : zkd a < 16) (ha : a < θ.1) : (zws E.2.1 μ θ.1 θ.2.2 σ)[a - 100]? = some (μ a, zcE E.2.1 μ θ.2.2 σ a) := zws_get (zkd_ge h) ha
theorem zOn.P (O : zOn E B s ls st θ σ μ H locs Ls) : va_P E.1 vwCl (zws E.2.1 μ θ.1 θ.2.2 σ) H := O.1.2.1
theorem zOn.D (O : zOn E B s ls st θ σ μ H locs Ls) : va_D (zA E.2.2.2.2) (zws E.2.1 μ θ.1 θ.2.2 σ) := O.1.2.2.1
theorem zOn.S (O : zOn E B s ls st θ σ μ H locs Ls) : va_S (zA E.2.2.2.2) s.heap H locs := O.2.1
theorem zOn.upd (O : zOn E B s ls st θ σ μ H locs Ls) {ρ' : ZR} {σ' : ZI} {e : va_E} {H1 : Heap} {locs1 : List Loc} (ha : 100 ≤ a) (he : zcE E.2.1 μ ρ' σ' a = e) (hne : ∀ b, b ≠ a → zcE E.2.1 μ ρ' σ' b = zcE E.2.1 μ θ.2.2 σ b) (hb : zbR θ.1 ρ') (hσ : ∀ b, b < 100 → σ' b = σ b)
    (hP : va_P E.1 vwCl ((zws E.2.1 μ θ.1 θ.2.2 σ).set (a - 100) (μ a, e)) H1) (hD : va_D (zA E.2.2.2.2) ((zws E.2.1 μ θ.1 θ.2.2 σ).set (a - 100) (μ a, e))) (hS : va_S (zA E.2.2.2.2) s.heap H1 locs1) : zOn E B s ls st (θ.1, θ.2.1, ρ') σ' μ H1 locs1 Ls := by
  rw [← zws_set ha he hne] at hP hD
  exact ⟨⟨O.1.1, hP, hD, hb, O.1.2.2.2.2.1, fun b hb => (hσ b hb).trans (O.1.2.2.2.2.2 b hb)⟩, hS, O.2.2.1, O.2.2.2.1, O.2.2.2.2.1, O.2.2.2.2.2.1, O.2.2.2.2.2.2⟩
theorem zOn.updI (O : zOn E B s ls st θ σ μ H locs Ls) {k : Nat} {x : Int} {e : va_E} {H1 : Heap} {locs1 : List Loc} (ha : 100 ≤ a) (he : zcE E.2.1 μ θ.2.2 (zup σ a k x) a = e)
    (hP : va_P E.1 vwCl ((zws E.2.1 μ θ.1 θ.2.2 σ).set (a - 100) (μ a, e)) H1) (hD : va_D (zA E.2.2.2.2) ((zws E.2.1 μ θ.1 θ.2.2 σ).set (a - 100) (μ a, e))) (hS : va_S (zA E.2.2.2.2) s.heap H1 locs1) : zOn E B s ls st θ (zup σ a k x) μ H1 locs1 Ls :=
  O.upd (ρ' := θ.2.2) ha he (fun b hb => zcE_congr (fun j => by rw [zup_ne hb]) (fun j => rfl)) O.1.2.2.2.1 (fun b hb => zup_ne (by omega)) hP hD hS
theorem zOn.updR (O : zOn E B s ls st θ σ μ H locs Ls) {k : Nat} {x : Option Nat} {e : va_E} {H1 : Heap} {locs1 : List Loc} (ha : 100 ≤ a) (he : zcE E.2.1 μ (zupR θ.2.2 a k x) σ a = e) (hx : ∀ b, x = some b → b < θ.1)
    (hP : va_P E.1 vwCl ((zws E.2.1 μ θ.1 θ.2.2 σ).set (a - 100) (μ a, e)) H1) (hD : va_D (zA E.2.2.2.2) ((zws E.2.1 μ θ.1 θ.2.2 σ).set (a - 100) (μ a, e))) (hS : va_S (zA E.2.2.2.2) s.heap H1 locs1) : zOn E B s ls st (θ.1, θ.2.1, zupR θ.2.2 a k x) σ μ H1 locs1 Ls :=
  O.upd ha he (fun b hb => zcE_congr (fun j => rfl) (fun j => by rw [zupR_ne hb])) (zbR_up O.1.2.2.2.1 hx) (fun b hb => rfl) hP hD hS
theorem zOn.new (O : zOn E B s ls st θ σ μ H locs Ls) {q : Nat} {e : va_E} {H1 : Heap} {locs1 : List Loc} (he : zcE E.2.1 (zux μ θ.1 q) (zclrR θ.2.2 θ.1) (zclr σ θ.1) θ.1 = e)
    (hP : va_P E.1 vwCl (zws E.2.1 μ θ.1 θ.2.2 σ ++ [(q, e)]) H1) (hD : va_D (zA E.2.2.2.2) (zws E.2.1 μ θ.1 θ.2.2 σ ++ [(q, e)])) (hS : va_S (zA E.2.2.2.2) s.heap H1 locs1) : zOn E B s ls st (θ.1 + 1, θ.2.1, zclrR θ.2.2 θ.1) (zclr σ θ.1) (zux μ θ.1 q) H1 locs1 Ls := by
  have h1 := O.1.1
  rw [← he, ← zws_push h1 O.1.2.2.2.1] at hP hD
  refine ⟨⟨Nat.le_succ_of_le h1, hP, hD, zbR_push O.1.2.2.2.1, fun b hb => (zux_lt (by omega)).trans (O.1.2.2.2.2.1 b hb), fun b hb => ?_⟩, hS, zlr_agree (fun b hb => zux_lt hb) O.2.2.2.2.1 O.2.2.1, zbs_mono (Nat.le_succ _) O.2.2.2.1, zbl_mono (Nat.le_succ _) O.2.2.2.2.1, ⟨Nat.le_succ_of_le O.2.2.2.2.2.1.1, fun b hb => (zux_lt (Nat.lt_of_lt_of_le hb O.2.2.2.2.2.1.1)).trans (O.2.2.2.2.2.1.2 b hb)⟩, O.2.2.2.2.2.2⟩
  refine Eq.trans ?_ (O.1.2.2.2.2.2 b hb)
  funext j
  unfold zclr
  rw [if_neg (by omega)]
theorem zOn.old (O : zOn E B s ls st θ σ μ H locs Ls) (h : a < 100) : μ a = E.2.2.1 a := O.1.2.2.2.2.1 a h
theorem zOn.olds (O : zOn E B s ls st θ σ μ H locs Ls) (h : a < 100) : σ a = E.2.2.2.1 a := O.1.2.2.2.2.2 a h
end ZOU
/-! fields by the tables -/
theorem zckF_e0 {c i ci k knd fin p : Nat} : zckF c (i, 0, ci, k, knd, fin, p) = (match vwCl[ci]? with
    | some q => zw p (.fieldLink (zcn c) i q.1 (q.2.1 k).2.1 (q.2.1 k).2.2.1) && (decide (k < q.2.2 ∧ (q.2.1 k).1 = q.1 ∧ (q.2.1 k).2.2.2 = (fin == 1) ∧ zrf ci k = (knd == 2) ∧ zty (q.2.1 k).2.2.1 = knd ∧ ci < 7))
    | none => false) := rfl
theorem zckF_e1 {c i ci k knd fin p : Nat} : zckF c (i, 1, ci, k, knd, fin, p) = (match vwCl[ci]? with
    | some q => zw p (.fieldLinkNest (zcn c) i q.1 (q.2.1 k).2.1 (q.2.1 k).2.2.1 RX5) && (decide (k < q.2.2 ∧ (q.2.1 k).1 = q.1 ∧ (q.2.1 k).2.2.2 = (fin == 1) ∧ zrf ci k = (knd == 2) ∧ zty (q.2.1 k).2.2.1 = knd ∧ ci < 7))
    | none => false) := rfl
theorem zT_F {c i m ci k knd fin pl : Nat} (h : zlk i (zFT c) = some (m, ci, k, knd, fin, pl)) (hm : m < 2) : ∃ (C : String) (T : u_T) (N : Nat), vwCl[ci]? = some (C, T, N) ∧ k < N ∧ (T k).1 = C ∧ (T k).2.2.2 = (fin == 1) ∧ zrf ci k = (knd == 2) ∧ zty (T k).2.2.1 = knd ∧ ci < 7 ∧
    (m = 0 → .fieldLink (zcn c) i C (T k).2.1 (T k).2.2.1 ∈ lw_tbl) ∧ (m = 1 → .fieldLinkNest (zcn c) i C (T k).2.1 (T k).2.2.1 RX5 ∈ lw_tbl) := by
  have h1 := zall_in (zckF_all c) (zlk_in h)
  have hm2 : m = 0 ∨ m = 1 := by omega
  rcases hm2 with rfl | rfl
  · rw [zckF_e0] at h1
    cases hq : vwCl[ci]? with
    | none => rw [hq] at h1; cases h1
    | some q =>
      rw [hq] at h1
      obtain ⟨C, T, N⟩ := q
      simp only [Bool.and_eq_true, decide_eq_true_eq] at h1
      obtain ⟨a1, a2, a3, a4, a5, a6, a7⟩ := h1
      exact ⟨C, T, N, rfl, a2, a3, a4, a5, a6, a7, fun _ => zw_in a1, fun z => by omega⟩
  · rw [zckF_e1] at h1
    cases hq : vwCl[ci]? with
    | none => rw [hq] at h1; cases h1
    | some q =>
      rw [hq] at h1
      obtain ⟨C, T, N⟩ := q
      simp only [Bool.and_eq_true, decide_eq_true_eq] at h1
      obtain ⟨a1, a2, a3, a4, a5, a6, a7⟩ := h1
      exact ⟨C, T, N, rfl, a2, a3, a4, a5, a6, a7, fun z => by omega, fun _ => zw_in a1⟩
theorem zty_0 {d : String} (h : zty d = 0) : parseFieldDescriptor d = some .int := by
  unfold zty at h
  split at h
  · assumption
  all_goals omega
theorem zty_1 {d : String} (h : zty d = 1) : parseFieldDescriptor d = some .boolean := by
  unfold zty at h
  split at h
  · omega
  · assumption
  all_goals omega
theorem zty_2 {d : String} (h : zty d = 2) : (∃ C, parseFieldDescriptor d = some (.object C)) ∨ ∃ t, parseFieldDescriptor d = some (.array t) := by
  unfold zty at h
  split at h
  · omega
  · omega
  · exact Or.inl ⟨_, by assumption⟩
  · exact Or.inr ⟨_, by assumption⟩
  · omega
