/-! THE RELATION between the interpreter's state and the machine's -/
/-- ints as the machine's -/
theorem n32_t {x : Int} (h : zinR x) : (Int32.ofInt x).toInt = x := Int32.toInt_ofInt_of_le h.1 h.2
theorem n32_eq {x y : Int} (hx : zinR x) (hy : zinR y) : Int32.ofInt x = Int32.ofInt y ↔ x = y := by
  rw [← Int32.toInt_inj, n32_t hx, n32_t hy]
theorem n32_lt {x y : Int} (hx : zinR x) (hy : zinR y) : Int32.ofInt x < Int32.ofInt y ↔ x < y := by
  rw [Int32.lt_iff_toInt_lt, n32_t hx, n32_t hy]
theorem n32_le {x y : Int} (hx : zinR x) (hy : zinR y) : Int32.ofInt x ≤ Int32.ofInt y ↔ x ≤ y := by
  rw [Int32.le_iff_toInt_le, n32_t hx, n32_t hy]
theorem n32_0 : Int32.ofInt 0 = 0 := rfl
theorem n32_in0 : zinR 0 := by unfold zinR; omega
theorem n32_c {x : Int} (h0 : 0 ≤ x) (h1 : x < 2147483648) : (Int32.ofInt x).toNatClampNeg = x.toNat := Int32.toNatClampNeg_ofInt_of_le (by omega) (by omega)
theorem n32_nat (n : Nat) : Int32.ofNat n = Int32.ofInt n := Int32.ofInt_eq_ofNat.symm
theorem n32_vin {i : Int} {n : Nat} (h0 : 0 ≤ i) (h1 : i < n) (hn : n < 2147483648) : vp_in (Int32.ofInt i) n := by
  refine vp_in_iff.mpr ?_
  rw [n32_t ⟨by omega, by omega⟩]
  exact ⟨h0, h1⟩
theorem n32_max : Int32.maxValue.toInt = 2147483647 := by decide
theorem n32_min : Int32.minValue.toInt = -2147483648 := by decide
theorem n32_div {x y : Int} (hx : zinR x) (hy : zinR y) : Int32.ofInt (Int.tdiv x y) = Int32.ofInt x / Int32.ofInt y := by
  obtain ⟨h1, h2⟩ := hx
  obtain ⟨h3, h4⟩ := hy
  exact Int32.ofInt_tdiv (by rw [n32_min]; omega) (by rw [n32_max]; omega) (by rw [n32_min]; omega) (by rw [n32_max]; omega)
theorem n32_mod {x y : Int} (hx : zinR x) (hy : zinR y) : Int32.ofInt (Int.tmod x y) = Int32.ofInt x - Int32.ofInt x / Int32.ofInt y * Int32.ofInt y := by
  have h : Int.tmod x y = x - Int.tdiv x y * y := by
    rw [Int.tmod_def, Int.mul_comm]
  rw [h, Int32.ofInt_sub, Int32.ofInt_mul, n32_div hx hy]
theorem n32_char (x : Int) : ((Int32.ofInt x).toUInt32 % 65536).toInt32 = Int32.ofInt (x % 65536) := by
  rw [pk_char]
  show Int32.ofNat _ = _
  rw [n32_nat]
  congr 1
  have h : (Int32.ofInt x).toBitVec.toNat = (x % 4294967296).toNat := by
    show (BitVec.ofInt 32 x).toNat = _
    rw [BitVec.toNat_ofInt]
    rfl
  rw [h]
  omega
def cv (μ : Nat → Nat) : ZV → Value
  | .inl x => .int (Int32.ofInt x)
  | .inr (.inl r) => va_rf (r.map μ)
  | .inr (.inr (.inl x)) => .long (Int64.ofInt x)
  | .inr (.inr (.inr (.inl x))) => .float x
  | .inr (.inr (.inr (.inr x))) => .double x
theorem cv_cat (μ : Nat → Nat) (v : ZV) : (cv μ v).category = z_w v := by
  rcases v with x | ⟨_ | r⟩ | x | x | x
  · rfl
  · rfl
  · rfl
  · rfl
  · rfl
  · rfl
def zb (n : Nat) : ZV → Prop
  | .inr (.inl (some a)) => a < n
  | _ => True
theorem zb_mono {n k : Nat} (h : n ≤ k) {v : ZV} (hv : zb n v) : zb k v := by
  rcases v with x | ⟨_ | a⟩ | x | x | x
  · trivial
  · trivial
  · exact Nat.lt_of_lt_of_le (show a < n from hv) h
  · trivial
  · trivial
  · trivial
theorem cv_agree {μ μ' : Nat → Nat} {n : Nat} (h : ∀ a, a < n → μ' a = μ a) {v : ZV} (hv : zb n v) : cv μ' v = cv μ v := by
  rcases v with x | ⟨_ | a⟩ | x | x | x
  · rfl
  · rfl
  · show Value.ref (μ' a) = Value.ref (μ a)
    rw [h a hv]
  · rfl
  · rfl
  · rfl
def zbs (n : Nat) (st : List ZV) : Prop := ∀ v ∈ st, zb n v
theorem zbs_hd {n : Nat} {v : ZV} {st : List ZV} (h : zbs n (v :: st)) : zb n v := h v List.mem_cons_self
theorem zbs_tl {n : Nat} {v : ZV} {st : List ZV} (h : zbs n (v :: st)) : zbs n st := fun w hw => h w (List.mem_cons_of_mem _ hw)
theorem zbs_cons {n : Nat} {v : ZV} {st : List ZV} (h : zb n v) (ht : zbs n st) : zbs n (v :: st) := fun w hw => (List.mem_cons.mp hw).elim (fun e => by rw [e]; exact h) (ht w)
theorem zbs_nil {n : Nat} : zbs n [] := fun _ h => nomatch h
theorem zbs_mono {n k : Nat} (h : n ≤ k) {st : List ZV} (hv : zbs n st) : zbs k st := fun v hw => zb_mono h (hv v hw)
theorem cvs_agree {μ μ' : Nat → Nat} {n : Nat} (h : ∀ a, a < n → μ' a = μ a) {st : List ZV} (hv : zbs n st) : st.map (cv μ') = st.map (cv μ) := List.map_congr_left fun v hw => cv_agree h (hv v hw)
/-! locals -/
def zll (μ : Nat → Nat) (ls : ZL) : List (Nat × Value) := (List.range ls.length).filterMap fun i => match ls[i]? with
  | some (some v) => some (i, cv μ v)
  | _ => none
theorem zll_mem {μ : Nat → Nat} {ls : ZL} {q : Nat × Value} : q ∈ zll μ ls ↔ ∃ v, ls[q.1]? = some (some v) ∧ q.2 = cv μ v := by
  unfold zll
  rw [List.mem_filterMap]
  constructor
  · rintro ⟨i, -, h⟩
    split at h
    next v hv =>
      cases h
      exact ⟨v, hv, rfl⟩
    next => cases h
  · rintro ⟨v, h1, h2⟩
    refine ⟨q.1, List.mem_range.mpr (List.getElem?_eq_some_iff.mp h1).1, ?_⟩
    rw [h1]
    show some (q.1, cv μ v) = some q
    rw [← h2]
def zbl (n : Nat) (ls : ZL) : Prop := ∀ (i : Nat) (v : ZV), ls[i]? = some (some v) → zb n v
def zlr (μ : Nat → Nat) (Ls : Array Slot) (ls : ZL) : Prop := lv_has Ls ls.length (zll μ ls)
theorem zgetD {ls : ZL} {k : Nat} {v : ZV} (h : ls.getD k none = some v) : ls[k]? = some (some v) := by
  rw [List.getD_eq_getElem?_getD] at h
  cases hk : ls[k]? with
  | none => rw [hk] at h; cases h
  | some x => rw [hk] at h; exact congrArg some h
theorem zlr_get {μ : Nat → Nat} {Ls : Array Slot} {ls : ZL} (h : zlr μ Ls ls) {k : Nat} {v : ZV} (hk : ls.getD k none = some v) : Ls[k]? = some (.val (cv μ v)) :=
  h.2.2 (k, cv μ v) (zll_mem.mpr ⟨v, zgetD hk, rfl⟩)
theorem zlr_idx {μ : Nat → Nat} {ls : ZL} {k : Nat} {v : ZV} (hk : ls.getD k none = some v) : ∃ j : Nat, (zll μ ls)[j]? = some (k, cv μ v) :=
  List.getElem?_of_mem (zll_mem.mpr ⟨v, zgetD hk, rfl⟩)
theorem zlr_agree {μ μ' : Nat → Nat} {n : Nat} (h : ∀ a, a < n → μ' a = μ a) {Ls : Array Slot} {ls : ZL} (hb : zbl n ls) (hl : zlr μ Ls ls) : zlr μ' Ls ls := by
  refine ⟨hl.1, hl.2.1, fun q hq => ?_⟩
  obtain ⟨v, h1, h2⟩ := zll_mem.mp hq
  exact hl.2.2 q (zll_mem.mpr ⟨v, h1, by rw [h2, cv_agree h (hb _ _ h1)]⟩)
theorem zlr_set {μ : Nat → Nat} {Ls' : Array Slot} {ls : ZL} {k : Nat} {v : ZV} (hk : k < ls.length) (hp : ¬ (0 < k ∧ z_c2 (ls.getD (k - 1) none) = true))
    (h : lv_has Ls' ls.length ((k, cv μ v) :: (zll μ ls).filter (fun q => !(q.1 == k) && !(q.1 + 1 == k && q.2.category == 2)))) : zlr μ Ls' (ls.set k (some v)) := by
  unfold zlr
  rw [List.length_set]
  refine ⟨h.1, h.2.1, fun q hq => ?_⟩
  obtain ⟨w, h1, h2⟩ := zll_mem.mp hq
  by_cases hj : q.1 = k
  · rw [hj, List.getElem?_set_self hk] at h1
    cases h1
    have := h.2.2 (k, cv μ v) List.mem_cons_self
    rw [hj, h2]; exact this
  · rw [List.getElem?_set_ne (fun e => hj e.symm)] at h1
    refine h.2.2 q (List.mem_cons_of_mem _ (List.mem_filter.mpr ⟨zll_mem.mpr ⟨w, h1, h2⟩, ?_⟩))
    have e1 : (q.1 == k) = false := by simpa using hj
    rw [e1]
    by_cases hj2 : q.1 + 1 = k
    · have hc : (q.2.category == 2) = false := by
        rw [h2, cv_cat]
        cases hz : (z_w w == 2)
        · rfl
        · exfalso
          refine hp ⟨by omega, ?_⟩
          have : k - 1 = q.1 := by omega
          rw [this, List.getD_eq_getElem?_getD, h1]
          exact hz
      rw [hc]; simp
    · have e2 : (q.1 + 1 == k) = false := by simpa using hj2
      rw [e2]; rfl
theorem zlr_set2 {μ : Nat → Nat} {Ls' : Array Slot} {ls : ZL} {k : Nat} {v : ZV} (hk : k + 1 < ls.length) (hp : ¬ (0 < k ∧ z_c2 (ls.getD (k - 1) none) = true))
    (h : lv_has Ls' ls.length ((k, cv μ v) :: (zll μ ls).filter (fun q => !(q.1 == k) && (!(q.1 == k + 1) && !(q.1 + 1 == k && q.2.category == 2))))) : zlr μ Ls' ((ls.set k (some v)).set (k + 1) none) := by
  unfold zlr
  rw [List.length_set, List.length_set]
  refine ⟨h.1, h.2.1, fun q hq => ?_⟩
  obtain ⟨w, h1, h2⟩ := zll_mem.mp hq
  by_cases hj1 : q.1 = k + 1
  · rw [hj1, List.getElem?_set_self (by rw [List.length_set]; exact hk)] at h1
    cases h1
  · rw [List.getElem?_set_ne (fun e => hj1 e.symm)] at h1
    by_cases hj : q.1 = k
    · rw [hj, List.getElem?_set_self (by omega)] at h1
      cases h1
      have := h.2.2 (k, cv μ v) List.mem_cons_self
      rw [hj, h2]; exact this
    · rw [List.getElem?_set_ne (fun e => hj e.symm)] at h1
      refine h.2.2 q (List.mem_cons_of_mem _ (List.mem_filter.mpr ⟨zll_mem.mpr ⟨w, h1, h2⟩, ?_⟩))
      have e1 : (q.1 == k) = false := by simpa using hj
      have e3 : (q.1 == k + 1) = false := by simpa using hj1
      rw [e1, e3]
      by_cases hj2 : q.1 + 1 = k
      · have hc : (q.2.category == 2) = false := by
          rw [h2, cv_cat]
          cases hz : (z_w w == 2)
          · rfl
          · exfalso
            refine hp ⟨by omega, ?_⟩
            have : k - 1 = q.1 := by omega
            rw [this, List.getD_eq_getElem?_getD, h1]
            exact hz
        rw [hc]; simp
      · have e2 : (q.1 + 1 == k) = false := by simpa using hj2
        rw [e2]; rfl
/-- a local whose value is forgotten -/
theorem zlr_forget {μ : Nat → Nat} {Ls : Array Slot} {ls : ZL} {k : Nat} (h : zlr μ Ls ls) : zlr μ Ls (ls.set k none) := by
  unfold zlr
  rw [List.length_set]
  refine ⟨h.1, h.2.1, fun q hq => ?_⟩
  obtain ⟨w, h1, h2⟩ := zll_mem.mp hq
  by_cases hj : q.1 = k
  · rw [hj] at h1
    by_cases hk : k < ls.length
    · rw [List.getElem?_set_self hk] at h1; cases h1
    · rw [List.getElem?_eq_none (by rw [List.length_set]; omega)] at h1; cases h1
  · rw [List.getElem?_set_ne (fun e => hj e.symm)] at h1
    exact h.2.2 q (zll_mem.mpr ⟨w, h1, h2⟩)
theorem zbl_set {n : Nat} {ls : ZL} {k : Nat} {v : Option ZV} (h : zbl n ls) (hv : ∀ w, v = some w → zb n w) : zbl n (ls.set k v) := by
  intro i w hi
  by_cases hj : i = k
  · subst hj
    by_cases hk : i < ls.length
    · rw [List.getElem?_set_self hk] at hi
      exact hv w (Option.some.inj hi)
    · rw [List.getElem?_eq_none (by rw [List.length_set]; omega)] at hi; cases hi
  · rw [List.getElem?_set_ne (fun e => hj e.symm)] at hi
    exact h i w hi
theorem zbl_mono {n k : Nat} (h : n ≤ k) {ls : ZL} (hb : zbl n ls) : zbl k ls := fun i v hi => zb_mono h (hb i v hi)
/-! the heap -/
def zfl (μ : Nat → Nat) (ρ : ZR) (σ : ZI) (a j : Nat) : Value := if zrf (zkd a) j = true then va_rf ((ρ a j).map μ) else .int (Int32.ofInt (σ a j))
def zcE (κ : Nat → ClassId) (μ : Nat → Nat) (ρ : ZR) (σ : ZI) (a : Nat) : va_E :=
  if zkd a < 10 then .inr (zkd a, (List.range (zln a)).map (zfl μ ρ σ a))
  else if zkd a < 13 then .inl (κ (zkd a), zln a, .inl fun j => Int32.ofInt (σ a j))
  else if zkd a = 13 then .inl (κ (zkd a), zln a, .inr (.inl fun j => Int64.ofInt (σ a j)))
  else .inl (κ (zkd a), zln a, .inr (.inr (.inr (.inr fun j => (ρ a j).map μ))))
def zws (κ : Nat → ClassId) (μ : Nat → Nat) (n : Nat) (ρ : ZR) (σ : ZI) : va_W := (List.range (n - 100)).map fun i => (μ (100 + i), zcE κ μ ρ σ (100 + i))
theorem zcE_congr {κ : Nat → ClassId} {μ μ' : Nat → Nat} {ρ ρ' : ZR} {σ σ' : ZI} {a : Nat} (h1 : ∀ j, σ' a j = σ a j) (h2 : ∀ j, (ρ' a j).map μ' = (ρ a j).map μ) : zcE κ μ' ρ' σ' a = zcE κ μ ρ σ a := by
  have e1 : (fun j => Int32.ofInt (σ' a j)) = fun j => Int32.ofInt (σ a j) := funext fun j => by rw [h1]
  have e2 : (fun j => Int64.ofInt (σ' a j)) = fun j => Int64.ofInt (σ a j) := funext fun j => by rw [h1]
  have e3 : (fun j => (ρ' a j).map μ') = fun j => (ρ a j).map μ := funext h2
  have e4 : zfl μ' ρ' σ' a = zfl μ ρ σ a := funext fun j => by unfold zfl; rw [h1, h2]
  unfold zcE
  rw [e1, e2, e3, e4]
theorem zws_len {κ : Nat → ClassId} {μ : Nat → Nat} {n : Nat} {ρ : ZR} {σ : ZI} : (zws κ μ n ρ σ).length = n - 100 := by
  unfold zws; rw [List.length_map, List.length_range]
theorem zws_get {κ : Nat → ClassId} {μ : Nat → Nat} {n : Nat} {ρ : ZR} {σ : ZI} {a : Nat} (h1 : 100 ≤ a) (h2 : a < n) : (zws κ μ n ρ σ)[a - 100]? = some (μ a, zcE κ μ ρ σ a) := by
  unfold zws
  rw [List.getElem?_map, List.getElem?_range (by omega)]
  show some (μ (100 + (a - 100)), zcE κ μ ρ σ (100 + (a - 100))) = _
  rw [show 100 + (a - 100) = a by omega]
theorem zws_set {κ : Nat → ClassId} {μ : Nat → Nat} {n : Nat} {ρ ρ' : ZR} {σ σ' : ZI} {a : Nat} (ha : 100 ≤ a) {e : va_E} (he : zcE κ μ ρ' σ' a = e) (h : ∀ b, b ≠ a → zcE κ μ ρ' σ' b = zcE κ μ ρ σ b) : zws κ μ n ρ' σ' = (zws κ μ n ρ σ).set (a - 100) (μ a, e) := by
  apply List.ext_getElem?
  intro i
  by_cases hi : i < n - 100
  · have e1 := zws_get (κ := κ) (μ := μ) (ρ := ρ') (σ := σ') (a := 100 + i) (n := n) (by omega) (by omega)
    have e2 := zws_get (κ := κ) (μ := μ) (ρ := ρ) (σ := σ) (a := 100 + i) (n := n) (by omega) (by omega)
    rw [show 100 + i - 100 = i by omega] at e1 e2
    rw [e1]
    by_cases hj : i = a - 100
    · have : a = 100 + i := by omega
      subst this
      rw [← hj, List.getElem?_set_self (by rw [zws_len]; exact hi), ← he]
    · rw [List.getElem?_set_ne (fun z => hj z.symm), e2, h (100 + i) (by omega)]
  · rw [List.getElem?_eq_none (by rw [zws_len]; omega), List.getElem?_eq_none (by rw [List.length_set, zws_len]; omega)]
def zbR (n : Nat) (ρ : ZR) : Prop := ∀ a k b : Nat, a < n → ρ a k = some b → b < n
theorem zws_agree {κ : Nat → ClassId} {μ μ' : Nat → Nat} {n : Nat} {ρ ρ' : ZR} {σ σ' : ZI} (hb : zbR n ρ) (hm : ∀ a, a < n → μ' a = μ a) (hr : ∀ a, a < n → ρ' a = ρ a) (hs : ∀ a, a < n → σ' a = σ a) : zws κ μ' n ρ' σ' = zws κ μ n ρ σ := by
  apply List.ext_getElem?
  intro i
  by_cases hi : i < n - 100
  · have e1 := zws_get (κ := κ) (μ := μ') (ρ := ρ') (σ := σ') (a := 100 + i) (n := n) (by omega) (by omega)
    have e2 := zws_get (κ := κ) (μ := μ) (ρ := ρ) (σ := σ) (a := 100 + i) (n := n) (by omega) (by omega)
    rw [show 100 + i - 100 = i by omega] at e1 e2
    rw [e1, e2, hm _ (by omega), zcE_congr (μ := μ) (ρ := ρ) (σ := σ) (fun j => by rw [hs _ (by omega)]) (fun j => ?_)]
    rw [hr _ (by omega)]
    cases hx : ρ (100 + i) j with
    | none => rfl
    | some b => show some (μ' b) = some (μ b); rw [hm b (hb _ _ _ (by omega) hx)]
  · rw [List.getElem?_eq_none (by rw [zws_len]; omega), List.getElem?_eq_none (by rw [zws_len]; omega)]
def zux (μ : Nat → Nat) (n q : Nat) : Nat → Nat := fun b => if b = n then q else μ b
theorem zux_lt {μ : Nat → Nat} {n q a : Nat} (h : a < n) : zux μ n q a = μ a := if_neg (by omega)
theorem zux_eq {μ : Nat → Nat} {n q : Nat} : zux μ n q n = q := if_pos rfl
theorem zws_push {κ : Nat → ClassId} {μ : Nat → Nat} {n q : Nat} {ρ : ZR} {σ : ZI} (hn : 100 ≤ n) (hb : zbR n ρ) : zws κ (zux μ n q) (n + 1) (zclrR ρ n) (zclr σ n) = zws κ μ n ρ σ ++ [(q, zcE κ (zux μ n q) (zclrR ρ n) (zclr σ n) n)] := by
  have h1 : zws κ (zux μ n q) (n + 1) (zclrR ρ n) (zclr σ n) = zws κ (zux μ n q) n (zclrR ρ n) (zclr σ n) ++ [(zux μ n q n, zcE κ (zux μ n q) (zclrR ρ n) (zclr σ n) n)] := by
    unfold zws
    rw [show n + 1 - 100 = (n - 100) + 1 by omega, List.range_succ, List.map_append, List.map_cons, List.map_nil, show 100 + (n - 100) = n by omega]
  rw [h1, zux_eq]
  congr 1
  exact zws_agree hb (fun a ha => zux_lt ha) (fun a ha => by funext j; unfold zclrR; rw [if_neg (by omega)]) (fun a ha => by funext j; unfold zclr; rw [if_neg (by omega)])
theorem zbR_push {n : Nat} {ρ : ZR} (hb : zbR n ρ) : zbR (n + 1) (zclrR ρ n) := by
  intro a k b ha h
  unfold zclrR at h
  split at h
  · cases h
  · have := hb a k b (by omega) h
    omega
theorem zbR_up {n : Nat} {ρ : ZR} (hb : zbR n ρ) {x k0 : Nat} {v : Option Nat} (hv : ∀ b, v = some b → b < n) : zbR n (zupR ρ x k0 v) := by
  intro a k b ha h
  unfold zupR at h
  split at h
  · exact hv b h
  · exact hb a k b ha h
/-! counters -/
def zsum : Nat → Nat
  | 0 => 0
  | n + 1 => zsum n + zln n
def cC (θ : ZT) : Nat := θ.1 + θ.2.1
def cS (θ : ZT) : Nat := zsum θ.1 + 6 * θ.2.1
/-! objects: how many fields -/
def zcnt : Nat → Nat
  | 0 => 3
  | 1 => 4
  | 2 => 14
  | 3 => 5
  | 4 => 6
  | 5 => 14
  | 6 => 21
  | _ => 0
theorem zkS_ln {o : Nat} (h : zkS o < 7) : zlS o = zcnt (zkS o) := by
  unfold zkS at h ⊢
  unfold zlS
  by_cases h0 : o = 0
  · rw [if_pos h0, if_pos h0]; rfl
  · rw [if_neg h0] at h ⊢
    rw [if_neg h0]
    by_cases h1 : o = 1
    · rw [if_pos h1, if_pos (by omega), h1]; rfl
    · rw [if_neg h1] at h ⊢
      by_cases h2 : o < 11
      · rw [if_pos h2] at h; omega
      · rw [if_neg h2] at h ⊢
        rw [if_neg h2]
        by_cases h3 : o = 11
        · rw [if_pos h3] at h; omega
        · rw [if_neg h3] at h ⊢
          rw [if_neg h3]
          by_cases h4 : (o - 12) % 10 = 0
          · rw [if_pos h4, h4]; rfl
          · rw [if_neg h4] at h; omega
theorem zln_obj {a : Nat} (h : zkd a < 7) : zln a = zcnt (zkd a) := by
  unfold zkd at h ⊢
  unfold zln
  by_cases c0 : a < 100
  · rw [if_pos c0] at h
    split at h
    · omega
    · split at h
      · omega
      · split at h <;> omega
  rw [if_neg c0] at h ⊢; rw [if_neg c0]
  by_cases c1 : a = 100
  · rw [if_pos c1, if_pos c1]; rfl
  rw [if_neg c1] at h ⊢; rw [if_neg c1]
  by_cases c2 : a < 1037
  · rw [if_pos c2] at h ⊢; rw [if_pos c2]; exact zkS_ln h
  rw [if_neg c2] at h ⊢; rw [if_neg c2]
  by_cases c3 : a = 1037
  · rw [if_pos c3, if_pos c3]; rfl
  rw [if_neg c3] at h ⊢; rw [if_neg c3]
  by_cases c4 : a = 1038
  · rw [if_pos c4] at h; omega
  rw [if_neg c4] at h ⊢; rw [if_neg c4]
  by_cases c5 : a < 3535
  · rw [if_pos c5] at h ⊢; rw [if_pos c5]; exact zkS_ln h
  rw [if_neg c5] at h ⊢; rw [if_neg c5]
  by_cases c6 : a = 3535
  · rw [if_pos c6, if_pos (by omega), c6]; rfl
  rw [if_neg c6] at h ⊢
  by_cases c7 : a < 3545
  · rw [if_pos c7] at h; omega
  rw [if_neg c7] at h ⊢; rw [if_neg c7]
  by_cases c8 : a = 3545
  · rw [if_pos c8, if_pos c8]; rfl
  rw [if_neg c8] at h ⊢; rw [if_neg c8]
  by_cases c9 : a = 3546
  · rw [if_pos c9] at h; omega
  rw [if_neg c9] at h ⊢
  by_cases d0 : a < 3550
  · rw [if_pos d0] at h; omega
  rw [if_neg d0] at h ⊢
  rw [if_neg (by omega), if_neg (by omega)]
  by_cases d1 : a = 3550
  · rw [if_pos d1, if_pos d1]; rfl
  rw [if_neg d1] at h ⊢; rw [if_neg d1]
  by_cases d2 : a = 3551
  · rw [if_pos d2] at h; omega
  rw [if_neg d2] at h ⊢; rw [if_neg d2]
  by_cases d3 : a = 3552
  · rw [if_pos d3] at h; omega
  rw [if_neg d3] at h ⊢; rw [if_neg d3]
  by_cases d4 : a = 3553
  · rw [if_pos d4, if_pos d4]; rfl
  rw [if_neg d4] at h
  split at h
  · omega
  · split at h
    · omega
    · split at h <;> omega
/-- the fields' types -/
def zTyp (ci k : Nat) : FieldType := match vwCl[ci]? with
  | some q => (parseFieldDescriptor (q.2.1 k).2.2.1).getD .int
  | none => .int
def zckT (ci : Nat) : Bool := match vwCl[ci]? with
  | some q => decide (q.2.2 = zcnt ci) && ((List.range q.2.2).all (fun k => decide (parseFieldDescriptor (q.2.1 k).2.2.1 = some (zTyp ci k) ∧ defaultValue (zTyp ci k) = if zrf ci k = true then Value.null else .int 0)) && (List.range q.2.2).all (fun a => (List.range q.2.2).all (fun b => decide (a ≠ b → (q.2.1 a).2.1 ≠ (q.2.1 b).2.1))))
  | none => true
theorem zckT_all : ∀ ci : Nat, zckT ci = true
  | 0 => by decide +kernel
  | 1 => by decide +kernel
  | 2 => by decide +kernel
  | 3 => by decide +kernel
  | 4 => by decide +kernel
  | 5 => by decide +kernel
  | 6 => by decide +kernel
  | _ + 7 => rfl
theorem zT_T {ci : Nat} {q : vw_C} (h : vwCl[ci]? = some q) : q.2.2 = zcnt ci ∧ (∀ k, k < q.2.2 → parseFieldDescriptor (q.2.1 k).2.2.1 = some (zTyp ci k)) ∧ (∀ k, k < q.2.2 → defaultValue (zTyp ci k) = if zrf ci k = true then Value.null else .int 0) ∧ ∀ a, a < q.2.2 → ∀ b, b < q.2.2 → a ≠ b → (q.2.1 a).2.1 ≠ (q.2.1 b).2.1 := by
  have h1 := zckT_all ci
  unfold zckT at h1
  rw [h] at h1
  simp only [Bool.and_eq_true, List.all_eq_true, List.mem_range, decide_eq_true_eq] at h1
  exact ⟨h1.1, fun k hk => (h1.2.1 k hk).1, fun k hk => (h1.2.1 k hk).2, fun a ha b hb => h1.2.2 a ha b hb⟩
/-! the start: what is known of the law's first state -/
abbrev zE : Type := va_G × ((Nat → ClassId) × ((Nat → Nat) × (ZI × State)))
def zTy (κ : Nat → ClassId) : List (ClassId × FieldType) := [(κ 10, .int), (κ 11, .boolean), (κ 12, .char), (κ 13, .long), (κ 14, .object RX3), (κ 15, .object RX2)]
def zA (s0 : State) : Nat → Prop := fun q => s0.heap.size ≤ q
def zFa (E : zE) : Prop :=
  (∃ A0 : Array Value, ∀ w ∈ lw_tbl, w.before A0 E.2.2.2.2 = true) ∧
  va_K E.1 vwCl (zTy E.2.1) E.2.2.2.2 ∧
  ((0 ≤ E.2.2.2.1 23 0 ∧ E.2.2.2.1 23 0 < 2147483648) ∧ E.2.2.1 0 < E.2.2.2.2.heap.size ∧ va_X (E.2.2.1 0) (E.2.2.2.1 23 0).toNat (fun j => Int32.ofInt (E.2.2.2.1 0 j)) E.2.2.2.2 E.2.2.2.2.heap) ∧
  (∀ a : Nat, 1 ≤ a → a < 12 → va_OF "java/lang/String" "coder" "B" (.int 0) (E.2.2.1 a) (zA E.2.2.2.2) E.2.2.2.2 E.2.2.2.2.heap ∧ va_OF "java/lang/String" "value" "[B" (.ref (E.2.2.1 (a + 11))) (E.2.2.1 a) (zA E.2.2.2.2) E.2.2.2.2 E.2.2.2.2.heap ∧
    va_O "java/lang/String" (E.2.2.1 a) (zA E.2.2.2.2) E.2.2.2.2 E.2.2.2.2.heap ∧ va_T .byte (E.2.2.1 (a + 11)) (zln (a + 11)) (fun j => .int (Int32.ofInt (E.2.2.2.1 (a + 11) j))) (zA E.2.2.2.2) E.2.2.2.2 E.2.2.2.2.heap) ∧
  (∀ (c i j : Nat), zlk i (zSTt c) = some j → (1 ≤ j ∧ j < 12) ∧ ∃ tx : String, vk_R (zcn c) i tx (E.2.2.1 j) E.2.2.2.2) ∧
  va_Z "java/lang/String" "COMPACT_STRINGS" "Z" (.int 1) (zA E.2.2.2.2) E.2.2.2.2 E.2.2.2.2.heap ∧
  va_Zq "jdk/internal/util/Preconditions" "SIOOBE_FORMATTER" "Ljava/util/function/BiFunction;" (zA E.2.2.2.2) E.2.2.2.2 E.2.2.2.2.heap ∧
  (vx_Zq Bundle.tN "UNASSIGNED_STACK" Bundle.steD (zA E.2.2.2.2) E.2.2.2.2 E.2.2.2.2.heap ∧ vx_Zq Bundle.tN "SUPPRESSED_SENTINEL" Bundle.listD (zA E.2.2.2.2) E.2.2.2.2 E.2.2.2.2.heap) ∧
  (∀ (i : Nat) (x : Nat × String), zlk i zMS = some x → ∃ sa : Nat, vk_R RX5 i x.2 sa E.2.2.2.2) ∧
  (∀ a b : Nat, a < 5 → b < 5 → a ≠ b → va_Nc (zEX a) (zEX b) E.2.2.2.2)
def zCx (E : zE) (s : State) : Prop := E.2.2.2.2.WarmedH s.vm ∧ E.2.2.2.2.heap.size ≤ s.heap.size ∧ ∀ q : Nat, q < E.2.2.2.2.heap.size → s.heap[q]? = E.2.2.2.2.heap[q]?
theorem zCx.kept {E : zE} {s : State} (h : zCx E s) : ∀ a : Nat, a < E.2.2.2.2.heap.size → ¬ zA E.2.2.2.2 a → s.heap[a]? = E.2.2.2.2.heap[a]? := fun a ha _ => h.2.2 a ha
/-- words that stay -/
def zgw (w : Cond) : Bool := match w with
  | .arrayClass _ => true
  | .fieldLinkNest _ _ _ _ _ _ => true
  | .methodLinkNest _ _ _ _ => true
  | w => w.onTables && w.keepsFace
theorem zword {s U : State} {A A' : Array Value} (hW : s.WarmedH U.vm) {w : Cond} (hg : zgw w = true) (h : w.before A s = true) : w.before A' U = true := by
  have key : ∀ w : Cond, (w.onTables && w.keepsFace) = true → w.before A s = true → w.before A' U = true := by
    intro w hg h
    rw [Bool.and_eq_true] at hg
    exact va_tabs hg.1 (rfl : (s.setVm U.vm).vm = U.vm) (Cond.before_shiftedFace (State.Shifted.of_warmed hW) w hg.2 h)
  unfold zgw at hg
  split at hg
  · exact word_at hW (Or.inr ⟨_, rfl⟩) h
  · exact va_Nw.use rfl (va_Nw.warmF hW (va_Nw.of rfl h))
  · exact va_Nw.use rfl (va_Nw.warmM hW (va_Nw.of rfl h))
  · exact key _ hg h
theorem zts {E : zE} {s : State} (hF : zFa E) (hC : zCx E s) {A : Array Value} {w : Cond} (hw : w ∈ lw_tbl) (hg : zgw w = true) : w.before A s = true := by
  obtain ⟨⟨A0, h0⟩, -⟩ := hF
  exact zword hC.1 hg (h0 w hw)
theorem zK_s {E : zE} {s : State} (hF : zFa E) (hC : zCx E s) : va_K E.1 vwCl (zTy E.2.1) s := va_K.moved hC.1.alike hF.2.1
/-- the words that any frame may ask for -/
def zTs : List Cond := lw_tbl.filter zgw
theorem zTs_all {E : zE} {s : State} (hF : zFa E) (hC : zCx E s) {A : Array Value} : ∀ w ∈ zTs, w.before A s = true := fun w hw => zts hF hC (List.mem_filter.mp hw).1 (List.mem_filter.mp hw).2
theorem zTs_in {w : Cond} (h : w ∈ lw_tbl) (hg : zgw w = true) : w ∈ zTs := List.mem_filter.mpr ⟨h, hg⟩
theorem zT_Ls {ci : Nat} {q : vw_C} (h : vwCl[ci]? = some q) : ∀ w ∈ u_ws q.1 q.2.1 q.2.2, w ∈ zTs := by
  intro w hw
  refine zTs_in (zT_L h w hw) ?_
  obtain ⟨k, -, rfl⟩ := List.mem_map.mp hw
  unfold u_lay
  split <;> rfl
/-! the relation -/
def zRep (E : zE) (μ : Nat → Nat) (θ : ZT) (σ : ZI) (H : Heap) : Prop :=
  100 ≤ θ.1 ∧ va_P E.1 vwCl (zws E.2.1 μ θ.1 θ.2.2 σ) H ∧ va_D (zA E.2.2.2.2) (zws E.2.1 μ θ.1 θ.2.2 σ) ∧ zbR θ.1 θ.2.2 ∧ (∀ a, a < 100 → μ a = E.2.2.1 a) ∧ ∀ a, a < 100 → σ a = E.2.2.2.1 a
/-- the frame's start: addresses then, how many, cells and slots taken off -/
abbrev zB : Type := (Nat → Nat) × (Nat × (Nat × (Nat × Nat)))
def zOn (E : zE) (B : zB) (s : State) (ls : ZL) (st : List ZV) (θ : ZT) (σ : ZI) (μ : Nat → Nat) (H : Heap) (locs : List Loc) (Ls : Array Slot) : Prop :=
  zRep E μ θ σ H ∧ va_S (zA E.2.2.2.2) s.heap H locs ∧ zlr μ Ls ls ∧ zbs θ.1 st ∧ zbl θ.1 ls ∧ (B.2.1 ≤ θ.1 ∧ ∀ a, a < B.2.1 → μ a = B.1 a) ∧ ls.length = B.2.2.2.2
def zGo (E : zE) (B : zB) (p : Program) (l : Launch) (e : Env) (R : Room) (s : State) (m : MethodId) (args : Array Value) (below : List Frame) (meth : Method) (c : Code) (Q : State → Prop) (pc : Nat) (ls : ZL) (st : List ZV) (θ : ZT) (σ : ZI) : Prop :=
  ∀ (μ : Nat → Nat) (H : Heap) (locs : List Loc) (Ls : Array Slot) (cells slots : Nat), cells + B.2.2.1 = cC θ → slots + B.2.2.2.1 = cS θ → zOn E B s ls st θ σ μ H locs Ls → W p l e R s m args below meth c H locs cells slots Q (F0 m pc Ls (st.map (cv μ)))
def zFr (E : zE) (r : ZM) (p : Program) (l : Launch) (R : Room) (s : State) (m : MethodId) (meth : Method) (c : Code) : Prop :=
  zFa E ∧ zCx E s ∧ p.tables.exec = Jvm.exec ∧ c.code = r.2.2.1 ∧ c.maxLocals = r.2.2.2.1 ∧ s.vm.findClass (zcn r.1) = some m.cls ∧ meth.locks = false ∧ meth.name = r.2.1.name ∧ r.2.2.2.2.2.2.1 ≤ R.frames ∧ r.2.2.2.2.2.2.2.1 ≤ R.locals ∧ l.stackTraces = false ∧ c.exceptionTable.toList = tableOf r.2.2.2.2.2.1 ∧ meth.sig.returnType = r.2.2.2.2.1
section ZFR
variable {E : zE} {r : ZM} {p : Program} {l : Launch} {R : Room} {s : State} {m : MethodId} {meth : Method} {c : Code}
theorem zFr.fa (h : zFr E r p l R s m meth c) : zFa E := h.1
theorem zFr.cx (h : zFr E r p l R s m meth c) : zCx E s := h.2.1
theorem zFr.ex (h : zFr E r p l R s m meth c) : p.tables.exec = Jvm.exec := h.2.2.1
theorem zFr.bc (h : zFr E r p l R s m meth c) : c.code = r.2.2.1 := h.2.2.2.1
theorem zFr.ml (h : zFr E r p l R s m meth c) : c.maxLocals = r.2.2.2.1 := h.2.2.2.2.1
theorem zFr.own (h : zFr E r p l R s m meth c) : s.vm.findClass (zcn r.1) = some m.cls := h.2.2.2.2.2.1
theorem zFr.lk (h : zFr E r p l R s m meth c) : meth.locks = false := h.2.2.2.2.2.2.1
theorem zFr.nm (h : zFr E r p l R s m meth c) : meth.name = r.2.1.name := h.2.2.2.2.2.2.2.1
theorem zFr.rf (h : zFr E r p l R s m meth c) : r.2.2.2.2.2.2.1 ≤ R.frames := h.2.2.2.2.2.2.2.2.1
theorem zFr.rl (h : zFr E r p l R s m meth c) : r.2.2.2.2.2.2.2.1 ≤ R.locals := h.2.2.2.2.2.2.2.2.2.1
theorem zFr.tr (h : zFr E r p l R s m meth c) : l.stackTraces = false := h.2.2.2.2.2.2.2.2.2.2.1
theorem zFr.et (h : zFr E r p l R s m meth c) : c.exceptionTable.toList = tableOf r.2.2.2.2.2.1 := h.2.2.2.2.2.2.2.2.2.2.2.1
theorem zFr.rt (h : zFr E r p l R s m meth c) : meth.sig.returnType = r.2.2.2.2.1 := h.2.2.2.2.2.2.2.2.2.2.2.2
theorem zFr.w (h : zFr E r p l R s m meth c) {A : Array Value} {w : Cond} (hw : w ∈ lw_tbl) (hg : zgw w = true) : w.before A s = true := zts h.fa h.cx hw hg
theorem zFr.K (h : zFr E r p l R s m meth c) : va_K E.1 vwCl (zTy E.2.1) s := zK_s h.fa h.cx
theorem zFr.A0 (h : zFr E r p l R s m meth c) : ∀ q, s.heap.size ≤ q → zA E.2.2.2.2 q := fun q hq => Nat.le_trans h.cx.2.1 hq
end ZFR
section ZON
variable {E : zE} {B : zB} {s : State} {ls : ZL} {st : List ZV} {θ : ZT} {σ : ZI} {μ : Nat → Nat} {H : Heap} {locs : List Loc} {Ls : Array Slot}
theorem zOn.to (h : zOn E B s ls st θ σ μ H locs Ls) {st' : List ZV} (hs : zbs θ.1 st') : zOn E B s ls st' θ σ μ H locs Ls := ⟨h.1, h.2.1, h.2.2.1, hs, h.2.2.2.2.1, h.2.2.2.2.2⟩
theorem zOn.push (h : zOn E B s ls st θ σ μ H locs Ls) {v : ZV} (hv : zb θ.1 v) : zOn E B s ls (v :: st) θ σ μ H locs Ls := h.to (zbs_cons hv h.2.2.2.1)
theorem zOn.pop {v : ZV} (h : zOn E B s ls (v :: st) θ σ μ H locs Ls) : zOn E B s ls st θ σ μ H locs Ls := h.to (zbs_tl h.2.2.2.1)
theorem zOn.hd {v : ZV} (h : zOn E B s ls (v :: st) θ σ μ H locs Ls) : zb θ.1 v := zbs_hd h.2.2.2.1
theorem zOn.get (h : zOn E B s ls st θ σ μ H locs Ls) {k : Nat} {v : ZV} (hk : ls.getD k none = some v) : Ls[k]? = some (.val (cv μ v)) := zlr_get h.2.2.1 hk
theorem zOn.gb (h : zOn E B s ls st θ σ μ H locs Ls) {k : Nat} {v : ZV} (hk : ls.getD k none = some v) : zb θ.1 v := h.2.2.2.2.1 k v (zgetD hk)
theorem zOn.loc (h : zOn E B s ls st θ σ μ H locs Ls) {ls' : ZL} {Ls' : Array Slot} (h1 : zlr μ Ls' ls') (h2 : zbl θ.1 ls') (h3 : ls'.length = ls.length) : zOn E B s ls' st θ σ μ H locs Ls' := ⟨h.1, h.2.1, h1, h.2.2.2.1, h2, h.2.2.2.2.2.1, h3.trans h.2.2.2.2.2.2⟩
theorem zOn.sz (h : zOn E B s ls st θ σ μ H locs Ls) : Ls.size = B.2.2.2.2 := h.2.2.1.1.trans h.2.2.2.2.2.2
end ZON
theorem nx_inj {n pc' : Nat} {ls ls' : ZL} {st st' : List ZV} {θ θ' : ZT} {σ σ' : ZI} (h : nx n ls st θ σ = some (.inl (pc', ls', st', θ', σ'))) : n = pc' ∧ ls = ls' ∧ st = st' ∧ θ = θ' ∧ σ = σ' := by
  unfold nx at h
  cases h
  exact ⟨rfl, rfl, rfl, rfl, rfl⟩
theorem nrt_nx {n : Nat} {o : ZO} {ls' : ZL} {st' : List ZV} {θ θ' : ZT} {σ σ' : ZI} (h : nrt o θ σ = some (.inl (n, ls', st', θ', σ'))) : False := by
  unfold nrt at h
  cases h
theorem ncl_nx {n mj k : Nat} {vs rest : List ZV} {ls' : ZL} {st' : List ZV} {θ' : ZT} {σ' : ZI} (h : ncl mj vs rest k = some (.inl (n, ls', st', θ', σ'))) : False := by
  unfold ncl at h
  cases h
