/-! WHAT THE START GIVES -/
def zfl0 : List Cond := flatC (Jvm.Cond.and given_1 narrow_1)
def zfw (p : Nat) (w : Cond) : Bool := match zfl0[p]? with
  | some x => decide (x = w)
  | none => false
theorem zfw_in {p : Nat} {w : Cond} (h : zfw p w = true) {A : Array Value} {s : State} (hg : (Jvm.Cond.and given_1 narrow_1).before A s = true) : w.before A s = true := by
  unfold zfw at h
  split at h
  next x hx =>
    have e : x = w := of_decide_eq_true h
    subst e
    exact flat_of_before _ hg _ (List.mem_of_getElem? hx)
  next => cases h
abbrev zStr : Type := Nat × (Nat × (Nat × (Nat × (String × List Nat))))
def zSL : List zStr := [(4, 64, 620, 974, "h00u", [104, 48, 48, 117]), (4, 66, 628, 975, "x0", [120, 48]), (4, 68, 634, 976, "p00=0", [112, 48, 48, 61, 48]), (4, 70, 643, 977, "t0=N", [116, 48, 61, 78]), (4, 72, 651, 978, "k0", [107, 48]), (4, 74, 657, 979, "m0", [109, 48]), (4, 76, 663, 980, "s0", [115, 48]), (4, 78, 669, 981, "b", [98]), (4, 80, 674, 982, "z", [122]), (6, 163, 806, 1393, "NRLU", [78, 82, 76, 85]), (6, 191, 814, 1427, "urdl", [117, 114, 100, 108])]
def zStm (e : zStr) : Term := .string (zcn e.1) e.2.1
def zSval (e : zStr) : Term := .field (zStm e) "java/lang/String" "value" "[B"
def zckStr (e : zStr) : Bool := zfw e.2.2.1 (.exactly (zStm e) "java/lang/String") && (zfw (e.2.2.1 + 1) (.eq (.field (zStm e) "java/lang/String" "coder" "B") (.int 0)) && (zfw (e.2.2.1 + 2) (.arrayOf (zSval e) .byte) && (zfw (e.2.2.1 + 3) (.eq (.length (zSval e)) (.int (Int32.ofNat e.2.2.2.2.2.length))) && ((List.range e.2.2.2.2.2.length).all (fun j => zfw (e.2.2.1 + 4 + j) (.eq (.elem (zSval e) (.int (Int32.ofNat j))) (.int (Int32.ofNat (e.2.2.2.2.2.getD j 0))))) && zw e.2.2.2.1 (.stringRef (zcn e.1) e.2.1 e.2.2.2.2.1)))))
theorem zckStr_all : zSL.all zckStr = true := by decide +kernel
def zckST (c : Nat) : Bool := (zSTt c).all fun e => match zSL[e.2 - 1]? with
  | some x => decide ((1 ≤ e.2 ∧ e.2 < 12) ∧ x.1 = c ∧ x.2.1 = e.1)
  | none => false
theorem zckST_all : ∀ c : Nat, zckST c = true
  | 0 => by decide +kernel
  | 1 => by decide +kernel
  | 2 => by decide +kernel
  | 3 => by decide +kernel
  | 4 => by decide +kernel
  | 5 => by decide +kernel
  | 6 => by decide +kernel
  | 7 => by decide +kernel
  | 8 => by decide +kernel
  | 9 => by decide +kernel
  | 10 => by decide +kernel
  | _ + 11 => rfl
def zMX : List (Nat × Nat) := [(344, 92), (348, 124), (351, 155), (357, 183), (363, 208), (139, 232), (165, 259), (175, 288), (365, 319), (367, 352), (214, 396), (219, 438), (224, 478), (229, 504), (236, 530), (260, 554), (267, 584), (280, 679), (303, 704), (321, 727), (329, 755), (339, 782)]
theorem zckMX : (zMS.zip zMX).all (fun e => decide (e.1.1 = e.2.1) && (zfw e.2.2 (.exactly (.string RX5 e.1.1) "java/lang/String") && decide (zMS.length = zMX.length))) = true := by decide +kernel
def zNX : Nat → Nat → Nat
  | 0, 1 => 29
  | 0, 2 => 40
  | 0, 3 => 51
  | 0, 4 => 62
  | 1, 0 => 19
  | 1, 2 => 41
  | 1, 3 => 53
  | 1, 4 => 64
  | 2, 0 => 18
  | 2, 1 => 30
  | 2, 3 => 52
  | 2, 4 => 63
  | 3, 0 => 20
  | 3, 1 => 31
  | 3, 2 => 42
  | 3, 4 => 65
  | 4, 0 => 21
  | 4, 1 => 32
  | 4, 2 => 43
  | 4, 3 => 54
  | _, _ => 0
theorem zckNX : (List.range 5).all (fun a => (List.range 5).all fun b => decide (a = b) || zfw (zNX a b) (.not (.castable (zEX a) (zEX b)))) = true := by decide +kernel
def zbyt (j k : Nat) : Nat := match zSL[j - 1]? with
  | some e => e.2.2.2.2.2.getD k 0
  | none => 0
/-- the ints that stand at addresses below 100 -/
def zs0 (L : Nat) (xs : Nat → Int32) : ZI := fun a k => if a = 0 then (xs k).toInt else if a = 23 then (if k = 0 then (L : Int) else 0) else if 12 ≤ a ∧ a < 23 then (zbyt (a - 11) k : Int) else 0
def zt0 : ZT := (100, 0, fun _ _ => none)
theorem zckLn : (List.range 11).all (fun k => match zSL[k]? with | some e => decide (zln (12 + k) = e.2.2.2.2.2.length) && decide (e.2.2.2.2.2.length < 1000) | none => false) = true := by decide +kernel
section ZST0
variable {A : Array Value} {s : State}
theorem zprim {ty : FieldType} (h : (Cond.arrayClass ty).before A s = true) : ∃ cA, ArrOfT s cA ty ∧ s.vm.findClass ("[" ++ ty.toString) = some cA := by
  obtain ⟨c, k, comp, h1, h2, h3⟩ := Cond.arrayClass_spec (args := A) (first := s) (o := none) (s := s) (idx := []) h
  exact ⟨c, fun n z => ⟨(fun k h => by cases h), k, h2, comp, h3⟩, h1⟩
theorem zrefa {C : String} (h : (Cond.arrayOver (.object C)).before A s = true) : ∃ cA, ArrOfT s cA (.object C) ∧ va_RA s cA (.object C) := by
  obtain ⟨comp, c, k, h1, -, h2, h3, h4⟩ := Cond.arrayOver_spec (args := A) (first := s) (o := none) (s := s) (idx := []) h
  exact ⟨c, fun n z => ⟨(fun k h => by cases h), k, h2, comp, h3⟩, k, comp, h2, h3, h1, h4⟩
theorem zK0 (hts : ∀ w ∈ lw_tbl, w.before A s = true) : ∃ (D : va_G) (κ : Nat → ClassId), va_K D vwCl (zTy κ) s := by
  have h0 : ∀ k : Nat, ∃ x : ClassId × (Nat → Nat), ∀ q : vw_C, vwCl[k]? = some q → u_Kn s q.1 q.2.1 q.2.2 x.1 x.2 := by
    intro k
    cases hq : vwCl[k]? with
    | none => exact ⟨(0, fun _ => 0), fun q h => nomatch h⟩
    | some q =>
      have hk : k < 7 := (List.getElem?_eq_some_iff.mp hq).1
      have hin : .instantiable q.1 q.2.2 ∈ lw_tbl := by
        have hh : k = 0 ∨ k = 1 ∨ k = 2 ∨ k = 3 ∨ k = 4 ∨ k = 5 ∨ k = 6 := by omega
        rcases hh with rfl | rfl | rfl | rfl | rfl | rfl | rfl
        · cases hq; exact zw_in (p := 112) (by decide +kernel)
        · cases hq; exact zw_in (p := 134) (by decide +kernel)
        · cases hq; exact zw_in (p := 37) (by decide +kernel)
        · cases hq; exact zw_in (p := 31) (by decide +kernel)
        · cases hq; exact zw_in (p := 154) (by decide +kernel)
        · cases hq; exact zw_in (p := 23) (by decide +kernel)
        · cases hq; exact zw_in (p := 1104) (by decide +kernel)
      obtain ⟨c, iS, hKn⟩ := u_known (C := q.1) (T := q.2.1) (N := q.2.2) (n := q.2.2) hts (zT_L hq) (hts _ hin)
      exact ⟨(c, iS), fun q' h => by cases h; exact hKn⟩
  obtain ⟨ad, had⟩ := Classical.axiomOfChoice h0
  obtain ⟨c0, a0, b0⟩ := zprim (hts _ zw_int)
  obtain ⟨c1, a1, b1⟩ := zprim (hts _ zw_bool)
  obtain ⟨c2, a2, b2⟩ := zprim (hts _ zw_char)
  obtain ⟨c3, a3, b3⟩ := zprim (hts _ zw_long)
  obtain ⟨c4, a4, b4⟩ := zrefa (hts _ zw_story)
  obtain ⟨c5, a5, b5⟩ := zrefa (hts _ zw_lawn)
  refine ⟨(fun k => (ad k).1, fun k => (ad k).2), fun k => if k = 10 then c0 else if k = 11 then c1 else if k = 12 then c2 else if k = 13 then c3 else if k = 14 then c4 else c5, fun k q hq => had k q hq, fun k q hq => ?_⟩
  have hh : k = 0 ∨ k = 1 ∨ k = 2 ∨ k = 3 ∨ k = 4 ∨ k = 5 := by
    have hk : k < 6 := (List.getElem?_eq_some_iff.mp hq).1
    omega
  rcases hh with rfl | rfl | rfl | rfl | rfl | rfl
  · cases hq; exact ⟨a0, b0⟩
  · cases hq; exact ⟨a1, b1⟩
  · cases hq; exact ⟨a2, b2⟩
  · cases hq; exact ⟨a3, b3⟩
  · cases hq; exact ⟨a4, b4⟩
  · cases hq; exact ⟨a5, b5⟩
theorem zstr0 {X : Nat → Prop} (hg : (Jvm.Cond.and given_1 narrow_1).before A s = true) (hts : ∀ w ∈ lw_tbl, w.before A s = true) (hX : ∀ a : Nat, a < s.heap.size → ¬ X a) {e : zStr} (he : e ∈ zSL) : ∃ q : Nat × Nat, vk_R (zcn e.1) e.2.1 e.2.2.2.2.1 q.1 s ∧ va_O "java/lang/String" q.1 X s s.heap ∧ va_OF "java/lang/String" "coder" "B" (.int 0) q.1 X s s.heap ∧ va_OF "java/lang/String" "value" "[B" (.ref q.2) q.1 X s s.heap ∧ (e.2.2.2.2.2.length < 1000 → va_T .byte q.2 e.2.2.2.2.2.length (fun j => .int (Int32.ofNat (e.2.2.2.2.2.getD j 0))) X s s.heap) := by
  have h1 := zall_in zckStr_all he
  unfold zckStr at h1
  simp only [Bool.and_eq_true, List.all_eq_true, List.mem_range] at h1
  obtain ⟨g1, g2, g3, g4, g5, g6⟩ := h1
  have k1 := zfw_in g1 hg
  obtain ⟨a, c, cA, kA, q1, q2, q3, q4, q5, q6, -⟩ := Cond.exactly_spec (args := A) (first := s) (o := none) (s := s) (idx := []) (t := zStm e) (cls := "java/lang/String") k1
  by_cases hl : e.2.2.2.2.2.length < 1000
  · obtain ⟨t, ht, hT⟩ := va_Tof (f := fun j => .int (Int32.ofNat (e.2.2.2.2.2.getD j 0))) (A := X) (by omega) (zfw_in g3 hg) (va_eqt (zfw_in g4 hg)) (fun j hj => va_eqt (zfw_in (g5 j hj) hg)) hX
    exact ⟨(a, t), vk_R.of (hts _ (zw_in g6)) q1, va_Oof k1 q1 hX, vk_OFof q1 (va_eqt (zfw_in g2 hg)) hX, vk_OFof q1 ht hX, fun _ => hT⟩
  · have hck := zckLn
    rw [List.all_eq_true] at hck
    obtain ⟨i, hi, hei⟩ := List.getElem_of_mem he
    have h2 := hck i (List.mem_range.mpr hi)
    rw [List.getElem?_eq_getElem hi, hei] at h2
    simp only [Bool.and_eq_true, decide_eq_true_eq] at h2
    exact absurd h2.2 hl
end ZST0
theorem zFa0 {s : State} {b L : Nat} {xs : Nat → Int32} (hL : L ≤ 2048) (hts : ∀ w ∈ lw_tbl, w.before #[Value.ref b] s = true) (hX : va_X b L xs s s.heap) (hbl : b < s.heap.size) (hg : (Jvm.Cond.and given_1 narrow_1).before #[Value.ref b] s = true) : ∃ E : zE, zFa E ∧ E.2.2.2.2 = s ∧ E.2.2.1 0 = b ∧ E.2.2.2.1 = zs0 L xs := by
  have hA : ∀ a : Nat, a < s.heap.size → ¬ zA s a := fun a h => Nat.not_le.mpr h
  obtain ⟨D, κ, hK⟩ := zK0 hts
  have h0 : ∀ j : Nat, ∃ q : Nat × Nat, ∀ e : zStr, zSL[j - 1]? = some e → vk_R (zcn e.1) e.2.1 e.2.2.2.2.1 q.1 s ∧ va_O "java/lang/String" q.1 (zA s) s s.heap ∧ va_OF "java/lang/String" "coder" "B" (.int 0) q.1 (zA s) s s.heap ∧ va_OF "java/lang/String" "value" "[B" (.ref q.2) q.1 (zA s) s s.heap ∧ (e.2.2.2.2.2.length < 1000 → va_T .byte q.2 e.2.2.2.2.2.length (fun j => .int (Int32.ofNat (e.2.2.2.2.2.getD j 0))) (zA s) s s.heap) := by
    intro j
    cases he : zSL[j - 1]? with
    | none => exact ⟨(0, 0), fun e h => nomatch h⟩
    | some e =>
      obtain ⟨q, hq⟩ := zstr0 (X := zA s) hg hts hA (List.mem_of_getElem? he)
      exact ⟨q, fun e' h => by cases h; exact hq⟩
  obtain ⟨ad, had⟩ := Classical.axiomOfChoice h0
  refine ⟨(D, κ, (fun a => if a = 0 then b else if a < 12 then (ad a).1 else (ad (a - 11)).2), zs0 L xs, s), ?_, rfl, rfl, rfl⟩
  have ex : ∀ j : Nat, 1 ≤ j → j < 12 → ∃ e, zSL[j - 1]? = some e := fun j h1 h2 => ⟨_, List.getElem?_eq_getElem (by show j - 1 < 11; omega)⟩
  refine ⟨⟨_, hts⟩, hK, ⟨⟨?_, ?_⟩, hbl, ?_⟩, ?_, ?_, ?_, ?_, ⟨?_, ?_⟩, ?_, ?_⟩
  · show (0 : Int) ≤ (L : Int); omega
  · show (L : Int) < 2147483648; omega
  · have e1 : ((zs0 L xs 23 0).toNat) = L := by show ((L : Int)).toNat = L; omega
    have e2 : (fun j => Int32.ofInt (zs0 L xs 0 j)) = xs := funext fun j => Int32.ofInt_toInt (xs j)
    show va_X b (zs0 L xs 23 0).toNat (fun j => Int32.ofInt (zs0 L xs 0 j)) s s.heap
    rw [e1, e2]
    exact hX
  · intro a h1 h2
    obtain ⟨e, he⟩ := ex a h1 h2
    obtain ⟨-, g2, g3, g4, g5⟩ := had a e he
    have hck := zckLn
    rw [List.all_eq_true] at hck
    have h3 := hck (a - 1) (List.mem_range.mpr (by omega))
    rw [he] at h3
    simp only [Bool.and_eq_true, decide_eq_true_eq] at h3
    have em : (if a = 0 then b else if a < 12 then (ad a).1 else (ad (a - 11)).2) = (ad a).1 := by rw [if_neg (by omega), if_pos h2]
    have ev : (if a + 11 = 0 then b else if a + 11 < 12 then (ad (a + 11)).1 else (ad (a + 11 - 11)).2) = (ad a).2 := by rw [if_neg (by omega), if_neg (by omega), show a + 11 - 11 = a by omega]
    have g6 := g5 h3.2
    rw [show 12 + (a - 1) = a + 11 by omega] at h3
    have ef : (fun j => Value.int (Int32.ofInt (zs0 L xs (a + 11) j))) = fun j => Value.int (Int32.ofNat (e.2.2.2.2.2.getD j 0)) := by
      funext j
      have : zs0 L xs (a + 11) j = ((e.2.2.2.2.2.getD j 0 : Nat) : Int) := by
        unfold zs0 zbyt
        rw [if_neg (by omega), if_neg (by omega), if_pos (by omega), show a + 11 - 11 = a by omega, he]
      rw [this, n32_nat]
    refine ⟨?_, ?_, ?_, ?_⟩
    · show va_OF _ _ _ _ (if a = 0 then b else if a < 12 then (ad a).1 else (ad (a - 11)).2) _ _ _
      rw [em]; exact g3
    · show va_OF _ _ _ (.ref (if a + 11 = 0 then b else if a + 11 < 12 then (ad (a + 11)).1 else (ad (a + 11 - 11)).2)) (if a = 0 then b else if a < 12 then (ad a).1 else (ad (a - 11)).2) _ _ _
      rw [em, ev]; exact g4
    · show va_O _ (if a = 0 then b else if a < 12 then (ad a).1 else (ad (a - 11)).2) _ _ _
      rw [em]; exact g2
    · show va_T .byte (if a + 11 = 0 then b else if a + 11 < 12 then (ad (a + 11)).1 else (ad (a + 11 - 11)).2) (zln (a + 11)) (fun j => Value.int (Int32.ofInt (zs0 L xs (a + 11) j))) _ _ _
      rw [ev, ef, h3.1]; exact g6
  · intro c i j h
    have h1 := zall_in (zckST_all c) (zlk_in h)
    split at h1
    next x hx =>
      obtain ⟨⟨h2, h3⟩, h4, h5⟩ := of_decide_eq_true h1
      refine ⟨⟨h2, h3⟩, x.2.2.2.2.1, ?_⟩
      obtain ⟨g1, -⟩ := had j x hx
      rw [h4, h5] at g1
      show vk_R (zcn c) i _ (if j = 0 then b else if j < 12 then (ad j).1 else (ad (j - 11)).2) s
      rw [if_neg (by omega), if_pos h3]
      exact g1
    next => cases h1
  · exact va_Zof (hts _ (zw_in (p := 992) (by decide +kernel))) (hts _ (zw_in (p := 17) (by decide +kernel))) (va_eqt (zfw_in (p := 6) (by decide +kernel) hg)) hA
  · exact va_Zqof (hts _ (zw_in (p := 1008) (by decide +kernel))) (hts _ (zw_in (p := 19) (by decide +kernel))) (zfw_in (p := 7) (by decide +kernel) hg) hA
  · exact vx_Zqof (hts _ (zw_in (p := 419) (by decide +kernel))) (hts _ (zw_in (p := 8) (by decide +kernel))) (zfw_in (p := 4) (by decide +kernel) hg) hA
  · exact vx_Zqof (hts _ (zw_in (p := 421) (by decide +kernel))) (hts _ (zw_in (p := 8) (by decide +kernel))) (zfw_in (p := 5) (by decide +kernel) hg) hA
  · intro i x h
    have hm := zlk_in h
    have hz := zckMX
    have hlen : zMS.length = zMX.length := by decide
    obtain ⟨y, hy⟩ := zip_in hlen hm
    have h1 := zall_in hz hy
    simp only [Bool.and_eq_true, decide_eq_true_eq] at h1
    have k1 := zfw_in h1.2.1 hg
    obtain ⟨a, c, cA, kA, q1, -⟩ := Cond.exactly_spec (args := #[Value.ref b]) (first := s) (o := none) (s := s) (idx := []) (t := .string RX5 i) (cls := "java/lang/String") k1
    have hx := zall_in zckX_all hm
    exact ⟨a, vk_R.of (hts _ (zw_in hx)) q1⟩
  · intro a c h1 h2 hne
    have hz := zckNX
    rw [List.all_eq_true] at hz
    have h3 := hz a (List.mem_range.mpr h1)
    rw [List.all_eq_true] at h3
    have h4 := h3 c (List.mem_range.mpr h2)
    rw [Bool.or_eq_true] at h4
    rcases h4 with h4 | h4
    · exact absurd (of_decide_eq_true h4) hne
    · exact va_Nc.of (zfw_in h4 hg)
