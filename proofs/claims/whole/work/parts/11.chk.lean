/-! String.checkIndex, as the class calls it -/
abbrev zNo : Nat → Prop := fun _ => False
def zck3 : List Cond := [.code yJ3_checkIndex_8e157 cJ3_checkIndex_8e157 3 (some .int)]
def zck0 : List Cond := [.code yJ0_checkIndex_df160 cJ0_checkIndex_df160 2 none]
def zckA (x y : Int) : Array Value → State → Prop := fun a _ => ∃ v : Option Nat, a = [Value.int (Int32.ofInt x), .int (Int32.ofInt y), va_rf v].toArray
def zckB (E : zE) (x y : Int) : Array Value → State → Prop := fun a U => a = [Value.int (Int32.ofInt x), .int (Int32.ofInt y)].toArray ∧ zCx E U
theorem zcat1 {v : Option Nat} : (va_rf v).category = 1 := by cases v <;> rfl
/-- the start's cells stay in every later heap of the frame -/
theorem zCx.to {E : zE} {s U : State} {locs : List Loc} (h : zCx E s) (hW : s.WarmedH U.vm) (hS : va_S (zA E.2.2.2.2) s.heap U.heap locs) : zCx E U :=
  ⟨State.WarmedH.trans h.1 hW, Nat.le_trans h.2.1 hS.1, fun q hq => (hS.2.1 q (Nat.lt_of_lt_of_le hq h.2.1) (fun z => absurd z (Nat.not_le.mpr hq))).trans (h.2.2 q hq)⟩
theorem zck_P {l : Launch} {x y : Int} (hx : zinR x) (hy : zinR y) (h0 : 0 ≤ x) (h1 : x < y) : Met l yJ3_checkIndex_8e157 zck3 {} (zckA x y) (va_Qi (fun r (_ : Unit) => r = Int32.ofInt x) (fun _ _ => True) zNo) 0 0 zNo := by
  refine va_MetF (by decide +kernel) rfl ?_
  rintro p e s m args below meth c s₁ Bd hml ⟨v, rfl⟩
  have hcat : ∀ w ∈ [Value.int (Int32.ofInt x), .int (Int32.ofInt y), va_rf v], w.category = 1 := by
    intro w hw
    simp only [List.mem_cons, List.not_mem_nil, or_false] at hw
    rcases hw with rfl | rfl | rfl
    · rfl
    · rfl
    · exact zcat1
  rw [entry_eq m _ hcat 3]
  have hn : ¬ Int32.ofInt x < 0 := fun z => absurd ((n32_lt hx n32_in0).mp z) (by omega)
  have hlt : Int32.ofInt x < Int32.ofInt y := (n32_lt hx hy).mpr h1
  have d1 : decode cJ3_checkIndex_8e157 1 = .ok (.ifCond .lt 8, 3) := by decide +kernel
  have d6 : decode cJ3_checkIndex_8e157 6 = .ok (.if_icmp .lt 10, 3) := by decide +kernel
  refine lv_iload_n (i := 0) (k := 0) (x := Int32.ofInt x) Bd.exec Bd.bytes (by decide +kernel) rfl rfl ?_
  refine lv_if_lt (tgt := 9) Bd.exec Bd.bytes d1 (by decide) (fun z => absurd z hn) (fun _ => ?_)
  refine lv_iload_n (i := 0) (k := 0) (x := Int32.ofInt x) Bd.exec Bd.bytes (by decide +kernel) rfl rfl ?_
  refine lv_iload_n (i := 1) (k := 1) (x := Int32.ofInt y) Bd.exec Bd.bytes (by decide +kernel) rfl rfl ?_
  refine lv_icmp_lt (tgt := 16) Bd.exec Bd.bytes d6 (by decide) (fun _ => ?_) (fun z => absurd hlt z)
  refine lv_iload_n (i := 0) (k := 0) (x := Int32.ofInt x) Bd.exec Bd.bytes (by decide +kernel) rfl rfl ?_
  exact W.zret (v := Int32.ofInt x) (ty := .int) Bd.exec Bd.bytes Bd.returns rfl (fun t ht _ => ⟨⟨_, (), rfl, rfl, trivial⟩, Nat.le_of_eq (by rw [ht]), fun q _ _ => by rw [ht]⟩) (fun q hq => nomatch hq) (by decide +kernel) Bd.notSynchronized
theorem zck_S {E : zE} {l : Launch} (hfa : zFa E) {x y : Int} (hx : zinR x) (hy : zinR y) (h0 : 0 ≤ x) (h1 : x < y) : Met l yJ0_checkIndex_df160 zck0 { frames := 1, locals := 22 } (zckB E x y) (va_Qv (fun (_ : Unit) => True) (fun _ _ => True) zNo) 0 0 zNo := by
  refine va_MetF (by decide +kernel) rfl ?_
  rintro p e s m args below meth c s₁ Bd hml ⟨rfl, hC⟩
  have hcat : ∀ w ∈ [Value.int (Int32.ofInt x), .int (Int32.ofInt y)], w.category = 1 := by
    intro w hw
    simp only [List.mem_cons, List.not_mem_nil, or_false] at hw
    rcases hw with rfl | rfl <;> rfl
  rw [entry_eq m _ hcat 2]
  have hown : s.vm.findClass RJ0 = some m.cls := findClass_of_methodNamed Bd.named
  have hw : ∀ {a : Array Value} {w : Cond}, w ∈ lw_tbl → zgw w = true → w.before a s = true := fun h g => zts hfa hC h g
  have hS : va_S (zA E.2.2.2.2) s.heap s.heap [] := va_S.rf
  refine lv_iload_n (i := 0) (k := 0) (x := Int32.ofInt x) Bd.exec Bd.bytes (by decide +kernel) rfl rfl ?_
  refine lv_iload_n (i := 1) (k := 1) (x := Int32.ofInt y) Bd.exec Bd.bytes (by decide +kernel) rfl rfl ?_
  suffices K : ∀ v : Option Nat, W p l e (headSpec zck0 { frames := 1, locals := 22 }).room s m [Value.int (Int32.ofInt x), .int (Int32.ofInt y)].toArray below meth c s.heap [] 0 0 (MQ below (va_Qv (fun (_ : Unit) => True) (fun _ _ => True) zNo) [Value.int (Int32.ofInt x), .int (Int32.ofInt y)].toArray s 0 0 zNo) (F0 m 5 (([Value.int (Int32.ofInt x), .int (Int32.ofInt y)].map Slot.val ++ List.replicate (2 - [Value.int (Int32.ofInt x), .int (Int32.ofInt y)].length) Slot.unset).toArray) [va_rf v, .int (Int32.ofInt y), .int (Int32.ofInt x)]) by
    have hZ : va_Zq "jdk/internal/util/Preconditions" "SIOOBE_FORMATTER" "Ljava/util/function/BiFunction;" (zA E.2.2.2.2) s s.heap := (va_Zq.moved hC.1.alike hfa.2.2.2.2.2.2.1).kept hC.kept
    have hl : .fieldLink RJ0 1053 "jdk/internal/util/Preconditions" "SIOOBE_FORMATTER" "Ljava/util/function/BiFunction;" ∈ lw_tbl := zw_in (p := 1007) (by decide +kernel)
    rcases hZ with hZ | ⟨t, hZ⟩
    · exact va_gets Bd.exec Bd.bytes hZ hS hown (hw hl rfl) (fun _ h => h) (by decide +kernel) (K none)
    · exact va_gets Bd.exec Bd.bytes hZ hS hown (hw hl rfl) (fun _ h => h) (by decide +kernel) (K (some t))
  intro v
  have hc1 : .code yJ3_checkIndex_8e157 cJ3_checkIndex_8e157 3 (some .int) ∈ lw_tbl := zw_in (p := 1011) (by decide +kernel)
  have hrow : ∀ w ∈ zck3, ∀ (a' : Array Value) (U : State), s.WarmedH U.vm → w.before a' U = true := by
    intro w hw2 a' U hU
    have e1 : w = _ := List.mem_singleton.mp hw2
    subst e1
    exact zword hU rfl (hw (a := #[]) hc1 rfl)
  have d5 : decode cJ0_checkIndex_df160 5 = .ok (.invokestatic 1059, 3) := by decide +kernel
  refine va_calli (va_runS (index := 1059) (As := [Value.int (Int32.ofInt x), .int (Int32.ofInt y), va_rf v]) (rest := []) (Ts := []) (own := RJ0) (rm := {}) (n := 3) ⟨Bd.exec, Bd.bytes, hml, hown, fun _ h => nomatch h⟩ (zck_P hx hy h0 h1)
    ⟨⟨rfl, rfl, Nat.le_of_ble_eq_true rfl, Nat.le_of_ble_eq_true rfl, hrow, List.mem_singleton.mpr rfl, hw hc1 rfl, hw (zw_in (p := 19) (by decide +kernel)) rfl, by decide, ?_, hw (zw_in (p := 1009) (by decide +kernel)) rfl⟩, hw (zw_in (p := 1010) (by decide +kernel)) rfl⟩
    ⟨fun a U g mk q => q, fun U hU hW => ⟨v, rfl⟩⟩ rfl rfl rfl rfl (Nat.zero_le _) d5 ⟨Nat.le_of_ble_eq_true rfl, Nat.le_of_ble_eq_true rfl⟩) (va_S.rf : va_S zNo s.heap s.heap []) (fun q _ h => h.elim) (fun q h => h.elim) (fun r u t H1 locs ht hvm hr _ hz1 hk1 hS1 => ?_)
  · intro sig hsig
    have h2 : (parseMethodDescriptor yJ3_checkIndex_8e157.desc).map (fun d => d.parameters.length) = some 3 := by decide +kernel
    rw [hsig] at h2
    exact (Option.some.inj h2).symm
  · refine lv_pop Bd.exec Bd.bytes (by decide +kernel) rfl ?_
    exact W.vret (cells := 0) (slots := 0) Bd.exec Bd.bytes Bd.returns (fun t' ht' _ => ⟨⟨(), rfl, trivial, trivial⟩, by rw [ht']; exact hS1.1, fun q hq _ => by rw [ht']; exact hS1.2.1 q hq id⟩) hS1.2.2 (by decide +kernel) Bd.notSynchronized
section ZSC
variable {E : zE} {B : zB} {p : Program} {l : Launch} {e : Env} {R : Room} {s : State} {m : MethodId} {args : Array Value} {below : List Frame} {meth : Method} {c : Code} {Q : State → Prop} {r : ZM} {pc pc' : Nat} {ls ls' : ZL} {st st' : List ZV} {θ θ' : ZT} {σ σ' : ZI}
theorem zOn.heap {μ : Nat → Nat} {H H1 : Heap} {locs locs1 : List Loc} {Ls : Array Slot} (h : zOn E B s ls st θ σ μ H locs Ls) (hk : ∀ q : Nat, q < H.size → H1[q]? = H[q]?) (hS : va_S (zA E.2.2.2.2) s.heap H1 locs1) : zOn E B s ls st θ σ μ H1 locs1 Ls := by
  obtain ⟨⟨g1, g2, g3⟩, -, h3⟩ := h
  exact ⟨⟨g1, g2.kept fun k q hq => hk _ (vx_lt g2 hq), g3⟩, hS, h3⟩
theorem zcvs_sum {μ : Nat → Nat} {st : List ZV} : ((st.map (cv μ)).map fun v => v.category).sum = (st.map z_w).sum := by
  rw [List.map_map]
  congr 1
  exact List.map_congr_left fun v _ => cv_cat μ v
theorem s_chk {i mj pl : Nat} (hF : zFr E r p l R s m meth c) (hdg : decode r.2.2.1 pc = .ok (.invokestatic i, 3)) (hz : zlk i (zCT r.1) = some (8, mj, pl)) (h1 : 3 ≤ r.2.2.2.2.2.2.1) (h2 : 63 ≤ r.2.2.2.2.2.2.2.1) (hR : cC θ ≤ B.2.2.1 + R.cells ∧ cS θ ≤ B.2.2.2.1 + R.slots) (hB : B.2.2.2.2 = r.2.2.2.1) (h : o_chk (pc + 3) ls st θ σ = some (.inl (pc', ls', st', θ', σ'))) (k : zGo E B p l e R s m args below meth c Q pc' ls' st' θ' σ') : zGo E B p l e R s m args below meth c Q pc ls st θ σ := by
  intro μ H locs Ls cells slots hc hs O
  unfold o_chk at h
  split at h
  next y x rest =>
    split at h
    next hh =>
      cases h
      obtain ⟨⟨hx, hy⟩, ⟨h0, hlt⟩, hsum⟩ := hh
      obtain ⟨hl, hcl⟩ := zT_C8 hz
      have hc1 : .code yJ0_checkIndex_df160 cJ0_checkIndex_df160 2 none ∈ lw_tbl := zw_in (p := 1006) (by decide +kernel)
      have hrow : ∀ w ∈ zck0, ∀ (a' : Array Value) (U : State), s.WarmedH U.vm → w.before a' U = true := by
        intro w hw2 a' U hU
        have e1 : w = _ := List.mem_singleton.mp hw2
        subst e1
        exact zword hU rfl (hF.w (A := #[]) hc1 rfl)
      have hfr := hF.rf
      have hlo := hF.rl
      have hsz : Ls.size = r.2.2.2.1 := by rw [← hB]; exact O.sz
      refine va_callv (va_runS (As := [Value.int (Int32.ofInt x), .int (Int32.ofInt y)]) (rest := st'.map (cv μ)) (Ts := []) (own := zcn r.1) (rm := { frames := 1, locals := 22 }) (n := 2) ⟨hF.ex, hF.bc, hF.ml, hF.own, fun _ h => nomatch h⟩ (zck_S hF.fa hx hy h0 hlt)
        ⟨⟨rfl, rfl, by show 1 + 1 ≤ _; omega, by show 8 + (2 + 11) + 22 ≤ _; omega, hrow, List.mem_singleton.mpr rfl, hF.w hc1 rfl, hF.w (zw_in (p := 17) (by decide +kernel)) rfl, by decide, ?_, hF.w hl rfl⟩, hF.w (zw_in (p := 1005) (by decide +kernel)) rfl⟩
        ⟨fun a U g mk q => q, fun U hU hW => ⟨rfl, hF.cx.to hW (hU.symm ▸ O.2.1)⟩⟩ rfl rfl hsz rfl (lv_room (by rw [zcvs_sum]; exact hsum)) hdg ⟨by omega, by omega⟩) O.2.1 (fun q _ h => h.elim) (fun q h => h.elim) (fun u t H1 locs1 ht hvm _ _ hz1 hk1 hS1 => ?_)
      · intro sig hsig
        have h2 : (parseMethodDescriptor yJ0_checkIndex_df160.desc).map (fun d => d.parameters.length) = some 2 := by decide +kernel
        rw [hsig] at h2
        exact (Option.some.inj h2).symm
      · exact k μ H1 locs1 Ls (cells + 0) (slots + 0) hc hs (O.pop.pop.heap (fun q hq => hk1 q hq id) hS1)
    next => cases h
  next => cases h
end ZSC
