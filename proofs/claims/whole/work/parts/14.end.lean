/-! ENDS of a method: returns, throws -/
theorem zrt_i {q : Option FieldType} (h : zrt q < 4) : (q = some .int ∧ zrt q = 0) ∨ (q = some .boolean ∧ zrt q = 1) ∨ (q = some .char ∧ zrt q = 2) ∨ (q = some .byte ∧ zrt q = 3) := by
  cases q with
  | none => simp [zrt] at h
  | some t => cases t <;> simp [zrt] at h ⊢
theorem zrt_4 {q : Option FieldType} (h : zrt q = 4) : q = none := by
  cases q with
  | none => rfl
  | some t => cases t <;> simp [zrt] at h
theorem zrt_5 {q : Option FieldType} (h : zrt q = 5) : q = some .float := by
  cases q with
  | none => simp [zrt] at h
  | some t => cases t <;> simp [zrt] at h ⊢
theorem zrt_6 {q : Option FieldType} (h : zrt q = 6) : q = some .double := by
  cases q with
  | none => simp [zrt] at h
  | some t => cases t <;> simp [zrt] at h ⊢
theorem zrt_7 {q : Option FieldType} (h : zrt q = 7) : (∃ n, q = some (.object n)) ∨ ∃ t, q = some (.array t) := by
  cases q with
  | none => simp [zrt] at h
  | some t => cases t <;> simp [zrt] at h ⊢
theorem iret_st {q : Nat} {ls : ZL} {st : List ZV} {θ : ZT} {σ : ZI} {z : ZO × (ZT × ZI)} (h : o_iret q ls st θ σ = some (.inr (.inl z))) : ∃ x, st = [.inl x] ∧ (.inl (some (.inl x)), θ, σ) = z ∧ (q = 1 → x = 0 ∨ x = 1) ∧ (q = 2 → 0 ≤ x ∧ x < 65536) ∧ (q = 3 → -128 ≤ x ∧ x < 128) := by
  unfold o_iret at h
  split at h
  · unfold nrt at h
    cases h
    exact ⟨_, rfl, rfl, by omega, by omega, by omega⟩
  · split at h
    next hx => unfold nrt at h; cases h; exact ⟨_, rfl, rfl, fun _ => hx, by omega, by omega⟩
    next => cases h
  · split at h
    next hx => unfold nrt at h; cases h; exact ⟨_, rfl, rfl, by omega, fun _ => hx, by omega⟩
    next => cases h
  · split at h
    next n1 n2 n3 _ hx => unfold nrt at h; cases h; exact ⟨_, rfl, rfl, fun e => absurd e (by assumption), fun e => absurd e (by assumption), fun _ => hx⟩
    next => cases h
  · cases h
theorem nar_b {x : Int} (h : -128 ≤ x ∧ x < 128) : narrow .byte (.int (Int32.ofInt x)) = .int (Int32.ofInt x) := by
  have key : ∀ n : Fin 256, narrow .byte (.int (Int32.ofInt ((n.val : Int) - 128))) = .int (Int32.ofInt ((n.val : Int) - 128)) := by decide +kernel
  have h2 := key ⟨(x + 128).toNat, by omega⟩
  have e : (((x + 128).toNat : Nat) : Int) - 128 = x := by omega
  rw [e] at h2
  exact h2
def zckHs (mi : Nat) : Bool := match zMT mi with
  | some r => (decide (r.1 = 7) || decide (r.2.2.2.2.2.1 = [])) && r.2.2.2.2.2.1.all (fun q => (zHC q.2.2.2).isSome && (decide (q.2.2.2 ≠ 0) && match decode r.2.2.1 q.2.2.1 with
    | .ok (.astore _, 2) => true
    | .ok (.astore_n _, 1) => true
    | _ => false))
  | none => true
theorem zckH0 : (List.range' 0 100).all zckHs = true := by decide +kernel
theorem zckH1 : (List.range' 100 100).all zckHs = true := by decide +kernel
theorem zckH2 : (List.range' 200 63).all zckHs = true := by decide +kernel
theorem zckH_all {mi : Nat} {r : ZM} (h : zMT mi = some r) : zckHs mi = true := by
  have hl := zMT_lt h
  by_cases h0 : mi < 100
  · exact List.all_eq_true.mp zckH0 mi (List.mem_range'_1.mpr (by omega))
  by_cases h1 : mi < 200
  · exact List.all_eq_true.mp zckH1 mi (List.mem_range'_1.mpr (by omega))
  exact List.all_eq_true.mp zckH2 mi (List.mem_range'_1.mpr (by omega))
theorem zT_H {mi : Nat} {r : ZM} (h : zMT mi = some r) : (r.1 = 7 ∨ r.2.2.2.2.2.1 = []) ∧ ∀ q ∈ r.2.2.2.2.2.1, (∃ Ex, zHC q.2.2.2 = some Ex) ∧ q.2.2.2 ≠ 0 ∧ ((∃ k, decode r.2.2.1 q.2.2.1 = .ok (.astore k, 2)) ∨ ∃ k, decode r.2.2.1 q.2.2.1 = .ok (.astore_n k, 1)) := by
  have h1 := zckH_all h
  unfold zckHs at h1
  rw [h] at h1
  simp only [Bool.and_eq_true, Bool.or_eq_true, decide_eq_true_eq, List.all_eq_true] at h1
  refine ⟨h1.1, fun q hq => ?_⟩
  obtain ⟨a1, a2, a3⟩ := h1.2 q hq
  refine ⟨Option.isSome_iff_exists.mp a1, a2, ?_⟩
  split at a3
  next k hk => exact Or.inl ⟨k, hk⟩
  next k hk => exact Or.inr ⟨k, hk⟩
  next => cases a3
/-- words of an exception, from the start to the frame -/
theorem zwordX {s U : State} {A A' : Array Value} (hW : s.WarmedH U.vm) {w : Cond} (hg : (vx_ot w && w.keepsFace) = true) (h : w.before A s = true) : w.before A' U = true := by
  rw [Bool.and_eq_true] at hg
  have h2 := Cond.before_shiftedFace (State.Shifted.of_warmed hW) w hg.2 h
  exact vx_ot_at (s := s.setVm U.vm) (State.WarmedH.refl (s.setVm U.vm)) rfl hg.1 h2
theorem zth_w {b : ByteArray} {pc ic : Nat} (h : zthr b pc ic = true) : ∃ (i : Nat) (x : Nat × String), zlk i zMS = some x ∧ decode b (pc + 3) = .ok (.dup, 1) ∧
    ((decode b (pc + 4) = .ok (.ldc i, 2) ∧ decode b (pc + 6) = .ok (.invokespecial ic, 3) ∧ decode b (pc + 9) = .ok (.athrow, 1)) ∨ (decode b (pc + 4) = .ok (.ldc_w i, 3) ∧ decode b (pc + 7) = .ok (.invokespecial ic, 3) ∧ decode b (pc + 10) = .ok (.athrow, 1))) := by
  unfold zthr at h
  split at h
  next i h1 h2 =>
    simp only [Bool.and_eq_true, decide_eq_true_eq] at h
    obtain ⟨x, hx⟩ := Option.isSome_iff_exists.mp h.1.1
    exact ⟨i, x, hx, h1, Or.inl ⟨h2, h.1.2, h.2⟩⟩
  next i h1 h2 =>
    simp only [Bool.and_eq_true, decide_eq_true_eq] at h
    obtain ⟨x, hx⟩ := Option.isSome_iff_exists.mp h.1.1
    exact ⟨i, x, hx, h1, Or.inr ⟨h2, h.1.2, h.2⟩⟩
  next => cases h
theorem zckN_x {c i ic Ex p : Nat} (h0 : ic ≠ 0) (h : zckN c (i, ic, Ex, p) = true) : (.classLink (zcn c) i (zEX Ex) ∈ lw_tbl ∧ .initialized (zEX Ex) ∈ lw_tbl) ∧ (ic, Ex) ∈ [(238, 0), (350, 2), (141, 1), (167, 3), (269, 4)] := by
  cases ic with
  | zero => exact absurd rfl h0
  | succ ic =>
    unfold zckN at h
    simp only [Bool.and_eq_true, decide_eq_true_eq] at h
    exact ⟨⟨zw_in h.1, zw_in h.2.1⟩, h.2.2.2.2⟩
section ZEN
variable {E : zE} {B : zB} {p : Program} {l : Launch} {e : Env} {R : Room} {s : State} {m : MethodId} {args : Array Value} {below : List Frame} {meth : Method} {c : Code} {r : ZM} {pc mc ms : Nat} {ls : ZL} {st : List ZV} {θ θf : ZT} {σ σf : ZI} {o : ZO}
/-- where a method's body is to come to -/
abbrev zQe (E : zE) (B : zB) (args : Array Value) (s : State) (below : List Frame) (o : ZO) (θf : ZT) (σf : ZI) (mc ms : Nat) : State → Prop := vx_MQ below (zQc E B.1 B.2.1 o θf σf) (zXc E B.1 B.2.1 o θf σf) args s mc ms (zA E.2.2.2.2)
theorem z_reti (hF : zFr E r p l R s m meth c) (hmc : mc + B.2.2.1 = cC θf) (hms : ms + B.2.2.2.1 = cS θf) (hdg : decode r.2.2.1 pc = .ok (.ireturn, 1)) (hr : zrt r.2.2.2.2.1 < 4) (h : o_iret (zrt r.2.2.2.2.1) ls st θ σ = some (.inr (.inl (o, θf, σf)))) :
    zGo E B p l e R s m args below meth c (zQe E B args s below o θf σf mc ms) pc ls st θ σ := by
  intro μ H locs Ls cells slots hc hs O
  obtain ⟨x, rfl, hz, h1, h2, h3⟩ := iret_st h
  cases hz
  have key : ∃ ty, r.2.2.2.2.1 = some ty ∧ narrow ty (.int (Int32.ofInt x)) = .int (Int32.ofInt x) := by
    rcases zrt_i hr with ⟨e1, e2⟩ | ⟨e1, e2⟩ | ⟨e1, e2⟩ | ⟨e1, e2⟩
    · exact ⟨_, e1, rfl⟩
    · exact ⟨_, e1, (nar_z (h1 e2)).1⟩
    · exact ⟨_, e1, (nar_c (h2 e2).1 (h2 e2).2).1⟩
    · exact ⟨_, e1, nar_b (h3 e2)⟩
  obtain ⟨ty, e1, e2⟩ := key
  have e3 : cells = mc := by omega
  have e4 : slots = ms := by omega
  subst e3; subst e4
  refine vx_ret ?_
  exact W.zret (ty := ty) hF.ex hF.bc (hF.rt.trans e1) e2 (fun t ht _ => ⟨some (.inl x), μ, rfl, rfl, by rw [ht]; exact O.1, O.2.2.2.2.2.1.2, fun w hw => by cases hw; trivial, O.2.1.F ht⟩) O.2.1.2.2 hdg hF.lk
theorem z_reta (hF : zFr E r p l R s m meth c) (hmc : mc + B.2.2.1 = cC θf) (hms : ms + B.2.2.2.1 = cS θf) (hdg : decode r.2.2.1 pc = .ok (.areturn, 1)) (hr : zrt r.2.2.2.2.1 = 7) (h : o_aret ls st θ σ = some (.inr (.inl (o, θf, σf)))) :
    zGo E B p l e R s m args below meth c (zQe E B args s below o θf σf mc ms) pc ls st θ σ := by
  intro μ H locs Ls cells slots hc hs O
  unfold o_aret at h
  split at h
  next x =>
    unfold nrt at h
    cases h
    have e3 : cells = mc := by omega
    have e4 : slots = ms := by omega
    subst e3; subst e4
    have hb := O.hd
    obtain ⟨rt, hrt, hk⟩ : ∃ rt, r.2.2.2.2.1 = some rt ∧ ((∃ n, rt = .object n) ∨ ∃ t, rt = .array t) := by
      rcases zrt_7 hr with ⟨n, e1⟩ | ⟨t, e1⟩
      · exact ⟨_, e1, Or.inl ⟨n, rfl⟩⟩
      · exact ⟨_, e1, Or.inr ⟨t, rfl⟩⟩
    refine vx_ret ?_
    exact W.aret (v := va_rf (x.map μ)) hF.ex hF.bc (hF.rt.trans hrt) hk (by cases x with | none => exact Or.inl rfl | some a => exact Or.inr ⟨_, rfl⟩) (fun t ht _ => ⟨some (.inr (.inl x)), μ, rfl, rfl, by rw [ht]; exact O.1, O.2.2.2.2.2.1.2, fun w hw => by cases hw; exact hb, O.2.1.F ht⟩) O.2.1.2.2 hdg hF.lk
  next => cases h
theorem z_retv (hF : zFr E r p l R s m meth c) (hmc : mc + B.2.2.1 = cC θf) (hms : ms + B.2.2.2.1 = cS θf) (hdg : decode r.2.2.1 pc = .ok (.return_, 1)) (hr : zrt r.2.2.2.2.1 = 4) (h : o_vret ls st θ σ = some (.inr (.inl (o, θf, σf)))) :
    zGo E B p l e R s m args below meth c (zQe E B args s below o θf σf mc ms) pc ls st θ σ := by
  intro μ H locs Ls cells slots hc hs O
  unfold o_vret at h
  split at h
  next =>
    unfold nrt at h
    cases h
    have e3 : cells = mc := by omega
    have e4 : slots = ms := by omega
    subst e3; subst e4
    refine vx_ret ?_
    exact W.vret hF.ex hF.bc (hF.rt.trans (zrt_4 hr)) (fun t ht _ => ⟨none, μ, rfl, rfl, by rw [ht]; exact O.1, O.2.2.2.2.2.1.2, fun w hw => (nomatch hw), O.2.1.F ht⟩) O.2.1.2.2 hdg hF.lk
  next => cases h
theorem z_retf (hF : zFr E r p l R s m meth c) (hmc : mc + B.2.2.1 = cC θf) (hms : ms + B.2.2.2.1 = cS θf) (hdg : decode r.2.2.1 pc = .ok (.freturn, 1)) (hr : zrt r.2.2.2.2.1 = 5) (h : o_fret ls st θ σ = some (.inr (.inl (o, θf, σf)))) :
    zGo E B p l e R s m args below meth c (zQe E B args s below o θf σf mc ms) pc ls st θ σ := by
  intro μ H locs Ls cells slots hc hs O
  unfold o_fret at h
  split at h
  next x =>
    unfold nrt at h
    cases h
    have e3 : cells = mc := by omega
    have e4 : slots = ms := by omega
    subst e3; subst e4
    refine vx_ret ?_
    exact W.fret hF.ex hF.bc (hF.rt.trans (zrt_5 hr)) (fun t ht _ => ⟨some (.inr (.inr (.inr (.inl x)))), μ, rfl, rfl, by rw [ht]; exact O.1, O.2.2.2.2.2.1.2, fun w hw => by cases hw; trivial, O.2.1.F ht⟩) O.2.1.2.2 hdg hF.lk
  next => cases h
theorem z_retd (hF : zFr E r p l R s m meth c) (hmc : mc + B.2.2.1 = cC θf) (hms : ms + B.2.2.2.1 = cS θf) (hdg : decode r.2.2.1 pc = .ok (.dreturn, 1)) (hr : zrt r.2.2.2.2.1 = 6) (h : o_dret ls st θ σ = some (.inr (.inl (o, θf, σf)))) :
    zGo E B p l e R s m args below meth c (zQe E B args s below o θf σf mc ms) pc ls st θ σ := by
  intro μ H locs Ls cells slots hc hs O
  unfold o_dret at h
  split at h
  next x =>
    unfold nrt at h
    cases h
    have e3 : cells = mc := by omega
    have e4 : slots = ms := by omega
    subst e3; subst e4
    refine vx_ret ?_
    exact W.dret hF.ex hF.bc (hF.rt.trans (zrt_6 hr)) (fun t ht _ => ⟨some (.inr (.inr (.inr (.inr x)))), μ, rfl, rfl, by rw [ht]; exact O.1, O.2.2.2.2.2.1.2, fun w hw => by cases hw; trivial, O.2.1.F ht⟩) O.2.1.2.2 hdg hF.lk
  next => cases h
theorem z_thr {i ic Ex pl : Nat} (hF : zFr E r p l R s m meth c) (hmc : mc + B.2.2.1 = cC θf) (hms : ms + B.2.2.2.1 = cS θf) (hB : B.2.2.2.2 = r.2.2.2.1) (hR : cC θf ≤ B.2.2.1 + R.cells ∧ cS θf ≤ B.2.2.2.1 + R.slots) (hh : r.2.2.2.2.2.1 = []) (hdg : decode r.2.2.1 pc = .ok (.new i, 3)) (hz : zlk i (zNT r.1) = some (ic, Ex, pl)) (h0 : ic ≠ 0) (hc5 : r.1 = 5 ∧ zthr r.2.2.1 pc ic = true ∧ 6 ≤ r.2.2.2.2.2.2.1 ∧ 90 ≤ r.2.2.2.2.2.2.2.1) (h : o_throw Ex ls st θ σ = some (.inr (.inl (o, θf, σf)))) :
    zGo E B p l e R s m args below meth c (zQe E B args s below o θf σf mc ms) pc ls st θ σ := by
  intro μ H locs Ls cells slots hc hs O
  unfold o_throw at h
  split at h
  next =>
    unfold nrt at h
    cases h
    obtain ⟨h5, hth, hfr, hlo⟩ := hc5
    obtain ⟨⟨wk, wi⟩, hmem⟩ := zckN_x h0 (zall_in (zckN_all r.1) (zlk_in hz))
    have hEx : Ex < 5 := by
      simp only [List.mem_cons, List.not_mem_nil, or_false, Prod.mk.injEq] at hmem
      omega
    obtain ⟨is, x, hms', d3, hd⟩ := zth_w hth
    obtain ⟨sa, hstr0⟩ := hF.fa.2.2.2.2.2.2.2.2.1 is x hms'
    have hstr := vk_R.warm hF.cx.1 hstr0
    have hown : s.vm.findClass RX5 = some m.cls := by have := hF.own; rw [h5] at this; exact this
    have hk : (Cond.classLink RX5 i (zEX Ex)).before args s = true := by rw [h5] at wk; exact hF.w wk rfl
    have hini : (Cond.initialized (zEX Ex)).before args s = true := hF.w wi rfl
    obtain ⟨A0, hA0⟩ := hF.fa.1
    have hup : ∀ w, w ∈ tables_1 → (vx_ot w && w.keepsFace) = true → w.before args s = true := fun w hw hg => zwordX hF.cx.1 hg (hA0 w (List.mem_append_right _ hw))
    have hU := (vx_Zq.moved hF.cx.1.alike hF.fa.2.2.2.2.2.2.2.1.1).kept hF.cx.kept
    have hN := (vx_Zq.moved hF.cx.1.alike hF.fa.2.2.2.2.2.2.2.1.2).kept hF.cx.kept
    have hsize : Ls.size = c.maxLocals := by rw [O.sz, hB, hF.ml]
    have hout : ∀ q : Nat, ∀ y ∈ c.exceptionTable.toList, covers y q = false := fun q y hy => by rw [hF.et, hh] at hy; cases hy
    have hcC : cC (θ.1, θ.2.1 + 1, θ.2.2) = cC θ + 1 := rfl
    have hcS : cS (θ.1, θ.2.1 + 1, θ.2.2) = cS θ + 6 := by show zsum θ.1 + 6 * (θ.2.1 + 1) = zsum θ.1 + 6 * θ.2.1 + 6; omega
    rw [hcC] at hmc hR
    rw [hcS] at hms hR
    have hfs := hF.rf
    have hls := hF.rl
    have hx : ∀ t : State, s.vm.Alike t.vm → H.size ≤ t.heap.size → (∀ q : Nat, q < H.size → t.heap[q]? = H[q]?) → zXc E B.1 B.2.1 (.inr Ex) (θ.1, θ.2.1 + 1, θ.2.2) σ (zEX Ex) s t := by
      intro t _ hz2 hk2
      obtain ⟨g1, g2, g3⟩ := O.1
      exact ⟨Ex, μ, ⟨rfl, hEx⟩, rfl, ⟨g1, g2.kept fun k q hq => hk2 _ (vx_lt g2 hq), g3⟩, O.2.2.2.2.2.1.2, Nat.le_trans O.2.1.1 hz2, fun q h1 h2 => (hk2 q (Nat.lt_of_lt_of_le h1 O.2.1.1)).trans (O.2.1.2.1 q h1 h2)⟩
    have hgood : ∀ L : List Cond, (∀ w ∈ L, (vx_ot w && w.keepsFace) = true) → ∀ w ∈ Cond.classLink RX5 i (zEX Ex) :: Cond.initialized (zEX Ex) :: L, vx_ot w = true := by
      intro L hL w hw
      rcases List.mem_cons.mp hw with rfl | hw
      · rfl
      · rcases List.mem_cons.mp hw with rfl | hw
        · rfl
        · exact (Bool.and_eq_true _ _ ▸ hL w hw).1
    simp only [List.mem_cons, List.not_mem_nil, or_false, Prod.mk.injEq] at hmem
    rcases hmem with ⟨rfl, rfl⟩ | ⟨rfl, rfl⟩ | ⟨rfl, rfl⟩ | ⟨rfl, rfl⟩ | ⟨rfl, rfl⟩
    · rcases hd with ⟨d4, d6, d9⟩ | ⟨d4, d6, d9⟩
      · exact vx_throwS (names := zxn) hF.ex hF.bc hF.tr hown (by decide +kernel) (by decide +kernel) hk hini hstr (fun w hw => hup w (zx0_in w hw) (zx0_ot w hw)) (hgood _ zx0_ot) hU hN O.2.1 hsize hdg d3 d4 d6 d9 (hout _) (by show 2 + 3 < _; omega) (by show 0 + 82 ≤ _; omega) (by omega) (by omega) hF.lk hx O.2.1.2.2 (by omega) (by omega)
      · exact vx_throwSW (names := zxn) hF.ex hF.bc hF.tr hown (by decide +kernel) (by decide +kernel) hk hini hstr (fun w hw => hup w (zx0_in w hw) (zx0_ot w hw)) (hgood _ zx0_ot) hU hN O.2.1 hsize hdg d3 d4 d6 d9 (hout _) (by show 2 + 3 < _; omega) (by show 0 + 82 ≤ _; omega) (by omega) (by omega) hF.lk hx O.2.1.2.2 (by omega) (by omega)
    · rcases hd with ⟨d4, d6, d9⟩ | ⟨d4, d6, d9⟩
      · exact vx_throwS (names := zxn) hF.ex hF.bc hF.tr hown (by decide +kernel) (by decide +kernel) hk hini hstr (fun w hw => hup w (zx2_in w hw) (zx2_ot w hw)) (hgood _ zx2_ot) hU hN O.2.1 hsize hdg d3 d4 d6 d9 (hout _) (by show 2 + 3 < _; omega) (by show 0 + 82 ≤ _; omega) (by omega) (by omega) hF.lk hx O.2.1.2.2 (by omega) (by omega)
      · exact vx_throwSW (names := zxn) hF.ex hF.bc hF.tr hown (by decide +kernel) (by decide +kernel) hk hini hstr (fun w hw => hup w (zx2_in w hw) (zx2_ot w hw)) (hgood _ zx2_ot) hU hN O.2.1 hsize hdg d3 d4 d6 d9 (hout _) (by show 2 + 3 < _; omega) (by show 0 + 82 ≤ _; omega) (by omega) (by omega) hF.lk hx O.2.1.2.2 (by omega) (by omega)
    · rcases hd with ⟨d4, d6, d9⟩ | ⟨d4, d6, d9⟩
      · exact vx_throwS (names := zxn) hF.ex hF.bc hF.tr hown (by decide +kernel) (by decide +kernel) hk hini hstr (fun w hw => hup w (zx1_in w hw) (zx1_ot w hw)) (hgood _ zx1_ot) hU hN O.2.1 hsize hdg d3 d4 d6 d9 (hout _) (by show 2 + 3 < _; omega) (by show 0 + 82 ≤ _; omega) (by omega) (by omega) hF.lk hx O.2.1.2.2 (by omega) (by omega)
      · exact vx_throwSW (names := zxn) hF.ex hF.bc hF.tr hown (by decide +kernel) (by decide +kernel) hk hini hstr (fun w hw => hup w (zx1_in w hw) (zx1_ot w hw)) (hgood _ zx1_ot) hU hN O.2.1 hsize hdg d3 d4 d6 d9 (hout _) (by show 2 + 3 < _; omega) (by show 0 + 82 ≤ _; omega) (by omega) (by omega) hF.lk hx O.2.1.2.2 (by omega) (by omega)
    · have e3 : ∀ w ∈ (zx_oa RX5 167 (zEX 3) 13 prog_26_method_4_code zxn).filter vx_no, w ∈ tables_1 := zx3_e ▸ zx3_in
      have o3 : ∀ w ∈ (zx_oa RX5 167 (zEX 3) 13 prog_26_method_4_code zxn).filter vx_no, (vx_ot w && w.keepsFace) = true := zx3_e ▸ zx3_ot
      rcases hd with ⟨d4, d6, d9⟩ | ⟨d4, d6, d9⟩
      · exact zx_thrS (names := zxn) (ix := 13) (rx := prog_26_method_4_code) hF.ex hF.bc hF.tr (by decide +kernel) (by decide +kernel) (by decide +kernel) (by decide +kernel) hown (by decide +kernel) (by decide +kernel) hk hini hstr (fun w hw => hup w (e3 w hw) (o3 w hw)) (hgood _ o3) hU hN O.2.1 hsize hdg d3 d4 d6 d9 (hout _) (by show 2 + 3 < _; omega) (by show 0 + 82 ≤ _; omega) (by omega) (by omega) hF.lk hx O.2.1.2.2 (by omega) (by omega)
      · exact zx_thrSW (names := zxn) (ix := 13) (rx := prog_26_method_4_code) hF.ex hF.bc hF.tr (by decide +kernel) (by decide +kernel) (by decide +kernel) (by decide +kernel) hown (by decide +kernel) (by decide +kernel) hk hini hstr (fun w hw => hup w (e3 w hw) (o3 w hw)) (hgood _ o3) hU hN O.2.1 hsize hdg d3 d4 d6 d9 (hout _) (by show 2 + 3 < _; omega) (by show 0 + 82 ≤ _; omega) (by omega) (by omega) hF.lk hx O.2.1.2.2 (by omega) (by omega)
    · rcases hd with ⟨d4, d6, d9⟩ | ⟨d4, d6, d9⟩
      · exact vx_throwS (names := zxn) hF.ex hF.bc hF.tr hown (by decide +kernel) (by decide +kernel) hk hini hstr (fun w hw => hup w (zx4_in w hw) (zx4_ot w hw)) (hgood _ zx4_ot) hU hN O.2.1 hsize hdg d3 d4 d6 d9 (hout _) (by show 2 + 3 < _; omega) (by show 0 + 82 ≤ _; omega) (by omega) (by omega) hF.lk hx O.2.1.2.2 (by omega) (by omega)
      · exact vx_throwSW (names := zxn) hF.ex hF.bc hF.tr hown (by decide +kernel) (by decide +kernel) hk hini hstr (fun w hw => hup w (zx4_in w hw) (zx4_ot w hw)) (hgood _ zx4_ot) hU hN O.2.1 hsize hdg d3 d4 d6 d9 (hout _) (by show 2 + 3 < _; omega) (by show 0 + 82 ≤ _; omega) (by omega) (by omega) hF.lk hx O.2.1.2.2 (by omega) (by omega)
  next => cases h
end ZEN
