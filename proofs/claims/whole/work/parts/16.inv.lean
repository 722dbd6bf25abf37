/-! CALLS of the interpreter are the machine's -/
def zckAr (e : Nat × (Nat × (Nat × Nat))) : Bool := match e with
  | (_, 0, mj, _) => decide (zmN mj + 1 ≤ zmL mj) && decide (zmC mj < 7 ∨ zmC mj = 9)
  | (_, 2, mj, _) => decide (zmN mj + 1 ≤ zmL mj)
  | (_, 4, mj, _) => decide (zmN mj + 1 ≤ zmL mj)
  | (_, 1, mj, _) => decide (zmN mj ≤ zmL mj)
  | (_, 3, mj, _) => decide (zmN mj ≤ zmL mj)
  | (_, 5, mj, _) => decide (zmN mj ≤ zmL mj)
  | _ => true
theorem zckAr_all : ∀ c : Nat, (zCT c).all zckAr = true
  | 0 => by decide +kernel
  | 1 => by decide +kernel
  | 2 => by decide +kernel
  | 3 => by decide +kernel
  | 4 => by decide +kernel
  | 5 => by decide +kernel
  | 6 => by decide +kernel
  | 7 => by decide +kernel
  | 8 => by decide +kernel
  | 9 => by decide +kernel
  | 10 => by decide +kernel
  | _ + 11 => rfl
theorem zmN_e {mj : Nat} {r : ZM} (h : zMT mj = some r) : zmN mj = r.2.2.2.2.2.2.2.2 := by unfold zmN; rw [h]
theorem zmL_e {mj : Nat} {r : ZM} (h : zMT mj = some r) : zmL mj = r.2.2.2.1 := by unfold zmL; rw [h]
theorem zmF_e {mj : Nat} {r : ZM} (h : zMT mj = some r) : zmF mj = r.2.2.2.2.2.2.1 := by unfold zmF; rw [h]
theorem zmW_e {mj : Nat} {r : ZM} (h : zMT mj = some r) : zmW mj = r.2.2.2.2.2.2.2.1 := by unfold zmW; rw [h]
theorem zmC_e {mj : Nat} {r : ZM} (h : zMT mj = some r) : zmC mj = r.1 := by unfold zmC; rw [h]
theorem zT_C0 {c i mj pl : Nat} (h : zlk i (zCT c) = some (0, mj, pl)) : ∃ r, zMT mj = some r ∧ mj ≠ 262 ∧ .methodLink (zcn c) i r.2.1 ∈ lw_tbl ∧ .instanceMethod r.2.1 ∈ lw_tbl ∧ .selects r.2.1.cls r.2.1 r.2.1 ∈ lw_tbl ∧ r.2.2.2.2.2.1 = [] := by
  have h1 : (match zMT mj with
    | none => false
    | some r => decide (mj ≠ 262) && (zw pl (.methodLink (zcn c) i r.2.1) && (zw (zMP mj).2.2.1 (.instanceMethod r.2.1) && (zckS mj r.2.1 && decide (r.2.2.2.2.2.1 = []))))) = true := zall_in (zckC_all c) (zlk_in h)
  split at h1
  · cases h1
  next r hr =>
    simp only [Bool.and_eq_true, decide_eq_true_eq] at h1
    exact ⟨r, hr, h1.1, zw_in h1.2.1, zw_in h1.2.2.1, zckS_in h1.2.2.2.1, h1.2.2.2.2⟩
theorem zT_C1 {c i mj pl : Nat} (h : zlk i (zCT c) = some (1, mj, pl)) : ∃ r, zMT mj = some r ∧ mj ≠ 262 ∧ .methodLink (zcn c) i r.2.1 ∈ lw_tbl ∧ .static r.2.1 ∈ lw_tbl ∧ r.2.2.2.2.2.1 = [] := by
  have h1 : (match zMT mj with
    | none => false
    | some r => decide (mj ≠ 262) && (zw pl (.methodLink (zcn c) i r.2.1) && (zw (zMP mj).2.2.1 (.static r.2.1) && decide (r.2.2.2.2.2.1 = [])))) = true := zall_in (zckC_all c) (zlk_in h)
  split at h1
  · cases h1
  next r hr =>
    simp only [Bool.and_eq_true, decide_eq_true_eq] at h1
    exact ⟨r, hr, h1.1, zw_in h1.2.1, zw_in h1.2.2.1, h1.2.2.2⟩
theorem zT_C2 {c i mj pl : Nat} (h : zlk i (zCT c) = some (2, mj, pl)) : ∃ r, zMT mj = some r ∧ mj ≠ 262 ∧ .methodLink (zcn c) i r.2.1 ∈ lw_tbl ∧ .instanceMethod r.2.1 ∈ lw_tbl ∧ (r.2.1.name = "<init>" ∧ r.2.2.2.2.1 = none) ∧ r.2.2.2.2.2.1 = [] := by
  have h1 : (match zMT mj with
    | none => false
    | some r => decide (mj ≠ 262) && (zw pl (.methodLink (zcn c) i r.2.1) && (zw (zMP mj).2.2.1 (.instanceMethod r.2.1) && (decide (r.2.1.name = "<init>" ∧ r.2.2.2.2.1 = none) && decide (r.2.2.2.2.2.1 = []))))) = true := zall_in (zckC_all c) (zlk_in h)
  split at h1
  · cases h1
  next r hr =>
    simp only [Bool.and_eq_true, decide_eq_true_eq] at h1
    exact ⟨r, hr, h1.1, zw_in h1.2.1, zw_in h1.2.2.1, h1.2.2.2.1, h1.2.2.2.2⟩
theorem zT_C3 {c i mj pl : Nat} (h : zlk i (zCT c) = some (3, mj, pl)) : ∃ r, zMT mj = some r ∧ mj ≠ 262 ∧ .methodLinkNest (zcn c) i r.2.1 RX5 ∈ lw_tbl ∧ .static r.2.1 ∈ lw_tbl ∧ r.2.2.2.2.2.1 = [] := by
  have h1 : (match zMT mj with
    | none => false
    | some r => decide (mj ≠ 262) && (zw pl (.methodLinkNest (zcn c) i r.2.1 RX5) && (zw (zMP mj).2.2.1 (.static r.2.1) && decide (r.2.2.2.2.2.1 = [])))) = true := zall_in (zckC_all c) (zlk_in h)
  split at h1
  · cases h1
  next r hr =>
    simp only [Bool.and_eq_true, decide_eq_true_eq] at h1
    exact ⟨r, hr, h1.1, zw_in h1.2.1, zw_in h1.2.2.1, h1.2.2.2⟩
theorem zT_C4 {c i mj pl : Nat} (h : zlk i (zCT c) = some (4, mj, pl)) : ∃ r, zMT mj = some r ∧ mj ≠ 262 ∧ .methodLinkNest (zcn c) i r.2.1 RX5 ∈ lw_tbl ∧ .instanceMethod r.2.1 ∈ lw_tbl ∧ (r.2.1.name = "<init>" ∧ r.2.2.2.2.1 = none) ∧ r.2.2.2.2.2.1 = [] := by
  have h1 : (match zMT mj with
    | none => false
    | some r => decide (mj ≠ 262) && (zw pl (.methodLinkNest (zcn c) i r.2.1 RX5) && (zw (zMP mj).2.2.1 (.instanceMethod r.2.1) && (decide (r.2.1.name = "<init>" ∧ r.2.2.2.2.1 = none) && decide (r.2.2.2.2.2.1 = []))))) = true := zall_in (zckC_all c) (zlk_in h)
  split at h1
  · cases h1
  next r hr =>
    simp only [Bool.and_eq_true, decide_eq_true_eq] at h1
    exact ⟨r, hr, h1.1, zw_in h1.2.1, zw_in h1.2.2.1, h1.2.2.2.1, h1.2.2.2.2⟩
theorem zT_C5 {c i mj pl : Nat} (h : zlk i (zCT c) = some (5, mj, pl)) : ∃ r, zMT mj = some r ∧ mj ≠ 262 ∧ .methodLink (zcn c) i r.2.1 ∈ lw_tbl ∧ .static r.2.1 ∈ lw_tbl ∧ r.2.2.2.2.2.1 ≠ [] := by
  have h1 : (match zMT mj with
    | none => false
    | some r => decide (mj ≠ 262) && (zw pl (.methodLink (zcn c) i r.2.1) && (zw (zMP mj).2.2.1 (.static r.2.1) && decide (r.2.2.2.2.2.1 ≠ [])))) = true := zall_in (zckC_all c) (zlk_in h)
  split at h1
  · cases h1
  next r hr =>
    simp only [Bool.and_eq_true, decide_eq_true_eq] at h1
    exact ⟨r, hr, h1.1, zw_in h1.2.1, zw_in h1.2.2.1, h1.2.2.2⟩
theorem vwCl_ex {ci : Nat} (h : ci < 7) : ∃ q, vwCl[ci]? = some q := by
  have hh : ci = 0 ∨ ci = 1 ∨ ci = 2 ∨ ci = 3 ∨ ci = 4 ∨ ci = 5 ∨ ci = 6 := by omega
  rcases hh with rfl | rfl | rfl | rfl | rfl | rfl | rfl <;> exact ⟨_, rfl⟩
section ZIV
variable {E : zE} {B : zB} {p : Program} {l : Launch} {e : Env} {R : Room} {s : State} {m : MethodId} {args : Array Value} {below : List Frame} {meth : Method} {c : Code} {Q : State → Prop} {r r' : ZM} {pc mj mj' : Nat} {ls : ZL} {st vs rest : List ZV} {θ θ' : ZT} {σ σ' : ZI} {o : ZO} {μ : Nat → Nat} {H : Heap} {locs : List Loc} {Ls : Array Slot} {cells slots : Nat}
/-- what a call gives: its callee, its values, and its run, by the callee's contract -/
def zIv (E : zE) (B : zB) (p : Program) (l : Launch) (e : Env) (R : Room) (s : State) (m : MethodId) (args : Array Value) (below : List Frame) (meth : Method) (c : Code) (pc : Nat) (ls : ZL) (st : List ZV) (θ : ZT) (σ : ZI) (mj : Nat) (vs rest : List ZV) (npc : Nat) : Prop :=
  npc = pc + 3 ∧ ∃ r', zMT mj = some r' ∧ mj ≠ 262 ∧ (vs.length ≤ r'.2.2.2.1 ∧ z_a1 vs = true) ∧ ∀ (o : ZO) (θ' : ZT) (σ' : ZI) (μ : Nat → Nat) (H : Heap) (locs : List Loc) (Ls : Array Slot) (cells slots : Nat), zOn E B s ls st θ σ μ H locs Ls →
    (zOn E B s ls rest θ σ μ H locs Ls ∧ zbs θ.1 vs) ∧ (zMet E l r' μ vs θ σ o θ' σ' → cells + (cC θ' - cC θ) ≤ R.cells ∧ slots + (cS θ' - cS θ) ≤ R.slots → vx_Run p l e R s m args below meth c H locs cells slots (cC θ' - cC θ) (cS θ' - cS θ) (F0 m pc Ls (st.map (cv μ))) (rest.map (cv μ)) (zQc E μ θ.1 o θ' σ' (vs.map (cv μ)).toArray) (zXc E μ θ.1 o θ' σ') (zA E.2.2.2.2))
theorem zcode_0 (h : r'.2.2.2.2.2.1 = []) : zcode r' = .code r'.2.1 r'.2.2.1 r'.2.2.2.1 r'.2.2.2.2.1 := if_pos h
theorem zcode_1 (h : r'.2.2.2.2.2.1 ≠ []) : zcode r' = .codeWith r'.2.1 r'.2.2.1 r'.2.2.2.1 r'.2.2.2.2.1 r'.2.2.2.2.2.1 := if_neg h
theorem zcode_g : zgw (zcode r') = true := by
  by_cases h : r'.2.2.2.2.2.1 = []
  · rw [zcode_0 h]; rfl
  · rw [zcode_1 h]; rfl
theorem zrow (hF : zFr E r p l R s m meth c) (hok : zMok r') : ∀ w ∈ [zcode r'], ∀ (a' : Array Value) (U : State), s.WarmedH U.vm → w.before a' U = true := by
  intro w hw a' U hU
  have e1 : w = _ := List.mem_singleton.mp hw
  subst e1
  exact zword hU zcode_g (hF.w (A := #[]) hok.2.2.2.2.1 zcode_g)
theorem zparm (hok : zMok r') {n : Nat} (hn : r'.2.2.2.2.2.2.2.2 = n) : ∀ sig, parseMethodDescriptor r'.2.1.desc = some sig → n = sig.parameters.length := by
  intro sig hsig
  have h2 := hok.2.2.2.1
  rw [hsig] at h2
  exact hn ▸ (Option.some.inj h2).symm
theorem zCB_of (hF : zFr E r p l R s m meth c) (hr : zMT mj = some r') (hok : zMok r') (hh : r'.2.2.2.2.2.1 = []) (h1 : zmF mj + 1 ≤ r.2.2.2.2.2.2.1) (h2 : 8 + (zmL mj + 11) + zmW mj ≤ r.2.2.2.2.2.2.2.1) (mc ms : Nat) :
    zCB R s args r'.2.1 r'.2.2.1 r'.2.2.2.1 r'.2.2.2.2.1 [zcode r'] (zRm r' mc ms) mc ms (zmN mj) := by
  have hfr := hF.rf
  have hlo := hF.rl
  rw [zmF_e hr] at h1
  rw [zmL_e hr, zmW_e hr] at h2
  exact ⟨rfl, rfl, Nat.le_trans h1 hfr, Nat.le_trans h2 hlo, zrow hF hok, by rw [zcode_0 hh]; exact List.mem_singleton.mpr rfl, by have := hF.w (A := args) hok.2.2.2.2.1 zcode_g; rw [zcode_0 hh] at this; exact this, hF.w hok.2.2.2.2.2 rfl, hok.2.2.1, zparm hok (zmN_e hr).symm⟩
theorem zPc_b (E : zE) (μ : Nat → Nat) (vs : List ZV) (θ : ZT) (σ : ZI) : FrameBlind (zPc E μ vs θ σ) := fun _ _ _ _ q => q
theorem zPc_u (hF : zFr E r p l R s m meth c) (O : zOn E B s ls st θ σ μ H locs Ls) {a : Array Value} (ha : a = (vs.map (cv μ)).toArray) : ∀ U : State, U.heap = H → s.WarmedH U.vm → zPc E μ vs θ σ a U := fun U hU hW => ⟨ha, hF.cx.to hW (hU.symm ▸ O.2.1), hU.symm ▸ O.1⟩
theorem zbs_take {n k : Nat} (h : zbs n st) : zbs n (st.take k).reverse := fun v hv => h v (List.mem_of_mem_take (List.mem_reverse.mp hv))
theorem zbs_drop {n k : Nat} (h : zbs n st) : zbs n (st.drop k) := fun v hv => h v (List.mem_of_mem_drop hv)
theorem za1_rev (h : z_a1 st = true) : z_a1 st.reverse = true := by
  unfold z_a1 at h ⊢
  rw [List.all_reverse]; exact h
theorem zcs_rv {k : Nat} (μ : Nat → Nat) : st.map (cv μ) = (((st.take k).reverse).map (cv μ)).reverse ++ (st.drop k).map (cv μ) := by
  rw [List.map_reverse, List.reverse_reverse, ← List.map_append, List.take_append_drop]
theorem zcsum (h : (rest.map z_w).sum ≤ 8) : ((rest.map (cv μ)).map fun v => v.category).sum ≤ 8 := by rw [zcvs_sum]; exact h
theorem z_iS {i m0 pl npc : Nat} (hF : zFr E r p l R s m meth c) (hB : B.2.2.2.2 = r.2.2.2.1) (hdg : decode r.2.2.1 pc = .ok (.invokestatic i, 3)) (hz : zlk i (zCT r.1) = some (m0, mj, pl)) (hm : m0 = 1 ∨ m0 = 3 ∨ m0 = 5) (h1 : zmF mj + 1 ≤ r.2.2.2.2.2.2.1) (h2 : 8 + (zmL mj + 11) + zmW mj ≤ r.2.2.2.2.2.2.2.1) (h : o_callS mj (zmN mj) (pc + 3) ls st θ σ = some (.inr (.inr (mj', vs, rest, npc)))) :
    zIv E B p l e R s m args below meth c pc ls st θ σ mj' vs rest npc := by
  unfold o_callS at h
  split at h
  next hh =>
    unfold ncl at h
    cases h
    obtain ⟨⟨hle, ha1⟩, hsum⟩ := hh
    have hA := zall_in (zckAr_all r.1) (zlk_in hz)
    have hvl : ((st.take (zmN mj)).reverse).length = zmN mj := by rw [List.length_reverse, List.length_take]; omega
    have ha1' : z_a1 (st.take (zmN mj)).reverse = true := za1_rev ha1
    have key : ∀ r', zMT mj = some r' → zmN mj ≤ zmL mj → ((st.take (zmN mj)).reverse).length ≤ r'.2.2.2.1 := fun r' hr hk => by rw [hvl, ← zmL_e hr]; exact hk
    rcases hm with rfl | rfl | rfl
    · obtain ⟨r', hr, h262, hl, hst, hhn⟩ := zT_C1 hz
      have hok := zT_M hr h262
      refine ⟨rfl, r', hr, h262, ⟨key r' hr (of_decide_eq_true hA), ha1'⟩, fun o θ' σ' μ H locs Ls cells slots O => ⟨⟨O.to (zbs_drop O.2.2.2.1), zbs_take O.2.2.2.1⟩, fun hM hroom => ?_⟩⟩
      obtain ⟨c1, c2, c3, c4, c5, c6, c7, c8, c9, c10⟩ := zCB_of (args := args) hF hr hok hhn h1 h2 (cC θ' - cC θ) (cS θ' - cS θ)
      exact vx_runS (Ts := []) (As := ((st.take (zmN mj)).reverse).map (cv μ)) ⟨hF.ex, hF.bc, hF.ml, hF.own, fun _ h => nomatch h⟩ hM ⟨⟨c1, c2, c3, c4, c5, c6, c7, c8, c9, c10, hF.w hl rfl⟩, hF.w hst rfl⟩ ⟨zPc_b _ _ _ _ _, zPc_u hF O rfl⟩ rfl (by rw [List.length_map, hvl]) (O.sz.trans hB) (zcs_rv μ) (lv_room (zcsum hsum)) hdg hroom
    · obtain ⟨r', hr, h262, hl, hst, hhn⟩ := zT_C3 hz
      have hok := zT_M hr h262
      refine ⟨rfl, r', hr, h262, ⟨key r' hr (of_decide_eq_true hA), ha1'⟩, fun o θ' σ' μ H locs Ls cells slots O => ⟨⟨O.to (zbs_drop O.2.2.2.1), zbs_take O.2.2.2.1⟩, fun hM hroom => ?_⟩⟩
      have cb := zCB_of (args := args) hF hr hok hhn h1 h2 (cC θ' - cC θ) (cS θ' - cS θ)
      exact zx_runSN (Ts := []) (As := ((st.take (zmN mj)).reverse).map (cv μ)) ⟨hF.ex, hF.bc, hF.ml, hF.own, fun _ h => nomatch h⟩ hM cb (hF.w hl rfl) (hF.w hst rfl) ⟨zPc_b _ _ _ _ _, zPc_u hF O rfl⟩ rfl (by rw [List.length_map, hvl]) (O.sz.trans hB) (zcs_rv μ) (lv_room (zcsum hsum)) hdg hroom
    · obtain ⟨r', hr, h262, hl, hst, hhn⟩ := zT_C5 hz
      have hok := zT_M hr h262
      refine ⟨rfl, r', hr, h262, ⟨key r' hr (of_decide_eq_true hA), ha1'⟩, fun o θ' σ' μ H locs Ls cells slots O => ⟨⟨O.to (zbs_drop O.2.2.2.1), zbs_take O.2.2.2.1⟩, fun hM hroom => ?_⟩⟩
      have hfr := hF.rf
      have hlo := hF.rl
      rw [zmF_e hr] at h1
      rw [zmL_e hr, zmW_e hr] at h2
      have hcd := hF.w (A := args) hok.2.2.2.2.1 zcode_g
      rw [zcode_1 hhn] at hcd
      exact vx_runSX (Ts := []) (hh := r'.2.2.2.2.2.1) (As := ((st.take (zmN mj)).reverse).map (cv μ)) ⟨hF.ex, hF.bc, hF.ml, hF.own, fun _ h => nomatch h⟩ hM ⟨⟨rfl, rfl, Nat.le_trans h1 hfr, Nat.le_trans h2 hlo, zrow hF hok, by rw [zcode_1 hhn]; exact List.mem_singleton.mpr rfl⟩, hcd, hF.w hok.2.2.2.2.2 rfl, hok.2.2.1, zparm hok (zmN_e hr).symm, hF.w hl rfl, hF.w hst rfl⟩ ⟨zPc_b _ _ _ _ _, zPc_u hF O rfl⟩ rfl (by rw [List.length_map, hvl]) (O.sz.trans hB) (zcs_rv μ) (lv_room (zcsum hsum)) hdg hroom
  next => cases h
theorem z_iI {i m0 pl npc : Nat} (hF : zFr E r p l R s m meth c) (hB : B.2.2.2.2 = r.2.2.2.1) (hdg : decode r.2.2.1 pc = .ok (.invokespecial i, 3)) (hz : zlk i (zCT r.1) = some (m0, mj, pl)) (hm : m0 = 2 ∨ m0 = 4) (hN : zmN mj = 0) (h1 : zmF mj + 1 ≤ r.2.2.2.2.2.2.1) (h2 : 8 + (zmL mj + 11) + zmW mj ≤ r.2.2.2.2.2.2.2.1) (h : o_callI mj (pc + 3) ls st θ σ = some (.inr (.inr (mj', vs, rest, npc)))) :
    zIv E B p l e R s m args below meth c pc ls st θ σ mj' vs rest npc := by
  unfold o_callI at h
  split at h
  next b rst =>
    split at h
    next hsum =>
      unfold ncl at h
      cases h
      have hA := zall_in (zckAr_all r.1) (zlk_in hz)
      have key : ∀ r', zMT mj = some r' → zmN mj + 1 ≤ zmL mj → ([Sum.inr (Sum.inl (some b))] : List ZV).length ≤ r'.2.2.2.1 := fun r' hr hk => by rw [← zmL_e hr]; show 1 ≤ _; omega
      rcases hm with rfl | rfl
      · obtain ⟨r', hr, h262, hl, hin, ⟨hnm, hrt⟩, hhn⟩ := zT_C2 hz
        have hok := zT_M hr h262
        refine ⟨rfl, r', hr, h262, ⟨key r' hr (of_decide_eq_true hA), rfl⟩, fun o θ' σ' μ H locs Ls cells slots O => ⟨⟨O.pop, zbs_cons O.hd zbs_nil⟩, fun hM hroom => ?_⟩⟩
        have cb := zCB_of (args := args) hF hr hok hhn h1 h2 (cC θ' - cC θ) (cS θ' - cS θ)
        rw [hrt, hN] at cb
        exact zx_runI (Ts := []) (As := []) (b := μ b) ⟨hF.ex, hF.bc, hF.ml, hF.own, fun _ h => nomatch h⟩ hM cb (hF.w hl rfl) hnm (hF.w hin rfl) ⟨zPc_b _ _ _ _ _, zPc_u hF O rfl⟩ rfl rfl (O.sz.trans hB) rfl (lv_room (zcsum hsum)) hdg hroom
      · obtain ⟨r', hr, h262, hl, hin, ⟨hnm, hrt⟩, hhn⟩ := zT_C4 hz
        have hok := zT_M hr h262
        refine ⟨rfl, r', hr, h262, ⟨key r' hr (of_decide_eq_true hA), rfl⟩, fun o θ' σ' μ H locs Ls cells slots O => ⟨⟨O.pop, zbs_cons O.hd zbs_nil⟩, fun hM hroom => ?_⟩⟩
        have cb := zCB_of (args := args) hF hr hok hhn h1 h2 (cC θ' - cC θ) (cS θ' - cS θ)
        rw [hrt, hN] at cb
        exact zx_runIN (Ts := []) (As := []) (b := μ b) ⟨hF.ex, hF.bc, hF.ml, hF.own, fun _ h => nomatch h⟩ hM cb (hF.w hl rfl) hnm (hF.w hin rfl) ⟨zPc_b _ _ _ _ _, zPc_u hF O rfl⟩ rfl rfl (O.sz.trans hB) rfl (lv_room (zcsum hsum)) hdg hroom
    next => cases h
  next => cases h
theorem z_iV {i pl npc q : Nat} (hq : q = if zmC mj = 9 then 21 else zmC mj) (hF : zFr E r p l R s m meth c) (hB : B.2.2.2.2 = r.2.2.2.1) (hdg : decode r.2.2.1 pc = .ok (.invokevirtual i, 3)) (hz : zlk i (zCT r.1) = some (0, mj, pl)) (h1 : zmF mj + 1 ≤ r.2.2.2.2.2.2.1) (h2 : 8 + (zmL mj + 11) + zmW mj ≤ r.2.2.2.2.2.2.2.1) (h : o_callV mj q (zmN mj) (pc + 3) ls st θ σ = some (.inr (.inr (mj', vs, rest, npc)))) :
    zIv E B p l e R s m args below meth c pc ls st θ σ mj' vs rest npc := by
  unfold o_callV at h
  split at h
  next b rst hdr =>
    split at h
    next hh =>
      unfold ncl at h
      cases h
      obtain ⟨⟨hle, ha1⟩, hkd, hsum⟩ := hh
      have hA := zall_in (zckAr_all r.1) (zlk_in hz)
      have hA2 : zmN mj + 1 ≤ zmL mj ∧ (zmC mj < 7 ∨ zmC mj = 9) := by
        have hA3 : (decide (zmN mj + 1 ≤ zmL mj) && decide (zmC mj < 7 ∨ zmC mj = 9)) = true := hA
        simpa using hA3
      have hvl : ((st.take (zmN mj)).reverse).length = zmN mj := by rw [List.length_reverse, List.length_take]; omega
      obtain ⟨r', hr, h262, hl, hin, hsel, hhn⟩ := zT_C0 hz
      have hok := zT_M hr h262
      refine ⟨rfl, r', hr, h262, ⟨?_, ?_⟩, fun o θ' σ' μ H locs Ls cells slots O => ?_⟩
      · rw [List.length_cons, hvl, ← zmL_e hr]; exact hA2.1
      · have := za1_rev ha1
        unfold z_a1 at this ⊢
        rw [List.all_cons, this]; rfl
      · have hbd : zbs θ.1 (.inr (.inl (some b)) :: rest) := hdr ▸ zbs_drop O.2.2.2.1
        refine ⟨⟨O.to (zbs_tl hbd), zbs_cons (zbs_hd hbd) (zbs_take O.2.2.2.1)⟩, fun hM hroom => ?_⟩
        obtain ⟨c1, c2, c3, c4, c5, c6, c7, c8, c9, c10⟩ := zCB_of (args := args) hF hr hok hhn h1 h2 (cC θ' - cC θ) (cS θ' - cS θ)
        have hst : st.map (cv μ) = (((st.take (zmN mj)).reverse).map (cv μ)).reverse ++ .ref (μ b) :: rest.map (cv μ) := by
          rw [zcs_rv (k := zmN mj) μ, hdr]; rfl
        have hb : b < θ.1 := zbs_hd hbd
        have hrecv : ∃ cellB : Cell, H[μ b]? = some cellB ∧ cellB.vm.isStatics = false ∧ s.vm.findClass r'.2.1.cls = some cellB.cls := by
          rw [hok.1]
          rw [zmC_e hr] at hq hA2
          subst hq
          by_cases h9 : r'.1 = 9
          · rw [if_pos h9] at hkd
            obtain ⟨ha1, ha2⟩ := zkd_21 hkd
            obtain ⟨cell, g1, g2, g3, g4⟩ := (va_O.moved hF.cx.1.alike (hF.fa.2.2.2.1 b ha1 ha2).2.2.1).kept hF.cx.kept
            have em : μ b = E.2.2.1 b := O.old (by omega)
            rw [h9]
            refine ⟨cell, ?_, g2, g3⟩
            rw [em, O.2.1.2.1 _ (Array.getElem?_eq_some_iff.mp g1).1 g4]
            exact g1
          · rw [if_neg h9] at hkd
            have h7 : r'.1 < 7 := by omega
            obtain ⟨⟨C, T, N⟩, hq⟩ := vwCl_ex h7
            have hat := O.at (a := b) (by omega) hb
            rw [zcE_o (by omega), hkd] at hat
            have := va_recv hF.K O.P hq hat
            rw [zcn_cl hq h7] at this
            exact this
        have hra : ((Sum.inr (Sum.inl (some b)) :: (st.take (zmN mj)).reverse : List ZV).map (cv μ)).toArray = (Value.ref (μ b) :: ((st.take (zmN mj)).reverse).map (cv μ)).toArray := rfl
        exact vx_runV (Ts := []) (C := r'.2.1.cls) (As := ((st.take (zmN mj)).reverse).map (cv μ)) (b := μ b) ⟨hF.ex, hF.bc, hF.ml, hF.own, fun _ h => nomatch h⟩ hM ⟨⟨c1, c2, c3, c4, c5, c6, c7, c8, c9, c10, hF.w hl rfl⟩, hF.w hin rfl, hF.w hsel rfl⟩ ⟨zPc_b _ _ _ _ _, hrecv, zPc_u hF O hra.symm⟩ rfl (by rw [List.length_map, hvl]) (O.sz.trans hB) hst (lv_room (zcsum hsum)) hdg hroom
    next => cases h
  next => cases h
end ZIV
