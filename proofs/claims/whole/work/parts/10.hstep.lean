/-! STEPS on the heap -/
theorem zcn_cl {ci : Nat} {C : String} {T : u_T} {N : Nat} (h : vwCl[ci]? = some (C, T, N)) (hc : ci < 7) : C = zcn ci := by
  have hh : ci = 0 ∨ ci = 1 ∨ ci = 2 ∨ ci = 3 ∨ ci = 4 ∨ ci = 5 ∨ ci = 6 := by omega
  rcases hh with rfl | rfl | rfl | rfl | rfl | rfl | rfl <;> (cases h; rfl)
theorem arr_up {σ : ZI} {a k : Nat} {x : Int} : (fun j => Int32.ofInt (zup σ a k x a j)) = upd (fun j => Int32.ofInt (σ a j)) k (Int32.ofInt x) := by
  funext j
  unfold zup upd
  by_cases hj : j = k
  · rw [if_pos ⟨rfl, hj⟩, if_pos hj]
  · rw [if_neg (fun z => hj z.2), if_neg hj]
theorem arr_upL {σ : ZI} {a k : Nat} {x : Int} : (fun j => Int64.ofInt (zup σ a k x a j)) = vp_updL (fun j => Int64.ofInt (σ a j)) k (Int64.ofInt x) := by
  funext j
  unfold zup vp_updL
  by_cases hj : j = k
  · rw [if_pos ⟨rfl, hj⟩, if_pos hj]
  · rw [if_neg (fun z => hj z.2), if_neg hj]
theorem arr_upR {ρ : ZR} {μ : Nat → Nat} {a k b : Nat} : (fun j => (zupR ρ a k (some b) a j).map μ) = va_up (fun j => (ρ a j).map μ) k (some (μ b)) := by
  funext j
  unfold zupR va_up
  by_cases hj : j = k
  · rw [if_pos ⟨rfl, hj⟩, if_pos hj]; rfl
  · rw [if_neg (fun z => hj z.2), if_neg hj]
theorem arr_cpy {σ : ZI} {a d sp dp n : Nat} : (fun j => Int32.ofInt (zcpy σ a sp d dp n d j)) = va_cpy (fun j => Int32.ofInt (σ a j)) (fun j => Int32.ofInt (σ d j)) sp dp n := by
  funext j
  unfold zcpy va_cpy
  by_cases hj : dp ≤ j ∧ j < dp + n
  · rw [if_pos ⟨rfl, hj⟩, if_pos hj]
  · rw [if_neg (fun z => hj z.2), if_neg hj]
theorem nar_z {x : Int} (h : x = 0 ∨ x = 1) : narrow .boolean (.int (Int32.ofInt x)) = .int (Int32.ofInt x) ∧ fits .boolean (.int (Int32.ofInt x)) = true ∧ vp_nar .boolean (Int32.ofInt x) = Int32.ofInt x := by
  rcases h with rfl | rfl <;> decide
theorem nar_c {x : Int} (h0 : 0 ≤ x) (h1 : x < 65536) : narrow .char (.int (Int32.ofInt x)) = .int (Int32.ofInt x) ∧ fits .char (.int (Int32.ofInt x)) = true ∧ vp_nar .char (Int32.ofInt x) = Int32.ofInt x := by
  have e : Int32.ofInt x = nI x.toNat := by
    show _ = Int32.ofNat x.toNat
    rw [n32_nat]; congr 1; omega
  have h := pk_charN (q := x.toNat) (by omega)
  rw [e]
  refine ⟨h.1, h.2, ?_⟩
  unfold vp_nar
  rw [h.1]
theorem nar_r {d : String} {ty : FieldType} {v : Option Nat} (h : (∃ C, ty = .object C) ∨ ∃ t, ty = .array t) : narrow ty (va_rf v) = va_rf v ∧ fits ty (va_rf v) = true := by
  rcases h with ⟨C, rfl⟩ | ⟨t, rfl⟩ <;> cases v <;> exact ⟨rfl, rfl⟩
theorem zOF_s {E : zE} {s : State} (hC : zCx E s) {o n d : String} {v : Value} {t : Nat} (h : va_OF o n d v t (zA E.2.2.2.2) E.2.2.2.2 E.2.2.2.2.heap) : va_OF o n d v t (zA E.2.2.2.2) s s.heap := (va_OF.moved hC.1.alike h).kept hC.kept
theorem zT_s {E : zE} {s : State} (hC : zCx E s) {ty : FieldType} {t N : Nat} {f : Nat → Value} (h : va_T ty t N f (zA E.2.2.2.2) E.2.2.2.2 E.2.2.2.2.heap) : va_T ty t N f (zA E.2.2.2.2) s s.heap := (va_T.moved hC.1.alike h).kept hC.kept
theorem zT_F2 {c i m ci k knd fin pl : Nat} (h : zlk i (zFT c) = some (m, ci, k, knd, fin, pl)) : (m = 2 → .fieldLink (zcn c) i "java/lang/String" "value" "[B" ∈ lw_tbl) ∧ (m = 3 → .fieldLink (zcn c) i "java/lang/String" "coder" "B" ∈ lw_tbl) ∧ (m = 4 → .fieldLink (zcn c) i "java/lang/String" "COMPACT_STRINGS" "Z" ∈ lw_tbl) := by
  have h1 := zall_in (zckF_all c) (zlk_in h)
  refine ⟨fun e => ?_, fun e => ?_, fun e => ?_⟩ <;> (subst e; exact zw_in h1)
theorem zckN_e {c i ci p : Nat} : zckN c (i, 0, ci, p) = (match vwCl[ci]? with
    | some q => zw p (.classLink (zcn c) i q.1) && (zw (zIN ci).1 (.instantiable q.1 q.2.2) && (zw (zIN ci).2 (.initialized q.1) && decide (ci < 7)))
    | none => false) := rfl
theorem zT_N {c i ci pl : Nat} (h : zlk i (zNT c) = some (0, ci, pl)) : ∃ (C : String) (T : u_T) (N : Nat), vwCl[ci]? = some (C, T, N) ∧ .classLink (zcn c) i C ∈ lw_tbl ∧ .instantiable C N ∈ lw_tbl ∧ .initialized C ∈ lw_tbl ∧ ci < 7 := by
  have h1 := zall_in (zckN_all c) (zlk_in h)
  rw [zckN_e] at h1
  cases hq : vwCl[ci]? with
  | none => rw [hq] at h1; cases h1
  | some q =>
    rw [hq] at h1
    obtain ⟨C, T, N⟩ := q
    simp only [Bool.and_eq_true, decide_eq_true_eq] at h1
    exact ⟨C, T, N, rfl, zw_in h1.1, zw_in h1.2.1, zw_in h1.2.2.1, h1.2.2.2⟩
section ZHS
variable {E : zE} {B : zB} {p : Program} {l : Launch} {e : Env} {R : Room} {s : State} {m : MethodId} {args : Array Value} {below : List Frame} {meth : Method} {c : Code} {Q : State → Prop} {r : ZM} {pc pc' : Nat} {ls ls' : ZL} {st st' : List ZV} {θ θ' : ZT} {σ σ' : ZI}
theorem s_getI {i mo ci k0 knd fin pl : Nat} (hF : zFr E r p l R s m meth c) (hdg : decode r.2.2.1 pc = .ok (.getfield i, 3)) (hz : zlk i (zFT r.1) = some (mo, ci, k0, knd, fin, pl)) (hm : mo < 2) (hk : ¬ knd = 2) (h : o_getI ci k0 (pc + 3) ls st θ σ = some (.inl (pc', ls', st', θ', σ'))) (k : zGo E B p l e R s m args below meth c Q pc' ls' st' θ' σ') : zGo E B p l e R s m args below meth c Q pc ls st θ σ := by
  intro μ H locs Ls cells slots hc hs O
  unfold o_getI at h
  split at h
  next a rest =>
    split at h
    next ha =>
      cases h
      subst ha
      obtain ⟨C, T, N, g1, g2, g3, g4, g5, g6, g7, g8, g9⟩ := zT_F hz hm
      have hb : a < θ.1 := O.hd
      have hat := O.at (a := a) (by omega) hb
      rw [zcE_o (by omega)] at hat
      have hN : N = zcnt (zkd a) := (zT_T g1).1
      have hn : k0 < zln a := by rw [zln_obj g7, ← hN]; exact g2
      have hv : ((List.range (zln a)).map (zfl μ θ.2.2 σ a))[k0]? = some (cv μ (.inl (σ a k0))) := by
        rw [zfl_get hn]
        unfold zfl
        rw [if_neg (by rw [g5]; simpa using hk)]
        rfl
      have kk := k μ H locs Ls cells slots hc hs (O.pop.push (v := .inl (σ a k0)) trivial)
      by_cases hmo : mo = 0
      · exact va_get hF.ex hF.bc (zTs_all hF.fa hF.cx) (zT_Ls g1) hF.own hF.K O.P (a - 100) hat g1 k0 g2 (hF.w (g8 hmo) rfl) (fun x hx => by rw [g3] at hx; exact hx) hv hdg kk
      · exact va_getN hF.ex hF.bc (zTs_all hF.fa hF.cx) (zT_Ls g1) hF.own hF.K O.P (a - 100) hat g1 k0 g2 (hF.w (g9 (by omega)) rfl) (fun x hx => by rw [g3] at hx; exact hx) hv hdg kk
    next => cases h
  next => cases h
theorem s_getR {i mo ci k0 knd fin pl : Nat} (hF : zFr E r p l R s m meth c) (hdg : decode r.2.2.1 pc = .ok (.getfield i, 3)) (hz : zlk i (zFT r.1) = some (mo, ci, k0, knd, fin, pl)) (hm : mo < 2) (hk : knd = 2) (h : o_getR ci k0 (pc + 3) ls st θ σ = some (.inl (pc', ls', st', θ', σ'))) (k : zGo E B p l e R s m args below meth c Q pc' ls' st' θ' σ') : zGo E B p l e R s m args below meth c Q pc ls st θ σ := by
  intro μ H locs Ls cells slots hc hs O
  unfold o_getR at h
  split at h
  next a rest =>
    split at h
    next ha =>
      cases h
      subst ha
      obtain ⟨C, T, N, g1, g2, g3, g4, g5, g6, g7, g8, g9⟩ := zT_F hz hm
      have hb : a < θ.1 := O.hd
      have hat := O.at (a := a) (by omega) hb
      rw [zcE_o (by omega)] at hat
      have hN : N = zcnt (zkd a) := (zT_T g1).1
      have hn : k0 < zln a := by rw [zln_obj g7, ← hN]; exact g2
      have hv : ((List.range (zln a)).map (zfl μ θ.2.2 σ a))[k0]? = some (cv μ (.inr (.inl (θ.2.2 a k0)))) := by
        rw [zfl_get hn]
        unfold zfl
        rw [if_pos (by rw [g5]; simpa using hk)]
        rfl
      have kk := k μ H locs Ls cells slots hc hs (O.pop.push (v := .inr (.inl (θ.2.2 a k0))) (by
        have hr := fun b => O.1.2.2.2.1 a k0 b hb
        cases hx : θ.2.2 a k0 with
        | none => trivial
        | some b => exact hr b hx))
      by_cases hmo : mo = 0
      · exact va_get hF.ex hF.bc (zTs_all hF.fa hF.cx) (zT_Ls g1) hF.own hF.K O.P (a - 100) hat g1 k0 g2 (hF.w (g8 hmo) rfl) (fun x hx => by rw [g3] at hx; exact hx) hv hdg kk
      · exact va_getN hF.ex hF.bc (zTs_all hF.fa hF.cx) (zT_Ls g1) hF.own hF.K O.P (a - 100) hat g1 k0 g2 (hF.w (g9 (by omega)) rfl) (fun x hx => by rw [g3] at hx; exact hx) hv hdg kk
    next => cases h
  next => cases h
theorem s_putI {i mo ci k0 knd fin pl : Nat} (hF : zFr E r p l R s m meth c) (hdg : decode r.2.2.1 pc = .ok (.putfield i, 3)) (hz : zlk i (zFT r.1) = some (mo, ci, k0, knd, fin, pl)) (hm : mo < 2) (hk : knd = 0) (hfin : fin = 0 ∨ (mo = 0 ∧ ci = r.1 ∧ r.2.1.name = "<init>")) (h : o_putI ci k0 (pc + 3) ls st θ σ = some (.inl (pc', ls', st', θ', σ'))) (k : zGo E B p l e R s m args below meth c Q pc' ls' st' θ' σ') : zGo E B p l e R s m args below meth c Q pc ls st θ σ := by
  intro μ H locs Ls cells slots hc hs O
  unfold o_putI at h
  split at h
  next x a rest =>
    split at h
    next ha =>
      cases h
      subst ha
      obtain ⟨C, T, N, g1, g2, g3, g4, g5, g6, g7, g8, g9⟩ := zT_F hz hm
      have hb : a < θ.1 := O.pop.hd
      have hat := O.at (a := a) (by omega) hb
      rw [zcE_o (by omega)] at hat
      have hN : N = zcnt (zkd a) := (zT_T g1).1
      have hn : k0 < zln a := by rw [zln_obj g7, ← hN]; exact g2
      obtain ⟨u1, u2, u3, u4⟩ := zT_T g1
      have hge : 100 ≤ a := zkd_ge (by omega)
      have hty : parseFieldDescriptor (T k0).2.2.1 = some .int := zty_0 (g6.trans hk)
      have hnf : narrow .int (.int (Int32.ofInt x)) = .int (Int32.ofInt x) ∧ fits .int (.int (Int32.ofInt x)) = true := ⟨rfl, rfl⟩
      have hrf : zrf (zkd a) k0 = false := by rw [g5, hk]; rfl
      have hgo : ∀ (H1 : Heap) (locs1 : List Loc), va_P E.1 vwCl ((zws E.2.1 μ θ.1 θ.2.2 σ).set (a - 100) (μ a, .inr (zkd a, ((List.range (zln a)).map (zfl μ θ.2.2 σ a)).set k0 (.int (Int32.ofInt x))))) H1 → va_D (zA E.2.2.2.2) ((zws E.2.1 μ θ.1 θ.2.2 σ).set (a - 100) (μ a, .inr (zkd a, ((List.range (zln a)).map (zfl μ θ.2.2 σ a)).set k0 (.int (Int32.ofInt x))))) → va_S (zA E.2.2.2.2) s.heap H1 locs1 → W p l e R s m args below meth c H1 locs1 cells slots Q (F0 m (pc + 3) Ls (st'.map (cv μ))) := fun H1 locs1 hP1 hD1 hS1 => k μ H1 locs1 Ls cells slots hc hs (O.pop.pop.updI (k := k0) (x := x) hge (by rw [zcE_o (by omega), zfl_upI hrf]) hP1 hD1 hS1)
      have hlen : k0 < ((List.range (zln a)).map (zfl μ θ.2.2 σ a)).length := by simpa using hn
      cases hfb : (fin == 1) with
      | false =>
        by_cases hmo : mo = 0
        · exact va_put hF.ex hF.bc (zTs_all hF.fa hF.cx) (zT_Ls g1) _ u2 u4 hF.own hF.K O.P O.D O.S (a - 100) hat g1 k0 g2 (hF.w (g8 hmo) rfl) (fun x hx => by rw [g3] at hx; exact hx) (g4.trans hfb) hty hnf.1 hnf.2 hlen hdg hgo
        · exact va_putN hF.ex hF.bc (zTs_all hF.fa hF.cx) (zT_Ls g1) _ u2 u4 hF.own hF.K O.P O.D O.S (a - 100) hat g1 k0 g2 (hF.w (g9 (by omega)) rfl) (fun x hx => by rw [g3] at hx; exact hx) (g4.trans hfb) hty hnf.1 hnf.2 hlen hdg hgo
      | true =>
        have hf1 : fin = 1 := by simpa using hfb
        obtain ⟨hmo, hci, hnm⟩ := hfin.resolve_left (by omega)
        exact va_putF hF.ex hF.bc (zTs_all hF.fa hF.cx) (zT_Ls g1) _ u2 u4 hF.own hF.K O.P O.D O.S (a - 100) hat g1 k0 g2 (hF.w (g8 hmo) rfl) (fun x hx => by rw [g3] at hx; exact hx) (g4.trans hfb) (hF.nm.trans hnm) (by rw [g3, zcn_cl g1 g7, hci]) hty hnf.1 hnf.2 hlen hdg hgo
    next => cases h
  next => cases h
theorem s_putZ {i mo ci k0 knd fin pl : Nat} (hF : zFr E r p l R s m meth c) (hdg : decode r.2.2.1 pc = .ok (.putfield i, 3)) (hz : zlk i (zFT r.1) = some (mo, ci, k0, knd, fin, pl)) (hm : mo < 2) (hk : knd = 1) (hfin : fin = 0 ∨ (mo = 0 ∧ ci = r.1 ∧ r.2.1.name = "<init>")) (h : o_putZ ci k0 (pc + 3) ls st θ σ = some (.inl (pc', ls', st', θ', σ'))) (k : zGo E B p l e R s m args below meth c Q pc' ls' st' θ' σ') : zGo E B p l e R s m args below meth c Q pc ls st θ σ := by
  intro μ H locs Ls cells slots hc hs O
  unfold o_putZ at h
  split at h
  next x a rest =>
    split at h
    next ha =>
      cases h
      obtain ⟨ha, hx01⟩ := ha
      subst ha
      obtain ⟨C, T, N, g1, g2, g3, g4, g5, g6, g7, g8, g9⟩ := zT_F hz hm
      have hb : a < θ.1 := O.pop.hd
      have hat := O.at (a := a) (by omega) hb
      rw [zcE_o (by omega)] at hat
      have hN : N = zcnt (zkd a) := (zT_T g1).1
      have hn : k0 < zln a := by rw [zln_obj g7, ← hN]; exact g2
      obtain ⟨u1, u2, u3, u4⟩ := zT_T g1
      have hge : 100 ≤ a := zkd_ge (by omega)
      have hty : parseFieldDescriptor (T k0).2.2.1 = some .boolean := zty_1 (g6.trans hk)
      have hnf : narrow .boolean (.int (Int32.ofInt x)) = .int (Int32.ofInt x) ∧ fits .boolean (.int (Int32.ofInt x)) = true := ⟨(nar_z hx01).1, (nar_z hx01).2.1⟩
      have hrf : zrf (zkd a) k0 = false := by rw [g5, hk]; rfl
      have hgo : ∀ (H1 : Heap) (locs1 : List Loc), va_P E.1 vwCl ((zws E.2.1 μ θ.1 θ.2.2 σ).set (a - 100) (μ a, .inr (zkd a, ((List.range (zln a)).map (zfl μ θ.2.2 σ a)).set k0 (.int (Int32.ofInt x))))) H1 → va_D (zA E.2.2.2.2) ((zws E.2.1 μ θ.1 θ.2.2 σ).set (a - 100) (μ a, .inr (zkd a, ((List.range (zln a)).map (zfl μ θ.2.2 σ a)).set k0 (.int (Int32.ofInt x))))) → va_S (zA E.2.2.2.2) s.heap H1 locs1 → W p l e R s m args below meth c H1 locs1 cells slots Q (F0 m (pc + 3) Ls (st'.map (cv μ))) := fun H1 locs1 hP1 hD1 hS1 => k μ H1 locs1 Ls cells slots hc hs (O.pop.pop.updI (k := k0) (x := x) hge (by rw [zcE_o (by omega), zfl_upI hrf]) hP1 hD1 hS1)
      have hlen : k0 < ((List.range (zln a)).map (zfl μ θ.2.2 σ a)).length := by simpa using hn
      cases hfb : (fin == 1) with
      | false =>
        by_cases hmo : mo = 0
        · exact va_put hF.ex hF.bc (zTs_all hF.fa hF.cx) (zT_Ls g1) _ u2 u4 hF.own hF.K O.P O.D O.S (a - 100) hat g1 k0 g2 (hF.w (g8 hmo) rfl) (fun x hx => by rw [g3] at hx; exact hx) (g4.trans hfb) hty hnf.1 hnf.2 hlen hdg hgo
        · exact va_putN hF.ex hF.bc (zTs_all hF.fa hF.cx) (zT_Ls g1) _ u2 u4 hF.own hF.K O.P O.D O.S (a - 100) hat g1 k0 g2 (hF.w (g9 (by omega)) rfl) (fun x hx => by rw [g3] at hx; exact hx) (g4.trans hfb) hty hnf.1 hnf.2 hlen hdg hgo
      | true =>
        have hf1 : fin = 1 := by simpa using hfb
        obtain ⟨hmo, hci, hnm⟩ := hfin.resolve_left (by omega)
        exact va_putF hF.ex hF.bc (zTs_all hF.fa hF.cx) (zT_Ls g1) _ u2 u4 hF.own hF.K O.P O.D O.S (a - 100) hat g1 k0 g2 (hF.w (g8 hmo) rfl) (fun x hx => by rw [g3] at hx; exact hx) (g4.trans hfb) (hF.nm.trans hnm) (by rw [g3, zcn_cl g1 g7, hci]) hty hnf.1 hnf.2 hlen hdg hgo
    next => cases h
  next => cases h
theorem s_putR {i mo ci k0 knd fin pl : Nat} (hF : zFr E r p l R s m meth c) (hdg : decode r.2.2.1 pc = .ok (.putfield i, 3)) (hz : zlk i (zFT r.1) = some (mo, ci, k0, knd, fin, pl)) (hm : mo < 2) (hk : knd = 2) (hfin : fin = 0 ∨ (mo = 0 ∧ ci = r.1 ∧ r.2.1.name = "<init>")) (h : o_putR ci k0 (pc + 3) ls st θ σ = some (.inl (pc', ls', st', θ', σ'))) (k : zGo E B p l e R s m args below meth c Q pc' ls' st' θ' σ') : zGo E B p l e R s m args below meth c Q pc ls st θ σ := by
  intro μ H locs Ls cells slots hc hs O
  unfold o_putR at h
  split at h
  next x a rest =>
    split at h
    next ha =>
      cases h
      subst ha
      obtain ⟨C, T, N, g1, g2, g3, g4, g5, g6, g7, g8, g9⟩ := zT_F hz hm
      have hb : a < θ.1 := O.pop.hd
      have hat := O.at (a := a) (by omega) hb
      rw [zcE_o (by omega)] at hat
      have hN : N = zcnt (zkd a) := (zT_T g1).1
      have hn : k0 < zln a := by rw [zln_obj g7, ← hN]; exact g2
      obtain ⟨u1, u2, u3, u4⟩ := zT_T g1
      have hge : 100 ≤ a := zkd_ge (by omega)
      obtain ⟨ty, hty, htr⟩ : ∃ ty, parseFieldDescriptor (T k0).2.2.1 = some ty ∧ ((∃ C, ty = .object C) ∨ ∃ t, ty = .array t) := by
        rcases zty_2 (g6.trans hk) with ⟨C9, h9⟩ | ⟨t9, h9⟩
        · exact ⟨_, h9, Or.inl ⟨_, rfl⟩⟩
        · exact ⟨_, h9, Or.inr ⟨_, rfl⟩⟩
      have hnf := nar_r (d := "") (v := x.map μ) htr
      have hrf : zrf (zkd a) k0 = true := by rw [g5, hk]; rfl
      have hxb : ∀ b, x = some b → b < θ.1 := fun b hx => by have := O.hd; rw [hx] at this; exact this
      have hgo : ∀ (H1 : Heap) (locs1 : List Loc), va_P E.1 vwCl ((zws E.2.1 μ θ.1 θ.2.2 σ).set (a - 100) (μ a, .inr (zkd a, ((List.range (zln a)).map (zfl μ θ.2.2 σ a)).set k0 (va_rf (x.map μ))))) H1 → va_D (zA E.2.2.2.2) ((zws E.2.1 μ θ.1 θ.2.2 σ).set (a - 100) (μ a, .inr (zkd a, ((List.range (zln a)).map (zfl μ θ.2.2 σ a)).set k0 (va_rf (x.map μ))))) → va_S (zA E.2.2.2.2) s.heap H1 locs1 → W p l e R s m args below meth c H1 locs1 cells slots Q (F0 m (pc + 3) Ls (st'.map (cv μ))) := fun H1 locs1 hP1 hD1 hS1 => k μ H1 locs1 Ls cells slots hc hs (O.pop.pop.updR (k := k0) (x := x) hge (by rw [zcE_o (by omega), zfl_upR hrf]) hxb hP1 hD1 hS1)
      have hlen : k0 < ((List.range (zln a)).map (zfl μ θ.2.2 σ a)).length := by simpa using hn
      cases hfb : (fin == 1) with
      | false =>
        by_cases hmo : mo = 0
        · exact va_put hF.ex hF.bc (zTs_all hF.fa hF.cx) (zT_Ls g1) _ u2 u4 hF.own hF.K O.P O.D O.S (a - 100) hat g1 k0 g2 (hF.w (g8 hmo) rfl) (fun x hx => by rw [g3] at hx; exact hx) (g4.trans hfb) hty hnf.1 hnf.2 hlen hdg hgo
        · exact va_putN hF.ex hF.bc (zTs_all hF.fa hF.cx) (zT_Ls g1) _ u2 u4 hF.own hF.K O.P O.D O.S (a - 100) hat g1 k0 g2 (hF.w (g9 (by omega)) rfl) (fun x hx => by rw [g3] at hx; exact hx) (g4.trans hfb) hty hnf.1 hnf.2 hlen hdg hgo
      | true =>
        have hf1 : fin = 1 := by simpa using hfb
        obtain ⟨hmo, hci, hnm⟩ := hfin.resolve_left (by omega)
        exact va_putF hF.ex hF.bc (zTs_all hF.fa hF.cx) (zT_Ls g1) _ u2 u4 hF.own hF.K O.P O.D O.S (a - 100) hat g1 k0 g2 (hF.w (g8 hmo) rfl) (fun x hx => by rw [g3] at hx; exact hx) (g4.trans hfb) (hF.nm.trans hnm) (by rw [g3, zcn_cl g1 g7, hci]) hty hnf.1 hnf.2 hlen hdg hgo
    next => cases h
  next => cases h
theorem s_iald  (hF : zFr E r p l R s m meth c) (hdg : decode r.2.2.1 pc = .ok (.iaload, 1)) (h : o_iald (pc + 1) ls st θ σ = some (.inl (pc', ls', st', θ', σ'))) (k : zGo E B p l e R s m args below meth c Q pc' ls' st' θ' σ') : zGo E B p l e R s m args below meth c Q pc ls st θ σ := by
  intro μ H locs Ls cells slots hc hs O
  unfold o_iald at h
  split at h
  next i a rest =>
    have hb : a < θ.1 := O.pop.hd
    split at h
    next hk =>
      split at h
      next hi =>
        cases h
        have hat := O.at (a := a) (by omega) hb
        rw [zcE_i (by omega) (by omega), hk] at hat
        have hl := zln_lt a
        have kk := k μ H locs Ls cells slots hc hs (O.pop.pop.push (v := .inl (σ a i.toNat)) trivial)
        refine va_iald hF.ex hF.bc hF.K O.P (a - 100) 0 hat rfl (n32_vin hi.1 hi.2 (by omega)) hdg ?_
        rw [n32_c hi.1 (by omega)]
        exact kk
      next => cases h
    next hk =>
      split at h
      next hk2 =>
        split at h
        next hi =>
          cases h
          have ha0 := zkd_20 hk2
          subst ha0
          obtain ⟨⟨q1, q2⟩, q3, q4⟩ := hF.fa.2.2.1
          have e23 : σ 23 0 = E.2.2.2.1 23 0 := by rw [O.olds (a := 23) (by omega)]
          have e0 : σ 0 = E.2.2.2.1 0 := O.olds (a := 0) (by omega)
          have em : μ 0 = E.2.2.1 0 := O.old (a := 0) (by omega)
          have kk := k μ H locs Ls cells slots hc hs (O.pop.pop.push (v := .inl (σ 0 i.toNat)) trivial)
          have hX : va_X (μ 0) (E.2.2.2.1 23 0).toNat (fun j => Int32.ofInt (E.2.2.2.1 0 j)) s s.heap := by
            rw [em]; exact (va_X.moved hF.cx.1.alike q4).kept (hF.cx.2.2 _ q3)
          have hi2 := hi.2
          refine va_sld hF.ex hF.bc hX (by rw [em]; exact Nat.lt_of_lt_of_le q3 hF.cx.2.1) (by rw [em]; exact Nat.not_le.mpr q3) O.S (n32_vin hi.1 (by omega) (by omega)) hdg ?_
          rw [n32_c hi.1 (by omega), ← e0]
          exact kk
        next => cases h
      next => cases h
  next => cases h
theorem s_bald  (hF : zFr E r p l R s m meth c) (hdg : decode r.2.2.1 pc = .ok (.baload, 1)) (h : o_bald (pc + 1) ls st θ σ = some (.inl (pc', ls', st', θ', σ'))) (k : zGo E B p l e R s m args below meth c Q pc' ls' st' θ' σ') : zGo E B p l e R s m args below meth c Q pc ls st θ σ := by
  intro μ H locs Ls cells slots hc hs O
  unfold o_bald at h
  split at h
  next i a rest =>
    have hb : a < θ.1 := O.pop.hd
    split at h
    next hi =>
      cases h
      obtain ⟨hk, hi0, hi1⟩ := hi
      have hl := zln_lt a
      have kk := k μ H locs Ls cells slots hc hs (O.pop.pop.push (v := .inl (σ a i.toNat)) trivial)
      rcases hk with hk | hk
      · have hat := O.at (a := a) (by omega) hb
        rw [zcE_i (by omega) (by omega), hk] at hat
        refine va_zald hF.ex hF.bc hF.K O.P (a - 100) 1 hat rfl (n32_vin hi0 hi1 (by omega)) hdg ?_
        rw [n32_c hi0 (by omega)]
        exact kk
      · obtain ⟨ha1, ha2⟩ := zkd_22 hk
        have hT := (hF.fa.2.2.2.1 (a - 11) (by omega) (by omega)).2.2.2
        rw [show a - 11 + 11 = a by omega] at hT
        have em : μ a = E.2.2.1 a := O.old (by omega)
        have es : σ a = E.2.2.2.1 a := O.olds (by omega)
        have hT2 := zT_s hF.cx hT
        rw [← em] at hT2
        refine va_tb hF.ex hF.bc hT2 O.S (n32_vin hi0 hi1 (by omega)) (v := .int (Int32.ofInt (σ a i.toNat))) ?_ hdg kk
        rw [n32_c hi0 (by omega), es]
    next => cases h
  next => cases h
theorem s_cald  (hF : zFr E r p l R s m meth c) (hdg : decode r.2.2.1 pc = .ok (.caload, 1)) (h : o_cald (pc + 1) ls st θ σ = some (.inl (pc', ls', st', θ', σ'))) (k : zGo E B p l e R s m args below meth c Q pc' ls' st' θ' σ') : zGo E B p l e R s m args below meth c Q pc ls st θ σ := by
  intro μ H locs Ls cells slots hc hs O
  unfold o_cald at h
  split at h
  next i a rest =>
    have hb : a < θ.1 := O.pop.hd
    split at h
    next hi =>
      cases h
      obtain ⟨hk, hi0, hi1⟩ := hi
      have hl := zln_lt a
      have kk := k μ H locs Ls cells slots hc hs (O.pop.pop.push (v := .inl (σ a i.toNat)) trivial)
      have hat := O.at (a := a) (by omega) hb
      rw [zcE_i (by omega) (by omega), hk] at hat
      refine va_cald hF.ex hF.bc hF.K O.P (a - 100) 2 hat rfl (n32_vin hi0 hi1 (by omega)) hdg ?_
      rw [n32_c hi0 (by omega)]
      exact kk
    next => cases h
  next => cases h
theorem s_lald  (hF : zFr E r p l R s m meth c) (hdg : decode r.2.2.1 pc = .ok (.laload, 1)) (h : o_lald (pc + 1) ls st θ σ = some (.inl (pc', ls', st', θ', σ'))) (k : zGo E B p l e R s m args below meth c Q pc' ls' st' θ' σ') : zGo E B p l e R s m args below meth c Q pc ls st θ σ := by
  intro μ H locs Ls cells slots hc hs O
  unfold o_lald at h
  split at h
  next i a rest =>
    have hb : a < θ.1 := O.pop.hd
    split at h
    next hi =>
      cases h
      obtain ⟨hk, hi0, hi1⟩ := hi
      have hl := zln_lt a
      have kk := k μ H locs Ls cells slots hc hs (O.pop.pop.push (v := .inr (.inr (.inl (σ a i.toNat)))) trivial)
      have hat := O.at (a := a) (by omega) hb
      rw [zcE_l hk] at hat
      refine va_lald hF.ex hF.bc hF.K O.P (a - 100) 3 hat rfl (n32_vin hi0 hi1 (by omega)) hdg ?_
      rw [n32_c hi0 (by omega)]
      exact kk
    next => cases h
  next => cases h
theorem s_aald  (hF : zFr E r p l R s m meth c) (hdg : decode r.2.2.1 pc = .ok (.aaload, 1)) (h : o_aald (pc + 1) ls st θ σ = some (.inl (pc', ls', st', θ', σ'))) (k : zGo E B p l e R s m args below meth c Q pc' ls' st' θ' σ') : zGo E B p l e R s m args below meth c Q pc ls st θ σ := by
  intro μ H locs Ls cells slots hc hs O
  unfold o_aald at h
  split at h
  next i a rest =>
    have hb : a < θ.1 := O.pop.hd
    split at h
    next hi =>
      cases h
      obtain ⟨hk, hi0, hi1⟩ := hi
      have hl := zln_lt a
      have kk := k μ H locs Ls cells slots hc hs (O.pop.pop.push (v := .inr (.inl (θ.2.2 a i.toNat))) (by
        have hr := fun b => O.1.2.2.2.1 a i.toNat b hb
        cases hx : θ.2.2 a i.toNat with
        | none => trivial
        | some b => exact hr b hx))
      have hat := O.at (a := a) (by omega) hb
      rw [zcE_q (by omega)] at hat
      rcases hk with hk | hk
      · rw [hk] at hat
        refine va_aldq hF.ex hF.bc hF.K O.P (a - 100) 4 hat rfl (n32_vin hi0 hi1 (by omega)) hdg ?_
        rw [n32_c hi0 (by omega)]
        exact kk
      · rw [hk] at hat
        refine va_aldq hF.ex hF.bc hF.K O.P (a - 100) 5 hat rfl (n32_vin hi0 hi1 (by omega)) hdg ?_
        rw [n32_c hi0 (by omega)]
        exact kk
    next => cases h
  next => cases h
theorem s_iast  (hF : zFr E r p l R s m meth c) (hdg : decode r.2.2.1 pc = .ok (.iastore, 1)) (h : o_iast (pc + 1) ls st θ σ = some (.inl (pc', ls', st', θ', σ'))) (k : zGo E B p l e R s m args below meth c Q pc' ls' st' θ' σ') : zGo E B p l e R s m args below meth c Q pc ls st θ σ := by
  intro μ H locs Ls cells slots hc hs O
  unfold o_iast at h
  split at h
  next x i a rest =>
    have hb : a < θ.1 := O.pop.pop.hd
    split at h
    next hi =>
      cases h
      obtain ⟨hk, hi0, hi1⟩ := hi
      have hl := zln_lt a
      have hat := O.at (a := a) (by omega) hb
      rw [zcE_i (by omega) (by omega), hk] at hat
      refine va_iast hF.ex hF.bc hF.K O.P O.D O.S (a - 100) 0 hat rfl (n32_vin hi0 hi1 (by omega)) hdg fun H1 locs1 hP1 hD1 hS1 => ?_
      exact k μ H1 locs1 Ls cells slots hc hs (O.pop.pop.pop.updI (k := i.toNat) (x := x) (zkd_ge (by omega)) (by rw [zcE_i (by omega) (by omega), hk, n32_c hi0 (by omega), arr_up]) hP1 hD1 hS1)
    next => cases h
  next => cases h
theorem s_bast  (hF : zFr E r p l R s m meth c) (hdg : decode r.2.2.1 pc = .ok (.bastore, 1)) (h : o_bast (pc + 1) ls st θ σ = some (.inl (pc', ls', st', θ', σ'))) (k : zGo E B p l e R s m args below meth c Q pc' ls' st' θ' σ') : zGo E B p l e R s m args below meth c Q pc ls st θ σ := by
  intro μ H locs Ls cells slots hc hs O
  unfold o_bast at h
  split at h
  next x i a rest =>
    have hb : a < θ.1 := O.pop.pop.hd
    split at h
    next hi =>
      cases h
      obtain ⟨hk, ⟨hi0, hi1⟩, hx⟩ := hi
      have hl := zln_lt a
      have hat := O.at (a := a) (by omega) hb
      rw [zcE_i (by omega) (by omega), hk] at hat
      refine va_zast hF.ex hF.bc hF.K O.P O.D O.S (a - 100) 1 hat rfl (n32_vin hi0 hi1 (by omega)) hdg fun H1 locs1 hP1 hD1 hS1 => ?_
      exact k μ H1 locs1 Ls cells slots hc hs (O.pop.pop.pop.updI (k := i.toNat) (x := x) (zkd_ge (by omega)) (by rw [zcE_i (by omega) (by omega), hk, n32_c hi0 (by omega), (nar_z hx).2.2, arr_up]) hP1 hD1 hS1)
    next => cases h
  next => cases h
theorem s_cast  (hF : zFr E r p l R s m meth c) (hdg : decode r.2.2.1 pc = .ok (.castore, 1)) (h : o_cast (pc + 1) ls st θ σ = some (.inl (pc', ls', st', θ', σ'))) (k : zGo E B p l e R s m args below meth c Q pc' ls' st' θ' σ') : zGo E B p l e R s m args below meth c Q pc ls st θ σ := by
  intro μ H locs Ls cells slots hc hs O
  unfold o_cast at h
  split at h
  next x i a rest =>
    have hb : a < θ.1 := O.pop.pop.hd
    split at h
    next hi =>
      cases h
      obtain ⟨hk, ⟨hi0, hi1⟩, hx⟩ := hi
      have hl := zln_lt a
      have hat := O.at (a := a) (by omega) hb
      rw [zcE_i (by omega) (by omega), hk] at hat
      refine va_cast hF.ex hF.bc hF.K O.P O.D O.S (a - 100) 2 hat rfl (n32_vin hi0 hi1 (by omega)) hdg fun H1 locs1 hP1 hD1 hS1 => ?_
      exact k μ H1 locs1 Ls cells slots hc hs (O.pop.pop.pop.updI (k := i.toNat) (x := x) (zkd_ge (by omega)) (by rw [zcE_i (by omega) (by omega), hk, n32_c hi0 (by omega), (nar_c hx.1 hx.2).2.2, arr_up]) hP1 hD1 hS1)
    next => cases h
  next => cases h
theorem s_last  (hF : zFr E r p l R s m meth c) (hdg : decode r.2.2.1 pc = .ok (.lastore, 1)) (h : o_last (pc + 1) ls st θ σ = some (.inl (pc', ls', st', θ', σ'))) (k : zGo E B p l e R s m args below meth c Q pc' ls' st' θ' σ') : zGo E B p l e R s m args below meth c Q pc ls st θ σ := by
  intro μ H locs Ls cells slots hc hs O
  unfold o_last at h
  split at h
  next x i a rest =>
    have hb : a < θ.1 := O.pop.pop.hd
    split at h
    next hi =>
      cases h
      obtain ⟨hk, hi0, hi1⟩ := hi
      have hl := zln_lt a
      have hat := O.at (a := a) (by omega) hb
      rw [zcE_l hk] at hat
      refine va_last hF.ex hF.bc hF.K O.P O.D O.S (a - 100) 3 hat rfl (n32_vin hi0 hi1 (by omega)) hdg fun H1 locs1 hP1 hD1 hS1 => ?_
      exact k μ H1 locs1 Ls cells slots hc hs (O.pop.pop.pop.updI (k := i.toNat) (x := x) (zkd_ge (by omega)) (by rw [zcE_l hk, n32_c hi0 (by omega), arr_upL]) hP1 hD1 hS1)
    next => cases h
  next => cases h
theorem s_aast  (hF : zFr E r p l R s m meth c) (hdg : decode r.2.2.1 pc = .ok (.aastore, 1)) (h : o_aast (pc + 1) ls st θ σ = some (.inl (pc', ls', st', θ', σ'))) (k : zGo E B p l e R s m args below meth c Q pc' ls' st' θ' σ') : zGo E B p l e R s m args below meth c Q pc ls st θ σ := by
  intro μ H locs Ls cells slots hc hs O
  unfold o_aast at h
  split at h
  next b i a rest =>
    have hb : a < θ.1 := O.pop.pop.hd
    have hbb : b < θ.1 := O.hd
    split at h
    next hi =>
      cases h
      obtain ⟨hk, hi0, hi1⟩ := hi
      have hl := zln_lt a
      have hat := O.at (a := a) (by omega) hb
      have hbt := O.at (a := b) (by omega) hbb
      rw [zcE_q (by omega)] at hat
      rw [zcE_o (by omega)] at hbt
      rcases hk with ⟨hk, hkb⟩ | ⟨hk, hkb⟩
      · rw [hk] at hat
        rw [hkb] at hbt
        refine va_astq hF.ex hF.bc hF.K O.P O.D O.S (a - 100) 4 (b - 100) 3 hat (r := (RX3, TX3, 5)) rfl hbt rfl (n32_vin hi0 hi1 (by omega)) hdg fun H1 locs1 hP1 hD1 hS1 => ?_
        exact k μ H1 locs1 Ls cells slots hc hs (O.pop.pop.pop.updR (k := i.toNat) (x := some b) (zkd_ge (by omega)) (by rw [zcE_q (by omega), hk, n32_c hi0 (by omega), arr_upR]) (fun b' hb' => by cases hb'; exact hbb) hP1 hD1 hS1)
      · rw [hk] at hat
        rw [hkb] at hbt
        refine va_astq hF.ex hF.bc hF.K O.P O.D O.S (a - 100) 5 (b - 100) 2 hat (r := (RX2, TX2, 14)) rfl hbt rfl (n32_vin hi0 hi1 (by omega)) hdg fun H1 locs1 hP1 hD1 hS1 => ?_
        exact k μ H1 locs1 Ls cells slots hc hs (O.pop.pop.pop.updR (k := i.toNat) (x := some b) (zkd_ge (by omega)) (by rw [zcE_q (by omega), hk, n32_c hi0 (by omega), arr_upR]) (fun b' hb' => by cases hb'; exact hbb) hP1 hD1 hS1)
    next => cases h
  next => cases h
theorem s_alen  (hF : zFr E r p l R s m meth c) (hdg : decode r.2.2.1 pc = .ok (.arraylength, 1)) (h : o_alen (pc + 1) ls st θ σ = some (.inl (pc', ls', st', θ', σ'))) (k : zGo E B p l e R s m args below meth c Q pc' ls' st' θ' σ') : zGo E B p l e R s m args below meth c Q pc ls st θ σ := by
  intro μ H locs Ls cells slots hc hs O
  unfold o_alen at h
  split at h
  next a rest =>
    have hb : a < θ.1 := O.hd
    split at h
    next hk =>
      cases h
      have kk := k μ H locs Ls cells slots hc hs (O.pop.push (v := .inl (zln a)) trivial)
      rcases hk with hk | hk
      · have hat := O.at (a := a) (by omega) hb
        by_cases k3 : zkd a < 13
        · rw [zcE_i (by omega) k3] at hat
          have hh : zkd a = 10 ∨ zkd a = 11 ∨ zkd a = 12 := by omega
          rcases hh with h1 | h1 | h1
          · rw [h1] at hat; exact va_alen hF.ex hF.bc hF.K O.P (a - 100) 0 hat rfl (n32_nat _) hdg kk
          · rw [h1] at hat; exact va_alen hF.ex hF.bc hF.K O.P (a - 100) 1 hat rfl (n32_nat _) hdg kk
          · rw [h1] at hat; exact va_alen hF.ex hF.bc hF.K O.P (a - 100) 2 hat rfl (n32_nat _) hdg kk
        · by_cases k4 : zkd a = 13
          · rw [zcE_l k4] at hat; exact va_alen hF.ex hF.bc hF.K O.P (a - 100) 3 hat rfl (n32_nat _) hdg kk
          · rw [zcE_q (by omega)] at hat
            have hh : zkd a = 14 ∨ zkd a = 15 := by omega
            rcases hh with h1 | h1
            · rw [h1] at hat; exact va_alen hF.ex hF.bc hF.K O.P (a - 100) 4 hat rfl (n32_nat _) hdg kk
            · rw [h1] at hat; exact va_alen hF.ex hF.bc hF.K O.P (a - 100) 5 hat rfl (n32_nat _) hdg kk
      · obtain ⟨ha1, ha2⟩ := zkd_22 hk
        have hT := (hF.fa.2.2.2.1 (a - 11) (by omega) (by omega)).2.2.2
        rw [show a - 11 + 11 = a by omega] at hT
        have em : μ a = E.2.2.1 a := O.old (by omega)
        have hT2 := zT_s hF.cx hT
        rw [← em] at hT2
        exact va_tlen hF.ex hF.bc hT2 O.S (n32_nat _) hdg kk
    next =>
      split at h
      next hk2 =>
        cases h
        have ha0 := zkd_20 hk2
        subst ha0
        obtain ⟨⟨q1, q2⟩, q3, q4⟩ := hF.fa.2.2.1
        have e23 : σ 23 0 = E.2.2.2.1 23 0 := by rw [O.olds (a := 23) (by omega)]
        have em : μ 0 = E.2.2.1 0 := O.old (a := 0) (by omega)
        have kk := k μ H locs Ls cells slots hc hs (O.pop.push (v := .inl (σ 23 0)) trivial)
        have hX : va_X (μ 0) (E.2.2.2.1 23 0).toNat (fun j => Int32.ofInt (E.2.2.2.1 0 j)) s s.heap := by
          rw [em]; exact (va_X.moved hF.cx.1.alike q4).kept (hF.cx.2.2 _ q3)
        refine va_slen hF.ex hF.bc hX (by rw [em]; exact Nat.lt_of_lt_of_le q3 hF.cx.2.1) (by rw [em]; exact Nat.not_le.mpr q3) O.S hdg ?_
        have e9 : Int32.ofNat (E.2.2.2.1 23 0).toNat = Int32.ofInt (σ 23 0) := by rw [n32_nat, e23]; congr 1; omega
        rw [e9]
        exact kk
      next => cases h
  next => cases h
theorem s_newaI  (hF : zFr E r p l R s m meth c) (hdg : decode r.2.2.1 pc = .ok (.newarray .int, 2)) (hR : cC θ' ≤ B.2.2.1 + R.cells ∧ cS θ' ≤ B.2.2.2.1 + R.slots) (h : o_newa 10 (pc + 2) ls st θ σ = some (.inl (pc', ls', st', θ', σ'))) (k : zGo E B p l e R s m args below meth c Q pc' ls' st' θ' σ') : zGo E B p l e R s m args below meth c Q pc ls st θ σ := by
  intro μ H locs Ls cells slots hc hs O
  unfold o_newa at h
  split at h
  next mm rest =>
    split at h
    next hh =>
      cases h
      obtain ⟨hk, hmm⟩ := hh
      subst hmm
      have hl := zln_lt θ.1
      simp only [cC, cS, zsum] at hc hs hR
      refine va_newa (atype := .int) (a0 := (zln θ.1, .inl fun _ => 0)) hF.ex hF.bc (hF.w zw_int rfl) rfl hF.K O.P O.D O.S hF.A0 (fun _ => rfl) (fun z => absurd ((n32_lt ⟨by omega, by omega⟩ n32_in0).mp z) (by omega)) (by rw [n32_c (by omega) (by omega)]; exact Int.toNat_natCast _) (by show zln θ.1 * 4 ≤ 536870912; omega) (by omega) (by omega) hdg fun q cA H1 hK1 hP1 hD1 hS1 => ?_
      have hcA : cA = E.2.1 10 := Option.some.inj ((hK1.2 6 _ rfl).2.symm.trans (hF.K.2 0 _ rfl).2)
      subst hcA
      have he : zcE E.2.1 (zux μ θ.1 q) (zclrR θ.2.2 θ.1) (zclr σ θ.1) θ.1 = .inl (E.2.1 10, (zln θ.1, .inl fun _ => 0)) := by
        rw [zcE_i (by omega) (by omega), hk]
        congr 4
        funext j
        unfold zclr
        rw [if_pos rfl]
        rfl
      have kk := k (zux μ θ.1 q) H1 locs Ls (cells + 1) (slots + zln θ.1) (by simp only [cC]; omega) (by simp only [cS, zsum]; omega) ((O.pop.new he hP1 hD1 hS1).push (v := .inr (.inl (some θ.1))) (Nat.lt_succ_self _))
      have em : (Sum.inr (Sum.inl (some θ.1)) :: rest : List ZV).map (cv (zux μ θ.1 q)) = .ref q :: rest.map (cv μ) := by
        rw [List.map_cons, cvs_agree (fun b hb => zux_lt hb) (zbs_tl O.2.2.2.1)]
        show Value.ref (zux μ θ.1 q θ.1) :: _ = _
        rw [zux_eq]
      rw [em] at kk
      exact kk
    next => cases h
  next => cases h
theorem s_newaZ  (hF : zFr E r p l R s m meth c) (hdg : decode r.2.2.1 pc = .ok (.newarray .boolean, 2)) (hR : cC θ' ≤ B.2.2.1 + R.cells ∧ cS θ' ≤ B.2.2.2.1 + R.slots) (h : o_newa 11 (pc + 2) ls st θ σ = some (.inl (pc', ls', st', θ', σ'))) (k : zGo E B p l e R s m args below meth c Q pc' ls' st' θ' σ') : zGo E B p l e R s m args below meth c Q pc ls st θ σ := by
  intro μ H locs Ls cells slots hc hs O
  unfold o_newa at h
  split at h
  next mm rest =>
    split at h
    next hh =>
      cases h
      obtain ⟨hk, hmm⟩ := hh
      subst hmm
      have hl := zln_lt θ.1
      simp only [cC, cS, zsum] at hc hs hR
      refine va_newa (atype := .boolean) (a0 := (zln θ.1, .inl fun _ => 0)) hF.ex hF.bc (hF.w zw_bool rfl) rfl hF.K O.P O.D O.S hF.A0 (fun _ => rfl) (fun z => absurd ((n32_lt ⟨by omega, by omega⟩ n32_in0).mp z) (by omega)) (by rw [n32_c (by omega) (by omega)]; exact Int.toNat_natCast _) (by show zln θ.1 * 1 ≤ 536870912; omega) (by omega) (by omega) hdg fun q cA H1 hK1 hP1 hD1 hS1 => ?_
      have hcA : cA = E.2.1 11 := Option.some.inj ((hK1.2 6 _ rfl).2.symm.trans (hF.K.2 1 _ rfl).2)
      subst hcA
      have he : zcE E.2.1 (zux μ θ.1 q) (zclrR θ.2.2 θ.1) (zclr σ θ.1) θ.1 = .inl (E.2.1 11, (zln θ.1, .inl fun _ => 0)) := by
        rw [zcE_i (by omega) (by omega), hk]
        congr 4
        funext j
        unfold zclr
        rw [if_pos rfl]
        rfl
      have kk := k (zux μ θ.1 q) H1 locs Ls (cells + 1) (slots + zln θ.1) (by simp only [cC]; omega) (by simp only [cS, zsum]; omega) ((O.pop.new he hP1 hD1 hS1).push (v := .inr (.inl (some θ.1))) (Nat.lt_succ_self _))
      have em : (Sum.inr (Sum.inl (some θ.1)) :: rest : List ZV).map (cv (zux μ θ.1 q)) = .ref q :: rest.map (cv μ) := by
        rw [List.map_cons, cvs_agree (fun b hb => zux_lt hb) (zbs_tl O.2.2.2.1)]
        show Value.ref (zux μ θ.1 q θ.1) :: _ = _
        rw [zux_eq]
      rw [em] at kk
      exact kk
    next => cases h
  next => cases h
theorem s_newaC  (hF : zFr E r p l R s m meth c) (hdg : decode r.2.2.1 pc = .ok (.newarray .char, 2)) (hR : cC θ' ≤ B.2.2.1 + R.cells ∧ cS θ' ≤ B.2.2.2.1 + R.slots) (h : o_newa 12 (pc + 2) ls st θ σ = some (.inl (pc', ls', st', θ', σ'))) (k : zGo E B p l e R s m args below meth c Q pc' ls' st' θ' σ') : zGo E B p l e R s m args below meth c Q pc ls st θ σ := by
  intro μ H locs Ls cells slots hc hs O
  unfold o_newa at h
  split at h
  next mm rest =>
    split at h
    next hh =>
      cases h
      obtain ⟨hk, hmm⟩ := hh
      subst hmm
      have hl := zln_lt θ.1
      simp only [cC, cS, zsum] at hc hs hR
      refine va_newa (atype := .char) (a0 := (zln θ.1, .inl fun _ => 0)) hF.ex hF.bc (hF.w zw_char rfl) rfl hF.K O.P O.D O.S hF.A0 (fun _ => rfl) (fun z => absurd ((n32_lt ⟨by omega, by omega⟩ n32_in0).mp z) (by omega)) (by rw [n32_c (by omega) (by omega)]; exact Int.toNat_natCast _) (by show zln θ.1 * 2 ≤ 536870912; omega) (by omega) (by omega) hdg fun q cA H1 hK1 hP1 hD1 hS1 => ?_
      have hcA : cA = E.2.1 12 := Option.some.inj ((hK1.2 6 _ rfl).2.symm.trans (hF.K.2 2 _ rfl).2)
      subst hcA
      have he : zcE E.2.1 (zux μ θ.1 q) (zclrR θ.2.2 θ.1) (zclr σ θ.1) θ.1 = .inl (E.2.1 12, (zln θ.1, .inl fun _ => 0)) := by
        rw [zcE_i (by omega) (by omega), hk]
        congr 4
        funext j
        unfold zclr
        rw [if_pos rfl]
        rfl
      have kk := k (zux μ θ.1 q) H1 locs Ls (cells + 1) (slots + zln θ.1) (by simp only [cC]; omega) (by simp only [cS, zsum]; omega) ((O.pop.new he hP1 hD1 hS1).push (v := .inr (.inl (some θ.1))) (Nat.lt_succ_self _))
      have em : (Sum.inr (Sum.inl (some θ.1)) :: rest : List ZV).map (cv (zux μ θ.1 q)) = .ref q :: rest.map (cv μ) := by
        rw [List.map_cons, cvs_agree (fun b hb => zux_lt hb) (zbs_tl O.2.2.2.1)]
        show Value.ref (zux μ θ.1 q θ.1) :: _ = _
        rw [zux_eq]
      rw [em] at kk
      exact kk
    next => cases h
  next => cases h
theorem s_newaL  (hF : zFr E r p l R s m meth c) (hdg : decode r.2.2.1 pc = .ok (.newarray .long, 2)) (hR : cC θ' ≤ B.2.2.1 + R.cells ∧ cS θ' ≤ B.2.2.2.1 + R.slots) (h : o_newa 13 (pc + 2) ls st θ σ = some (.inl (pc', ls', st', θ', σ'))) (k : zGo E B p l e R s m args below meth c Q pc' ls' st' θ' σ') : zGo E B p l e R s m args below meth c Q pc ls st θ σ := by
  intro μ H locs Ls cells slots hc hs O
  unfold o_newa at h
  split at h
  next mm rest =>
    split at h
    next hh =>
      cases h
      obtain ⟨hk, hmm⟩ := hh
      subst hmm
      have hl := zln_lt θ.1
      simp only [cC, cS, zsum] at hc hs hR
      refine va_newa (atype := .long) (a0 := (zln θ.1, .inr (.inl fun _ => 0))) hF.ex hF.bc (hF.w zw_long rfl) rfl hF.K O.P O.D O.S hF.A0 (fun _ => rfl) (fun z => absurd ((n32_lt ⟨by omega, by omega⟩ n32_in0).mp z) (by omega)) (by rw [n32_c (by omega) (by omega)]; exact Int.toNat_natCast _) (by show zln θ.1 * 8 ≤ 536870912; omega) (by omega) (by omega) hdg fun q cA H1 hK1 hP1 hD1 hS1 => ?_
      have hcA : cA = E.2.1 13 := Option.some.inj ((hK1.2 6 _ rfl).2.symm.trans (hF.K.2 3 _ rfl).2)
      subst hcA
      have he : zcE E.2.1 (zux μ θ.1 q) (zclrR θ.2.2 θ.1) (zclr σ θ.1) θ.1 = .inl (E.2.1 13, (zln θ.1, .inr (.inl fun _ => 0))) := by
        rw [zcE_l hk]
        congr 5
        funext j
        unfold zclr
        rw [if_pos rfl]
        rfl
      have kk := k (zux μ θ.1 q) H1 locs Ls (cells + 1) (slots + zln θ.1) (by simp only [cC]; omega) (by simp only [cS, zsum]; omega) ((O.pop.new he hP1 hD1 hS1).push (v := .inr (.inl (some θ.1))) (Nat.lt_succ_self _))
      have em : (Sum.inr (Sum.inl (some θ.1)) :: rest : List ZV).map (cv (zux μ θ.1 q)) = .ref q :: rest.map (cv μ) := by
        rw [List.map_cons, cvs_agree (fun b hb => zux_lt hb) (zbs_tl O.2.2.2.1)]
        show Value.ref (zux μ θ.1 q θ.1) :: _ = _
        rw [zux_eq]
      rw [em] at kk
      exact kk
    next => cases h
  next => cases h
theorem s_newqS {i pl : Nat} (hF : zFr E r p l R s m meth c) (hdg : decode r.2.2.1 pc = .ok (.anewarray i, 3)) (hz : zlk i (zNT r.1) = some (0, 3, pl)) (hR : cC θ' ≤ B.2.2.1 + R.cells ∧ cS θ' ≤ B.2.2.2.1 + R.slots) (h : o_newa 14 (pc + 3) ls st θ σ = some (.inl (pc', ls', st', θ', σ'))) (k : zGo E B p l e R s m args below meth c Q pc' ls' st' θ' σ') : zGo E B p l e R s m args below meth c Q pc ls st θ σ := by
  intro μ H locs Ls cells slots hc hs O
  unfold o_newa at h
  split at h
  next mm rest =>
    split at h
    next hh =>
      cases h
      obtain ⟨hk, hmm⟩ := hh
      subst hmm
      have hl := zln_lt θ.1
      simp only [cC, cS, zsum] at hc hs hR
      obtain ⟨C, T, N, g1, g2, g3, g4, g5⟩ := zT_N hz
      cases g1
      have hAO : va_AO RX3 s := by
        obtain ⟨A9, h9⟩ := hF.fa.1
        exact va_AO.moved hF.cx.1.alike (va_AO.of (h9 _ zw_story))
      refine va_newq hF.ex hF.bc hF.own (hF.w g2 rfl) hAO hF.K O.P O.D O.S hF.A0 (fun z => absurd ((n32_lt ⟨by omega, by omega⟩ n32_in0).mp z) (by omega)) (N' := zln θ.1) (by rw [n32_c (by omega) (by omega)]; exact Int.toNat_natCast _) (by omega) (by omega) (by omega) hdg fun q cA H1 hK1 hP1 hD1 hS1 => ?_
      have hcA : cA = E.2.1 14 := by
        obtain ⟨x1, x2, x3, x4, x5, x6⟩ := (hK1.2 6 _ rfl).2
        obtain ⟨y1, y2, y3, y4, y5, y6⟩ := (hF.K.2 4 _ rfl).2
        exact Option.some.inj (x6.symm.trans y6)
      subst hcA
      have he : zcE E.2.1 (zux μ θ.1 q) (zclrR θ.2.2 θ.1) (zclr σ θ.1) θ.1 = .inl (E.2.1 14, zln θ.1, .inr (.inr (.inr (.inr fun _ => none)))) := by
        rw [zcE_q (by omega), hk]
        congr 7
        funext j
        unfold zclrR
        rw [if_pos rfl]
        rfl
      have kk := k (zux μ θ.1 q) H1 locs Ls (cells + 1) (slots + zln θ.1) (by simp only [cC]; omega) (by simp only [cS, zsum]; omega) ((O.pop.new he hP1 hD1 hS1).push (v := .inr (.inl (some θ.1))) (Nat.lt_succ_self _))
      have em : (Sum.inr (Sum.inl (some θ.1)) :: rest : List ZV).map (cv (zux μ θ.1 q)) = .ref q :: rest.map (cv μ) := by
        rw [List.map_cons, cvs_agree (fun b hb => zux_lt hb) (zbs_tl O.2.2.2.1)]
        show Value.ref (zux μ θ.1 q θ.1) :: _ = _
        rw [zux_eq]
      rw [em] at kk
      exact kk
    next => cases h
  next => cases h
theorem s_newqL {i pl : Nat} (hF : zFr E r p l R s m meth c) (hdg : decode r.2.2.1 pc = .ok (.anewarray i, 3)) (hz : zlk i (zNT r.1) = some (0, 2, pl)) (hR : cC θ' ≤ B.2.2.1 + R.cells ∧ cS θ' ≤ B.2.2.2.1 + R.slots) (h : o_newa 15 (pc + 3) ls st θ σ = some (.inl (pc', ls', st', θ', σ'))) (k : zGo E B p l e R s m args below meth c Q pc' ls' st' θ' σ') : zGo E B p l e R s m args below meth c Q pc ls st θ σ := by
  intro μ H locs Ls cells slots hc hs O
  unfold o_newa at h
  split at h
  next mm rest =>
    split at h
    next hh =>
      cases h
      obtain ⟨hk, hmm⟩ := hh
      subst hmm
      have hl := zln_lt θ.1
      simp only [cC, cS, zsum] at hc hs hR
      obtain ⟨C, T, N, g1, g2, g3, g4, g5⟩ := zT_N hz
      cases g1
      have hAO : va_AO RX2 s := by
        obtain ⟨A9, h9⟩ := hF.fa.1
        exact va_AO.moved hF.cx.1.alike (va_AO.of (h9 _ zw_lawn))
      refine va_newq hF.ex hF.bc hF.own (hF.w g2 rfl) hAO hF.K O.P O.D O.S hF.A0 (fun z => absurd ((n32_lt ⟨by omega, by omega⟩ n32_in0).mp z) (by omega)) (N' := zln θ.1) (by rw [n32_c (by omega) (by omega)]; exact Int.toNat_natCast _) (by omega) (by omega) (by omega) hdg fun q cA H1 hK1 hP1 hD1 hS1 => ?_
      have hcA : cA = E.2.1 15 := by
        obtain ⟨x1, x2, x3, x4, x5, x6⟩ := (hK1.2 6 _ rfl).2
        obtain ⟨y1, y2, y3, y4, y5, y6⟩ := (hF.K.2 5 _ rfl).2
        exact Option.some.inj (x6.symm.trans y6)
      subst hcA
      have he : zcE E.2.1 (zux μ θ.1 q) (zclrR θ.2.2 θ.1) (zclr σ θ.1) θ.1 = .inl (E.2.1 15, zln θ.1, .inr (.inr (.inr (.inr fun _ => none)))) := by
        rw [zcE_q (by omega), hk]
        congr 7
        funext j
        unfold zclrR
        rw [if_pos rfl]
        rfl
      have kk := k (zux μ θ.1 q) H1 locs Ls (cells + 1) (slots + zln θ.1) (by simp only [cC]; omega) (by simp only [cS, zsum]; omega) ((O.pop.new he hP1 hD1 hS1).push (v := .inr (.inl (some θ.1))) (Nat.lt_succ_self _))
      have em : (Sum.inr (Sum.inl (some θ.1)) :: rest : List ZV).map (cv (zux μ θ.1 q)) = .ref q :: rest.map (cv μ) := by
        rw [List.map_cons, cvs_agree (fun b hb => zux_lt hb) (zbs_tl O.2.2.2.1)]
        show Value.ref (zux μ θ.1 q θ.1) :: _ = _
        rw [zux_eq]
      rw [em] at kk
      exact kk
    next => cases h
  next => cases h
theorem s_newo {i ci pl : Nat} (hF : zFr E r p l R s m meth c) (hdg : decode r.2.2.1 pc = .ok (.new i, 3)) (hz : zlk i (zNT r.1) = some (0, ci, pl)) (hR : cC θ' ≤ B.2.2.1 + R.cells ∧ cS θ' ≤ B.2.2.2.1 + R.slots) (h : o_newo ci (pc + 3) ls st θ σ = some (.inl (pc', ls', st', θ', σ'))) (k : zGo E B p l e R s m args below meth c Q pc' ls' st' θ' σ') : zGo E B p l e R s m args below meth c Q pc ls st θ σ := by
  intro μ H locs Ls cells slots hc hs O
  unfold o_newo at h
  split at h
  next hk =>
    cases h
    subst hk
    obtain ⟨C, T, N, g1, g2, g3, g4, g5⟩ := zT_N hz
    obtain ⟨u1, u2, u3, u4⟩ := zT_T g1
    have hl := zln_lt θ.1
    have hN : N = zcnt (zkd θ.1) := u1
    have hNn : N = zln θ.1 := by rw [zln_obj g5, hN]
    simp only [cC, cS, zsum] at hc hs hR
    refine va_new hF.ex hF.bc (zTs_all hF.fa hF.cx) (zT_Ls g1) (zTyp (zkd θ.1)) u2 hF.own (hF.w g2 rfl) (hF.w g3 rfl) (hF.w g4 rfl) hF.K O.P O.D O.S hF.A0 g1 (fs := (List.range (zln θ.1)).map fun j => if zrf (zkd θ.1) j = true then Value.null else .int 0) (fun j hj => ?_) (by omega) (by omega) hdg fun q H1 hP1 hD1 hS1 => ?_
    · rw [u3 j hj]
      unfold vp_V
      rw [List.getD_eq_getElem?_getD, List.getElem?_map, List.getElem?_range (by omega)]
      rfl
    have he : zcE E.2.1 (zux μ θ.1 q) (zclrR θ.2.2 θ.1) (zclr σ θ.1) θ.1 = .inr (zkd θ.1, (List.range (zln θ.1)).map fun j => if zrf (zkd θ.1) j = true then Value.null else .int 0) := by
      rw [zcE_o (by omega)]
      congr 3
      funext j
      unfold zfl zclr zclrR
      rw [if_pos rfl, if_pos rfl]
      rfl
    have kk := k (zux μ θ.1 q) H1 locs Ls (cells + 1) (slots + N) (by simp only [cC]; omega) (by simp only [cS, zsum]; omega) ((O.new he hP1 hD1 hS1).push (v := .inr (.inl (some θ.1))) (Nat.lt_succ_self _))
    have em : (Sum.inr (Sum.inl (some θ.1)) :: st : List ZV).map (cv (zux μ θ.1 q)) = .ref q :: st.map (cv μ) := by
      rw [List.map_cons, cvs_agree (fun b hb => zux_lt hb) O.2.2.2.1]
      show Value.ref (zux μ θ.1 q θ.1) :: _ = _
      rw [zux_eq]
    rw [em] at kk
    exact kk
  next => cases h
theorem s_cstr {i ci k0 knd fin pl : Nat} (hF : zFr E r p l R s m meth c) (hdg : decode r.2.2.1 pc = .ok (.getstatic i, 3)) (hz : zlk i (zFT r.1) = some (4, ci, k0, knd, fin, pl)) (h : o_push (.inl 1) (pc + 3) ls st θ σ = some (.inl (pc', ls', st', θ', σ'))) (k : zGo E B p l e R s m args below meth c Q pc' ls' st' θ' σ') : zGo E B p l e R s m args below meth c Q pc ls st θ σ := by
  intro μ H locs Ls cells slots hc hs O
  unfold o_push at h
  cases h
  exact va_gets hF.ex hF.bc ((va_Z.moved hF.cx.1.alike hF.fa.2.2.2.2.2.1).kept hF.cx.kept) O.S hF.own (hF.w ((zT_F2 hz).2.2 rfl) rfl) (fun x hx => hx) hdg (k μ H locs Ls cells slots hc hs (O.push (v := .inl 1) trivial))
theorem s_sval {i ci k0 knd fin pl : Nat} (hF : zFr E r p l R s m meth c) (hdg : decode r.2.2.1 pc = .ok (.getfield i, 3)) (hz : zlk i (zFT r.1) = some (2, ci, k0, knd, fin, pl)) (h : o_sval (pc + 3) ls st θ σ = some (.inl (pc', ls', st', θ', σ'))) (k : zGo E B p l e R s m args below meth c Q pc' ls' st' θ' σ') : zGo E B p l e R s m args below meth c Q pc ls st θ σ := by
  intro μ H locs Ls cells slots hc hs O
  unfold o_sval at h
  split at h
  next a rest =>
    split at h
    next hk =>
      cases h
      obtain ⟨ha1, ha2⟩ := zkd_21 hk
      have hV := zOF_s hF.cx (hF.fa.2.2.2.1 a ha1 ha2).2.1
      have em : μ a = E.2.2.1 a := O.old (by omega)
      have em2 : μ (a + 11) = E.2.2.1 (a + 11) := O.old (by omega)
      rw [← em, ← em2] at hV
      have h100 := O.1.1
      exact vk_getf hF.ex hF.bc hV O.S hF.own (hF.w ((zT_F2 hz).1 rfl) rfl) (fun x hx => hx) hdg (k μ H locs Ls cells slots hc hs (O.pop.push (v := .inr (.inl (some (a + 11)))) (by show a + 11 < θ.1; omega)))
    next => cases h
  next => cases h
theorem s_scod {i ci k0 knd fin pl : Nat} (hF : zFr E r p l R s m meth c) (hdg : decode r.2.2.1 pc = .ok (.getfield i, 3)) (hz : zlk i (zFT r.1) = some (3, ci, k0, knd, fin, pl)) (h : o_scod (pc + 3) ls st θ σ = some (.inl (pc', ls', st', θ', σ'))) (k : zGo E B p l e R s m args below meth c Q pc' ls' st' θ' σ') : zGo E B p l e R s m args below meth c Q pc ls st θ σ := by
  intro μ H locs Ls cells slots hc hs O
  unfold o_scod at h
  split at h
  next a rest =>
    split at h
    next hk =>
      cases h
      obtain ⟨ha1, ha2⟩ := zkd_21 hk
      have hV := zOF_s hF.cx (hF.fa.2.2.2.1 a ha1 ha2).1
      have em : μ a = E.2.2.1 a := O.old (by omega)
      rw [← em] at hV
      exact vk_getf hF.ex hF.bc hV O.S hF.own (hF.w ((zT_F2 hz).2.1 rfl) rfl) (fun x hx => hx) hdg (k μ H locs Ls cells slots hc hs (O.pop.push (v := .inl 0) trivial))
    next => cases h
  next => cases h
theorem zT_C7 {c i mj pl : Nat} (h : zlk i (zCT c) = some (7, mj, pl)) : .methodLink (zcn c) i arraycopyName ∈ lw_tbl := by
  have h1 := zall_in (zckC_all c) (zlk_in h)
  exact zw_in h1
theorem zT_C9 {c i mj pl : Nat} (h : zlk i (zCT c) = some (9, mj, pl)) : .methodLink (zcn c) i Lib.objectInit ∈ lw_tbl := by
  have h1 := zall_in (zckC_all c) (zlk_in h)
  exact zw_in h1
theorem zT_C8 {c i mj pl : Nat} (h : zlk i (zCT c) = some (8, mj, pl)) : .methodLink (zcn c) i zcc ∈ lw_tbl ∧ c = 10 := by
  have h1 : (zw pl (.methodLink (zcn c) i zcc) && decide (c = 10)) = true := zall_in (zckC_all c) (zlk_in h)
  rw [Bool.and_eq_true, decide_eq_true_eq] at h1
  exact ⟨zw_in h1.1, h1.2⟩
theorem s_oini {i mj pl : Nat} (hF : zFr E r p l R s m meth c) (hdg : decode r.2.2.1 pc = .ok (.invokespecial i, 3)) (hz : zlk i (zCT r.1) = some (9, mj, pl)) (h1 : 1 ≤ r.2.2.2.2.2.2.1) (h2 : 12 ≤ r.2.2.2.2.2.2.2.1) (hB : B.2.2.2.2 = r.2.2.2.1) (h : o_oini (pc + 3) ls st θ σ = some (.inl (pc', ls', st', θ', σ'))) (k : zGo E B p l e R s m args below meth c Q pc' ls' st' θ' σ') : zGo E B p l e R s m args below meth c Q pc ls st θ σ := by
  intro μ H locs Ls cells slots hc hs O
  unfold o_oini at h
  split at h
  next a =>
    cases h
    exact W.objInit hF.ex hF.bc hF.own (hF.w (zT_C9 hz) rfl) (hF.w zw_oii rfl) (hF.w zw_oic rfl) (g := F0 m pc Ls [.ref (μ a)]) rfl (by rw [hF.ml, ← hB]; exact O.sz) (rest := []) rfl hdg (Nat.le_trans h1 hF.rf) (Nat.le_trans (by exact h2) hF.rl) (k μ H locs Ls cells slots hc hs O.pop)
  next => cases h
theorem s_acopy {i mj pl : Nat} (hF : zFr E r p l R s m meth c) (hdg : decode r.2.2.1 pc = .ok (.invokestatic i, 3)) (hz : zlk i (zCT r.1) = some (7, mj, pl)) (h1 : 1 ≤ r.2.2.2.2.2.2.1) (h2 : 18 ≤ r.2.2.2.2.2.2.2.1) (hB : B.2.2.2.2 = r.2.2.2.1) (h : o_acopy (pc + 3) ls st θ σ = some (.inl (pc', ls', st', θ', σ'))) (k : zGo E B p l e R s m args below meth c Q pc' ls' st' θ' σ') : zGo E B p l e R s m args below meth c Q pc ls st θ σ := by
  intro μ H locs Ls cells slots hc hs O
  unfold o_acopy at h
  split at h
  next n dp d sp a =>
    have hbd : d < θ.1 := O.pop.pop.hd
    have hba : a < θ.1 := O.pop.pop.pop.pop.hd
    split at h
    next hh =>
      cases h
      obtain ⟨⟨hka, hkd⟩, ⟨hn, hdp, hsp⟩, hla, hld⟩ := hh
      have hl1 := zln_lt a
      have hl2 := zln_lt d
      have hata := O.at (a := a) (by omega) hba
      have hatd := O.at (a := d) (by omega) hbd
      rw [zcE_i (by omega) (by omega), hka] at hata
      rw [zcE_i (by omega) (by omega), hkd] at hatd
      have hneg : ∀ {x : Int}, 0 ≤ x → x < 200000 → ¬ Int32.ofInt x < 0 := fun h0 h1 z => absurd ((n32_lt ⟨by omega, by omega⟩ n32_in0).mp z) (by omega)
      refine va_copyi hF.ex hF.bc (by rw [hF.ml, ← hB]; exact O.sz.symm) hF.own (hF.w (zT_C7 hz) rfl) (hF.w zw_acn rfl) (hF.w zw_acs rfl) (hF.w zw_aci rfl) hF.K O.P O.D O.S (a - 100) (d - 100) 0 0 hata hatd rfl rfl rfl (hneg hsp (by omega)) (hneg hdp (by omega)) (hneg hn (by omega)) (by rw [n32_c hsp (by omega), n32_c hn (by omega)]; omega) (by rw [n32_c hdp (by omega), n32_c hn (by omega)]; omega) (fun _ _ => rfl) (Nat.le_trans h1 hF.rf) (rest := []) (Nat.le_trans h2 hF.rl) hdg fun H1 locs1 hP1 hD1 hS1 => ?_
      rw [n32_c hsp (by omega), n32_c hdp (by omega), n32_c hn (by omega)] at hP1 hD1
      refine k μ H1 locs1 Ls cells slots hc hs (O.pop.pop.pop.pop.pop.upd (ρ' := θ.2.2) (zkd_ge (by omega)) (by rw [zcE_i (by omega) (by omega), hkd, arr_cpy]) (fun b hb => zcE_congr (fun j => ?_) (fun _ => rfl)) O.1.2.2.2.1 (fun b hb => ?_) hP1 hD1 hS1)
      · unfold zcpy; rw [if_neg (fun z => hb z.1)]
      · funext j; unfold zcpy
        have := zkd_ge (a := d) (by omega)
        rw [if_neg (fun z => by omega)]
    next => cases h
  next => cases h
end ZHS
