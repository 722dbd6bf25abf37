/-! THE WHOLE RUN -/
section ZMA
variable {E : zE} {B : zB} {p : Program} {l : Launch} {e : Env} {R : Room} {s : State} {m : MethodId} {args : Array Value} {below : List Frame} {meth : Method} {c : Code} {Q : State → Prop} {r : ZM} {pc mj npc mc ms : Nat} {ls : ZL} {st vs rest : List ZV} {θ θf : ZT} {σ σf : ZI} {o : ZO}
theorem zno_r {x : ZN} {z : (ZO × (ZT × ZI)) ⊕ (Nat × (List ZV × (List ZV × Nat)))} (h : zod θ x) : ¬ x = some (.inr z) := fun e => by subst e; exact h
theorem zno_c {x : ZN} {z : ZO × (ZT × ZI)} (h : zoc x) : ¬ x = some (.inr (.inl z)) := fun e => by subst e; exact h
theorem zno_e {x : ZN} {z : Nat × (List ZV × (List ZV × Nat))} (h : zoe θ x) : ¬ x = some (.inr (.inr z)) := fun e => by subst e; exact h
theorem zend {ig : Instr} {len : Nat} {d : Nat × List Int} (hF : zFr E r p l R s m meth c) (hmc : mc + B.2.2.1 = cC θf) (hms : ms + B.2.2.2.1 = cS θf) (hB : B.2.2.2.2 = r.2.2.2.1) (hR : cC θf ≤ B.2.2.1 + R.cells ∧ cS θf ≤ B.2.2.2.1 + R.slots) (hh : r.1 = 5 → r.2.2.2.2.2.1 = []) (hdg : decode r.2.2.1 pc = .ok (ig, len)) (hl : zil ig = 0 ∨ len = zil ig) (hz : zresI r pc ig = some d) (hx : z_sem d ls st θ σ = some (.inr (.inl (o, θf, σf)))) : zGo E B p l e R s m args below meth c (zQe E B args s below o θf σf mc ms) pc ls st θ σ := by
  cases ig with
  | aaload =>
    have e9 : len = 1 := hl.resolve_left (fun z => nomatch (show (1 : Nat) = 0 from z))
    subst e9
    have e8 : some ((53 : Nat), [((pc + 1 : Nat) : Int)]) = some d := hz
    cases e8
    exact absurd hx (zno_r (mn_aald (ls := ls) (st := st) (θ := θ) (σ := σ)))
  | aastore =>
    have e9 : len = 1 := hl.resolve_left (fun z => nomatch (show (1 : Nat) = 0 from z))
    subst e9
    have e8 : some ((58 : Nat), [((pc + 1 : Nat) : Int)]) = some d := hz
    cases e8
    exact absurd hx (zno_r (mn_aast (ls := ls) (st := st) (θ := θ) (σ := σ)))
  | aconst_null =>
    have e9 : len = 1 := hl.resolve_left (fun z => nomatch (show (1 : Nat) = 0 from z))
    subst e9
    have e8 : some ((5 : Nat), [((pc + 1 : Nat) : Int)]) = some d := hz
    cases e8
    exact absurd hx (zno_r (mn_push (ls := ls) (st := st) (θ := θ) (σ := σ)))
  | aload a0 =>
    have e9 : len = 2 := hl.resolve_left (fun z => nomatch (show (2 : Nat) = 0 from z))
    subst e9
    have e8 : some ((2 : Nat), [(a0 : Int), ((pc + 2 : Nat) : Int)]) = some d := hz
    cases e8
    exact absurd hx (zno_r (mn_aload (ls := ls) (st := st) (θ := θ) (σ := σ)))
  | aload_n a0 =>
    have e9 : len = 1 := hl.resolve_left (fun z => nomatch (show (1 : Nat) = 0 from z))
    subst e9
    have e8 : some ((2 : Nat), [((a0.val : Nat) : Int), ((pc + 1 : Nat) : Int)]) = some d := hz
    cases e8
    exact absurd hx (zno_r (mn_aload (ls := ls) (st := st) (θ := θ) (σ := σ)))
  | anewarray a0 =>
    have e9 : len = 3 := hl.resolve_left (fun z => nomatch (show (3 : Nat) = 0 from z))
    subst e9
    have h9 : (match zlk a0 (zNT r.1) with | some (0, 3, _) => some ((60 : Nat), [14, ((pc + 3 : Nat) : Int)]) | some (0, 2, _) => some (60, [15, ((pc + 3 : Nat) : Int)]) | _ => none) = some d := hz
    split at h9
    next pl hzl => cases h9; exact absurd hx (zno_r (mn_newa (ls := ls) (st := st) (θ := θ) (σ := σ)))
    next pl hzl => cases h9; exact absurd hx (zno_r (mn_newa (ls := ls) (st := st) (θ := θ) (σ := σ)))
    next => cases h9
  | areturn =>
    have e9 : len = 1 := hl.resolve_left (fun z => nomatch (show (1 : Nat) = 0 from z))
    subst e9
    have h9 : (if zrt r.2.2.2.2.1 = 7 then some ((40 : Nat), ([] : List Int)) else none) = some d := hz
    split at h9
    next hv => cases h9; exact z_reta hF hmc hms hdg hv hx
    next => cases h9
  | arraylength =>
    have e9 : len = 1 := hl.resolve_left (fun z => nomatch (show (1 : Nat) = 0 from z))
    subst e9
    have e8 : some ((59 : Nat), [((pc + 1 : Nat) : Int)]) = some d := hz
    cases e8
    exact absurd hx (zno_r (mn_alen (ls := ls) (st := st) (θ := θ) (σ := σ)))
  | astore a0 =>
    have e9 : len = 2 := hl.resolve_left (fun z => nomatch (show (2 : Nat) = 0 from z))
    subst e9
    have e8 : some ((8 : Nat), [(a0 : Int), ((pc + 2 : Nat) : Int)]) = some d := hz
    cases e8
    exact absurd hx (zno_r (mn_astore (ls := ls) (st := st) (θ := θ) (σ := σ)))
  | astore_n a0 =>
    have e9 : len = 1 := hl.resolve_left (fun z => nomatch (show (1 : Nat) = 0 from z))
    subst e9
    have e8 : some ((8 : Nat), [((a0.val : Nat) : Int), ((pc + 1 : Nat) : Int)]) = some d := hz
    cases e8
    exact absurd hx (zno_r (mn_astore (ls := ls) (st := st) (θ := θ) (σ := σ)))
  | athrow => exact nomatch (show (none : Option (Nat × List Int)) = some d from hz)
  | baload =>
    have e9 : len = 1 := hl.resolve_left (fun z => nomatch (show (1 : Nat) = 0 from z))
    subst e9
    have e8 : some ((50 : Nat), [((pc + 1 : Nat) : Int)]) = some d := hz
    cases e8
    exact absurd hx (zno_r (mn_bald (ls := ls) (st := st) (θ := θ) (σ := σ)))
  | bastore =>
    have e9 : len = 1 := hl.resolve_left (fun z => nomatch (show (1 : Nat) = 0 from z))
    subst e9
    have e8 : some ((55 : Nat), [((pc + 1 : Nat) : Int)]) = some d := hz
    cases e8
    exact absurd hx (zno_r (mn_bast (ls := ls) (st := st) (θ := θ) (σ := σ)))
  | bipush a0 =>
    have e9 : len = 2 := hl.resolve_left (fun z => nomatch (show (2 : Nat) = 0 from z))
    subst e9
    have h9 : (if -128 ≤ a0 ∧ a0 < 128 then some ((4 : Nat), [a0, ((pc + 2 : Nat) : Int)]) else none) = some d := hz
    split at h9
    next hv => cases h9; exact absurd hx (zno_r (mn_push (ls := ls) (st := st) (θ := θ) (σ := σ)))
    next => cases h9
  | caload =>
    have e9 : len = 1 := hl.resolve_left (fun z => nomatch (show (1 : Nat) = 0 from z))
    subst e9
    have e8 : some ((51 : Nat), [((pc + 1 : Nat) : Int)]) = some d := hz
    cases e8
    exact absurd hx (zno_r (mn_cald (ls := ls) (st := st) (θ := θ) (σ := σ)))
  | castore =>
    have e9 : len = 1 := hl.resolve_left (fun z => nomatch (show (1 : Nat) = 0 from z))
    subst e9
    have e8 : some ((56 : Nat), [((pc + 1 : Nat) : Int)]) = some d := hz
    cases e8
    exact absurd hx (zno_r (mn_cast (ls := ls) (st := st) (θ := θ) (σ := σ)))
  | checkcast _ => exact nomatch (show (none : Option (Nat × List Int)) = some d from hz)
  | d2f => exact nomatch (show (none : Option (Nat × List Int)) = some d from hz)
  | d2i => exact nomatch (show (none : Option (Nat × List Int)) = some d from hz)
  | d2l => exact nomatch (show (none : Option (Nat × List Int)) = some d from hz)
  | dadd => exact nomatch (show (none : Option (Nat × List Int)) = some d from hz)
  | daload => exact nomatch (show (none : Option (Nat × List Int)) = some d from hz)
  | dastore => exact nomatch (show (none : Option (Nat × List Int)) = some d from hz)
  | dcmp a0 =>
    cases a0 with
    | g => exact nomatch (show (none : Option (Nat × List Int)) = some d from hz)
    | l =>
      have e9 : len = 1 := hl.resolve_left (fun z => nomatch (show (1 : Nat) = 0 from z))
      subst e9
      have e8 : some ((26 : Nat), [((pc + 1 : Nat) : Int)]) = some d := hz
      cases e8
      exact absurd hx (zno_r (mn_dcmp (ls := ls) (st := st) (θ := θ) (σ := σ)))
  | dconst _ => exact nomatch (show (none : Option (Nat × List Int)) = some d from hz)
  | ddiv =>
    have e9 : len = 1 := hl.resolve_left (fun z => nomatch (show (1 : Nat) = 0 from z))
    subst e9
    have e8 : some ((25 : Nat), [((pc + 1 : Nat) : Int)]) = some d := hz
    cases e8
    exact absurd hx (zno_r (mn_ddiv (ls := ls) (st := st) (θ := θ) (σ := σ)))
  | dload a0 =>
    have e9 : len = 2 := hl.resolve_left (fun z => nomatch (show (2 : Nat) = 0 from z))
    subst e9
    have e8 : some ((3 : Nat), [(a0 : Int), ((pc + 2 : Nat) : Int)]) = some d := hz
    cases e8
    exact absurd hx (zno_r (mn_dload (ls := ls) (st := st) (θ := θ) (σ := σ)))
  | dload_n _ => exact nomatch (show (none : Option (Nat × List Int)) = some d from hz)
  | dmul => exact nomatch (show (none : Option (Nat × List Int)) = some d from hz)
  | dneg => exact nomatch (show (none : Option (Nat × List Int)) = some d from hz)
  | drem => exact nomatch (show (none : Option (Nat × List Int)) = some d from hz)
  | dreturn =>
    have e9 : len = 1 := hl.resolve_left (fun z => nomatch (show (1 : Nat) = 0 from z))
    subst e9
    have h9 : (if zrt r.2.2.2.2.1 = 6 then some ((43 : Nat), ([] : List Int)) else none) = some d := hz
    split at h9
    next hv => cases h9; exact z_retd hF hmc hms hdg hv hx
    next => cases h9
  | dstore a0 =>
    have e9 : len = 2 := hl.resolve_left (fun z => nomatch (show (2 : Nat) = 0 from z))
    subst e9
    have e8 : some ((9 : Nat), [(a0 : Int), ((pc + 2 : Nat) : Int)]) = some d := hz
    cases e8
    exact absurd hx (zno_r (mn_dstore (ls := ls) (st := st) (θ := θ) (σ := σ)))
  | dstore_n _ => exact nomatch (show (none : Option (Nat × List Int)) = some d from hz)
  | dsub => exact nomatch (show (none : Option (Nat × List Int)) = some d from hz)
  | dup =>
    have e9 : len = 1 := hl.resolve_left (fun z => nomatch (show (1 : Nat) = 0 from z))
    subst e9
    have e8 : some ((31 : Nat), [((pc + 1 : Nat) : Int)]) = some d := hz
    cases e8
    exact absurd hx (zno_r (mn_dup (ls := ls) (st := st) (θ := θ) (σ := σ)))
  | dup_x1 => exact nomatch (show (none : Option (Nat × List Int)) = some d from hz)
  | dup_x2 => exact nomatch (show (none : Option (Nat × List Int)) = some d from hz)
  | dup2 =>
    have e9 : len = 1 := hl.resolve_left (fun z => nomatch (show (1 : Nat) = 0 from z))
    subst e9
    have e8 : some ((32 : Nat), [((pc + 1 : Nat) : Int)]) = some d := hz
    cases e8
    exact absurd hx (zno_r (mn_dup2 (ls := ls) (st := st) (θ := θ) (σ := σ)))
  | dup2_x1 => exact nomatch (show (none : Option (Nat × List Int)) = some d from hz)
  | dup2_x2 => exact nomatch (show (none : Option (Nat × List Int)) = some d from hz)
  | f2d =>
    have e9 : len = 1 := hl.resolve_left (fun z => nomatch (show (1 : Nat) = 0 from z))
    subst e9
    have e8 : some ((23 : Nat), [((pc + 1 : Nat) : Int)]) = some d := hz
    cases e8
    exact absurd hx (zno_r (mn_f2d (ls := ls) (st := st) (θ := θ) (σ := σ)))
  | f2i => exact nomatch (show (none : Option (Nat × List Int)) = some d from hz)
  | f2l => exact nomatch (show (none : Option (Nat × List Int)) = some d from hz)
  | fadd => exact nomatch (show (none : Option (Nat × List Int)) = some d from hz)
  | faload => exact nomatch (show (none : Option (Nat × List Int)) = some d from hz)
  | fastore => exact nomatch (show (none : Option (Nat × List Int)) = some d from hz)
  | fcmp _ => exact nomatch (show (none : Option (Nat × List Int)) = some d from hz)
  | fconst _ => exact nomatch (show (none : Option (Nat × List Int)) = some d from hz)
  | fdiv =>
    have e9 : len = 1 := hl.resolve_left (fun z => nomatch (show (1 : Nat) = 0 from z))
    subst e9
    have e8 : some ((24 : Nat), [((pc + 1 : Nat) : Int)]) = some d := hz
    cases e8
    exact absurd hx (zno_r (mn_fdiv (ls := ls) (st := st) (θ := θ) (σ := σ)))
  | fload _ => exact nomatch (show (none : Option (Nat × List Int)) = some d from hz)
  | fload_n _ => exact nomatch (show (none : Option (Nat × List Int)) = some d from hz)
  | fmul => exact nomatch (show (none : Option (Nat × List Int)) = some d from hz)
  | fneg => exact nomatch (show (none : Option (Nat × List Int)) = some d from hz)
  | frem => exact nomatch (show (none : Option (Nat × List Int)) = some d from hz)
  | freturn =>
    have e9 : len = 1 := hl.resolve_left (fun z => nomatch (show (1 : Nat) = 0 from z))
    subst e9
    have h9 : (if zrt r.2.2.2.2.1 = 5 then some ((42 : Nat), ([] : List Int)) else none) = some d := hz
    split at h9
    next hv => cases h9; exact z_retf hF hmc hms hdg hv hx
    next => cases h9
  | fstore _ => exact nomatch (show (none : Option (Nat × List Int)) = some d from hz)
  | fstore_n _ => exact nomatch (show (none : Option (Nat × List Int)) = some d from hz)
  | fsub => exact nomatch (show (none : Option (Nat × List Int)) = some d from hz)
  | getfield a0 =>
    have e9 : len = 3 := hl.resolve_left (fun z => nomatch (show (3 : Nat) = 0 from z))
    subst e9
    have h9 : (match zlk a0 (zFT r.1) with | some (mode, ci, k, knd, _, _) => if mode < 2 then (if knd = 2 then some ((45 : Nat), [(ci : Int), (k : Int), ((pc + 3 : Nat) : Int)]) else some (44, [(ci : Int), (k : Int), ((pc + 3 : Nat) : Int)])) else if mode = 2 then some (71, [((pc + 3 : Nat) : Int)]) else if mode = 3 then some (72, [((pc + 3 : Nat) : Int)]) else none | none => none) = some d := hz
    split at h9
    next mo ci k0 knd fin pl hzl =>
      split at h9
      next hm =>
        split at h9
        next hk => cases h9; exact absurd hx (zno_r (mn_getR (ls := ls) (st := st) (θ := θ) (σ := σ)))
        next hk => cases h9; exact absurd hx (zno_r (mn_getI (ls := ls) (st := st) (θ := θ) (σ := σ)))
      next =>
        split at h9
        next hm => subst hm; cases h9; exact absurd hx (zno_r (mn_sval (ls := ls) (st := st) (θ := θ) (σ := σ)))
        next =>
          split at h9
          next hm => subst hm; cases h9; exact absurd hx (zno_r (mn_scod (ls := ls) (st := st) (θ := θ) (σ := σ)))
          next => cases h9
    next => cases h9
  | getstatic a0 =>
    have e9 : len = 3 := hl.resolve_left (fun z => nomatch (show (3 : Nat) = 0 from z))
    subst e9
    have h9 : (match zlk a0 (zFT r.1) with | some (4, _, _, _, _, _) => some ((70 : Nat), [((pc + 3 : Nat) : Int)]) | _ => none) = some d := hz
    split at h9
    next ci k0 knd fin pl hzl => cases h9; exact absurd hx (zno_r (mn_push (ls := ls) (st := st) (θ := θ) (σ := σ)))
    next => cases h9
  | goto a0 =>
    have e9 : len = 3 := hl.resolve_left (fun z => nomatch (show (3 : Nat) = 0 from z))
    subst e9
    have h9 : (match zgo pc a0 with | some t => some ((33 : Nat), [t]) | none => none) = some d := hz
    split at h9
    next t ht => cases h9; exact absurd hx (zno_r (mn_goto (ls := ls) (st := st) (θ := θ) (σ := σ)))
    next => cases h9
  | goto_w _ => exact nomatch (show (none : Option (Nat × List Int)) = some d from hz)
  | i2b => exact nomatch (show (none : Option (Nat × List Int)) = some d from hz)
  | i2c =>
    have e9 : len = 1 := hl.resolve_left (fun z => nomatch (show (1 : Nat) = 0 from z))
    subst e9
    have e8 : some ((20 : Nat), [((pc + 1 : Nat) : Int)]) = some d := hz
    cases e8
    exact absurd hx (zno_r (mn_i2c (ls := ls) (st := st) (θ := θ) (σ := σ)))
  | i2d =>
    have e9 : len = 1 := hl.resolve_left (fun z => nomatch (show (1 : Nat) = 0 from z))
    subst e9
    have e8 : some ((22 : Nat), [((pc + 1 : Nat) : Int)]) = some d := hz
    cases e8
    exact absurd hx (zno_r (mn_i2d (ls := ls) (st := st) (θ := θ) (σ := σ)))
  | i2f =>
    have e9 : len = 1 := hl.resolve_left (fun z => nomatch (show (1 : Nat) = 0 from z))
    subst e9
    have e8 : some ((21 : Nat), [((pc + 1 : Nat) : Int)]) = some d := hz
    cases e8
    exact absurd hx (zno_r (mn_i2f (ls := ls) (st := st) (θ := θ) (σ := σ)))
  | i2l =>
    have e9 : len = 1 := hl.resolve_left (fun z => nomatch (show (1 : Nat) = 0 from z))
    subst e9
    have e8 : some ((19 : Nat), [((pc + 1 : Nat) : Int)]) = some d := hz
    cases e8
    exact absurd hx (zno_r (mn_i2l (ls := ls) (st := st) (θ := θ) (σ := σ)))
  | i2s => exact nomatch (show (none : Option (Nat × List Int)) = some d from hz)
  | iadd =>
    have e9 : len = 1 := hl.resolve_left (fun z => nomatch (show (1 : Nat) = 0 from z))
    subst e9
    have e8 : some ((11 : Nat), [((pc + 1 : Nat) : Int)]) = some d := hz
    cases e8
    exact absurd hx (zno_r (mn_bin (ls := ls) (st := st) (θ := θ) (σ := σ)))
  | iaload =>
    have e9 : len = 1 := hl.resolve_left (fun z => nomatch (show (1 : Nat) = 0 from z))
    subst e9
    have e8 : some ((49 : Nat), [((pc + 1 : Nat) : Int)]) = some d := hz
    cases e8
    exact absurd hx (zno_r (mn_iald (ls := ls) (st := st) (θ := θ) (σ := σ)))
  | iand =>
    have e9 : len = 1 := hl.resolve_left (fun z => nomatch (show (1 : Nat) = 0 from z))
    subst e9
    have e8 : some ((16 : Nat), [((pc + 1 : Nat) : Int)]) = some d := hz
    cases e8
    exact absurd hx (zno_r (mn_bin (ls := ls) (st := st) (θ := θ) (σ := σ)))
  | iastore =>
    have e9 : len = 1 := hl.resolve_left (fun z => nomatch (show (1 : Nat) = 0 from z))
    subst e9
    have e8 : some ((54 : Nat), [((pc + 1 : Nat) : Int)]) = some d := hz
    cases e8
    exact absurd hx (zno_r (mn_iast (ls := ls) (st := st) (θ := θ) (σ := σ)))
  | iconst a0 =>
    have e9 : len = 1 := hl.resolve_left (fun z => nomatch (show (1 : Nat) = 0 from z))
    subst e9
    have h9 : (if -128 ≤ a0 ∧ a0 < 128 then some ((4 : Nat), [a0, ((pc + 1 : Nat) : Int)]) else none) = some d := hz
    split at h9
    next hv => cases h9; exact absurd hx (zno_r (mn_push (ls := ls) (st := st) (θ := θ) (σ := σ)))
    next => cases h9
  | idiv =>
    have e9 : len = 1 := hl.resolve_left (fun z => nomatch (show (1 : Nat) = 0 from z))
    subst e9
    have e8 : some ((14 : Nat), [((pc + 1 : Nat) : Int)]) = some d := hz
    cases e8
    exact absurd hx (zno_r (mn_div (ls := ls) (st := st) (θ := θ) (σ := σ)))
  | if_acmp _ _ => exact nomatch (show (none : Option (Nat × List Int)) = some d from hz)
  | if_icmp a0 a1 =>
    have e9 : len = 3 := hl.resolve_left (fun z => nomatch (show (3 : Nat) = 0 from z))
    subst e9
    have h9 : (match zgo pc a1 with | some t => some ((35 : Nat), [(match (generalizing := false) a0 with | .eq => 0 | .ne => 1 | .lt => 2 | .ge => 3 | .gt => 4 | .le => 5), t, ((pc + 3 : Nat) : Int)]) | none => none) = some d := hz
    split at h9
    next t ht =>
      cases h9
      cases a0 with
      | eq => exact absurd hx (zno_r (mn_ceq (ls := ls) (st := st) (θ := θ) (σ := σ)))
      | ne => exact absurd hx (zno_r (mn_cne (ls := ls) (st := st) (θ := θ) (σ := σ)))
      | lt => exact absurd hx (zno_r (mn_clt (ls := ls) (st := st) (θ := θ) (σ := σ)))
      | ge => exact absurd hx (zno_r (mn_cge (ls := ls) (st := st) (θ := θ) (σ := σ)))
      | gt => exact absurd hx (zno_r (mn_cgt (ls := ls) (st := st) (θ := θ) (σ := σ)))
      | le => exact absurd hx (zno_r (mn_cle (ls := ls) (st := st) (θ := θ) (σ := σ)))
    next => cases h9
  | ifCond a0 a1 =>
    have e9 : len = 3 := hl.resolve_left (fun z => nomatch (show (3 : Nat) = 0 from z))
    subst e9
    have h9 : (match zgo pc a1 with | some t => some ((34 : Nat), [(match (generalizing := false) a0 with | .eq => 0 | .ne => 1 | .lt => 2 | .ge => 3 | .gt => 4 | .le => 5), t, ((pc + 3 : Nat) : Int)]) | none => none) = some d := hz
    split at h9
    next t ht =>
      cases h9
      cases a0 with
      | eq => exact absurd hx (zno_r (mn_ifeq (ls := ls) (st := st) (θ := θ) (σ := σ)))
      | ne => exact absurd hx (zno_r (mn_ifne (ls := ls) (st := st) (θ := θ) (σ := σ)))
      | lt => exact absurd hx (zno_r (mn_iflt (ls := ls) (st := st) (θ := θ) (σ := σ)))
      | ge => exact absurd hx (zno_r (mn_ifge (ls := ls) (st := st) (θ := θ) (σ := σ)))
      | gt => exact absurd hx (zno_r (mn_ifgt (ls := ls) (st := st) (θ := θ) (σ := σ)))
      | le => exact absurd hx (zno_r (mn_ifle (ls := ls) (st := st) (θ := θ) (σ := σ)))
    next => cases h9
  | ifnonnull a0 =>
    have e9 : len = 3 := hl.resolve_left (fun z => nomatch (show (3 : Nat) = 0 from z))
    subst e9
    have h9 : (match zgo pc a0 with | some t => some ((37 : Nat), [t, ((pc + 3 : Nat) : Int)]) | none => none) = some d := hz
    split at h9
    next t ht => cases h9; exact absurd hx (zno_r (mn_ifnonnull (ls := ls) (st := st) (θ := θ) (σ := σ)))
    next => cases h9
  | ifnull a0 =>
    have e9 : len = 3 := hl.resolve_left (fun z => nomatch (show (3 : Nat) = 0 from z))
    subst e9
    have h9 : (match zgo pc a0 with | some t => some ((36 : Nat), [t, ((pc + 3 : Nat) : Int)]) | none => none) = some d := hz
    split at h9
    next t ht => cases h9; exact absurd hx (zno_r (mn_ifnull (ls := ls) (st := st) (θ := θ) (σ := σ)))
    next => cases h9
  | iinc a0 a1 =>
    have e9 : len = 3 := hl.resolve_left (fun z => nomatch (show (3 : Nat) = 0 from z))
    subst e9
    have e8 : some ((10 : Nat), [(a0 : Int), a1, ((pc + 3 : Nat) : Int)]) = some d := hz
    cases e8
    exact absurd hx (zno_r (mn_iinc (ls := ls) (st := st) (θ := θ) (σ := σ)))
  | iload a0 =>
    have e9 : len = 2 := hl.resolve_left (fun z => nomatch (show (2 : Nat) = 0 from z))
    subst e9
    have e8 : some ((1 : Nat), [(a0 : Int), ((pc + 2 : Nat) : Int)]) = some d := hz
    cases e8
    exact absurd hx (zno_r (mn_iload (ls := ls) (st := st) (θ := θ) (σ := σ)))
  | iload_n a0 =>
    have e9 : len = 1 := hl.resolve_left (fun z => nomatch (show (1 : Nat) = 0 from z))
    subst e9
    have e8 : some ((1 : Nat), [((a0.val : Nat) : Int), ((pc + 1 : Nat) : Int)]) = some d := hz
    cases e8
    exact absurd hx (zno_r (mn_iload (ls := ls) (st := st) (θ := θ) (σ := σ)))
  | imul =>
    have e9 : len = 1 := hl.resolve_left (fun z => nomatch (show (1 : Nat) = 0 from z))
    subst e9
    have e8 : some ((13 : Nat), [((pc + 1 : Nat) : Int)]) = some d := hz
    cases e8
    exact absurd hx (zno_r (mn_bin (ls := ls) (st := st) (θ := θ) (σ := σ)))
  | ineg => exact nomatch (show (none : Option (Nat × List Int)) = some d from hz)
  | instanceof _ => exact nomatch (show (none : Option (Nat × List Int)) = some d from hz)
  | invokedynamic _ => exact nomatch (show (none : Option (Nat × List Int)) = some d from hz)
  | invokeinterface _ _ => exact nomatch (show (none : Option (Nat × List Int)) = some d from hz)
  | invokespecial a0 =>
    have e9 : len = 3 := hl.resolve_left (fun z => nomatch (show (3 : Nat) = 0 from z))
    subst e9
    have h9 : (match zlk a0 (zCT r.1) with | some (9, _, _) => if 1 ≤ r.2.2.2.2.2.2.1 ∧ 12 ≤ r.2.2.2.2.2.2.2.1 then some ((68 : Nat), [((pc + 3 : Nat) : Int)]) else none | some (m, mj, _) => if (m = 2 ∨ m = 4) ∧ zmN mj = 0 ∧ zmF mj + 1 ≤ r.2.2.2.2.2.2.1 ∧ 8 + (zmL mj + 11) + zmW mj ≤ r.2.2.2.2.2.2.2.1 then some (65, [(mj : Int), ((pc + 3 : Nat) : Int)]) else none | none => none) = some d := hz
    split at h9
    next mj pl hzl =>
      split at h9
      next hv => cases h9; exact absurd hx (zno_r (mn_oini (ls := ls) (st := st) (θ := θ) (σ := σ)))
      next => cases h9
    next =>
      split at h9
      next => cases h9; exact absurd hx (zno_c (mn_callI (ls := ls) (st := st) (θ := θ) (σ := σ)))
      next => cases h9
    next => cases h9
  | invokestatic a0 =>
    have e9 : len = 3 := hl.resolve_left (fun z => nomatch (show (3 : Nat) = 0 from z))
    subst e9
    have h9 : (match zlk a0 (zCT r.1) with | some (7, _, _) => if 1 ≤ r.2.2.2.2.2.2.1 ∧ 18 ≤ r.2.2.2.2.2.2.2.1 then some ((66 : Nat), [((pc + 3 : Nat) : Int)]) else none | some (8, _, _) => if 3 ≤ r.2.2.2.2.2.2.1 ∧ 63 ≤ r.2.2.2.2.2.2.2.1 then some (67, [((pc + 3 : Nat) : Int)]) else none | some (m, mj, _) => if (m = 1 ∨ m = 3 ∨ m = 5) ∧ zmF mj + 1 ≤ r.2.2.2.2.2.2.1 ∧ 8 + (zmL mj + 11) + zmW mj ≤ r.2.2.2.2.2.2.2.1 then some (64, [(mj : Int), (zmN mj : Int), ((pc + 3 : Nat) : Int)]) else none | none => none) = some d := hz
    split at h9
    next mj pl hzl =>
      split at h9
      next hv => cases h9; exact absurd hx (zno_r (mn_acopy (ls := ls) (st := st) (θ := θ) (σ := σ)))
      next => cases h9
    next mj pl hzl =>
      split at h9
      next hv => cases h9; exact absurd hx (zno_r (mn_chk (ls := ls) (st := st) (θ := θ) (σ := σ)))
      next => cases h9
    next =>
      split at h9
      next => cases h9; exact absurd hx (zno_c (mn_callS (ls := ls) (st := st) (θ := θ) (σ := σ)))
      next => cases h9
    next => cases h9
  | invokevirtual a0 =>
    have h9 : (match zlk a0 (zCT r.1) with | some (0, mj, _) => if zmF mj + 1 ≤ r.2.2.2.2.2.2.1 ∧ 8 + (zmL mj + 11) + zmW mj ≤ r.2.2.2.2.2.2.2.1 then some ((63 : Nat), [(mj : Int), ((if zmC mj = 9 then 21 else zmC mj : Nat) : Int), (zmN mj : Int), ((pc + 3 : Nat) : Int)]) else none | _ => none) = some d := hz
    split at h9
    next =>
      split at h9
      next => cases h9; exact absurd hx (zno_c (mn_callV (ls := ls) (st := st) (θ := θ) (σ := σ)))
      next => cases h9
    next => cases h9
  | ior => exact nomatch (show (none : Option (Nat × List Int)) = some d from hz)
  | irem =>
    have e9 : len = 1 := hl.resolve_left (fun z => nomatch (show (1 : Nat) = 0 from z))
    subst e9
    have e8 : some ((15 : Nat), [((pc + 1 : Nat) : Int)]) = some d := hz
    cases e8
    exact absurd hx (zno_r (mn_rem (ls := ls) (st := st) (θ := θ) (σ := σ)))
  | ireturn =>
    have e9 : len = 1 := hl.resolve_left (fun z => nomatch (show (1 : Nat) = 0 from z))
    subst e9
    have h9 : (if zrt r.2.2.2.2.1 < 4 then some ((39 : Nat), [((zrt r.2.2.2.2.1 : Nat) : Int)]) else none) = some d := hz
    split at h9
    next hv => cases h9; exact z_reti hF hmc hms hdg hv hx
    next => cases h9
  | ishl => exact nomatch (show (none : Option (Nat × List Int)) = some d from hz)
  | ishr =>
    have e9 : len = 1 := hl.resolve_left (fun z => nomatch (show (1 : Nat) = 0 from z))
    subst e9
    have e8 : some ((18 : Nat), [((pc + 1 : Nat) : Int)]) = some d := hz
    cases e8
    exact absurd hx (zno_r (mn_bin (ls := ls) (st := st) (θ := θ) (σ := σ)))
  | istore a0 =>
    have e9 : len = 2 := hl.resolve_left (fun z => nomatch (show (2 : Nat) = 0 from z))
    subst e9
    have e8 : some ((7 : Nat), [(a0 : Int), ((pc + 2 : Nat) : Int)]) = some d := hz
    cases e8
    exact absurd hx (zno_r (mn_istore (ls := ls) (st := st) (θ := θ) (σ := σ)))
  | istore_n a0 =>
    have e9 : len = 1 := hl.resolve_left (fun z => nomatch (show (1 : Nat) = 0 from z))
    subst e9
    have e8 : some ((7 : Nat), [((a0.val : Nat) : Int), ((pc + 1 : Nat) : Int)]) = some d := hz
    cases e8
    exact absurd hx (zno_r (mn_istore (ls := ls) (st := st) (θ := θ) (σ := σ)))
  | isub =>
    have e9 : len = 1 := hl.resolve_left (fun z => nomatch (show (1 : Nat) = 0 from z))
    subst e9
    have e8 : some ((12 : Nat), [((pc + 1 : Nat) : Int)]) = some d := hz
    cases e8
    exact absurd hx (zno_r (mn_bin (ls := ls) (st := st) (θ := θ) (σ := σ)))
  | iushr => exact nomatch (show (none : Option (Nat × List Int)) = some d from hz)
  | ixor =>
    have e9 : len = 1 := hl.resolve_left (fun z => nomatch (show (1 : Nat) = 0 from z))
    subst e9
    have e8 : some ((17 : Nat), [((pc + 1 : Nat) : Int)]) = some d := hz
    cases e8
    exact absurd hx (zno_r (mn_bin (ls := ls) (st := st) (θ := θ) (σ := σ)))
  | jsr _ => exact nomatch (show (none : Option (Nat × List Int)) = some d from hz)
  | jsr_w _ => exact nomatch (show (none : Option (Nat × List Int)) = some d from hz)
  | l2d => exact nomatch (show (none : Option (Nat × List Int)) = some d from hz)
  | l2f => exact nomatch (show (none : Option (Nat × List Int)) = some d from hz)
  | l2i => exact nomatch (show (none : Option (Nat × List Int)) = some d from hz)
  | ladd => exact nomatch (show (none : Option (Nat × List Int)) = some d from hz)
  | laload =>
    have e9 : len = 1 := hl.resolve_left (fun z => nomatch (show (1 : Nat) = 0 from z))
    subst e9
    have e8 : some ((52 : Nat), [((pc + 1 : Nat) : Int)]) = some d := hz
    cases e8
    exact absurd hx (zno_r (mn_lald (ls := ls) (st := st) (θ := θ) (σ := σ)))
  | land => exact nomatch (show (none : Option (Nat × List Int)) = some d from hz)
  | lastore =>
    have e9 : len = 1 := hl.resolve_left (fun z => nomatch (show (1 : Nat) = 0 from z))
    subst e9
    have e8 : some ((57 : Nat), [((pc + 1 : Nat) : Int)]) = some d := hz
    cases e8
    exact absurd hx (zno_r (mn_last (ls := ls) (st := st) (θ := θ) (σ := σ)))
  | lcmp =>
    have e9 : len = 1 := hl.resolve_left (fun z => nomatch (show (1 : Nat) = 0 from z))
    subst e9
    have e8 : some ((27 : Nat), [((pc + 1 : Nat) : Int)]) = some d := hz
    cases e8
    exact absurd hx (zno_r (mn_lcmp (ls := ls) (st := st) (θ := θ) (σ := σ)))
  | lconst a0 =>
    have e9 : len = 1 := hl.resolve_left (fun z => nomatch (show (1 : Nat) = 0 from z))
    subst e9
    have e8 : some ((6 : Nat), [((a0.val : Nat) : Int), ((pc + 1 : Nat) : Int)]) = some d := hz
    cases e8
    exact absurd hx (zno_r (mn_push (ls := ls) (st := st) (θ := θ) (σ := σ)))
  | ldc a0 =>
    have e9 : len = 2 := hl.resolve_left (fun z => nomatch (show (2 : Nat) = 0 from z))
    subst e9
    have h9 : (if (r.1 = 5 ∧ a0 = 328) ∨ (r.1 = 6 ∧ a0 = 241) then some ((28 : Nat), [((pc + 2 : Nat) : Int)]) else if r.1 = 6 ∧ a0 = 13 then some (4, [49616, ((pc + 2 : Nat) : Int)]) else if r.1 = 6 ∧ a0 = 62 then some (4, [43414, ((pc + 2 : Nat) : Int)]) else match zlk a0 (zSTt r.1) with | some j => some (69, [(j : Int), ((pc + 2 : Nat) : Int)]) | none => none) = some d := hz
    split at h9
    next hv =>
      cases h9
      rcases hv with ⟨h5, rfl⟩ | ⟨h5, rfl⟩
      · exact absurd hx (zno_r (mn_push (ls := ls) (st := st) (θ := θ) (σ := σ)))
      · exact absurd hx (zno_r (mn_push (ls := ls) (st := st) (θ := θ) (σ := σ)))
    next =>
      split at h9
      next hv => cases h9; obtain ⟨h5, rfl⟩ := hv; exact absurd hx (zno_r (mn_push (ls := ls) (st := st) (θ := θ) (σ := σ)))
      next =>
        split at h9
        next hv => cases h9; obtain ⟨h5, rfl⟩ := hv; exact absurd hx (zno_r (mn_push (ls := ls) (st := st) (θ := θ) (σ := σ)))
        next =>
          split at h9
          next j hj => cases h9; exact absurd hx (zno_r (mn_push (ls := ls) (st := st) (θ := θ) (σ := σ)))
          next => cases h9
  | ldc_w a0 =>
    have e9 : len = 3 := hl.resolve_left (fun z => nomatch (show (3 : Nat) = 0 from z))
    subst e9
    have h9 : (if (r.1 = 5 ∧ a0 = 328) ∨ (r.1 = 6 ∧ a0 = 241) then some ((28 : Nat), [((pc + 3 : Nat) : Int)]) else none) = some d := hz
    split at h9
    next hv =>
      cases h9
      rcases hv with ⟨h5, rfl⟩ | ⟨h5, rfl⟩
      · exact absurd hx (zno_r (mn_push (ls := ls) (st := st) (θ := θ) (σ := σ)))
      · exact absurd hx (zno_r (mn_push (ls := ls) (st := st) (θ := θ) (σ := σ)))
    next => cases h9
  | ldc2_w a0 =>
    have e9 : len = 3 := hl.resolve_left (fun z => nomatch (show (3 : Nat) = 0 from z))
    subst e9
    have h9 : (if (r.1 = 5 ∧ a0 = 326) ∨ (r.1 = 6 ∧ a0 = 239) then some ((29 : Nat), [((pc + 3 : Nat) : Int)]) else none) = some d := hz
    split at h9
    next hv =>
      cases h9
      rcases hv with ⟨h5, rfl⟩ | ⟨h5, rfl⟩
      · exact absurd hx (zno_r (mn_push (ls := ls) (st := st) (θ := θ) (σ := σ)))
      · exact absurd hx (zno_r (mn_push (ls := ls) (st := st) (θ := θ) (σ := σ)))
    next => cases h9
  | ldiv => exact nomatch (show (none : Option (Nat × List Int)) = some d from hz)
  | lload _ => exact nomatch (show (none : Option (Nat × List Int)) = some d from hz)
  | lload_n _ => exact nomatch (show (none : Option (Nat × List Int)) = some d from hz)
  | lmul => exact nomatch (show (none : Option (Nat × List Int)) = some d from hz)
  | lneg => exact nomatch (show (none : Option (Nat × List Int)) = some d from hz)
  | lookupswitch a0 a1 =>
    have h9 : (match zgo pc a0 with | some t => if (a1.toList.zip (a1.toList.drop 1)).all (fun (a, next) => a.1 < next.1) = true ∧ zall (zlkp pc a1.toList) = true then some ((38 : Nat), t :: zlkp pc a1.toList) else none | none => none) = some d := hz
    split at h9
    next t ht =>
      split at h9
      next hv => cases h9; exact absurd hx (zno_r (mn_switch (ls := ls) (st := st) (θ := θ) (σ := σ)))
      next => cases h9
    next => cases h9
  | lor => exact nomatch (show (none : Option (Nat × List Int)) = some d from hz)
  | lrem => exact nomatch (show (none : Option (Nat × List Int)) = some d from hz)
  | lreturn => exact nomatch (show (none : Option (Nat × List Int)) = some d from hz)
  | lshl => exact nomatch (show (none : Option (Nat × List Int)) = some d from hz)
  | lshr => exact nomatch (show (none : Option (Nat × List Int)) = some d from hz)
  | lstore _ => exact nomatch (show (none : Option (Nat × List Int)) = some d from hz)
  | lstore_n _ => exact nomatch (show (none : Option (Nat × List Int)) = some d from hz)
  | lsub => exact nomatch (show (none : Option (Nat × List Int)) = some d from hz)
  | lushr => exact nomatch (show (none : Option (Nat × List Int)) = some d from hz)
  | lxor => exact nomatch (show (none : Option (Nat × List Int)) = some d from hz)
  | monitorenter => exact nomatch (show (none : Option (Nat × List Int)) = some d from hz)
  | monitorexit => exact nomatch (show (none : Option (Nat × List Int)) = some d from hz)
  | multianewarray _ _ => exact nomatch (show (none : Option (Nat × List Int)) = some d from hz)
  | new a0 =>
    have e9 : len = 3 := hl.resolve_left (fun z => nomatch (show (3 : Nat) = 0 from z))
    subst e9
    have h9 : (match zlk a0 (zNT r.1) with | some (0, ci, _) => some ((61 : Nat), [(ci : Int), ((pc + 3 : Nat) : Int)]) | some (ic, E, _) => if r.1 = 5 ∧ zthr r.2.2.1 pc ic = true ∧ 6 ≤ r.2.2.2.2.2.2.1 ∧ 90 ≤ r.2.2.2.2.2.2.2.1 then some (62, [(E : Int)]) else none | none => none) = some d := hz
    split at h9
    next ci pl hzl => cases h9; exact absurd hx (zno_r (mn_newo (ls := ls) (st := st) (θ := θ) (σ := σ)))
    next ic Ex pl hn hzl =>
      split at h9
      next hv => cases h9; exact z_thr hF hmc hms hB hR (hh hv.1) hdg hzl hn hv hx
      next => cases h9
    next => cases h9
  | newarray a0 =>
    have e9 : len = 2 := hl.resolve_left (fun z => nomatch (show (2 : Nat) = 0 from z))
    subst e9
    cases a0 with
    | int =>
      have e8 : some ((60 : Nat), [10, ((pc + 2 : Nat) : Int)]) = some d := hz
      cases e8
      exact absurd hx (zno_r (mn_newa (ls := ls) (st := st) (θ := θ) (σ := σ)))
    | boolean =>
      have e8 : some ((60 : Nat), [11, ((pc + 2 : Nat) : Int)]) = some d := hz
      cases e8
      exact absurd hx (zno_r (mn_newa (ls := ls) (st := st) (θ := θ) (σ := σ)))
    | char =>
      have e8 : some ((60 : Nat), [12, ((pc + 2 : Nat) : Int)]) = some d := hz
      cases e8
      exact absurd hx (zno_r (mn_newa (ls := ls) (st := st) (θ := θ) (σ := σ)))
    | long =>
      have e8 : some ((60 : Nat), [13, ((pc + 2 : Nat) : Int)]) = some d := hz
      cases e8
      exact absurd hx (zno_r (mn_newa (ls := ls) (st := st) (θ := θ) (σ := σ)))
    | _ => exact nomatch (show (none : Option (Nat × List Int)) = some d from hz)
  | nop => exact nomatch (show (none : Option (Nat × List Int)) = some d from hz)
  | pop =>
    have e9 : len = 1 := hl.resolve_left (fun z => nomatch (show (1 : Nat) = 0 from z))
    subst e9
    have e8 : some ((30 : Nat), [((pc + 1 : Nat) : Int)]) = some d := hz
    cases e8
    exact absurd hx (zno_r (mn_pop (ls := ls) (st := st) (θ := θ) (σ := σ)))
  | pop2 => exact nomatch (show (none : Option (Nat × List Int)) = some d from hz)
  | putfield a0 =>
    have e9 : len = 3 := hl.resolve_left (fun z => nomatch (show (3 : Nat) = 0 from z))
    subst e9
    have h9 : (match zlk a0 (zFT r.1) with | some (mode, ci, k, knd, fin, _) => if mode < 2 ∧ (fin = 0 ∨ (mode = 0 ∧ ci = r.1 ∧ r.2.1.name = "<init>")) then (if knd = 2 then some ((48 : Nat), [(ci : Int), (k : Int), ((pc + 3 : Nat) : Int)]) else if knd = 1 then some (47, [(ci : Int), (k : Int), ((pc + 3 : Nat) : Int)]) else some (46, [(ci : Int), (k : Int), ((pc + 3 : Nat) : Int)])) else none | none => none) = some d := hz
    split at h9
    next mo ci k0 knd fin pl hzl =>
      split at h9
      next hm =>
        split at h9
        next hk => cases h9; exact absurd hx (zno_r (mn_putR (ls := ls) (st := st) (θ := θ) (σ := σ)))
        next hk2 =>
          split at h9
          next hk => cases h9; exact absurd hx (zno_r (mn_putZ (ls := ls) (st := st) (θ := θ) (σ := σ)))
          next hk1 => cases h9; exact absurd hx (zno_r (mn_putI (ls := ls) (st := st) (θ := θ) (σ := σ)))
      next => cases h9
    next => cases h9
  | putstatic _ => exact nomatch (show (none : Option (Nat × List Int)) = some d from hz)
  | ret _ => exact nomatch (show (none : Option (Nat × List Int)) = some d from hz)
  | return_ =>
    have e9 : len = 1 := hl.resolve_left (fun z => nomatch (show (1 : Nat) = 0 from z))
    subst e9
    have h9 : (if zrt r.2.2.2.2.1 = 4 then some ((41 : Nat), ([] : List Int)) else none) = some d := hz
    split at h9
    next hv => cases h9; exact z_retv hF hmc hms hdg hv hx
    next => cases h9
  | saload => exact nomatch (show (none : Option (Nat × List Int)) = some d from hz)
  | sastore => exact nomatch (show (none : Option (Nat × List Int)) = some d from hz)
  | sipush a0 =>
    have e9 : len = 3 := hl.resolve_left (fun z => nomatch (show (3 : Nat) = 0 from z))
    subst e9
    have h9 : (if -32768 ≤ a0 ∧ a0 < 32768 then some ((4 : Nat), [a0, ((pc + 3 : Nat) : Int)]) else none) = some d := hz
    split at h9
    next hv => cases h9; exact absurd hx (zno_r (mn_push (ls := ls) (st := st) (θ := θ) (σ := σ)))
    next => cases h9
  | swap => exact nomatch (show (none : Option (Nat × List Int)) = some d from hz)
  | tableswitch a0 a1 a2 a3 =>
    have h9 : (match zgo pc a0 with | some t => if a2 = a1 + (a3.size : Int) - 1 ∧ zall (ztb pc a1 a3.toList) = true ∧ (-2147483648 ≤ a1 ∧ a2 < 2147483648) then some ((38 : Nat), t :: ztb pc a1 a3.toList) else none | none => none) = some d := hz
    split at h9
    next t ht =>
      split at h9
      next hv => cases h9; exact absurd hx (zno_r (mn_switch (ls := ls) (st := st) (θ := θ) (σ := σ)))
      next => cases h9
    next => cases h9
theorem zclc {ig : Instr} {len : Nat} {d : Nat × List Int} (hF : zFr E r p l R s m meth c) (hB : B.2.2.2.2 = r.2.2.2.1) (hdg : decode r.2.2.1 pc = .ok (ig, len)) (hl : zil ig = 0 ∨ len = zil ig) (hz : zresI r pc ig = some d) (hx : z_sem d ls st θ σ = some (.inr (.inr (mj, vs, rest, npc)))) : zIv E B p l e R s m args below meth c pc ls st θ σ mj vs rest npc := by
  cases ig with
  | aaload =>
    have e9 : len = 1 := hl.resolve_left (fun z => nomatch (show (1 : Nat) = 0 from z))
    subst e9
    have e8 : some ((53 : Nat), [((pc + 1 : Nat) : Int)]) = some d := hz
    cases e8
    exact absurd hx (zno_r (mn_aald (ls := ls) (st := st) (θ := θ) (σ := σ)))
  | aastore =>
    have e9 : len = 1 := hl.resolve_left (fun z => nomatch (show (1 : Nat) = 0 from z))
    subst e9
    have e8 : some ((58 : Nat), [((pc + 1 : Nat) : Int)]) = some d := hz
    cases e8
    exact absurd hx (zno_r (mn_aast (ls := ls) (st := st) (θ := θ) (σ := σ)))
  | aconst_null =>
    have e9 : len = 1 := hl.resolve_left (fun z => nomatch (show (1 : Nat) = 0 from z))
    subst e9
    have e8 : some ((5 : Nat), [((pc + 1 : Nat) : Int)]) = some d := hz
    cases e8
    exact absurd hx (zno_r (mn_push (ls := ls) (st := st) (θ := θ) (σ := σ)))
  | aload a0 =>
    have e9 : len = 2 := hl.resolve_left (fun z => nomatch (show (2 : Nat) = 0 from z))
    subst e9
    have e8 : some ((2 : Nat), [(a0 : Int), ((pc + 2 : Nat) : Int)]) = some d := hz
    cases e8
    exact absurd hx (zno_r (mn_aload (ls := ls) (st := st) (θ := θ) (σ := σ)))
  | aload_n a0 =>
    have e9 : len = 1 := hl.resolve_left (fun z => nomatch (show (1 : Nat) = 0 from z))
    subst e9
    have e8 : some ((2 : Nat), [((a0.val : Nat) : Int), ((pc + 1 : Nat) : Int)]) = some d := hz
    cases e8
    exact absurd hx (zno_r (mn_aload (ls := ls) (st := st) (θ := θ) (σ := σ)))
  | anewarray a0 =>
    have e9 : len = 3 := hl.resolve_left (fun z => nomatch (show (3 : Nat) = 0 from z))
    subst e9
    have h9 : (match zlk a0 (zNT r.1) with | some (0, 3, _) => some ((60 : Nat), [14, ((pc + 3 : Nat) : Int)]) | some (0, 2, _) => some (60, [15, ((pc + 3 : Nat) : Int)]) | _ => none) = some d := hz
    split at h9
    next pl hzl => cases h9; exact absurd hx (zno_r (mn_newa (ls := ls) (st := st) (θ := θ) (σ := σ)))
    next pl hzl => cases h9; exact absurd hx (zno_r (mn_newa (ls := ls) (st := st) (θ := θ) (σ := σ)))
    next => cases h9
  | areturn =>
    have h9 : (if zrt r.2.2.2.2.1 = 7 then some ((40 : Nat), ([] : List Int)) else none) = some d := hz
    split at h9
    next => cases h9; exact absurd hx (zno_e (mn_aret (ls := ls) (st := st) (θ := θ) (σ := σ)))
    next => cases h9
  | arraylength =>
    have e9 : len = 1 := hl.resolve_left (fun z => nomatch (show (1 : Nat) = 0 from z))
    subst e9
    have e8 : some ((59 : Nat), [((pc + 1 : Nat) : Int)]) = some d := hz
    cases e8
    exact absurd hx (zno_r (mn_alen (ls := ls) (st := st) (θ := θ) (σ := σ)))
  | astore a0 =>
    have e9 : len = 2 := hl.resolve_left (fun z => nomatch (show (2 : Nat) = 0 from z))
    subst e9
    have e8 : some ((8 : Nat), [(a0 : Int), ((pc + 2 : Nat) : Int)]) = some d := hz
    cases e8
    exact absurd hx (zno_r (mn_astore (ls := ls) (st := st) (θ := θ) (σ := σ)))
  | astore_n a0 =>
    have e9 : len = 1 := hl.resolve_left (fun z => nomatch (show (1 : Nat) = 0 from z))
    subst e9
    have e8 : some ((8 : Nat), [((a0.val : Nat) : Int), ((pc + 1 : Nat) : Int)]) = some d := hz
    cases e8
    exact absurd hx (zno_r (mn_astore (ls := ls) (st := st) (θ := θ) (σ := σ)))
  | athrow => exact nomatch (show (none : Option (Nat × List Int)) = some d from hz)
  | baload =>
    have e9 : len = 1 := hl.resolve_left (fun z => nomatch (show (1 : Nat) = 0 from z))
    subst e9
    have e8 : some ((50 : Nat), [((pc + 1 : Nat) : Int)]) = some d := hz
    cases e8
    exact absurd hx (zno_r (mn_bald (ls := ls) (st := st) (θ := θ) (σ := σ)))
  | bastore =>
    have e9 : len = 1 := hl.resolve_left (fun z => nomatch (show (1 : Nat) = 0 from z))
    subst e9
    have e8 : some ((55 : Nat), [((pc + 1 : Nat) : Int)]) = some d := hz
    cases e8
    exact absurd hx (zno_r (mn_bast (ls := ls) (st := st) (θ := θ) (σ := σ)))
  | bipush a0 =>
    have e9 : len = 2 := hl.resolve_left (fun z => nomatch (show (2 : Nat) = 0 from z))
    subst e9
    have h9 : (if -128 ≤ a0 ∧ a0 < 128 then some ((4 : Nat), [a0, ((pc + 2 : Nat) : Int)]) else none) = some d := hz
    split at h9
    next hv => cases h9; exact absurd hx (zno_r (mn_push (ls := ls) (st := st) (θ := θ) (σ := σ)))
    next => cases h9
  | caload =>
    have e9 : len = 1 := hl.resolve_left (fun z => nomatch (show (1 : Nat) = 0 from z))
    subst e9
    have e8 : some ((51 : Nat), [((pc + 1 : Nat) : Int)]) = some d := hz
    cases e8
    exact absurd hx (zno_r (mn_cald (ls := ls) (st := st) (θ := θ) (σ := σ)))
  | castore =>
    have e9 : len = 1 := hl.resolve_left (fun z => nomatch (show (1 : Nat) = 0 from z))
    subst e9
    have e8 : some ((56 : Nat), [((pc + 1 : Nat) : Int)]) = some d := hz
    cases e8
    exact absurd hx (zno_r (mn_cast (ls := ls) (st := st) (θ := θ) (σ := σ)))
  | checkcast _ => exact nomatch (show (none : Option (Nat × List Int)) = some d from hz)
  | d2f => exact nomatch (show (none : Option (Nat × List Int)) = some d from hz)
  | d2i => exact nomatch (show (none : Option (Nat × List Int)) = some d from hz)
  | d2l => exact nomatch (show (none : Option (Nat × List Int)) = some d from hz)
  | dadd => exact nomatch (show (none : Option (Nat × List Int)) = some d from hz)
  | daload => exact nomatch (show (none : Option (Nat × List Int)) = some d from hz)
  | dastore => exact nomatch (show (none : Option (Nat × List Int)) = some d from hz)
  | dcmp a0 =>
    cases a0 with
    | g => exact nomatch (show (none : Option (Nat × List Int)) = some d from hz)
    | l =>
      have e9 : len = 1 := hl.resolve_left (fun z => nomatch (show (1 : Nat) = 0 from z))
      subst e9
      have e8 : some ((26 : Nat), [((pc + 1 : Nat) : Int)]) = some d := hz
      cases e8
      exact absurd hx (zno_r (mn_dcmp (ls := ls) (st := st) (θ := θ) (σ := σ)))
  | dconst _ => exact nomatch (show (none : Option (Nat × List Int)) = some d from hz)
  | ddiv =>
    have e9 : len = 1 := hl.resolve_left (fun z => nomatch (show (1 : Nat) = 0 from z))
    subst e9
    have e8 : some ((25 : Nat), [((pc + 1 : Nat) : Int)]) = some d := hz
    cases e8
    exact absurd hx (zno_r (mn_ddiv (ls := ls) (st := st) (θ := θ) (σ := σ)))
  | dload a0 =>
    have e9 : len = 2 := hl.resolve_left (fun z => nomatch (show (2 : Nat) = 0 from z))
    subst e9
    have e8 : some ((3 : Nat), [(a0 : Int), ((pc + 2 : Nat) : Int)]) = some d := hz
    cases e8
    exact absurd hx (zno_r (mn_dload (ls := ls) (st := st) (θ := θ) (σ := σ)))
  | dload_n _ => exact nomatch (show (none : Option (Nat × List Int)) = some d from hz)
  | dmul => exact nomatch (show (none : Option (Nat × List Int)) = some d from hz)
  | dneg => exact nomatch (show (none : Option (Nat × List Int)) = some d from hz)
  | drem => exact nomatch (show (none : Option (Nat × List Int)) = some d from hz)
  | dreturn =>
    have h9 : (if zrt r.2.2.2.2.1 = 6 then some ((43 : Nat), ([] : List Int)) else none) = some d := hz
    split at h9
    next => cases h9; exact absurd hx (zno_e (mn_dret (ls := ls) (st := st) (θ := θ) (σ := σ)))
    next => cases h9
  | dstore a0 =>
    have e9 : len = 2 := hl.resolve_left (fun z => nomatch (show (2 : Nat) = 0 from z))
    subst e9
    have e8 : some ((9 : Nat), [(a0 : Int), ((pc + 2 : Nat) : Int)]) = some d := hz
    cases e8
    exact absurd hx (zno_r (mn_dstore (ls := ls) (st := st) (θ := θ) (σ := σ)))
  | dstore_n _ => exact nomatch (show (none : Option (Nat × List Int)) = some d from hz)
  | dsub => exact nomatch (show (none : Option (Nat × List Int)) = some d from hz)
  | dup =>
    have e9 : len = 1 := hl.resolve_left (fun z => nomatch (show (1 : Nat) = 0 from z))
    subst e9
    have e8 : some ((31 : Nat), [((pc + 1 : Nat) : Int)]) = some d := hz
    cases e8
    exact absurd hx (zno_r (mn_dup (ls := ls) (st := st) (θ := θ) (σ := σ)))
  | dup_x1 => exact nomatch (show (none : Option (Nat × List Int)) = some d from hz)
  | dup_x2 => exact nomatch (show (none : Option (Nat × List Int)) = some d from hz)
  | dup2 =>
    have e9 : len = 1 := hl.resolve_left (fun z => nomatch (show (1 : Nat) = 0 from z))
    subst e9
    have e8 : some ((32 : Nat), [((pc + 1 : Nat) : Int)]) = some d := hz
    cases e8
    exact absurd hx (zno_r (mn_dup2 (ls := ls) (st := st) (θ := θ) (σ := σ)))
  | dup2_x1 => exact nomatch (show (none : Option (Nat × List Int)) = some d from hz)
  | dup2_x2 => exact nomatch (show (none : Option (Nat × List Int)) = some d from hz)
  | f2d =>
    have e9 : len = 1 := hl.resolve_left (fun z => nomatch (show (1 : Nat) = 0 from z))
    subst e9
    have e8 : some ((23 : Nat), [((pc + 1 : Nat) : Int)]) = some d := hz
    cases e8
    exact absurd hx (zno_r (mn_f2d (ls := ls) (st := st) (θ := θ) (σ := σ)))
  | f2i => exact nomatch (show (none : Option (Nat × List Int)) = some d from hz)
  | f2l => exact nomatch (show (none : Option (Nat × List Int)) = some d from hz)
  | fadd => exact nomatch (show (none : Option (Nat × List Int)) = some d from hz)
  | faload => exact nomatch (show (none : Option (Nat × List Int)) = some d from hz)
  | fastore => exact nomatch (show (none : Option (Nat × List Int)) = some d from hz)
  | fcmp _ => exact nomatch (show (none : Option (Nat × List Int)) = some d from hz)
  | fconst _ => exact nomatch (show (none : Option (Nat × List Int)) = some d from hz)
  | fdiv =>
    have e9 : len = 1 := hl.resolve_left (fun z => nomatch (show (1 : Nat) = 0 from z))
    subst e9
    have e8 : some ((24 : Nat), [((pc + 1 : Nat) : Int)]) = some d := hz
    cases e8
    exact absurd hx (zno_r (mn_fdiv (ls := ls) (st := st) (θ := θ) (σ := σ)))
  | fload _ => exact nomatch (show (none : Option (Nat × List Int)) = some d from hz)
  | fload_n _ => exact nomatch (show (none : Option (Nat × List Int)) = some d from hz)
  | fmul => exact nomatch (show (none : Option (Nat × List Int)) = some d from hz)
  | fneg => exact nomatch (show (none : Option (Nat × List Int)) = some d from hz)
  | frem => exact nomatch (show (none : Option (Nat × List Int)) = some d from hz)
  | freturn =>
    have h9 : (if zrt r.2.2.2.2.1 = 5 then some ((42 : Nat), ([] : List Int)) else none) = some d := hz
    split at h9
    next => cases h9; exact absurd hx (zno_e (mn_fret (ls := ls) (st := st) (θ := θ) (σ := σ)))
    next => cases h9
  | fstore _ => exact nomatch (show (none : Option (Nat × List Int)) = some d from hz)
  | fstore_n _ => exact nomatch (show (none : Option (Nat × List Int)) = some d from hz)
  | fsub => exact nomatch (show (none : Option (Nat × List Int)) = some d from hz)
  | getfield a0 =>
    have e9 : len = 3 := hl.resolve_left (fun z => nomatch (show (3 : Nat) = 0 from z))
    subst e9
    have h9 : (match zlk a0 (zFT r.1) with | some (mode, ci, k, knd, _, _) => if mode < 2 then (if knd = 2 then some ((45 : Nat), [(ci : Int), (k : Int), ((pc + 3 : Nat) : Int)]) else some (44, [(ci : Int), (k : Int), ((pc + 3 : Nat) : Int)])) else if mode = 2 then some (71, [((pc + 3 : Nat) : Int)]) else if mode = 3 then some (72, [((pc + 3 : Nat) : Int)]) else none | none => none) = some d := hz
    split at h9
    next mo ci k0 knd fin pl hzl =>
      split at h9
      next hm =>
        split at h9
        next hk => cases h9; exact absurd hx (zno_r (mn_getR (ls := ls) (st := st) (θ := θ) (σ := σ)))
        next hk => cases h9; exact absurd hx (zno_r (mn_getI (ls := ls) (st := st) (θ := θ) (σ := σ)))
      next =>
        split at h9
        next hm => subst hm; cases h9; exact absurd hx (zno_r (mn_sval (ls := ls) (st := st) (θ := θ) (σ := σ)))
        next =>
          split at h9
          next hm => subst hm; cases h9; exact absurd hx (zno_r (mn_scod (ls := ls) (st := st) (θ := θ) (σ := σ)))
          next => cases h9
    next => cases h9
  | getstatic a0 =>
    have e9 : len = 3 := hl.resolve_left (fun z => nomatch (show (3 : Nat) = 0 from z))
    subst e9
    have h9 : (match zlk a0 (zFT r.1) with | some (4, _, _, _, _, _) => some ((70 : Nat), [((pc + 3 : Nat) : Int)]) | _ => none) = some d := hz
    split at h9
    next ci k0 knd fin pl hzl => cases h9; exact absurd hx (zno_r (mn_push (ls := ls) (st := st) (θ := θ) (σ := σ)))
    next => cases h9
  | goto a0 =>
    have e9 : len = 3 := hl.resolve_left (fun z => nomatch (show (3 : Nat) = 0 from z))
    subst e9
    have h9 : (match zgo pc a0 with | some t => some ((33 : Nat), [t]) | none => none) = some d := hz
    split at h9
    next t ht => cases h9; exact absurd hx (zno_r (mn_goto (ls := ls) (st := st) (θ := θ) (σ := σ)))
    next => cases h9
  | goto_w _ => exact nomatch (show (none : Option (Nat × List Int)) = some d from hz)
  | i2b => exact nomatch (show (none : Option (Nat × List Int)) = some d from hz)
  | i2c =>
    have e9 : len = 1 := hl.resolve_left (fun z => nomatch (show (1 : Nat) = 0 from z))
    subst e9
    have e8 : some ((20 : Nat), [((pc + 1 : Nat) : Int)]) = some d := hz
    cases e8
    exact absurd hx (zno_r (mn_i2c (ls := ls) (st := st) (θ := θ) (σ := σ)))
  | i2d =>
    have e9 : len = 1 := hl.resolve_left (fun z => nomatch (show (1 : Nat) = 0 from z))
    subst e9
    have e8 : some ((22 : Nat), [((pc + 1 : Nat) : Int)]) = some d := hz
    cases e8
    exact absurd hx (zno_r (mn_i2d (ls := ls) (st := st) (θ := θ) (σ := σ)))
  | i2f =>
    have e9 : len = 1 := hl.resolve_left (fun z => nomatch (show (1 : Nat) = 0 from z))
    subst e9
    have e8 : some ((21 : Nat), [((pc + 1 : Nat) : Int)]) = some d := hz
    cases e8
    exact absurd hx (zno_r (mn_i2f (ls := ls) (st := st) (θ := θ) (σ := σ)))
  | i2l =>
    have e9 : len = 1 := hl.resolve_left (fun z => nomatch (show (1 : Nat) = 0 from z))
    subst e9
    have e8 : some ((19 : Nat), [((pc + 1 : Nat) : Int)]) = some d := hz
    cases e8
    exact absurd hx (zno_r (mn_i2l (ls := ls) (st := st) (θ := θ) (σ := σ)))
  | i2s => exact nomatch (show (none : Option (Nat × List Int)) = some d from hz)
  | iadd =>
    have e9 : len = 1 := hl.resolve_left (fun z => nomatch (show (1 : Nat) = 0 from z))
    subst e9
    have e8 : some ((11 : Nat), [((pc + 1 : Nat) : Int)]) = some d := hz
    cases e8
    exact absurd hx (zno_r (mn_bin (ls := ls) (st := st) (θ := θ) (σ := σ)))
  | iaload =>
    have e9 : len = 1 := hl.resolve_left (fun z => nomatch (show (1 : Nat) = 0 from z))
    subst e9
    have e8 : some ((49 : Nat), [((pc + 1 : Nat) : Int)]) = some d := hz
    cases e8
    exact absurd hx (zno_r (mn_iald (ls := ls) (st := st) (θ := θ) (σ := σ)))
  | iand =>
    have e9 : len = 1 := hl.resolve_left (fun z => nomatch (show (1 : Nat) = 0 from z))
    subst e9
    have e8 : some ((16 : Nat), [((pc + 1 : Nat) : Int)]) = some d := hz
    cases e8
    exact absurd hx (zno_r (mn_bin (ls := ls) (st := st) (θ := θ) (σ := σ)))
  | iastore =>
    have e9 : len = 1 := hl.resolve_left (fun z => nomatch (show (1 : Nat) = 0 from z))
    subst e9
    have e8 : some ((54 : Nat), [((pc + 1 : Nat) : Int)]) = some d := hz
    cases e8
    exact absurd hx (zno_r (mn_iast (ls := ls) (st := st) (θ := θ) (σ := σ)))
  | iconst a0 =>
    have e9 : len = 1 := hl.resolve_left (fun z => nomatch (show (1 : Nat) = 0 from z))
    subst e9
    have h9 : (if -128 ≤ a0 ∧ a0 < 128 then some ((4 : Nat), [a0, ((pc + 1 : Nat) : Int)]) else none) = some d := hz
    split at h9
    next hv => cases h9; exact absurd hx (zno_r (mn_push (ls := ls) (st := st) (θ := θ) (σ := σ)))
    next => cases h9
  | idiv =>
    have e9 : len = 1 := hl.resolve_left (fun z => nomatch (show (1 : Nat) = 0 from z))
    subst e9
    have e8 : some ((14 : Nat), [((pc + 1 : Nat) : Int)]) = some d := hz
    cases e8
    exact absurd hx (zno_r (mn_div (ls := ls) (st := st) (θ := θ) (σ := σ)))
  | if_acmp _ _ => exact nomatch (show (none : Option (Nat × List Int)) = some d from hz)
  | if_icmp a0 a1 =>
    have e9 : len = 3 := hl.resolve_left (fun z => nomatch (show (3 : Nat) = 0 from z))
    subst e9
    have h9 : (match zgo pc a1 with | some t => some ((35 : Nat), [(match (generalizing := false) a0 with | .eq => 0 | .ne => 1 | .lt => 2 | .ge => 3 | .gt => 4 | .le => 5), t, ((pc + 3 : Nat) : Int)]) | none => none) = some d := hz
    split at h9
    next t ht =>
      cases h9
      cases a0 with
      | eq => exact absurd hx (zno_r (mn_ceq (ls := ls) (st := st) (θ := θ) (σ := σ)))
      | ne => exact absurd hx (zno_r (mn_cne (ls := ls) (st := st) (θ := θ) (σ := σ)))
      | lt => exact absurd hx (zno_r (mn_clt (ls := ls) (st := st) (θ := θ) (σ := σ)))
      | ge => exact absurd hx (zno_r (mn_cge (ls := ls) (st := st) (θ := θ) (σ := σ)))
      | gt => exact absurd hx (zno_r (mn_cgt (ls := ls) (st := st) (θ := θ) (σ := σ)))
      | le => exact absurd hx (zno_r (mn_cle (ls := ls) (st := st) (θ := θ) (σ := σ)))
    next => cases h9
  | ifCond a0 a1 =>
    have e9 : len = 3 := hl.resolve_left (fun z => nomatch (show (3 : Nat) = 0 from z))
    subst e9
    have h9 : (match zgo pc a1 with | some t => some ((34 : Nat), [(match (generalizing := false) a0 with | .eq => 0 | .ne => 1 | .lt => 2 | .ge => 3 | .gt => 4 | .le => 5), t, ((pc + 3 : Nat) : Int)]) | none => none) = some d := hz
    split at h9
    next t ht =>
      cases h9
      cases a0 with
      | eq => exact absurd hx (zno_r (mn_ifeq (ls := ls) (st := st) (θ := θ) (σ := σ)))
      | ne => exact absurd hx (zno_r (mn_ifne (ls := ls) (st := st) (θ := θ) (σ := σ)))
      | lt => exact absurd hx (zno_r (mn_iflt (ls := ls) (st := st) (θ := θ) (σ := σ)))
      | ge => exact absurd hx (zno_r (mn_ifge (ls := ls) (st := st) (θ := θ) (σ := σ)))
      | gt => exact absurd hx (zno_r (mn_ifgt (ls := ls) (st := st) (θ := θ) (σ := σ)))
      | le => exact absurd hx (zno_r (mn_ifle (ls := ls) (st := st) (θ := θ) (σ := σ)))
    next => cases h9
  | ifnonnull a0 =>
    have e9 : len = 3 := hl.resolve_left (fun z => nomatch (show (3 : Nat) = 0 from z))
    subst e9
    have h9 : (match zgo pc a0 with | some t => some ((37 : Nat), [t, ((pc + 3 : Nat) : Int)]) | none => none) = some d := hz
    split at h9
    next t ht => cases h9; exact absurd hx (zno_r (mn_ifnonnull (ls := ls) (st := st) (θ := θ) (σ := σ)))
    next => cases h9
  | ifnull a0 =>
    have e9 : len = 3 := hl.resolve_left (fun z => nomatch (show (3 : Nat) = 0 from z))
    subst e9
    have h9 : (match zgo pc a0 with | some t => some ((36 : Nat), [t, ((pc + 3 : Nat) : Int)]) | none => none) = some d := hz
    split at h9
    next t ht => cases h9; exact absurd hx (zno_r (mn_ifnull (ls := ls) (st := st) (θ := θ) (σ := σ)))
    next => cases h9
  | iinc a0 a1 =>
    have e9 : len = 3 := hl.resolve_left (fun z => nomatch (show (3 : Nat) = 0 from z))
    subst e9
    have e8 : some ((10 : Nat), [(a0 : Int), a1, ((pc + 3 : Nat) : Int)]) = some d := hz
    cases e8
    exact absurd hx (zno_r (mn_iinc (ls := ls) (st := st) (θ := θ) (σ := σ)))
  | iload a0 =>
    have e9 : len = 2 := hl.resolve_left (fun z => nomatch (show (2 : Nat) = 0 from z))
    subst e9
    have e8 : some ((1 : Nat), [(a0 : Int), ((pc + 2 : Nat) : Int)]) = some d := hz
    cases e8
    exact absurd hx (zno_r (mn_iload (ls := ls) (st := st) (θ := θ) (σ := σ)))
  | iload_n a0 =>
    have e9 : len = 1 := hl.resolve_left (fun z => nomatch (show (1 : Nat) = 0 from z))
    subst e9
    have e8 : some ((1 : Nat), [((a0.val : Nat) : Int), ((pc + 1 : Nat) : Int)]) = some d := hz
    cases e8
    exact absurd hx (zno_r (mn_iload (ls := ls) (st := st) (θ := θ) (σ := σ)))
  | imul =>
    have e9 : len = 1 := hl.resolve_left (fun z => nomatch (show (1 : Nat) = 0 from z))
    subst e9
    have e8 : some ((13 : Nat), [((pc + 1 : Nat) : Int)]) = some d := hz
    cases e8
    exact absurd hx (zno_r (mn_bin (ls := ls) (st := st) (θ := θ) (σ := σ)))
  | ineg => exact nomatch (show (none : Option (Nat × List Int)) = some d from hz)
  | instanceof _ => exact nomatch (show (none : Option (Nat × List Int)) = some d from hz)
  | invokedynamic _ => exact nomatch (show (none : Option (Nat × List Int)) = some d from hz)
  | invokeinterface _ _ => exact nomatch (show (none : Option (Nat × List Int)) = some d from hz)
  | invokespecial a0 =>
    have e9 : len = 3 := hl.resolve_left (fun z => nomatch (show (3 : Nat) = 0 from z))
    subst e9
    have h9 : (match zlk a0 (zCT r.1) with | some (9, _, _) => if 1 ≤ r.2.2.2.2.2.2.1 ∧ 12 ≤ r.2.2.2.2.2.2.2.1 then some ((68 : Nat), [((pc + 3 : Nat) : Int)]) else none | some (m, mj, _) => if (m = 2 ∨ m = 4) ∧ zmN mj = 0 ∧ zmF mj + 1 ≤ r.2.2.2.2.2.2.1 ∧ 8 + (zmL mj + 11) + zmW mj ≤ r.2.2.2.2.2.2.2.1 then some (65, [(mj : Int), ((pc + 3 : Nat) : Int)]) else none | none => none) = some d := hz
    split at h9
    next mj pl hzl =>
      split at h9
      next hv => cases h9; exact absurd hx (zno_r (mn_oini (ls := ls) (st := st) (θ := θ) (σ := σ)))
      next => cases h9
    next m0 mj0 pl _ hzl =>
      split at h9
      next hv => cases h9; exact z_iI hF hB hdg hzl hv.1 hv.2.1 hv.2.2.1 hv.2.2.2 hx
      next => cases h9
    next => cases h9
  | invokestatic a0 =>
    have e9 : len = 3 := hl.resolve_left (fun z => nomatch (show (3 : Nat) = 0 from z))
    subst e9
    have h9 : (match zlk a0 (zCT r.1) with | some (7, _, _) => if 1 ≤ r.2.2.2.2.2.2.1 ∧ 18 ≤ r.2.2.2.2.2.2.2.1 then some ((66 : Nat), [((pc + 3 : Nat) : Int)]) else none | some (8, _, _) => if 3 ≤ r.2.2.2.2.2.2.1 ∧ 63 ≤ r.2.2.2.2.2.2.2.1 then some (67, [((pc + 3 : Nat) : Int)]) else none | some (m, mj, _) => if (m = 1 ∨ m = 3 ∨ m = 5) ∧ zmF mj + 1 ≤ r.2.2.2.2.2.2.1 ∧ 8 + (zmL mj + 11) + zmW mj ≤ r.2.2.2.2.2.2.2.1 then some (64, [(mj : Int), (zmN mj : Int), ((pc + 3 : Nat) : Int)]) else none | none => none) = some d := hz
    split at h9
    next mj pl hzl =>
      split at h9
      next hv => cases h9; exact absurd hx (zno_r (mn_acopy (ls := ls) (st := st) (θ := θ) (σ := σ)))
      next => cases h9
    next mj pl hzl =>
      split at h9
      next hv => cases h9; exact absurd hx (zno_r (mn_chk (ls := ls) (st := st) (θ := θ) (σ := σ)))
      next => cases h9
    next m0 mj0 pl _ _ hzl =>
      split at h9
      next hv => cases h9; exact z_iS hF hB hdg hzl hv.1 hv.2.1 hv.2.2 hx
      next => cases h9
    next => cases h9
  | invokevirtual a0 =>
    have e9 : len = 3 := hl.resolve_left (fun z => nomatch (show (3 : Nat) = 0 from z))
    subst e9
    have h9 : (match zlk a0 (zCT r.1) with | some (0, mj, _) => if zmF mj + 1 ≤ r.2.2.2.2.2.2.1 ∧ 8 + (zmL mj + 11) + zmW mj ≤ r.2.2.2.2.2.2.2.1 then some ((63 : Nat), [(mj : Int), ((if zmC mj = 9 then 21 else zmC mj : Nat) : Int), (zmN mj : Int), ((pc + 3 : Nat) : Int)]) else none | _ => none) = some d := hz
    split at h9
    next mj0 pl hzl =>
      split at h9
      next hv => cases h9; exact z_iV rfl hF hB hdg hzl hv.1 hv.2 hx
      next => cases h9
    next => cases h9
  | ior => exact nomatch (show (none : Option (Nat × List Int)) = some d from hz)
  | irem =>
    have e9 : len = 1 := hl.resolve_left (fun z => nomatch (show (1 : Nat) = 0 from z))
    subst e9
    have e8 : some ((15 : Nat), [((pc + 1 : Nat) : Int)]) = some d := hz
    cases e8
    exact absurd hx (zno_r (mn_rem (ls := ls) (st := st) (θ := θ) (σ := σ)))
  | ireturn =>
    have h9 : (if zrt r.2.2.2.2.1 < 4 then some ((39 : Nat), [((zrt r.2.2.2.2.1 : Nat) : Int)]) else none) = some d := hz
    split at h9
    next => cases h9; exact absurd hx (zno_e (mn_iret (ls := ls) (st := st) (θ := θ) (σ := σ)))
    next => cases h9
  | ishl => exact nomatch (show (none : Option (Nat × List Int)) = some d from hz)
  | ishr =>
    have e9 : len = 1 := hl.resolve_left (fun z => nomatch (show (1 : Nat) = 0 from z))
    subst e9
    have e8 : some ((18 : Nat), [((pc + 1 : Nat) : Int)]) = some d := hz
    cases e8
    exact absurd hx (zno_r (mn_bin (ls := ls) (st := st) (θ := θ) (σ := σ)))
  | istore a0 =>
    have e9 : len = 2 := hl.resolve_left (fun z => nomatch (show (2 : Nat) = 0 from z))
    subst e9
    have e8 : some ((7 : Nat), [(a0 : Int), ((pc + 2 : Nat) : Int)]) = some d := hz
    cases e8
    exact absurd hx (zno_r (mn_istore (ls := ls) (st := st) (θ := θ) (σ := σ)))
  | istore_n a0 =>
    have e9 : len = 1 := hl.resolve_left (fun z => nomatch (show (1 : Nat) = 0 from z))
    subst e9
    have e8 : some ((7 : Nat), [((a0.val : Nat) : Int), ((pc + 1 : Nat) : Int)]) = some d := hz
    cases e8
    exact absurd hx (zno_r (mn_istore (ls := ls) (st := st) (θ := θ) (σ := σ)))
  | isub =>
    have e9 : len = 1 := hl.resolve_left (fun z => nomatch (show (1 : Nat) = 0 from z))
    subst e9
    have e8 : some ((12 : Nat), [((pc + 1 : Nat) : Int)]) = some d := hz
    cases e8
    exact absurd hx (zno_r (mn_bin (ls := ls) (st := st) (θ := θ) (σ := σ)))
  | iushr => exact nomatch (show (none : Option (Nat × List Int)) = some d from hz)
  | ixor =>
    have e9 : len = 1 := hl.resolve_left (fun z => nomatch (show (1 : Nat) = 0 from z))
    subst e9
    have e8 : some ((17 : Nat), [((pc + 1 : Nat) : Int)]) = some d := hz
    cases e8
    exact absurd hx (zno_r (mn_bin (ls := ls) (st := st) (θ := θ) (σ := σ)))
  | jsr _ => exact nomatch (show (none : Option (Nat × List Int)) = some d from hz)
  | jsr_w _ => exact nomatch (show (none : Option (Nat × List Int)) = some d from hz)
  | l2d => exact nomatch (show (none : Option (Nat × List Int)) = some d from hz)
  | l2f => exact nomatch (show (none : Option (Nat × List Int)) = some d from hz)
  | l2i => exact nomatch (show (none : Option (Nat × List Int)) = some d from hz)
  | ladd => exact nomatch (show (none : Option (Nat × List Int)) = some d from hz)
  | laload =>
    have e9 : len = 1 := hl.resolve_left (fun z => nomatch (show (1 : Nat) = 0 from z))
    subst e9
    have e8 : some ((52 : Nat), [((pc + 1 : Nat) : Int)]) = some d := hz
    cases e8
    exact absurd hx (zno_r (mn_lald (ls := ls) (st := st) (θ := θ) (σ := σ)))
  | land => exact nomatch (show (none : Option (Nat × List Int)) = some d from hz)
  | lastore =>
    have e9 : len = 1 := hl.resolve_left (fun z => nomatch (show (1 : Nat) = 0 from z))
    subst e9
    have e8 : some ((57 : Nat), [((pc + 1 : Nat) : Int)]) = some d := hz
    cases e8
    exact absurd hx (zno_r (mn_last (ls := ls) (st := st) (θ := θ) (σ := σ)))
  | lcmp =>
    have e9 : len = 1 := hl.resolve_left (fun z => nomatch (show (1 : Nat) = 0 from z))
    subst e9
    have e8 : some ((27 : Nat), [((pc + 1 : Nat) : Int)]) = some d := hz
    cases e8
    exact absurd hx (zno_r (mn_lcmp (ls := ls) (st := st) (θ := θ) (σ := σ)))
  | lconst a0 =>
    have e9 : len = 1 := hl.resolve_left (fun z => nomatch (show (1 : Nat) = 0 from z))
    subst e9
    have e8 : some ((6 : Nat), [((a0.val : Nat) : Int), ((pc + 1 : Nat) : Int)]) = some d := hz
    cases e8
    exact absurd hx (zno_r (mn_push (ls := ls) (st := st) (θ := θ) (σ := σ)))
  | ldc a0 =>
    have e9 : len = 2 := hl.resolve_left (fun z => nomatch (show (2 : Nat) = 0 from z))
    subst e9
    have h9 : (if (r.1 = 5 ∧ a0 = 328) ∨ (r.1 = 6 ∧ a0 = 241) then some ((28 : Nat), [((pc + 2 : Nat) : Int)]) else if r.1 = 6 ∧ a0 = 13 then some (4, [49616, ((pc + 2 : Nat) : Int)]) else if r.1 = 6 ∧ a0 = 62 then some (4, [43414, ((pc + 2 : Nat) : Int)]) else match zlk a0 (zSTt r.1) with | some j => some (69, [(j : Int), ((pc + 2 : Nat) : Int)]) | none => none) = some d := hz
    split at h9
    next hv =>
      cases h9
      rcases hv with ⟨h5, rfl⟩ | ⟨h5, rfl⟩
      · exact absurd hx (zno_r (mn_push (ls := ls) (st := st) (θ := θ) (σ := σ)))
      · exact absurd hx (zno_r (mn_push (ls := ls) (st := st) (θ := θ) (σ := σ)))
    next =>
      split at h9
      next hv => cases h9; obtain ⟨h5, rfl⟩ := hv; exact absurd hx (zno_r (mn_push (ls := ls) (st := st) (θ := θ) (σ := σ)))
      next =>
        split at h9
        next hv => cases h9; obtain ⟨h5, rfl⟩ := hv; exact absurd hx (zno_r (mn_push (ls := ls) (st := st) (θ := θ) (σ := σ)))
        next =>
          split at h9
          next j hj => cases h9; exact absurd hx (zno_r (mn_push (ls := ls) (st := st) (θ := θ) (σ := σ)))
          next => cases h9
  | ldc_w a0 =>
    have e9 : len = 3 := hl.resolve_left (fun z => nomatch (show (3 : Nat) = 0 from z))
    subst e9
    have h9 : (if (r.1 = 5 ∧ a0 = 328) ∨ (r.1 = 6 ∧ a0 = 241) then some ((28 : Nat), [((pc + 3 : Nat) : Int)]) else none) = some d := hz
    split at h9
    next hv =>
      cases h9
      rcases hv with ⟨h5, rfl⟩ | ⟨h5, rfl⟩
      · exact absurd hx (zno_r (mn_push (ls := ls) (st := st) (θ := θ) (σ := σ)))
      · exact absurd hx (zno_r (mn_push (ls := ls) (st := st) (θ := θ) (σ := σ)))
    next => cases h9
  | ldc2_w a0 =>
    have e9 : len = 3 := hl.resolve_left (fun z => nomatch (show (3 : Nat) = 0 from z))
    subst e9
    have h9 : (if (r.1 = 5 ∧ a0 = 326) ∨ (r.1 = 6 ∧ a0 = 239) then some ((29 : Nat), [((pc + 3 : Nat) : Int)]) else none) = some d := hz
    split at h9
    next hv =>
      cases h9
      rcases hv with ⟨h5, rfl⟩ | ⟨h5, rfl⟩
      · exact absurd hx (zno_r (mn_push (ls := ls) (st := st) (θ := θ) (σ := σ)))
      · exact absurd hx (zno_r (mn_push (ls := ls) (st := st) (θ := θ) (σ := σ)))
    next => cases h9
  | ldiv => exact nomatch (show (none : Option (Nat × List Int)) = some d from hz)
  | lload _ => exact nomatch (show (none : Option (Nat × List Int)) = some d from hz)
  | lload_n _ => exact nomatch (show (none : Option (Nat × List Int)) = some d from hz)
  | lmul => exact nomatch (show (none : Option (Nat × List Int)) = some d from hz)
  | lneg => exact nomatch (show (none : Option (Nat × List Int)) = some d from hz)
  | lookupswitch a0 a1 =>
    have h9 : (match zgo pc a0 with | some t => if (a1.toList.zip (a1.toList.drop 1)).all (fun (a, next) => a.1 < next.1) = true ∧ zall (zlkp pc a1.toList) = true then some ((38 : Nat), t :: zlkp pc a1.toList) else none | none => none) = some d := hz
    split at h9
    next t ht =>
      split at h9
      next hv => cases h9; exact absurd hx (zno_r (mn_switch (ls := ls) (st := st) (θ := θ) (σ := σ)))
      next => cases h9
    next => cases h9
  | lor => exact nomatch (show (none : Option (Nat × List Int)) = some d from hz)
  | lrem => exact nomatch (show (none : Option (Nat × List Int)) = some d from hz)
  | lreturn => exact nomatch (show (none : Option (Nat × List Int)) = some d from hz)
  | lshl => exact nomatch (show (none : Option (Nat × List Int)) = some d from hz)
  | lshr => exact nomatch (show (none : Option (Nat × List Int)) = some d from hz)
  | lstore _ => exact nomatch (show (none : Option (Nat × List Int)) = some d from hz)
  | lstore_n _ => exact nomatch (show (none : Option (Nat × List Int)) = some d from hz)
  | lsub => exact nomatch (show (none : Option (Nat × List Int)) = some d from hz)
  | lushr => exact nomatch (show (none : Option (Nat × List Int)) = some d from hz)
  | lxor => exact nomatch (show (none : Option (Nat × List Int)) = some d from hz)
  | monitorenter => exact nomatch (show (none : Option (Nat × List Int)) = some d from hz)
  | monitorexit => exact nomatch (show (none : Option (Nat × List Int)) = some d from hz)
  | multianewarray _ _ => exact nomatch (show (none : Option (Nat × List Int)) = some d from hz)
  | new a0 =>
    have e9 : len = 3 := hl.resolve_left (fun z => nomatch (show (3 : Nat) = 0 from z))
    subst e9
    have h9 : (match zlk a0 (zNT r.1) with | some (0, ci, _) => some ((61 : Nat), [(ci : Int), ((pc + 3 : Nat) : Int)]) | some (ic, E, _) => if r.1 = 5 ∧ zthr r.2.2.1 pc ic = true ∧ 6 ≤ r.2.2.2.2.2.2.1 ∧ 90 ≤ r.2.2.2.2.2.2.2.1 then some (62, [(E : Int)]) else none | none => none) = some d := hz
    split at h9
    next ci pl hzl => cases h9; exact absurd hx (zno_r (mn_newo (ls := ls) (st := st) (θ := θ) (σ := σ)))
    next ic Ex pl hn hzl =>
      split at h9
      next hv => cases h9; exact absurd hx (zno_e (mn_throw (ls := ls) (st := st) (θ := θ) (σ := σ)))
      next => cases h9
    next => cases h9
  | newarray a0 =>
    have e9 : len = 2 := hl.resolve_left (fun z => nomatch (show (2 : Nat) = 0 from z))
    subst e9
    cases a0 with
    | int =>
      have e8 : some ((60 : Nat), [10, ((pc + 2 : Nat) : Int)]) = some d := hz
      cases e8
      exact absurd hx (zno_r (mn_newa (ls := ls) (st := st) (θ := θ) (σ := σ)))
    | boolean =>
      have e8 : some ((60 : Nat), [11, ((pc + 2 : Nat) : Int)]) = some d := hz
      cases e8
      exact absurd hx (zno_r (mn_newa (ls := ls) (st := st) (θ := θ) (σ := σ)))
    | char =>
      have e8 : some ((60 : Nat), [12, ((pc + 2 : Nat) : Int)]) = some d := hz
      cases e8
      exact absurd hx (zno_r (mn_newa (ls := ls) (st := st) (θ := θ) (σ := σ)))
    | long =>
      have e8 : some ((60 : Nat), [13, ((pc + 2 : Nat) : Int)]) = some d := hz
      cases e8
      exact absurd hx (zno_r (mn_newa (ls := ls) (st := st) (θ := θ) (σ := σ)))
    | _ => exact nomatch (show (none : Option (Nat × List Int)) = some d from hz)
  | nop => exact nomatch (show (none : Option (Nat × List Int)) = some d from hz)
  | pop =>
    have e9 : len = 1 := hl.resolve_left (fun z => nomatch (show (1 : Nat) = 0 from z))
    subst e9
    have e8 : some ((30 : Nat), [((pc + 1 : Nat) : Int)]) = some d := hz
    cases e8
    exact absurd hx (zno_r (mn_pop (ls := ls) (st := st) (θ := θ) (σ := σ)))
  | pop2 => exact nomatch (show (none : Option (Nat × List Int)) = some d from hz)
  | putfield a0 =>
    have e9 : len = 3 := hl.resolve_left (fun z => nomatch (show (3 : Nat) = 0 from z))
    subst e9
    have h9 : (match zlk a0 (zFT r.1) with | some (mode, ci, k, knd, fin, _) => if mode < 2 ∧ (fin = 0 ∨ (mode = 0 ∧ ci = r.1 ∧ r.2.1.name = "<init>")) then (if knd = 2 then some ((48 : Nat), [(ci : Int), (k : Int), ((pc + 3 : Nat) : Int)]) else if knd = 1 then some (47, [(ci : Int), (k : Int), ((pc + 3 : Nat) : Int)]) else some (46, [(ci : Int), (k : Int), ((pc + 3 : Nat) : Int)])) else none | none => none) = some d := hz
    split at h9
    next mo ci k0 knd fin pl hzl =>
      split at h9
      next hm =>
        split at h9
        next hk => cases h9; exact absurd hx (zno_r (mn_putR (ls := ls) (st := st) (θ := θ) (σ := σ)))
        next hk2 =>
          split at h9
          next hk => cases h9; exact absurd hx (zno_r (mn_putZ (ls := ls) (st := st) (θ := θ) (σ := σ)))
          next hk1 => cases h9; exact absurd hx (zno_r (mn_putI (ls := ls) (st := st) (θ := θ) (σ := σ)))
      next => cases h9
    next => cases h9
  | putstatic _ => exact nomatch (show (none : Option (Nat × List Int)) = some d from hz)
  | ret _ => exact nomatch (show (none : Option (Nat × List Int)) = some d from hz)
  | return_ =>
    have h9 : (if zrt r.2.2.2.2.1 = 4 then some ((41 : Nat), ([] : List Int)) else none) = some d := hz
    split at h9
    next => cases h9; exact absurd hx (zno_e (mn_vret (ls := ls) (st := st) (θ := θ) (σ := σ)))
    next => cases h9
  | saload => exact nomatch (show (none : Option (Nat × List Int)) = some d from hz)
  | sastore => exact nomatch (show (none : Option (Nat × List Int)) = some d from hz)
  | sipush a0 =>
    have e9 : len = 3 := hl.resolve_left (fun z => nomatch (show (3 : Nat) = 0 from z))
    subst e9
    have h9 : (if -32768 ≤ a0 ∧ a0 < 32768 then some ((4 : Nat), [a0, ((pc + 3 : Nat) : Int)]) else none) = some d := hz
    split at h9
    next hv => cases h9; exact absurd hx (zno_r (mn_push (ls := ls) (st := st) (θ := θ) (σ := σ)))
    next => cases h9
  | swap => exact nomatch (show (none : Option (Nat × List Int)) = some d from hz)
  | tableswitch a0 a1 a2 a3 =>
    have h9 : (match zgo pc a0 with | some t => if a2 = a1 + (a3.size : Int) - 1 ∧ zall (ztb pc a1 a3.toList) = true ∧ (-2147483648 ≤ a1 ∧ a2 < 2147483648) then some ((38 : Nat), t :: ztb pc a1 a3.toList) else none | none => none) = some d := hz
    split at h9
    next t ht =>
      split at h9
      next hv => cases h9; exact absurd hx (zno_r (mn_switch (ls := ls) (st := st) (θ := θ) (σ := σ)))
      next => cases h9
    next => cases h9
/-- an exception that comes out of a call: caught, or on to the caller -/
theorem zhd_s {b : ByteArray} {E0 : Nat} : ∀ (L : List (Nat × Nat × Nat × Nat)) {k npc : Nat}, zhd b pc E0 L = some (k, npc) → ∃ (L1 L2 : List (Nat × Nat × Nat × Nat)) (x : Nat × Nat × Nat × Nat), L = L1 ++ x :: L2 ∧ ((x.1 ≤ pc ∧ pc < x.2.1) ∧ zHC x.2.2.2 = some E0) ∧ ((decode b x.2.2.1 = .ok (.astore k, 2) ∧ npc = x.2.2.1 + 2) ∨ ∃ k0 : Fin 4, k0.val = k ∧ decode b x.2.2.1 = .ok (.astore_n k0, 1) ∧ npc = x.2.2.1 + 1) ∧ ∀ y ∈ L1, ¬ ((y.1 ≤ pc ∧ pc < y.2.1) ∧ zHC y.2.2.2 = some E0)
  | [], k, npc, h => by cases h
  | (a1, a2, a3, a4) :: L, k, npc, h => by
    unfold zhd at h
    split at h
    next hc =>
      refine ⟨[], L, (a1, a2, a3, a4), rfl, hc, ?_, fun y hy => nomatch hy⟩
      split at h
      next k0 hd => cases h; exact Or.inl ⟨hd, rfl⟩
      next k0 hd => cases h; exact Or.inr ⟨k0, rfl, hd, rfl⟩
      next => cases h
    next hc =>
      obtain ⟨L1, L2, x, h1, h2, h3, h4⟩ := zhd_s L h
      refine ⟨(a1, a2, a3, a4) :: L1, L2, x, by rw [h1]; rfl, h2, h3, fun y hy => ?_⟩
      rcases List.mem_cons.mp hy with rfl | hy
      · exact hc
      · exact h4 y hy
theorem zhd_n {b : ByteArray} {E0 : Nat} : ∀ (L : List (Nat × Nat × Nat × Nat)), (∀ q ∈ L, (∃ k, decode b q.2.2.1 = .ok (.astore k, 2)) ∨ ∃ k, decode b q.2.2.1 = .ok (.astore_n k, 1)) → zhd b pc E0 L = none → ∀ y ∈ L, ¬ ((y.1 ≤ pc ∧ pc < y.2.1) ∧ zHC y.2.2.2 = some E0)
  | [], _, _ => fun _ h => nomatch h
  | (a1, a2, a3, a4) :: L, hq, h => by
    unfold zhd at h
    split at h
    next hc =>
      rcases hq _ List.mem_cons_self with ⟨k, hk⟩ | ⟨k, hk⟩
      · rw [hk] at h; cases h
      · rw [hk] at h; cases h
    next hc =>
      intro y hy
      rcases List.mem_cons.mp hy with rfl | hy
      · exact hc
      · exact zhd_n L (fun q h' => hq q (List.mem_cons_of_mem _ h')) h y hy
theorem zHC_5 {t Ex : Nat} (h : zHC t = some Ex) : Ex < 5 ∧ (.classLink RL t (zEX Ex) ∈ lw_tbl ∧ .castable (zEX Ex) (zEX Ex) ∈ lw_tbl) := by
  unfold zHC at h
  split at h
  · cases h; exact ⟨by omega, zwh0⟩
  · cases h; exact ⟨by omega, zwh1⟩
  · cases h; exact ⟨by omega, zwh2⟩
  · cases h; exact ⟨by omega, zwh3⟩
  · cases h; exact ⟨by omega, zwh4⟩
  · cases h
theorem zpass {mi Ex : Nat} (hF : zFr E r p l R s m meth c) (hr : zMT mi = some r) (h7 : r.1 = 7) (hEx : Ex < 5) {y : Nat × Nat × Nat × Nat} (hy : y ∈ r.2.2.2.2.2.1) (hn : ¬ ((y.1 ≤ pc ∧ pc < y.2.1) ∧ zHC y.2.2.2 = some Ex)) : covers ⟨y.1, y.2.1, y.2.2.1, y.2.2.2⟩ pc = false ∨ (y.2.2.2 ≠ 0 ∧ ∃ nm : String, (Cond.classLink RL y.2.2.2 nm).before args s = true ∧ va_Nc (zEX Ex) nm s) := by
  obtain ⟨⟨E2, hE2⟩, h0, -⟩ := (zT_H hr).2 y hy
  by_cases hc : y.1 ≤ pc ∧ pc < y.2.1
  · have hne : Ex ≠ E2 := fun z => hn ⟨hc, by rw [hE2, z]⟩
    obtain ⟨h5, hl, -⟩ := zHC_5 hE2
    exact Or.inr ⟨h0, zEX E2, hF.w hl rfl, va_Nc.moved hF.cx.1.alike (hF.fa.2.2.2.2.2.2.2.2.2 Ex E2 hEx h5 hne)⟩
  · refine Or.inl ?_
    cases hcv : covers ⟨y.1, y.2.1, y.2.2.1, y.2.2.2⟩ pc with
    | false => rfl
    | true =>
      exfalso
      unfold covers at hcv
      simp at hcv
      exact hc hcv
theorem zcatch {mi Ex k npc0 : Nat} (hF : zFr E r p l R s m meth c) (hr : zMT mi = some r) (hEx : Ex < 5) (hh : zhd r.2.2.1 pc Ex r.2.2.2.2.2.1 = some (k, npc0)) (hk : k < ls.length ∧ ¬ (0 < k ∧ z_c2 (ls.getD (k - 1) none) = true)) (kk : zGo E B p l e R s m args below meth c Q npc0 (ls.set k none) [] θ σ) : zGoX E B p l e R s m args below meth c Q pc ls θ σ Ex := by
  intro μ H locs Ls cells slots rst ce q hc hs O hce hcv hcl
  obtain ⟨L1, L2, x, hL, hx, hd, hp⟩ := zhd_s _ hh
  have h7 : r.1 = 7 := by
    rcases (zT_H hr).1 with h | h
    · exact h
    · rw [h] at hL; cases L1 <;> cases hL
  have hown : s.vm.findClass RL = some m.cls := by have := hF.own; rw [h7] at this; exact this
  have hxm : x ∈ r.2.2.2.2.2.1 := by rw [hL]; exact List.mem_append_right _ List.mem_cons_self
  obtain ⟨-, hl, hcast⟩ := zHC_5 hx.2
  have O2 : ∀ Ls' : Array Slot, lv_has Ls' ls.length ((k, Value.ref q) :: (zll μ ls).filter (fun q => !(q.1 == k) && !(q.1 + 1 == k && q.2.category == 2))) → zOn E B s (ls.set k none) [] θ σ μ H locs Ls' := by
    intro Ls' hL'
    refine O.loc ?_ (zbl_set O.2.2.2.2.1 (fun w hw => nomatch hw)) List.length_set
    have h1 : zlr μ Ls' (ls.set k none) := by
      unfold zlr
      rw [List.length_set]
      refine ⟨hL'.1, hL'.2.1, fun q2 hq2 => ?_⟩
      obtain ⟨w, g1, g2⟩ := zll_mem.mp hq2
      by_cases hj : q2.1 = k
      · rw [hj, List.getElem?_set_self hk.1] at g1; cases g1
      · rw [List.getElem?_set_ne (fun e => hj e.symm)] at g1
        refine hL'.2.2 q2 (List.mem_cons_of_mem _ (List.mem_filter.mpr ⟨zll_mem.mpr ⟨w, g1, g2⟩, ?_⟩))
        have e1 : (q2.1 == k) = false := by simpa using hj
        rw [e1]
        by_cases hj2 : q2.1 + 1 = k
        · have hcc : (q2.2.category == 2) = false := by
            rw [g2, cv_cat]
            cases hz : (z_w w == 2)
            · rfl
            · exfalso
              refine hk.2 ⟨by omega, ?_⟩
              have : k - 1 = q2.1 := by omega
              rw [this, List.getD_eq_getElem?_getD, g1]
              exact hz
          rw [hcc]; simp
        · have e2 : (q2.1 + 1 == k) = false := by simpa using hj2
          rw [e2]; rfl
    exact h1
  have hW : W p l e R s m args below meth c H locs cells slots Q (F0 m x.2.2.1 Ls [.ref q]) := by
    rcases hd with ⟨hd, rfl⟩ | ⟨k0, hk0, hd, rfl⟩
    · exact lv_astore hF.ex hF.bc hd O.2.2.1 hk.1 rfl fun Ls' hL' => kk μ H locs Ls' cells slots hc hs (O2 Ls' hL')
    · exact lv_astore_n hF.ex hF.bc hd hk0 O.2.2.1 hk.1 rfl fun Ls' hL' => kk μ H locs Ls' cells slots hc hs (O2 Ls' hL')
  refine vx_catch (own := RL) (name := zEX Ex) hown ((tableOf L1)) ⟨x.1, x.2.1, x.2.2.1, x.2.2.2⟩ (tableOf L2) ?_ ?_ ?_ ?_ (hF.w hl rfl) (hF.w hcast rfl) hce hcv hcl hW
  · rw [hF.et, hL]; unfold tableOf; rw [List.map_append, List.map_cons]
  · intro z hz
    obtain ⟨y, hy, rfl⟩ := List.mem_map.mp hz
    exact zpass hF hr h7 hEx (by rw [hL]; exact List.mem_append_left _ hy) (hp y hy)
  · unfold covers; simpa using hx.1
  · exact ((zT_H hr).2 x hxm).2.1
theorem zleave {mi Ex : Nat} (hF : zFr E r p l R s m meth c) (hr : zMT mi = some r) (hEx : Ex < 5) (hmc : mc + B.2.2.1 = cC θ) (hms : ms + B.2.2.2.1 = cS θ) (hh : zhd r.2.2.1 pc Ex r.2.2.2.2.2.1 = none) : zGoX E B p l e R s m args below meth c (zQe E B args s below (.inr Ex) θ σ mc ms) pc ls θ σ Ex := by
  intro μ H locs Ls cells slots rst ce q hc hs O hce hcv hcl
  have hx : ∀ t : State, t.heap = H → s.vm.Alike t.vm → zXc E B.1 B.2.1 (.inr Ex) θ σ (zEX Ex) s t := fun t ht _ => ⟨Ex, μ, ⟨rfl, hEx⟩, rfl, ht.symm ▸ O.1, O.2.2.2.2.2.1.2, O.2.1.F ht⟩
  rcases (zT_H hr).1 with h7 | h0
  · have hown : s.vm.findClass RL = some m.cls := by have := hF.own; rw [h7] at this; exact this
    have hn := zhd_n _ (fun q hq => ((zT_H hr).2 q hq).2.2) hh
    refine vx_outP (own := RL) hown hF.lk (fun z hz => ?_) hce hcv hcl hx O.2.1.2.2 (by omega) (by omega)
    rw [hF.et] at hz
    obtain ⟨y, hy, rfl⟩ := List.mem_map.mp hz
    exact zpass hF hr h7 hEx hy (hn y hy)
  · exact vx_out (fun y hy => by rw [hF.et, h0] at hy; cases hy) hF.lk hce hcv hcl hx O.2.1.2.2 (by omega) (by omega)
end ZMA
/-- a frame's run by n steps of the interpreter -/
def zSA (n : Nat) : Prop := ∀ (E : zE) (B : zB) (p : Program) (l : Launch) (e : Env) (R : Room) (s : State) (m : MethodId) (args : Array Value) (below : List Frame) (meth : Method) (c : Code) (Q : State → Prop) (mi : Nat) (r : ZM) (o : ZO) (θf : ZT) (σf : ZI),
  zMT mi = some r → zFr E r p l R s m meth c → B.2.2.2.2 = r.2.2.2.1 → (cC θf ≤ B.2.2.1 + R.cells ∧ cS θf ≤ B.2.2.2.1 + R.slots) →
  (∀ (pc : Nat) (ls : ZL) (st : List ZV) (θ : ZT) (σ : ZI) (d : Nat × List Int) (ig : Instr) (len : Nat), decode r.2.2.1 pc = .ok (ig, len) → (zil ig = 0 ∨ len = zil ig) → zresI r pc ig = some d → z_sem d ls st θ σ = some (.inr (.inl (o, θf, σf))) → zGo E B p l e R s m args below meth c Q pc ls st θ σ) →
  (∀ (pc : Nat) (ls : ZL) (Ex : Nat), o = .inr Ex → Ex < 5 → zhd r.2.2.1 pc Ex r.2.2.2.2.2.1 = none → zGoX E B p l e R s m args below meth c Q pc ls θf σf Ex) →
  ∀ (pc : Nat) (ls : ZL) (st : List ZV) (θ : ZT) (σ : ZI), zrun n mi pc ls st θ σ = some (o, θf, σf) → zGo E B p l e R s m args below meth c Q pc ls st θ σ
theorem zent_len {mj : Nat} {r : ZM} {vs : List ZV} (hr : zMT mj = some r) (h : vs.length ≤ r.2.2.2.1) : (zent mj vs).length = r.2.2.2.1 := by
  unfold zent
  rw [List.length_append, List.length_map, List.length_replicate, zmL_e hr]
  omega
theorem zent_lr {mj : Nat} {r : ZM} {vs : List ZV} {μ : Nat → Nat} (hr : zMT mj = some r) (h : vs.length ≤ r.2.2.2.1) (ha : z_a1 vs = true) : zlr μ ((((vs.map (cv μ)).map Slot.val) ++ List.replicate (r.2.2.2.1 - (vs.map (cv μ)).length) Slot.unset).toArray) (zent mj vs) := by
  unfold zlr
  rw [zent_len hr h]
  have hmem : ∀ (i : Nat) (x : Slot), ((((vs.map (cv μ)).map Slot.val) ++ List.replicate (r.2.2.2.1 - (vs.map (cv μ)).length) Slot.unset).toArray)[i]? = some x → (∃ v ∈ vs, x = .val (cv μ v)) ∨ x = .unset := by
    intro i x hx
    have h1 := Array.mem_of_getElem? hx
    rw [List.mem_toArray, List.mem_append] at h1
    rcases h1 with h1 | h1
    · rw [List.map_map] at h1
      obtain ⟨v, hv, rfl⟩ := List.mem_map.mp h1
      exact Or.inl ⟨v, hv, rfl⟩
    · exact Or.inr (List.eq_of_mem_replicate h1)
  refine ⟨by simp; omega, ⟨fun i v hv h2 => ?_, fun i hi => ?_⟩, fun q hq => ?_⟩
  · rcases hmem i _ hv with ⟨w, hw, e1⟩ | e1
    · cases e1
      rw [cv_cat] at h2
      have := List.all_eq_true.mp ha w hw
      rw [h2] at this
      cases this
    · cases e1
  · rcases hmem i _ hi with ⟨w, hw, e1⟩ | e1 <;> cases e1
  · obtain ⟨v, h1, h2⟩ := zll_mem.mp hq
    unfold zent at h1
    by_cases hlt : q.1 < vs.length
    · rw [List.getElem?_append_left (by simpa using hlt), List.getElem?_map] at h1
      rw [List.getElem?_toArray, List.getElem?_append_left (by simpa using hlt), List.getElem?_map, List.getElem?_map]
      cases hv : vs[q.1]? with
      | none => rw [hv] at h1; cases h1
      | some w => rw [hv] at h1; cases h1; rw [h2]; rfl
    · rw [List.getElem?_append_right (by simpa using hlt)] at h1
      have h3 := List.mem_of_getElem? h1
      cases List.eq_of_mem_replicate h3
theorem zcon {n : Nat} (hA : zSA n) {E : zE} {l : Launch} {r : ZM} {mj : Nat} {vs : List ZV} {θ θf : ZT} {σ σf : ZI} {o : ZO} {μ : Nat → Nat} (hfa : zFa E) (hl : l.stackTraces = false) (hr : zMT mj = some r) (h262 : mj ≠ 262) (hv : vs.length ≤ r.2.2.2.1 ∧ z_a1 vs = true) (hb : zbs θ.1 vs) (h : zrun n mj 0 (zent mj vs) [] θ σ = some (o, θf, σf)) : zMet E l r μ vs θ σ o θf σf := by
  have hok := zT_M hr h262
  have hle := zrun_le2 _ _ _ _ _ _ _ _ _ _ h
  have hlc := zle_C hle
  have hls := zle_S hle
  refine MetFree.of_bodySF (code := r.2.2.1) (maxLocals := r.2.2.2.1) (ret := r.2.2.2.2.1) hok.2.1 ?_ ?_
  · intro args s m h hn
    have hw := atoms_spec (ws := [zcode r]) h _ List.mem_cons_self
    by_cases hh : r.2.2.2.2.2.1 = []
    · rw [zcode_0 hh] at hw
      obtain ⟨meth, c, h1, h2, h3, h4, h5, h6, -, -⟩ := Cond.code_spec hn hw
      exact ⟨meth, c, h1, h2, h3, h4, h5, h6⟩
    · rw [zcode_1 hh] at hw
      obtain ⟨m9, meth, c, hn9, h1, h2, h3, h4, -, h5, h6, -⟩ := Cond.codeWith_spec hw
      cases hn.symm.trans hn9
      exact ⟨meth, c, h1, h2, h3, h4, h5, h6⟩
  · intro p e s m args below meth c s₁ Bd hml hP _
    obtain ⟨rfl, hC, hRep⟩ := hP
    have hh0 : s₁.heap = s.heap := by rw [Bd.state]; rfl
    have hw := atoms_spec (ws := [zcode r]) Bd.pre _ List.mem_cons_self
    have htab : c.exceptionTable.toList = tableOf r.2.2.2.2.2.1 := by
      by_cases hh : r.2.2.2.2.2.1 = []
      · rw [zcode_0 hh] at hw
        obtain ⟨meth9, c9, h1, h2, -, -, -, -, h7, -⟩ := Cond.code_spec Bd.named hw
        cases Option.some.inj (h1.symm.trans Bd.method)
        cases Option.some.inj (h2.symm.trans (Stand.of_body Bd).code)
        rw [Array.isEmpty_iff.mp h7, hh]; rfl
      · rw [zcode_1 hh] at hw
        exact vx_table (x := r.2.1) Bd hw
    have hown : s.vm.findClass (zcn r.1) = some m.cls := by rw [← hok.1]; exact findClass_of_methodNamed Bd.named
    have hF : zFr E r p l (headSpec [zcode r] (zRm r (cC θf - cC θ) (cS θf - cS θ))).room s m meth c := ⟨hfa, hC, Bd.exec, Bd.bytes, hml, hown, Bd.notSynchronized, (name_of_methodNamed Bd.named Bd.method).1, Nat.le_refl _, Nat.le_refl _, hl, htab, Bd.returns⟩
    have hcat : ∀ v ∈ vs.map (cv μ), v.category = 1 := by
      intro v hv1
      obtain ⟨w, hw1, rfl⟩ := List.mem_map.mp hv1
      rw [cv_cat]
      have := List.all_eq_true.mp hv.2 w hw1
      simpa using this
    have K : W p l e (headSpec [zcode r] (zRm r (cC θf - cC θ) (cS θf - cS θ))).room s m (vs.map (cv μ)).toArray below meth c s.heap [] 0 0 (vx_MQ below (zQc E μ θ.1 o θf σf) (zXc E μ θ.1 o θf σf) (vs.map (cv μ)).toArray s (cC θf - cC θ) (cS θf - cS θ) (zA E.2.2.2.2)) (entryFrame m (vs.map (cv μ)).toArray r.2.2.2.1) := by
      rw [entry_eq m _ hcat]
      have hmc : (cC θf - cC θ) + cC θ = cC θf := by omega
      have hms : (cS θf - cS θ) + cS θ = cS θf := by omega
      have hRm : cC θf ≤ cC θ + (cC θf - cC θ) ∧ cS θf ≤ cS θ + (cS θf - cS θ) := by omega
      refine hA E (μ, θ.1, cC θ, cS θ, r.2.2.2.1) p l e _ s m _ below meth c _ mj r o θf σf hr hF rfl hRm ?_ ?_ 0 (zent mj vs) [] θ σ h μ s.heap [] _ 0 0 (Nat.zero_add _) (Nat.zero_add _) ?_
      · intro pc ls st θ1 σ1 d ig len hd hl hz hx
        exact zend (B := (μ, θ.1, cC θ, cS θ, r.2.2.2.1)) hF hmc hms rfl hRm (fun h5 => (zT_H hr).1.resolve_left (fun h7 => by omega)) hd hl hz hx
      · intro pc ls Ex ho hlt hn
        subst ho
        exact zleave (B := (μ, θ.1, cC θ, cS θ, r.2.2.2.1)) hF hr hlt hmc hms hn
      · refine ⟨hRep, va_S.rf, zent_lr hr hv.1 hv.2, zbs_nil, ?_, ⟨Nat.le_refl _, fun _ _ => rfl⟩, zent_len hr hv.1⟩
        intro i v hi
        unfold zent at hi
        by_cases hlt : i < vs.length
        · rw [List.getElem?_append_left (by simpa using hlt), List.getElem?_map] at hi
          cases hv2 : vs[i]? with
          | none => rw [hv2] at hi; cases hi
          | some w => rw [hv2] at hi; cases hi; exact hb _ (List.mem_of_getElem? hv2)
        · rw [List.getElem?_append_right (by simpa using hlt)] at hi
          cases List.eq_of_mem_replicate (List.mem_of_getElem? hi)
    obtain ⟨t, a1, o, b1, b2, b3⟩ := K s₁ hh0 (Stand.of_body Bd)
    exact ⟨t, o, a1, b1, b2, b3⟩
theorem zmain : ∀ n, zSA n := by
  intro n
  induction n with
  | zero => intro E B p l e R s m args below meth c Q mi r o θf σf hr hF hB hR hend hout pc ls st θ σ h; cases h
  | succ n ih =>
    intro E B p l e R s m args below meth c Q mi r o θf σf hr hF hB hR hend hout pc ls st θ σ h
    rw [zrun_succ] at h
    have go := ih E B p l e R s m args below meth c Q mi r o θf σf hr hF hB hR hend hout
    split at h
    · cases h
    next d hd =>
      obtain ⟨r2, ig, len, hr2, hdg, hl, hz⟩ := zres_i hd
      cases hr.symm.trans hr2
      split at h
      · cases h
      next pc' ls' st' θ1 σ1 hx =>
        have hle := zrun_le2 _ _ _ _ _ _ _ _ _ _ h
        exact zstep hF hB ⟨Nat.le_trans (zle_C hle) hR.1, Nat.le_trans (zle_S hle) hR.2⟩ hdg hl hz hx (go _ _ _ _ _ h)
      next q hx =>
        cases h
        exact hend _ _ _ _ _ _ _ _ hdg hl hz hx
      next mj vs rest npc hx =>
        obtain ⟨hnpc, r2, hr3, h262, hv, hI⟩ := zclc (p := p) (l := l) (e := e) (args := args) (below := below) hF hB hdg hl hz hx
        subst hnpc
        have key : ∀ (o1 : ZO) (θ1 : ZT) (σ1 : ZI), zrun n mj 0 (zent mj vs) [] θ σ = some (o1, θ1, σ1) → cC θ1 ≤ cC θf ∧ cS θ1 ≤ cS θf → (∀ v, o1 = .inl v → zGo E B p l e R s m args below meth c Q (pc + 3) ls (v.toList ++ rest) θ1 σ1) → (∀ Ex, o1 = .inr Ex → Ex < 5 → zGoX E B p l e R s m args below meth c Q pc ls θ1 σ1 Ex) → zGo E B p l e R s m args below meth c Q pc ls st θ σ := by
          intro o1 θ1 σ1 hc1 hle2 kk kx μ H locs Ls cells slots hc hs O
          have hle := zrun_le2 _ _ _ _ _ _ _ _ _ _ hc1
          obtain ⟨⟨O2, hbv⟩, hrun⟩ := hI o1 θ1 σ1 μ H locs Ls cells slots O
          have hlc := zle_C hle
          have hls := zle_S hle
          exact zcall hle.1 hc hs hlc hls O2 (hrun (zcon ih hF.fa hF.tr hr3 h262 hv hbv hc1) (by omega)) kk kx
        split at h
        · cases h
        next v θ1 σ1 hc1 =>
          have hle := zrun_le2 _ _ _ _ _ _ _ _ _ _ h
          exact key _ _ _ hc1 ⟨zle_C hle, zle_S hle⟩ (fun v' hv' => by cases hv'; exact go _ _ _ _ _ h) (fun Ex he => nomatch he)
        next Ex θ1 σ1 hc1 =>
          split at h
          next hn =>
            cases h
            refine key _ _ _ hc1 ⟨Nat.le_refl _, Nat.le_refl _⟩ (fun v' hv' => nomatch hv') (fun Ex' he hlt => ?_)
            cases he
            unfold zhnd at hn
            rw [hr] at hn
            exact hout pc ls Ex rfl hlt hn
          next k npc' hk =>
            split at h
            next hkk =>
              have hle := zrun_le2 _ _ _ _ _ _ _ _ _ _ h
              refine key _ _ _ hc1 ⟨zle_C hle, zle_S hle⟩ (fun v' hv' => nomatch hv') (fun Ex' he hlt => ?_)
              cases he
              unfold zhnd at hk
              rw [hr] at hk
              exact zcatch hF hr hlt hk hkk (go _ _ _ _ _ h)
            next => cases h

