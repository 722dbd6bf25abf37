/-! STEPS: each instruction of the interpreter is the machine's -/
section ZST
variable {E : zE} {B : zB} {p : Program} {l : Launch} {e : Env} {R : Room} {s : State} {m : MethodId} {args : Array Value} {below : List Frame} {meth : Method} {c : Code} {Q : State → Prop} {r : ZM} {pc pc' : Nat} {ls ls' : ZL} {st st' : List ZV} {θ θ' : ZT} {σ σ' : ZI}
theorem s_iload {i : Nat} (hF : zFr E r p l R s m meth c) (hdg : decode r.2.2.1 pc = .ok (.iload i, 2)) (h : o_iload i (pc + 2) ls st θ σ = some (.inl (pc', ls', st', θ', σ'))) (k : zGo E B p l e R s m args below meth c Q pc' ls' st' θ' σ') : zGo E B p l e R s m args below meth c Q pc ls st θ σ := by
  intro μ H locs Ls cells slots hc hs O
  unfold o_iload at h
  split at h
  next x hx =>
    cases h
    exact lv_iload hF.ex hF.bc hdg (O.get hx) (k μ H locs Ls cells slots hc hs (O.push trivial))
  next => cases h
theorem s_iload_n {i : Fin 4} (hF : zFr E r p l R s m meth c) (hdg : decode r.2.2.1 pc = .ok (.iload_n i, 1)) (h : o_iload i.val (pc + 1) ls st θ σ = some (.inl (pc', ls', st', θ', σ'))) (k : zGo E B p l e R s m args below meth c Q pc' ls' st' θ' σ') : zGo E B p l e R s m args below meth c Q pc ls st θ σ := by
  intro μ H locs Ls cells slots hc hs O
  unfold o_iload at h
  split at h
  next x hx =>
    cases h
    exact lv_iload_n hF.ex hF.bc hdg rfl (O.get hx) (k μ H locs Ls cells slots hc hs (O.push trivial))
  next => cases h
theorem s_aload {i : Nat} (hF : zFr E r p l R s m meth c) (hdg : decode r.2.2.1 pc = .ok (.aload i, 2)) (h : o_aload i (pc + 2) ls st θ σ = some (.inl (pc', ls', st', θ', σ'))) (k : zGo E B p l e R s m args below meth c Q pc' ls' st' θ' σ') : zGo E B p l e R s m args below meth c Q pc ls st θ σ := by
  intro μ H locs Ls cells slots hc hs O
  unfold o_aload at h
  split at h
  next x hx =>
    cases h
    have hg := O.get hx
    have kk := k μ H locs Ls cells slots hc hs (O.push (O.gb hx))
    cases x with
    | none => exact lv_aloadN hF.ex hF.bc hdg hg kk
    | some a => exact lv_aload hF.ex hF.bc hdg hg kk
  next => cases h
theorem s_aload_n {i : Fin 4} (hF : zFr E r p l R s m meth c) (hdg : decode r.2.2.1 pc = .ok (.aload_n i, 1)) (h : o_aload i.val (pc + 1) ls st θ σ = some (.inl (pc', ls', st', θ', σ'))) (k : zGo E B p l e R s m args below meth c Q pc' ls' st' θ' σ') : zGo E B p l e R s m args below meth c Q pc ls st θ σ := by
  intro μ H locs Ls cells slots hc hs O
  unfold o_aload at h
  split at h
  next x hx =>
    cases h
    have hg := O.get hx
    have kk := k μ H locs Ls cells slots hc hs (O.push (O.gb hx))
    cases x with
    | none => exact lv_aload_nN hF.ex hF.bc hdg rfl hg kk
    | some a => exact lv_aload_n hF.ex hF.bc hdg rfl hg kk
  next => cases h
theorem s_dload {i : Nat} (hF : zFr E r p l R s m meth c) (hdg : decode r.2.2.1 pc = .ok (.dload i, 2)) (h : o_dload i (pc + 2) ls st θ σ = some (.inl (pc', ls', st', θ', σ'))) (k : zGo E B p l e R s m args below meth c Q pc' ls' st' θ' σ') : zGo E B p l e R s m args below meth c Q pc ls st θ σ := by
  intro μ H locs Ls cells slots hc hs O
  unfold o_dload at h
  split at h
  next x hx =>
    cases h
    exact lv_dload hF.ex hF.bc hdg (O.get hx) (k μ H locs Ls cells slots hc hs (O.push trivial))
  next => cases h
theorem s_iconst {v : Int} (hF : zFr E r p l R s m meth c) (hdg : decode r.2.2.1 pc = .ok (.iconst v, 1)) (h : o_push (.inl v) (pc + 1) ls st θ σ = some (.inl (pc', ls', st', θ', σ'))) (k : zGo E B p l e R s m args below meth c Q pc' ls' st' θ' σ') : zGo E B p l e R s m args below meth c Q pc ls st θ σ := by
  intro μ H locs Ls cells slots hc hs O
  unfold o_push at h
  cases h
  exact lv_iconst hF.ex hF.bc hdg rfl (k μ H locs Ls cells slots hc hs (O.push trivial))
theorem s_bipush {v : Int} (hF : zFr E r p l R s m meth c) (hdg : decode r.2.2.1 pc = .ok (.bipush v, 2)) (hv : -128 ≤ v ∧ v < 128) (h : o_push (.inl v) (pc + 2) ls st θ σ = some (.inl (pc', ls', st', θ', σ'))) (k : zGo E B p l e R s m args below meth c Q pc' ls' st' θ' σ') : zGo E B p l e R s m args below meth c Q pc ls st θ σ := by
  intro μ H locs Ls cells slots hc hs O
  unfold o_push at h
  cases h
  refine lv_bipush hF.ex hF.bc hdg (v := Int32.ofInt v) ?_ (k μ H locs Ls cells slots hc hs (O.push trivial))
  exact Int32.toInt_inj.mp (by rw [Int8.toInt_toInt32, Int8.toInt_ofInt_of_le (by omega) (by omega), n32_t ⟨by omega, by omega⟩])
theorem s_sipush {v : Int} (hF : zFr E r p l R s m meth c) (hdg : decode r.2.2.1 pc = .ok (.sipush v, 3)) (hv : -32768 ≤ v ∧ v < 32768) (h : o_push (.inl v) (pc + 3) ls st θ σ = some (.inl (pc', ls', st', θ', σ'))) (k : zGo E B p l e R s m args below meth c Q pc' ls' st' θ' σ') : zGo E B p l e R s m args below meth c Q pc ls st θ σ := by
  intro μ H locs Ls cells slots hc hs O
  unfold o_push at h
  cases h
  refine lv_sipush hF.ex hF.bc hdg (v := Int32.ofInt v) ?_ (k μ H locs Ls cells slots hc hs (O.push trivial))
  exact Int32.toInt_inj.mp (by rw [Int16.toInt_toInt32, Int16.toInt_ofInt_of_le (by omega) (by omega), n32_t ⟨by omega, by omega⟩])
theorem s_null  (hF : zFr E r p l R s m meth c) (hdg : decode r.2.2.1 pc = .ok (.aconst_null, 1)) (h : o_push (.inr (.inl none)) (pc + 1) ls st θ σ = some (.inl (pc', ls', st', θ', σ'))) (k : zGo E B p l e R s m args below meth c Q pc' ls' st' θ' σ') : zGo E B p l e R s m args below meth c Q pc ls st θ σ := by
  intro μ H locs Ls cells slots hc hs O
  unfold o_push at h
  cases h
  exact lv_null hF.ex hF.bc hdg (k μ H locs Ls cells slots hc hs (O.push trivial))
theorem s_lconst {v : Fin 2} (hF : zFr E r p l R s m meth c) (hdg : decode r.2.2.1 pc = .ok (.lconst v, 1)) (h : o_push (.inr (.inr (.inl (v.val : Nat)))) (pc + 1) ls st θ σ = some (.inl (pc', ls', st', θ', σ'))) (k : zGo E B p l e R s m args below meth c Q pc' ls' st' θ' σ') : zGo E B p l e R s m args below meth c Q pc ls st θ σ := by
  intro μ H locs Ls cells slots hc hs O
  unfold o_push at h
  cases h
  exact lv_lconst hF.ex hF.bc hdg (Int64.ofInt_eq_ofNat.symm) (k μ H locs Ls cells slots hc hs (O.push trivial))
theorem s_istore {i : Nat} (hF : zFr E r p l R s m meth c) (hdg : decode r.2.2.1 pc = .ok (.istore i, 2)) (h : o_istore i (pc + 2) ls st θ σ = some (.inl (pc', ls', st', θ', σ'))) (k : zGo E B p l e R s m args below meth c Q pc' ls' st' θ' σ') : zGo E B p l e R s m args below meth c Q pc ls st θ σ := by
  intro μ H locs Ls cells slots hc hs O
  unfold o_istore at h
  split at h
  next x rest =>
    split at h
    next hk =>
      split at h
      next => cases h
      next hp =>
        cases h
        refine lv_istore hF.ex hF.bc hdg O.2.2.1 hk rfl fun Ls' hL => ?_
        exact k μ H locs Ls' cells slots hc hs (O.pop.loc (zlr_set (v := .inl x) hk hp hL) (zbl_set O.2.2.2.2.1 (fun w hw => by cases hw; trivial)) List.length_set)
    next => cases h
  next => cases h
theorem s_istore_n {i : Fin 4} (hF : zFr E r p l R s m meth c) (hdg : decode r.2.2.1 pc = .ok (.istore_n i, 1)) (h : o_istore i.val (pc + 1) ls st θ σ = some (.inl (pc', ls', st', θ', σ'))) (k : zGo E B p l e R s m args below meth c Q pc' ls' st' θ' σ') : zGo E B p l e R s m args below meth c Q pc ls st θ σ := by
  intro μ H locs Ls cells slots hc hs O
  unfold o_istore at h
  split at h
  next x rest =>
    split at h
    next hk =>
      split at h
      next => cases h
      next hp =>
        cases h
        refine lv_istore_n hF.ex hF.bc hdg rfl O.2.2.1 hk rfl fun Ls' hL => ?_
        exact k μ H locs Ls' cells slots hc hs (O.pop.loc (zlr_set (v := .inl x) hk hp hL) (zbl_set O.2.2.2.2.1 (fun w hw => by cases hw; trivial)) List.length_set)
    next => cases h
  next => cases h
theorem s_astore {i : Nat} (hF : zFr E r p l R s m meth c) (hdg : decode r.2.2.1 pc = .ok (.astore i, 2)) (h : o_astore i (pc + 2) ls st θ σ = some (.inl (pc', ls', st', θ', σ'))) (k : zGo E B p l e R s m args below meth c Q pc' ls' st' θ' σ') : zGo E B p l e R s m args below meth c Q pc ls st θ σ := by
  intro μ H locs Ls cells slots hc hs O
  unfold o_astore at h
  split at h
  next x rest =>
    split at h
    next hk =>
      split at h
      next => cases h
      next hp =>
        cases h
        have hb := O.hd
        cases x with
        | none =>
          refine lv_astoreN hF.ex hF.bc hdg O.2.2.1 hk rfl fun Ls' hL => ?_
          exact k μ H locs Ls' cells slots hc hs (O.pop.loc (zlr_set (v := .inr (.inl none)) hk hp hL) (zbl_set O.2.2.2.2.1 (fun w hw => by cases hw; trivial)) List.length_set)
        | some a =>
          refine lv_astore hF.ex hF.bc hdg O.2.2.1 hk rfl fun Ls' hL => ?_
          exact k μ H locs Ls' cells slots hc hs (O.pop.loc (zlr_set (v := .inr (.inl (some a))) hk hp hL) (zbl_set O.2.2.2.2.1 (fun w hw => by cases hw; exact hb)) List.length_set)
    next => cases h
  next => cases h
theorem s_astore_n {i : Fin 4} (hF : zFr E r p l R s m meth c) (hdg : decode r.2.2.1 pc = .ok (.astore_n i, 1)) (h : o_astore i.val (pc + 1) ls st θ σ = some (.inl (pc', ls', st', θ', σ'))) (k : zGo E B p l e R s m args below meth c Q pc' ls' st' θ' σ') : zGo E B p l e R s m args below meth c Q pc ls st θ σ := by
  intro μ H locs Ls cells slots hc hs O
  unfold o_astore at h
  split at h
  next x rest =>
    split at h
    next hk =>
      split at h
      next => cases h
      next hp =>
        cases h
        have hb := O.hd
        cases x with
        | none =>
          refine lv_astore_nN hF.ex hF.bc hdg rfl O.2.2.1 hk rfl fun Ls' hL => ?_
          exact k μ H locs Ls' cells slots hc hs (O.pop.loc (zlr_set (v := .inr (.inl none)) hk hp hL) (zbl_set O.2.2.2.2.1 (fun w hw => by cases hw; trivial)) List.length_set)
        | some a =>
          refine lv_astore_n hF.ex hF.bc hdg rfl O.2.2.1 hk rfl fun Ls' hL => ?_
          exact k μ H locs Ls' cells slots hc hs (O.pop.loc (zlr_set (v := .inr (.inl (some a))) hk hp hL) (zbl_set O.2.2.2.2.1 (fun w hw => by cases hw; exact hb)) List.length_set)
    next => cases h
  next => cases h
theorem s_dstore {i : Nat} (hF : zFr E r p l R s m meth c) (hdg : decode r.2.2.1 pc = .ok (.dstore i, 2)) (h : o_dstore i (pc + 2) ls st θ σ = some (.inl (pc', ls', st', θ', σ'))) (k : zGo E B p l e R s m args below meth c Q pc' ls' st' θ' σ') : zGo E B p l e R s m args below meth c Q pc ls st θ σ := by
  intro μ H locs Ls cells slots hc hs O
  unfold o_dstore at h
  split at h
  next x rest =>
    split at h
    next hk =>
      split at h
      next => cases h
      next hp =>
        cases h
        refine lv_dstore hF.ex hF.bc hdg O.2.2.1 hk rfl fun Ls' hL => ?_
        exact k μ H locs Ls' cells slots hc hs (O.pop.loc (zlr_set2 (v := .inr (.inr (.inr (.inr x)))) hk hp hL) (zbl_set (zbl_set O.2.2.2.2.1 (fun w hw => by cases hw; trivial)) (fun w hw => by cases hw)) (List.length_set.trans List.length_set))
    next => cases h
  next => cases h
theorem s_iinc {i : Nat} {d : Int} (hF : zFr E r p l R s m meth c) (hdg : decode r.2.2.1 pc = .ok (.iinc i d, 3)) (h : o_iinc i d (pc + 3) ls st θ σ = some (.inl (pc', ls', st', θ', σ'))) (k : zGo E B p l e R s m args below meth c Q pc' ls' st' θ' σ') : zGo E B p l e R s m args below meth c Q pc ls st θ σ := by
  intro μ H locs Ls cells slots hc hs O
  unfold o_iinc at h
  split at h
  next x hx =>
    cases h
    obtain ⟨j, hj⟩ := zlr_idx (μ := μ) hx
    have hk : i < ls.length := (List.getElem?_eq_some_iff.mp (zgetD hx)).1
    refine lv_iinc hF.ex hF.bc hdg O.2.2.1 hj (v := Int32.ofInt (x + d)) (Int32.ofInt_add x d).symm hk rfl fun Ls' hL => ?_
    refine k μ H locs Ls' cells slots hc hs (O.loc (zlr_set (v := .inl (x + d)) hk ?_ hL) (zbl_set O.2.2.2.2.1 (fun w hw => by cases hw; trivial)) List.length_set)
    rintro ⟨h0, hp⟩
    have hpv : ∃ w, ls.getD (i - 1) none = some w ∧ z_w w = 2 := by
      cases hw : ls.getD (i - 1) none with
      | none => rw [hw] at hp; cases hp
      | some w => rw [hw] at hp; exact ⟨w, rfl, by simpa [z_c2] using hp⟩
    obtain ⟨w, hw1, hw2⟩ := hpv
    have g1 := O.get hw1
    have g2 := O.2.2.1.2.1.1 (i - 1) (cv μ w) g1 (by rw [cv_cat]; exact hw2)
    rw [show i - 1 + 1 = i by omega, O.get hx] at g2
    cases g2
  next => cases h
theorem s_iadd  (hF : zFr E r p l R s m meth c) (hdg : decode r.2.2.1 pc = .ok (.iadd, 1)) (h : o_bin (fun x y => x + y) (pc + 1) ls st θ σ = some (.inl (pc', ls', st', θ', σ'))) (k : zGo E B p l e R s m args below meth c Q pc' ls' st' θ' σ') : zGo E B p l e R s m args below meth c Q pc ls st θ σ := by
  intro μ H locs Ls cells slots hc hs O
  unfold o_bin at h
  split at h
  next y x rest =>
    cases h
    have kk := k μ H locs Ls cells slots hc hs (O.pop.pop.push (v := .inl _) trivial)
    refine lv_iadd hF.ex hF.bc hdg ?_
    rw [← Int32.ofInt_add]
    exact kk
  next => cases h
theorem s_isub  (hF : zFr E r p l R s m meth c) (hdg : decode r.2.2.1 pc = .ok (.isub, 1)) (h : o_bin (fun x y => x - y) (pc + 1) ls st θ σ = some (.inl (pc', ls', st', θ', σ'))) (k : zGo E B p l e R s m args below meth c Q pc' ls' st' θ' σ') : zGo E B p l e R s m args below meth c Q pc ls st θ σ := by
  intro μ H locs Ls cells slots hc hs O
  unfold o_bin at h
  split at h
  next y x rest =>
    cases h
    have kk := k μ H locs Ls cells slots hc hs (O.pop.pop.push (v := .inl _) trivial)
    refine lv_isub hF.ex hF.bc hdg ?_
    rw [← Int32.ofInt_sub]
    exact kk
  next => cases h
theorem s_imul  (hF : zFr E r p l R s m meth c) (hdg : decode r.2.2.1 pc = .ok (.imul, 1)) (h : o_bin (fun x y => x * y) (pc + 1) ls st θ σ = some (.inl (pc', ls', st', θ', σ'))) (k : zGo E B p l e R s m args below meth c Q pc' ls' st' θ' σ') : zGo E B p l e R s m args below meth c Q pc ls st θ σ := by
  intro μ H locs Ls cells slots hc hs O
  unfold o_bin at h
  split at h
  next y x rest =>
    cases h
    have kk := k μ H locs Ls cells slots hc hs (O.pop.pop.push (v := .inl _) trivial)
    refine lv_imul hF.ex hF.bc hdg ?_
    rw [← Int32.ofInt_mul]
    exact kk
  next => cases h
theorem s_iand  (hF : zFr E r p l R s m meth c) (hdg : decode r.2.2.1 pc = .ok (.iand, 1)) (h : o_bin z_and (pc + 1) ls st θ σ = some (.inl (pc', ls', st', θ', σ'))) (k : zGo E B p l e R s m args below meth c Q pc' ls' st' θ' σ') : zGo E B p l e R s m args below meth c Q pc ls st θ σ := by
  intro μ H locs Ls cells slots hc hs O
  unfold o_bin at h
  split at h
  next y x rest =>
    cases h
    have kk := k μ H locs Ls cells slots hc hs (O.pop.pop.push (v := .inl _) trivial)
    refine lv_iand hF.ex hF.bc hdg ?_
    have e1 : cv μ (.inl (z_and x y)) = .int (Int32.ofInt (z_and x y)) := rfl
    unfold z_and at e1
    rw [Int32.ofInt_toInt] at e1
    rw [← e1]
    exact kk
  next => cases h
theorem s_ixor  (hF : zFr E r p l R s m meth c) (hdg : decode r.2.2.1 pc = .ok (.ixor, 1)) (h : o_bin z_xor (pc + 1) ls st θ σ = some (.inl (pc', ls', st', θ', σ'))) (k : zGo E B p l e R s m args below meth c Q pc' ls' st' θ' σ') : zGo E B p l e R s m args below meth c Q pc ls st θ σ := by
  intro μ H locs Ls cells slots hc hs O
  unfold o_bin at h
  split at h
  next y x rest =>
    cases h
    have kk := k μ H locs Ls cells slots hc hs (O.pop.pop.push (v := .inl _) trivial)
    refine lv_ixor hF.ex hF.bc hdg ?_
    have e1 : cv μ (.inl (z_xor x y)) = .int (Int32.ofInt (z_xor x y)) := rfl
    unfold z_xor at e1
    rw [Int32.ofInt_toInt] at e1
    rw [← e1]
    exact kk
  next => cases h
theorem s_ishr  (hF : zFr E r p l R s m meth c) (hdg : decode r.2.2.1 pc = .ok (.ishr, 1)) (h : o_bin z_shr (pc + 1) ls st θ σ = some (.inl (pc', ls', st', θ', σ'))) (k : zGo E B p l e R s m args below meth c Q pc' ls' st' θ' σ') : zGo E B p l e R s m args below meth c Q pc ls st θ σ := by
  intro μ H locs Ls cells slots hc hs O
  unfold o_bin at h
  split at h
  next y x rest =>
    cases h
    have kk := k μ H locs Ls cells slots hc hs (O.pop.pop.push (v := .inl _) trivial)
    refine lv_ishr hF.ex hF.bc hdg ?_
    have e1 : cv μ (.inl (z_shr x y)) = .int (Int32.ofInt (z_shr x y)) := rfl
    unfold z_shr at e1
    rw [Int32.ofInt_toInt] at e1
    rw [← e1]
    exact kk
  next => cases h
theorem s_idiv  (hF : zFr E r p l R s m meth c) (hdg : decode r.2.2.1 pc = .ok (.idiv, 1)) (h : o_div (pc + 1) ls st θ σ = some (.inl (pc', ls', st', θ', σ'))) (k : zGo E B p l e R s m args below meth c Q pc' ls' st' θ' σ') : zGo E B p l e R s m args below meth c Q pc ls st θ σ := by
  intro μ H locs Ls cells slots hc hs O
  unfold o_div at h
  split at h
  next y x rest =>
    split at h
    next hh =>
      cases h
      have kk := k μ H locs Ls cells slots hc hs (O.pop.pop.push (v := .inl _) trivial)
      refine lv_idiv hF.ex hF.bc hdg (fun z => hh.2.1 ((n32_eq hh.1.2 n32_in0).mp z)) ?_
      rw [← n32_div hh.1.1 hh.1.2]
      exact kk
    next => cases h
  next => cases h
theorem s_irem  (hF : zFr E r p l R s m meth c) (hdg : decode r.2.2.1 pc = .ok (.irem, 1)) (h : o_rem (pc + 1) ls st θ σ = some (.inl (pc', ls', st', θ', σ'))) (k : zGo E B p l e R s m args below meth c Q pc' ls' st' θ' σ') : zGo E B p l e R s m args below meth c Q pc ls st θ σ := by
  intro μ H locs Ls cells slots hc hs O
  unfold o_rem at h
  split at h
  next y x rest =>
    split at h
    next hh =>
      cases h
      have kk := k μ H locs Ls cells slots hc hs (O.pop.pop.push (v := .inl _) trivial)
      refine lv_irem hF.ex hF.bc hdg (fun z => hh.2.1 ((n32_eq hh.1.2 n32_in0).mp z)) ?_
      rw [← n32_mod hh.1.1 hh.1.2]
      exact kk
    next => cases h
  next => cases h
theorem s_i2l  (hF : zFr E r p l R s m meth c) (hdg : decode r.2.2.1 pc = .ok (.i2l, 1)) (h : o_i2l (pc + 1) ls st θ σ = some (.inl (pc', ls', st', θ', σ'))) (k : zGo E B p l e R s m args below meth c Q pc' ls' st' θ' σ') : zGo E B p l e R s m args below meth c Q pc ls st θ σ := by
  intro μ H locs Ls cells slots hc hs O
  unfold o_i2l at h
  split at h
  next x rest =>
    split at h
    next hh =>
      cases h
      exact lv_i2l hF.ex hF.bc hdg (v := Int64.ofInt x) (Int32.toInt64_ofInt (by rw [n32_min]; exact hh.1) (by rw [n32_max]; have := hh.2; omega)) (k μ H locs Ls cells slots hc hs (O.pop.push (v := .inr (.inr (.inl x))) trivial))
    next => cases h
  next => cases h
theorem s_i2c  (hF : zFr E r p l R s m meth c) (hdg : decode r.2.2.1 pc = .ok (.i2c, 1)) (h : o_i2c (pc + 1) ls st θ σ = some (.inl (pc', ls', st', θ', σ'))) (k : zGo E B p l e R s m args below meth c Q pc' ls' st' θ' σ') : zGo E B p l e R s m args below meth c Q pc ls st θ σ := by
  intro μ H locs Ls cells slots hc hs O
  unfold o_i2c at h
  split at h
  next x rest =>
    cases h
    exact lv_i2c hF.ex hF.bc hdg (n32_char x) (k μ H locs Ls cells slots hc hs (O.pop.push (v := .inl (x % 65536)) trivial))
  next => cases h
theorem s_i2f  (hF : zFr E r p l R s m meth c) (hdg : decode r.2.2.1 pc = .ok (.i2f, 1)) (h : o_i2f (pc + 1) ls st θ σ = some (.inl (pc', ls', st', θ', σ'))) (k : zGo E B p l e R s m args below meth c Q pc' ls' st' θ' σ') : zGo E B p l e R s m args below meth c Q pc ls st θ σ := by
  intro μ H locs Ls cells slots hc hs O
  unfold o_i2f at h
  split at h
  next x rest =>
    cases h
    exact lv_i2f hF.ex hF.bc hdg (k μ H locs Ls cells slots hc hs (O.pop.push (v := .inr (.inr (.inr (.inl _)))) trivial))
  next => cases h
theorem s_i2d  (hF : zFr E r p l R s m meth c) (hdg : decode r.2.2.1 pc = .ok (.i2d, 1)) (h : o_i2d (pc + 1) ls st θ σ = some (.inl (pc', ls', st', θ', σ'))) (k : zGo E B p l e R s m args below meth c Q pc' ls' st' θ' σ') : zGo E B p l e R s m args below meth c Q pc ls st θ σ := by
  intro μ H locs Ls cells slots hc hs O
  unfold o_i2d at h
  split at h
  next x rest =>
    cases h
    exact lv_i2d hF.ex hF.bc hdg (k μ H locs Ls cells slots hc hs (O.pop.push (v := .inr (.inr (.inr (.inr _)))) trivial))
  next => cases h
theorem s_f2d  (hF : zFr E r p l R s m meth c) (hdg : decode r.2.2.1 pc = .ok (.f2d, 1)) (h : o_f2d (pc + 1) ls st θ σ = some (.inl (pc', ls', st', θ', σ'))) (k : zGo E B p l e R s m args below meth c Q pc' ls' st' θ' σ') : zGo E B p l e R s m args below meth c Q pc ls st θ σ := by
  intro μ H locs Ls cells slots hc hs O
  unfold o_f2d at h
  split at h
  next x rest =>
    split at h
    next hh =>
      cases h
      exact lv_f2d hF.ex hF.bc hdg hh (k μ H locs Ls cells slots hc hs (O.pop.push (v := .inr (.inr (.inr (.inr _)))) trivial))
    next => cases h
  next => cases h
theorem s_fdiv  (hF : zFr E r p l R s m meth c) (hdg : decode r.2.2.1 pc = .ok (.fdiv, 1)) (h : o_fdiv (pc + 1) ls st θ σ = some (.inl (pc', ls', st', θ', σ'))) (k : zGo E B p l e R s m args below meth c Q pc' ls' st' θ' σ') : zGo E B p l e R s m args below meth c Q pc ls st θ σ := by
  intro μ H locs Ls cells slots hc hs O
  unfold o_fdiv at h
  split at h
  next y x rest =>
    split at h
    next hh =>
      cases h
      exact lv_fdiv hF.ex hF.bc hdg hh (k μ H locs Ls cells slots hc hs (O.pop.pop.push (v := .inr (.inr (.inr (.inl _)))) trivial))
    next => cases h
  next => cases h
theorem s_ddiv  (hF : zFr E r p l R s m meth c) (hdg : decode r.2.2.1 pc = .ok (.ddiv, 1)) (h : o_ddiv (pc + 1) ls st θ σ = some (.inl (pc', ls', st', θ', σ'))) (k : zGo E B p l e R s m args below meth c Q pc' ls' st' θ' σ') : zGo E B p l e R s m args below meth c Q pc ls st θ σ := by
  intro μ H locs Ls cells slots hc hs O
  unfold o_ddiv at h
  split at h
  next y x rest =>
    split at h
    next hh =>
      cases h
      exact lv_ddiv hF.ex hF.bc hdg hh (k μ H locs Ls cells slots hc hs (O.pop.pop.push (v := .inr (.inr (.inr (.inr _)))) trivial))
    next => cases h
  next => cases h
theorem s_dcmp  (hF : zFr E r p l R s m meth c) (hdg : decode r.2.2.1 pc = .ok (.dcmp .l, 1)) (h : o_dcmp (pc + 1) ls st θ σ = some (.inl (pc', ls', st', θ', σ'))) (k : zGo E B p l e R s m args below meth c Q pc' ls' st' θ' σ') : zGo E B p l e R s m args below meth c Q pc ls st θ σ := by
  intro μ H locs Ls cells slots hc hs O
  unfold o_dcmp at h
  split at h
  next y x rest =>
    cases h
    have kk := k μ H locs Ls cells slots hc hs (O.pop.pop.push (v := .inl _) trivial)
    have e1 : cv μ (.inl (Op.cmpValue (FP.dcmp x y) .l).toInt) = .int (Int32.ofInt (Op.cmpValue (FP.dcmp x y) .l).toInt) := rfl
    rw [Int32.ofInt_toInt] at e1
    refine lv_dcmp hF.ex hF.bc hdg ?_
    rw [← e1]
    exact kk
  next => cases h
theorem n64_t {x : Int} (h : zinR x) : (Int64.ofInt x).toInt = x := Int64.toInt_ofInt_of_le (by have := h.1; omega) (by have := h.2; omega)
theorem n64_cmp {x y : Int} (hx : zinR x) (hy : zinR y) : lg_cmp (Int64.ofInt x) (Int64.ofInt y) = Int32.ofInt (if x < y then -1 else if x = y then 0 else 1) := by
  unfold lg_cmp
  have e1 : Int64.ofInt y < Int64.ofInt x ↔ y < x := by rw [Int64.lt_iff_toInt_lt, n64_t hx, n64_t hy]
  have e2 : Int64.ofInt x = Int64.ofInt y ↔ x = y := by rw [← Int64.toInt_inj, n64_t hx, n64_t hy]
  by_cases a : y < x
  · rw [if_pos (e1.mpr a), if_neg (by omega), if_neg (by omega)]; rfl
  · rw [if_neg (fun z => a (e1.mp z))]
    by_cases b : x = y
    · rw [if_pos (e2.mpr b), if_neg (by omega), if_pos b]; rfl
    · rw [if_neg (fun z => b (e2.mp z)), if_pos (by omega)]; rfl
theorem s_lcmp  (hF : zFr E r p l R s m meth c) (hdg : decode r.2.2.1 pc = .ok (.lcmp, 1)) (h : o_lcmp (pc + 1) ls st θ σ = some (.inl (pc', ls', st', θ', σ'))) (k : zGo E B p l e R s m args below meth c Q pc' ls' st' θ' σ') : zGo E B p l e R s m args below meth c Q pc ls st θ σ := by
  intro μ H locs Ls cells slots hc hs O
  unfold o_lcmp at h
  split at h
  next y x rest =>
    split at h
    next hh =>
      cases h
      have kk := k μ H locs Ls cells slots hc hs (O.pop.pop.push (v := .inl _) trivial)
      refine W.lcmp hF.ex hF.bc hdg ?_
      rw [n64_cmp hh.1 hh.2]
      exact kk
    next => cases h
  next => cases h
theorem s_ldcf5  (hF : zFr E r p l R s m meth c) (hdg : decode r.2.2.1 pc = .ok (.ldc 328, 2)) (hr : r.1 = 5) (h : o_push (.inr (.inr (.inr (.inl 1117913088)))) (pc + 2) ls st θ σ = some (.inl (pc', ls', st', θ', σ'))) (k : zGo E B p l e R s m args below meth c Q pc' ls' st' θ' σ') : zGo E B p l e R s m args below meth c Q pc ls st θ σ := by
  intro μ H locs Ls cells slots hc hs O
  unfold o_push at h
  cases h
  exact lv_ldcf hF.ex hF.bc (own := RX5) (by have := hF.own; rw [hr] at this; exact this) (hF.w zw_f5 rfl) hdg (k μ H locs Ls cells slots hc hs (O.push trivial))
theorem s_ldcf6  (hF : zFr E r p l R s m meth c) (hdg : decode r.2.2.1 pc = .ok (.ldc 241, 2)) (hr : r.1 = 6) (h : o_push (.inr (.inr (.inr (.inl 1117913088)))) (pc + 2) ls st θ σ = some (.inl (pc', ls', st', θ', σ'))) (k : zGo E B p l e R s m args below meth c Q pc' ls' st' θ' σ') : zGo E B p l e R s m args below meth c Q pc ls st θ σ := by
  intro μ H locs Ls cells slots hc hs O
  unfold o_push at h
  cases h
  exact lv_ldcf hF.ex hF.bc (own := RX6) (by have := hF.own; rw [hr] at this; exact this) (hF.w zw_f6 rfl) hdg (k μ H locs Ls cells slots hc hs (O.push trivial))
theorem s_ldcd5  (hF : zFr E r p l R s m meth c) (hdg : decode r.2.2.1 pc = .ok (.ldc2_w 326, 3)) (hr : r.1 = 5) (h : o_push (.inr (.inr (.inr (.inr 4635400285215260672)))) (pc + 3) ls st θ σ = some (.inl (pc', ls', st', θ', σ'))) (k : zGo E B p l e R s m args below meth c Q pc' ls' st' θ' σ') : zGo E B p l e R s m args below meth c Q pc ls st θ σ := by
  intro μ H locs Ls cells slots hc hs O
  unfold o_push at h
  cases h
  exact lv_ldc2d hF.ex hF.bc (own := RX5) (by have := hF.own; rw [hr] at this; exact this) (hF.w zw_d5 rfl) hdg (k μ H locs Ls cells slots hc hs (O.push trivial))
theorem s_ldcd6  (hF : zFr E r p l R s m meth c) (hdg : decode r.2.2.1 pc = .ok (.ldc2_w 239, 3)) (hr : r.1 = 6) (h : o_push (.inr (.inr (.inr (.inr 4635400285215260672)))) (pc + 3) ls st θ σ = some (.inl (pc', ls', st', θ', σ'))) (k : zGo E B p l e R s m args below meth c Q pc' ls' st' θ' σ') : zGo E B p l e R s m args below meth c Q pc ls st θ σ := by
  intro μ H locs Ls cells slots hc hs O
  unfold o_push at h
  cases h
  exact lv_ldc2d hF.ex hF.bc (own := RX6) (by have := hF.own; rw [hr] at this; exact this) (hF.w zw_d6 rfl) hdg (k μ H locs Ls cells slots hc hs (O.push trivial))
theorem s_ldc13  (hF : zFr E r p l R s m meth c) (hdg : decode r.2.2.1 pc = .ok (.ldc 13, 2)) (hr : r.1 = 6) (h : o_push (.inl 49616) (pc + 2) ls st θ σ = some (.inl (pc', ls', st', θ', σ'))) (k : zGo E B p l e R s m args below meth c Q pc' ls' st' θ' σ') : zGo E B p l e R s m args below meth c Q pc ls st θ σ := by
  intro μ H locs Ls cells slots hc hs O
  unfold o_push at h
  cases h
  exact lv_ldc hF.ex hF.bc (own := RX6) (v := 49616) (by have := hF.own; rw [hr] at this; exact this) (hF.w zw_c13 rfl) hdg (k μ H locs Ls cells slots hc hs (O.push trivial))
theorem s_ldc62  (hF : zFr E r p l R s m meth c) (hdg : decode r.2.2.1 pc = .ok (.ldc 62, 2)) (hr : r.1 = 6) (h : o_push (.inl 43414) (pc + 2) ls st θ σ = some (.inl (pc', ls', st', θ', σ'))) (k : zGo E B p l e R s m args below meth c Q pc' ls' st' θ' σ') : zGo E B p l e R s m args below meth c Q pc ls st θ σ := by
  intro μ H locs Ls cells slots hc hs O
  unfold o_push at h
  cases h
  exact lv_ldc hF.ex hF.bc (own := RX6) (v := 43414) (by have := hF.own; rw [hr] at this; exact this) (hF.w zw_c62 rfl) hdg (k μ H locs Ls cells slots hc hs (O.push trivial))
theorem s_ldcS {i j : Nat} (hF : zFr E r p l R s m meth c) (hdg : decode r.2.2.1 pc = .ok (.ldc i, 2)) (hz : zlk i (zSTt r.1) = some j) (h : o_push (.inr (.inl (some j))) (pc + 2) ls st θ σ = some (.inl (pc', ls', st', θ', σ'))) (k : zGo E B p l e R s m args below meth c Q pc' ls' st' θ' σ') : zGo E B p l e R s m args below meth c Q pc ls st θ σ := by
  intro μ H locs Ls cells slots hc hs O
  unfold o_push at h
  cases h
  obtain ⟨hj, tx, hR⟩ := hF.fa.2.2.2.2.1 r.1 i j hz
  have hm : μ j = E.2.2.1 j := O.1.2.2.2.2.1 j (by omega)
  have hR' : vk_R (zcn r.1) i tx (μ j) s := by rw [hm]; exact vk_R.warm hF.cx.1 hR
  exact va_ldcS hF.ex hF.bc hF.own hR' hdg (k μ H locs Ls cells slots hc hs (O.push (v := .inr (.inl (some j))) (by show j < θ.1; have := O.1.1; omega)))
theorem s_pop  (hF : zFr E r p l R s m meth c) (hdg : decode r.2.2.1 pc = .ok (.pop, 1)) (h : o_pop (pc + 1) ls st θ σ = some (.inl (pc', ls', st', θ', σ'))) (k : zGo E B p l e R s m args below meth c Q pc' ls' st' θ' σ') : zGo E B p l e R s m args below meth c Q pc ls st θ σ := by
  intro μ H locs Ls cells slots hc hs O
  unfold o_pop at h
  split at h
  next v rest =>
    split at h
    next hh =>
      cases h
      exact lv_pop hF.ex hF.bc hdg (by rw [cv_cat]; exact hh) (k μ H locs Ls cells slots hc hs O.pop)
    next => cases h
  next => cases h
theorem s_dup  (hF : zFr E r p l R s m meth c) (hdg : decode r.2.2.1 pc = .ok (.dup, 1)) (h : o_dup (pc + 1) ls st θ σ = some (.inl (pc', ls', st', θ', σ'))) (k : zGo E B p l e R s m args below meth c Q pc' ls' st' θ' σ') : zGo E B p l e R s m args below meth c Q pc ls st θ σ := by
  intro μ H locs Ls cells slots hc hs O
  unfold o_dup at h
  split at h
  next v rest =>
    split at h
    next hh =>
      cases h
      exact lv_dup hF.ex hF.bc hdg (by rw [cv_cat]; exact hh) (k μ H locs Ls cells slots hc hs (O.push O.hd))
    next => cases h
  next => cases h
theorem s_dup2  (hF : zFr E r p l R s m meth c) (hdg : decode r.2.2.1 pc = .ok (.dup2, 1)) (h : o_dup2 (pc + 1) ls st θ σ = some (.inl (pc', ls', st', θ', σ'))) (k : zGo E B p l e R s m args below meth c Q pc' ls' st' θ' σ') : zGo E B p l e R s m args below meth c Q pc ls st θ σ := by
  intro μ H locs Ls cells slots hc hs O
  unfold o_dup2 at h
  split at h
  next v w rest =>
    split at h
    next hh =>
      cases h
      exact lv_dup2_11 hF.ex hF.bc hdg (by rw [cv_cat]; exact hh.1) (by rw [cv_cat]; exact hh.2) (k μ H locs Ls cells slots hc hs ((O.push O.pop.hd).push O.hd))
    next => cases h
  next => cases h
theorem s_goto {off : Int} {t : Nat} (hF : zFr E r p l R s m meth c) (hdg : decode r.2.2.1 pc = .ok (.goto off, 3)) (ht : (pc : Int) + off = (t : Int)) (h : o_goto t ls st θ σ = some (.inl (pc', ls', st', θ', σ'))) (k : zGo E B p l e R s m args below meth c Q pc' ls' st' θ' σ') : zGo E B p l e R s m args below meth c Q pc ls st θ σ := by
  intro μ H locs Ls cells slots hc hs O
  unfold o_goto at h
  cases h
  exact lv_goto hF.ex hF.bc hdg ht (k μ H locs Ls cells slots hc hs O)
theorem s_ifeq {off : Int} {t : Nat} (hF : zFr E r p l R s m meth c) (hdg : decode r.2.2.1 pc = .ok (.ifCond .eq off, 3)) (ht : (pc : Int) + off = (t : Int)) (h : o_ifeq t (pc + 3) ls st θ σ = some (.inl (pc', ls', st', θ', σ'))) (k : zGo E B p l e R s m args below meth c Q pc' ls' st' θ' σ') : zGo E B p l e R s m args below meth c Q pc ls st θ σ := by
  intro μ H locs Ls cells slots hc hs O
  unfold o_ifeq at h
  split at h
  next x rest =>
    split at h
    next hh =>
      split at h
      next hx =>
        cases h
        exact lv_if_eq hF.ex hF.bc hdg ht (fun _ => k μ H locs Ls cells slots hc hs O.pop) (fun z => absurd ((n32_eq hh n32_in0).mpr hx) z)
      next hx =>
        cases h
        exact lv_if_eq hF.ex hF.bc hdg ht (fun z => absurd ((n32_eq hh n32_in0).mp z) hx) (fun _ => k μ H locs Ls cells slots hc hs O.pop)
    next => cases h
  next => cases h
theorem s_ifne {off : Int} {t : Nat} (hF : zFr E r p l R s m meth c) (hdg : decode r.2.2.1 pc = .ok (.ifCond .ne off, 3)) (ht : (pc : Int) + off = (t : Int)) (h : o_ifne t (pc + 3) ls st θ σ = some (.inl (pc', ls', st', θ', σ'))) (k : zGo E B p l e R s m args below meth c Q pc' ls' st' θ' σ') : zGo E B p l e R s m args below meth c Q pc ls st θ σ := by
  intro μ H locs Ls cells slots hc hs O
  unfold o_ifne at h
  split at h
  next x rest =>
    split at h
    next hh =>
      split at h
      next hx =>
        cases h
        exact lv_if_ne hF.ex hF.bc hdg ht (fun z => absurd ((n32_eq hh n32_in0).mpr hx) z) (fun _ => k μ H locs Ls cells slots hc hs O.pop)
      next hx =>
        cases h
        exact lv_if_ne hF.ex hF.bc hdg ht (fun _ => k μ H locs Ls cells slots hc hs O.pop) (fun z => absurd ((n32_eq hh n32_in0).mp z) hx)
    next => cases h
  next => cases h
theorem s_iflt {off : Int} {t : Nat} (hF : zFr E r p l R s m meth c) (hdg : decode r.2.2.1 pc = .ok (.ifCond .lt off, 3)) (ht : (pc : Int) + off = (t : Int)) (h : o_iflt t (pc + 3) ls st θ σ = some (.inl (pc', ls', st', θ', σ'))) (k : zGo E B p l e R s m args below meth c Q pc' ls' st' θ' σ') : zGo E B p l e R s m args below meth c Q pc ls st θ σ := by
  intro μ H locs Ls cells slots hc hs O
  unfold o_iflt at h
  split at h
  next x rest =>
    split at h
    next hh =>
      split at h
      next hx =>
        cases h
        exact lv_if_lt hF.ex hF.bc hdg ht (fun _ => k μ H locs Ls cells slots hc hs O.pop) (fun z => absurd ((n32_lt hh n32_in0).mpr hx) z)
      next hx =>
        cases h
        exact lv_if_lt hF.ex hF.bc hdg ht (fun z => absurd ((n32_lt hh n32_in0).mp z) hx) (fun _ => k μ H locs Ls cells slots hc hs O.pop)
    next => cases h
  next => cases h
theorem s_ifge {off : Int} {t : Nat} (hF : zFr E r p l R s m meth c) (hdg : decode r.2.2.1 pc = .ok (.ifCond .ge off, 3)) (ht : (pc : Int) + off = (t : Int)) (h : o_ifge t (pc + 3) ls st θ σ = some (.inl (pc', ls', st', θ', σ'))) (k : zGo E B p l e R s m args below meth c Q pc' ls' st' θ' σ') : zGo E B p l e R s m args below meth c Q pc ls st θ σ := by
  intro μ H locs Ls cells slots hc hs O
  unfold o_ifge at h
  split at h
  next x rest =>
    split at h
    next hh =>
      split at h
      next hx =>
        cases h
        exact lv_if_ge hF.ex hF.bc hdg ht (fun z => absurd ((n32_le n32_in0 hh).mp z) (by omega)) (fun _ => k μ H locs Ls cells slots hc hs O.pop)
      next hx =>
        cases h
        exact lv_if_ge hF.ex hF.bc hdg ht (fun _ => k μ H locs Ls cells slots hc hs O.pop) (fun z => absurd ((n32_le n32_in0 hh).mpr (by omega)) z)
    next => cases h
  next => cases h
theorem s_ifgt {off : Int} {t : Nat} (hF : zFr E r p l R s m meth c) (hdg : decode r.2.2.1 pc = .ok (.ifCond .gt off, 3)) (ht : (pc : Int) + off = (t : Int)) (h : o_ifgt t (pc + 3) ls st θ σ = some (.inl (pc', ls', st', θ', σ'))) (k : zGo E B p l e R s m args below meth c Q pc' ls' st' θ' σ') : zGo E B p l e R s m args below meth c Q pc ls st θ σ := by
  intro μ H locs Ls cells slots hc hs O
  unfold o_ifgt at h
  split at h
  next x rest =>
    split at h
    next hh =>
      split at h
      next hx =>
        cases h
        exact lv_if_gt hF.ex hF.bc hdg ht (fun _ => k μ H locs Ls cells slots hc hs O.pop) (fun z => absurd ((n32_lt n32_in0 hh).mpr hx) z)
      next hx =>
        cases h
        exact lv_if_gt hF.ex hF.bc hdg ht (fun z => absurd ((n32_lt n32_in0 hh).mp z) hx) (fun _ => k μ H locs Ls cells slots hc hs O.pop)
    next => cases h
  next => cases h
theorem s_ifle {off : Int} {t : Nat} (hF : zFr E r p l R s m meth c) (hdg : decode r.2.2.1 pc = .ok (.ifCond .le off, 3)) (ht : (pc : Int) + off = (t : Int)) (h : o_ifle t (pc + 3) ls st θ σ = some (.inl (pc', ls', st', θ', σ'))) (k : zGo E B p l e R s m args below meth c Q pc' ls' st' θ' σ') : zGo E B p l e R s m args below meth c Q pc ls st θ σ := by
  intro μ H locs Ls cells slots hc hs O
  unfold o_ifle at h
  split at h
  next x rest =>
    split at h
    next hh =>
      split at h
      next hx =>
        cases h
        exact lv_if_le hF.ex hF.bc hdg ht (fun z => absurd ((n32_le hh n32_in0).mp z) (by omega)) (fun _ => k μ H locs Ls cells slots hc hs O.pop)
      next hx =>
        cases h
        exact lv_if_le hF.ex hF.bc hdg ht (fun _ => k μ H locs Ls cells slots hc hs O.pop) (fun z => absurd ((n32_le hh n32_in0).mpr (by omega)) z)
    next => cases h
  next => cases h
theorem s_ceq {off : Int} {t : Nat} (hF : zFr E r p l R s m meth c) (hdg : decode r.2.2.1 pc = .ok (.if_icmp .eq off, 3)) (ht : (pc : Int) + off = (t : Int)) (h : o_ceq t (pc + 3) ls st θ σ = some (.inl (pc', ls', st', θ', σ'))) (k : zGo E B p l e R s m args below meth c Q pc' ls' st' θ' σ') : zGo E B p l e R s m args below meth c Q pc ls st θ σ := by
  intro μ H locs Ls cells slots hc hs O
  unfold o_ceq at h
  split at h
  next y x rest =>
    split at h
    next hh =>
      split at h
      next hx =>
        cases h
        exact lv_icmp_eq hF.ex hF.bc hdg ht (fun _ => k μ H locs Ls cells slots hc hs O.pop.pop) (fun z => absurd ((n32_eq hh.1 hh.2).mpr hx) z)
      next hx =>
        cases h
        exact lv_icmp_eq hF.ex hF.bc hdg ht (fun z => absurd ((n32_eq hh.1 hh.2).mp z) hx) (fun _ => k μ H locs Ls cells slots hc hs O.pop.pop)
    next => cases h
  next => cases h
theorem s_cne {off : Int} {t : Nat} (hF : zFr E r p l R s m meth c) (hdg : decode r.2.2.1 pc = .ok (.if_icmp .ne off, 3)) (ht : (pc : Int) + off = (t : Int)) (h : o_cne t (pc + 3) ls st θ σ = some (.inl (pc', ls', st', θ', σ'))) (k : zGo E B p l e R s m args below meth c Q pc' ls' st' θ' σ') : zGo E B p l e R s m args below meth c Q pc ls st θ σ := by
  intro μ H locs Ls cells slots hc hs O
  unfold o_cne at h
  split at h
  next y x rest =>
    split at h
    next hh =>
      split at h
      next hx =>
        cases h
        exact lv_icmp_ne hF.ex hF.bc hdg ht (fun z => absurd ((n32_eq hh.1 hh.2).mpr hx) z) (fun _ => k μ H locs Ls cells slots hc hs O.pop.pop)
      next hx =>
        cases h
        exact lv_icmp_ne hF.ex hF.bc hdg ht (fun _ => k μ H locs Ls cells slots hc hs O.pop.pop) (fun z => absurd ((n32_eq hh.1 hh.2).mp z) hx)
    next => cases h
  next => cases h
theorem s_clt {off : Int} {t : Nat} (hF : zFr E r p l R s m meth c) (hdg : decode r.2.2.1 pc = .ok (.if_icmp .lt off, 3)) (ht : (pc : Int) + off = (t : Int)) (h : o_clt t (pc + 3) ls st θ σ = some (.inl (pc', ls', st', θ', σ'))) (k : zGo E B p l e R s m args below meth c Q pc' ls' st' θ' σ') : zGo E B p l e R s m args below meth c Q pc ls st θ σ := by
  intro μ H locs Ls cells slots hc hs O
  unfold o_clt at h
  split at h
  next y x rest =>
    split at h
    next hh =>
      split at h
      next hx =>
        cases h
        exact lv_icmp_lt hF.ex hF.bc hdg ht (fun _ => k μ H locs Ls cells slots hc hs O.pop.pop) (fun z => absurd ((n32_lt hh.1 hh.2).mpr hx) z)
      next hx =>
        cases h
        exact lv_icmp_lt hF.ex hF.bc hdg ht (fun z => absurd ((n32_lt hh.1 hh.2).mp z) hx) (fun _ => k μ H locs Ls cells slots hc hs O.pop.pop)
    next => cases h
  next => cases h
theorem s_cge {off : Int} {t : Nat} (hF : zFr E r p l R s m meth c) (hdg : decode r.2.2.1 pc = .ok (.if_icmp .ge off, 3)) (ht : (pc : Int) + off = (t : Int)) (h : o_cge t (pc + 3) ls st θ σ = some (.inl (pc', ls', st', θ', σ'))) (k : zGo E B p l e R s m args below meth c Q pc' ls' st' θ' σ') : zGo E B p l e R s m args below meth c Q pc ls st θ σ := by
  intro μ H locs Ls cells slots hc hs O
  unfold o_cge at h
  split at h
  next y x rest =>
    split at h
    next hh =>
      split at h
      next hx =>
        cases h
        exact lv_icmp_ge hF.ex hF.bc hdg ht (fun z => absurd ((n32_le hh.2 hh.1).mp z) (by omega)) (fun _ => k μ H locs Ls cells slots hc hs O.pop.pop)
      next hx =>
        cases h
        exact lv_icmp_ge hF.ex hF.bc hdg ht (fun _ => k μ H locs Ls cells slots hc hs O.pop.pop) (fun z => absurd ((n32_le hh.2 hh.1).mpr (by omega)) z)
    next => cases h
  next => cases h
theorem s_cgt {off : Int} {t : Nat} (hF : zFr E r p l R s m meth c) (hdg : decode r.2.2.1 pc = .ok (.if_icmp .gt off, 3)) (ht : (pc : Int) + off = (t : Int)) (h : o_cgt t (pc + 3) ls st θ σ = some (.inl (pc', ls', st', θ', σ'))) (k : zGo E B p l e R s m args below meth c Q pc' ls' st' θ' σ') : zGo E B p l e R s m args below meth c Q pc ls st θ σ := by
  intro μ H locs Ls cells slots hc hs O
  unfold o_cgt at h
  split at h
  next y x rest =>
    split at h
    next hh =>
      split at h
      next hx =>
        cases h
        exact lv_icmp_gt hF.ex hF.bc hdg ht (fun _ => k μ H locs Ls cells slots hc hs O.pop.pop) (fun z => absurd ((n32_lt hh.2 hh.1).mpr hx) z)
      next hx =>
        cases h
        exact lv_icmp_gt hF.ex hF.bc hdg ht (fun z => absurd ((n32_lt hh.2 hh.1).mp z) hx) (fun _ => k μ H locs Ls cells slots hc hs O.pop.pop)
    next => cases h
  next => cases h
theorem s_cle {off : Int} {t : Nat} (hF : zFr E r p l R s m meth c) (hdg : decode r.2.2.1 pc = .ok (.if_icmp .le off, 3)) (ht : (pc : Int) + off = (t : Int)) (h : o_cle t (pc + 3) ls st θ σ = some (.inl (pc', ls', st', θ', σ'))) (k : zGo E B p l e R s m args below meth c Q pc' ls' st' θ' σ') : zGo E B p l e R s m args below meth c Q pc ls st θ σ := by
  intro μ H locs Ls cells slots hc hs O
  unfold o_cle at h
  split at h
  next y x rest =>
    split at h
    next hh =>
      split at h
      next hx =>
        cases h
        exact lv_icmp_le hF.ex hF.bc hdg ht (fun z => absurd ((n32_le hh.1 hh.2).mp z) (by omega)) (fun _ => k μ H locs Ls cells slots hc hs O.pop.pop)
      next hx =>
        cases h
        exact lv_icmp_le hF.ex hF.bc hdg ht (fun _ => k μ H locs Ls cells slots hc hs O.pop.pop) (fun z => absurd ((n32_le hh.1 hh.2).mpr (by omega)) z)
    next => cases h
  next => cases h
theorem s_ifnull {off : Int} {t : Nat} (hF : zFr E r p l R s m meth c) (hdg : decode r.2.2.1 pc = .ok (.ifnull off, 3)) (ht : (pc : Int) + off = (t : Int)) (h : o_ifnull t (pc + 3) ls st θ σ = some (.inl (pc', ls', st', θ', σ'))) (k : zGo E B p l e R s m args below meth c Q pc' ls' st' θ' σ') : zGo E B p l e R s m args below meth c Q pc ls st θ σ := by
  intro μ H locs Ls cells slots hc hs O
  unfold o_ifnull at h
  split at h
  next rest =>
    cases h
    exact lv_ifnullN hF.ex hF.bc hdg ht (k μ H locs Ls cells slots hc hs O.pop)
  next x rest =>
    cases h
    exact lv_ifnull hF.ex hF.bc hdg (k μ H locs Ls cells slots hc hs O.pop)
  next => cases h
theorem s_ifnonnull {off : Int} {t : Nat} (hF : zFr E r p l R s m meth c) (hdg : decode r.2.2.1 pc = .ok (.ifnonnull off, 3)) (ht : (pc : Int) + off = (t : Int)) (h : o_ifnonnull t (pc + 3) ls st θ σ = some (.inl (pc', ls', st', θ', σ'))) (k : zGo E B p l e R s m args below meth c Q pc' ls' st' θ' σ') : zGo E B p l e R s m args below meth c Q pc ls st θ σ := by
  intro μ H locs Ls cells slots hc hs O
  unfold o_ifnonnull at h
  split at h
  next rest =>
    cases h
    exact lv_ifnonnullN hF.ex hF.bc hdg (k μ H locs Ls cells slots hc hs O.pop)
  next x rest =>
    cases h
    exact lv_ifnonnull hF.ex hF.bc hdg ht (k μ H locs Ls cells slots hc hs O.pop)
  next => cases h
theorem zsw_out {pc d : Nat} {x : Int} : ∀ (offs : List Int) (lo : Int), (x < lo ∨ lo + offs.length ≤ x) → zsw x d (ztb pc lo offs) = d
  | [], lo, _ => rfl
  | o :: t, lo, h => by
    show (if x = lo then _ else zsw x d (ztb pc (lo + 1) t)) = d
    simp only [List.length_cons] at h
    rw [if_neg (by omega)]
    exact zsw_out t (lo + 1) (by omega)
theorem zsw_in {pc d : Nat} {x : Int} : ∀ (offs : List Int) (lo : Int), lo ≤ x → x < lo + offs.length → zall (ztb pc lo offs) = true → ∃ off : Int, offs[(x - lo).toNat]? = some off ∧ (pc : Int) + off = (zsw x d (ztb pc lo offs) : Nat)
  | [], lo, h1, h2, _ => by simp at h2; omega
  | o :: t, lo, h1, h2, h3 => by
    have h3 : (decide (0 ≤ (pc : Int) + o) && zall (ztb pc (lo + 1) t)) = true := h3
    rw [Bool.and_eq_true] at h3
    show ∃ off : Int, (o :: t)[(x - lo).toNat]? = some off ∧ (pc : Int) + off = ((if x = lo then ((pc : Int) + o).toNat else zsw x d (ztb pc (lo + 1) t) : Nat) : Int)
    simp only [List.length_cons] at h2
    by_cases hx : x = lo
    · rw [if_pos hx, show (x - lo).toNat = 0 by omega]
      exact ⟨o, rfl, by have := of_decide_eq_true h3.1; omega⟩
    · rw [if_neg hx]
      obtain ⟨off, g1, g2⟩ := zsw_in (pc := pc) (d := d) (x := x) t (lo + 1) (by omega) (by omega) h3.2
      refine ⟨off, ?_, g2⟩
      rw [show (x - lo).toNat = (x - (lo + 1)).toNat + 1 by omega, List.getElem?_cons_succ]
      exact g1
theorem zsw_lk {pc d : Nat} {dflt x : Int} (hd : (pc : Int) + dflt = (d : Int)) : ∀ ps : List (Int × Int), zall (zlkp pc ps) = true → (pc : Int) + Op.lookupswitch.offset ps dflt x = (zsw x d (zlkp pc ps) : Nat)
  | [], _ => hd
  | (k, o) :: t, h => by
    have h : (decide (0 ≤ (pc : Int) + o) && zall (zlkp pc t)) = true := h
    rw [Bool.and_eq_true] at h
    rw [Op.lookupswitch.offset_cons]
    show _ = ((if x = k then ((pc : Int) + o).toNat else zsw x d (zlkp pc t) : Nat) : Int)
    by_cases hx : x = k
    · rw [if_pos hx.symm, if_pos hx]
      have := of_decide_eq_true h.1
      omega
    · rw [if_neg (fun z => hx z.symm), if_neg hx]
      exact zsw_lk hd t h.2
theorem s_table {dflt lo hi : Int} {offs : Array Int} {len d : Nat} (hF : zFr E r p l R s m meth c) (hdg : decode r.2.2.1 pc = .ok (.tableswitch dflt lo hi offs, len)) (hd : (pc : Int) + dflt = (d : Int)) (hlo : hi = lo + (offs.size : Int) - 1) (hz : zall (ztb pc lo offs.toList) = true) (h : o_switch d (ztb pc lo offs.toList) ls st θ σ = some (.inl (pc', ls', st', θ', σ'))) (k : zGo E B p l e R s m args below meth c Q pc' ls' st' θ' σ') : zGo E B p l e R s m args below meth c Q pc ls st θ σ := by
  intro μ H locs Ls cells slots hc hs O
  unfold o_switch at h
  split at h
  next x rest =>
    split at h
    next hh =>
      cases h
      have hl : offs.toList.length = offs.size := Array.length_toList
      have ex := n32_t hh
      by_cases ho : x < lo ∨ hi < x
      · have kk := k μ H locs Ls cells slots hc hs O.pop
        rw [zsw_out offs.toList lo (by omega)] at kk
        exact lv_tableOut hF.ex hF.bc hdg (by rw [ex]; exact ho) hd kk
      · obtain ⟨off, g1, g2⟩ := zsw_in (d := d) (x := x) offs.toList lo (by omega) (by omega) hz
        exact lv_tableIn hF.ex hF.bc hdg (by rw [ex]; omega) (by rw [ex]; omega) (off := off) (by rw [ex, ← Array.getElem?_toList]; exact g1) g2 (k μ H locs Ls cells slots hc hs O.pop)
    next => cases h
  next => cases h
theorem s_lookup {dflt : Int} {ps : Array (Int × Int)} {len d : Nat} (hF : zFr E r p l R s m meth c) (hdg : decode r.2.2.1 pc = .ok (.lookupswitch dflt ps, len)) (hd : (pc : Int) + dflt = (d : Int)) (hp : (ps.toList.zip (ps.toList.drop 1)).all (fun (a, next) => a.1 < next.1) = true) (hz : zall (zlkp pc ps.toList) = true) (h : o_switch d (zlkp pc ps.toList) ls st θ σ = some (.inl (pc', ls', st', θ', σ'))) (k : zGo E B p l e R s m args below meth c Q pc' ls' st' θ' σ') : zGo E B p l e R s m args below meth c Q pc ls st θ σ := by
  intro μ H locs Ls cells slots hc hs O
  unfold o_switch at h
  split at h
  next x rest =>
    split at h
    next hh =>
      cases h
      exact lv_lookup hF.ex hF.bc hdg hp rfl (by rw [n32_t hh]; exact zsw_lk hd ps.toList hz) (k μ H locs Ls cells slots hc hs O.pop)
    next => cases h
  next => cases h
end ZST
