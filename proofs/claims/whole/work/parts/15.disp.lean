/-! THE DISPATCH: counters never fall; an instruction that is resolved is the machine's -/
def zle (θ θ' : ZT) : Prop := θ.1 ≤ θ'.1 ∧ θ.2.1 ≤ θ'.2.1
/-- an ordinary operation -/
def zod (θ : ZT) (x : ZN) : Prop := match x with
  | none => True
  | some (.inl (_, _, _, θ', _)) => zle θ θ'
  | some (.inr _) => False
/-- an end -/
def zoe (θ : ZT) (x : ZN) : Prop := match x with
  | none => True
  | some (.inl _) => False
  | some (.inr (.inl (_, θ', _))) => zle θ θ'
  | some (.inr (.inr _)) => False
/-- a call -/
def zoc (x : ZN) : Prop := match x with
  | none => True
  | some (.inl _) => False
  | some (.inr (.inl _)) => False
  | some (.inr (.inr _)) => True
theorem zle_r (θ : ZT) : zle θ θ := ⟨Nat.le_refl _, Nat.le_refl _⟩
theorem mn_iload {k : Nat} {n : Nat} {ls : ZL} {st : List ZV} {θ : ZT} {σ : ZI} : zod θ (o_iload k n ls st θ σ) := by unfold o_iload; (repeat' split) <;> (first | trivial | exact zle_r _ | exact ⟨Nat.le_succ _, Nat.le_refl _⟩ | exact ⟨Nat.le_refl _, Nat.le_succ _⟩)
theorem mn_aload {k : Nat} {n : Nat} {ls : ZL} {st : List ZV} {θ : ZT} {σ : ZI} : zod θ (o_aload k n ls st θ σ) := by unfold o_aload; (repeat' split) <;> (first | trivial | exact zle_r _ | exact ⟨Nat.le_succ _, Nat.le_refl _⟩ | exact ⟨Nat.le_refl _, Nat.le_succ _⟩)
theorem mn_dload {k : Nat} {n : Nat} {ls : ZL} {st : List ZV} {θ : ZT} {σ : ZI} : zod θ (o_dload k n ls st θ σ) := by unfold o_dload; (repeat' split) <;> (first | trivial | exact zle_r _ | exact ⟨Nat.le_succ _, Nat.le_refl _⟩ | exact ⟨Nat.le_refl _, Nat.le_succ _⟩)
theorem mn_push {v : ZV} {n : Nat} {ls : ZL} {st : List ZV} {θ : ZT} {σ : ZI} : zod θ (o_push v n ls st θ σ) := by exact zle_r _
theorem mn_istore {k : Nat} {n : Nat} {ls : ZL} {st : List ZV} {θ : ZT} {σ : ZI} : zod θ (o_istore k n ls st θ σ) := by unfold o_istore; (repeat' split) <;> (first | trivial | exact zle_r _ | exact ⟨Nat.le_succ _, Nat.le_refl _⟩ | exact ⟨Nat.le_refl _, Nat.le_succ _⟩)
theorem mn_astore {k : Nat} {n : Nat} {ls : ZL} {st : List ZV} {θ : ZT} {σ : ZI} : zod θ (o_astore k n ls st θ σ) := by unfold o_astore; (repeat' split) <;> (first | trivial | exact zle_r _ | exact ⟨Nat.le_succ _, Nat.le_refl _⟩ | exact ⟨Nat.le_refl _, Nat.le_succ _⟩)
theorem mn_dstore {k : Nat} {n : Nat} {ls : ZL} {st : List ZV} {θ : ZT} {σ : ZI} : zod θ (o_dstore k n ls st θ σ) := by unfold o_dstore; (repeat' split) <;> (first | trivial | exact zle_r _ | exact ⟨Nat.le_succ _, Nat.le_refl _⟩ | exact ⟨Nat.le_refl _, Nat.le_succ _⟩)
theorem mn_iinc {k : Nat} {c : Int} {n : Nat} {ls : ZL} {st : List ZV} {θ : ZT} {σ : ZI} : zod θ (o_iinc k c n ls st θ σ) := by unfold o_iinc; (repeat' split) <;> (first | trivial | exact zle_r _ | exact ⟨Nat.le_succ _, Nat.le_refl _⟩ | exact ⟨Nat.le_refl _, Nat.le_succ _⟩)
theorem mn_bin {f : Int → Int → Int} {n : Nat} {ls : ZL} {st : List ZV} {θ : ZT} {σ : ZI} : zod θ (o_bin f n ls st θ σ) := by unfold o_bin; (repeat' split) <;> (first | trivial | exact zle_r _ | exact ⟨Nat.le_succ _, Nat.le_refl _⟩ | exact ⟨Nat.le_refl _, Nat.le_succ _⟩)
theorem mn_div {n : Nat} {ls : ZL} {st : List ZV} {θ : ZT} {σ : ZI} : zod θ (o_div n ls st θ σ) := by unfold o_div; (repeat' split) <;> (first | trivial | exact zle_r _ | exact ⟨Nat.le_succ _, Nat.le_refl _⟩ | exact ⟨Nat.le_refl _, Nat.le_succ _⟩)
theorem mn_rem {n : Nat} {ls : ZL} {st : List ZV} {θ : ZT} {σ : ZI} : zod θ (o_rem n ls st θ σ) := by unfold o_rem; (repeat' split) <;> (first | trivial | exact zle_r _ | exact ⟨Nat.le_succ _, Nat.le_refl _⟩ | exact ⟨Nat.le_refl _, Nat.le_succ _⟩)
theorem mn_i2l {n : Nat} {ls : ZL} {st : List ZV} {θ : ZT} {σ : ZI} : zod θ (o_i2l n ls st θ σ) := by unfold o_i2l; (repeat' split) <;> (first | trivial | exact zle_r _ | exact ⟨Nat.le_succ _, Nat.le_refl _⟩ | exact ⟨Nat.le_refl _, Nat.le_succ _⟩)
theorem mn_i2c {n : Nat} {ls : ZL} {st : List ZV} {θ : ZT} {σ : ZI} : zod θ (o_i2c n ls st θ σ) := by unfold o_i2c; (repeat' split) <;> (first | trivial | exact zle_r _ | exact ⟨Nat.le_succ _, Nat.le_refl _⟩ | exact ⟨Nat.le_refl _, Nat.le_succ _⟩)
theorem mn_i2f {n : Nat} {ls : ZL} {st : List ZV} {θ : ZT} {σ : ZI} : zod θ (o_i2f n ls st θ σ) := by unfold o_i2f; (repeat' split) <;> (first | trivial | exact zle_r _ | exact ⟨Nat.le_succ _, Nat.le_refl _⟩ | exact ⟨Nat.le_refl _, Nat.le_succ _⟩)
theorem mn_i2d {n : Nat} {ls : ZL} {st : List ZV} {θ : ZT} {σ : ZI} : zod θ (o_i2d n ls st θ σ) := by unfold o_i2d; (repeat' split) <;> (first | trivial | exact zle_r _ | exact ⟨Nat.le_succ _, Nat.le_refl _⟩ | exact ⟨Nat.le_refl _, Nat.le_succ _⟩)
theorem mn_f2d {n : Nat} {ls : ZL} {st : List ZV} {θ : ZT} {σ : ZI} : zod θ (o_f2d n ls st θ σ) := by unfold o_f2d; (repeat' split) <;> (first | trivial | exact zle_r _ | exact ⟨Nat.le_succ _, Nat.le_refl _⟩ | exact ⟨Nat.le_refl _, Nat.le_succ _⟩)
theorem mn_fdiv {n : Nat} {ls : ZL} {st : List ZV} {θ : ZT} {σ : ZI} : zod θ (o_fdiv n ls st θ σ) := by unfold o_fdiv; (repeat' split) <;> (first | trivial | exact zle_r _ | exact ⟨Nat.le_succ _, Nat.le_refl _⟩ | exact ⟨Nat.le_refl _, Nat.le_succ _⟩)
theorem mn_ddiv {n : Nat} {ls : ZL} {st : List ZV} {θ : ZT} {σ : ZI} : zod θ (o_ddiv n ls st θ σ) := by unfold o_ddiv; (repeat' split) <;> (first | trivial | exact zle_r _ | exact ⟨Nat.le_succ _, Nat.le_refl _⟩ | exact ⟨Nat.le_refl _, Nat.le_succ _⟩)
theorem mn_dcmp {n : Nat} {ls : ZL} {st : List ZV} {θ : ZT} {σ : ZI} : zod θ (o_dcmp n ls st θ σ) := by unfold o_dcmp; (repeat' split) <;> (first | trivial | exact zle_r _ | exact ⟨Nat.le_succ _, Nat.le_refl _⟩ | exact ⟨Nat.le_refl _, Nat.le_succ _⟩)
theorem mn_lcmp {n : Nat} {ls : ZL} {st : List ZV} {θ : ZT} {σ : ZI} : zod θ (o_lcmp n ls st θ σ) := by unfold o_lcmp; (repeat' split) <;> (first | trivial | exact zle_r _ | exact ⟨Nat.le_succ _, Nat.le_refl _⟩ | exact ⟨Nat.le_refl _, Nat.le_succ _⟩)
theorem mn_pop {n : Nat} {ls : ZL} {st : List ZV} {θ : ZT} {σ : ZI} : zod θ (o_pop n ls st θ σ) := by unfold o_pop; (repeat' split) <;> (first | trivial | exact zle_r _ | exact ⟨Nat.le_succ _, Nat.le_refl _⟩ | exact ⟨Nat.le_refl _, Nat.le_succ _⟩)
theorem mn_dup {n : Nat} {ls : ZL} {st : List ZV} {θ : ZT} {σ : ZI} : zod θ (o_dup n ls st θ σ) := by unfold o_dup; (repeat' split) <;> (first | trivial | exact zle_r _ | exact ⟨Nat.le_succ _, Nat.le_refl _⟩ | exact ⟨Nat.le_refl _, Nat.le_succ _⟩)
theorem mn_dup2 {n : Nat} {ls : ZL} {st : List ZV} {θ : ZT} {σ : ZI} : zod θ (o_dup2 n ls st θ σ) := by unfold o_dup2; (repeat' split) <;> (first | trivial | exact zle_r _ | exact ⟨Nat.le_succ _, Nat.le_refl _⟩ | exact ⟨Nat.le_refl _, Nat.le_succ _⟩)
theorem mn_goto {t : Nat} {ls : ZL} {st : List ZV} {θ : ZT} {σ : ZI} : zod θ (o_goto t ls st θ σ) := by exact zle_r _
theorem mn_ifeq {t : Nat} {n : Nat} {ls : ZL} {st : List ZV} {θ : ZT} {σ : ZI} : zod θ (o_ifeq t n ls st θ σ) := by unfold o_ifeq; (repeat' split) <;> (first | trivial | exact zle_r _ | exact ⟨Nat.le_succ _, Nat.le_refl _⟩ | exact ⟨Nat.le_refl _, Nat.le_succ _⟩)
theorem mn_ifne {t : Nat} {n : Nat} {ls : ZL} {st : List ZV} {θ : ZT} {σ : ZI} : zod θ (o_ifne t n ls st θ σ) := by unfold o_ifne; (repeat' split) <;> (first | trivial | exact zle_r _ | exact ⟨Nat.le_succ _, Nat.le_refl _⟩ | exact ⟨Nat.le_refl _, Nat.le_succ _⟩)
theorem mn_iflt {t : Nat} {n : Nat} {ls : ZL} {st : List ZV} {θ : ZT} {σ : ZI} : zod θ (o_iflt t n ls st θ σ) := by unfold o_iflt; (repeat' split) <;> (first | trivial | exact zle_r _ | exact ⟨Nat.le_succ _, Nat.le_refl _⟩ | exact ⟨Nat.le_refl _, Nat.le_succ _⟩)
theorem mn_ifge {t : Nat} {n : Nat} {ls : ZL} {st : List ZV} {θ : ZT} {σ : ZI} : zod θ (o_ifge t n ls st θ σ) := by unfold o_ifge; (repeat' split) <;> (first | trivial | exact zle_r _ | exact ⟨Nat.le_succ _, Nat.le_refl _⟩ | exact ⟨Nat.le_refl _, Nat.le_succ _⟩)
theorem mn_ifgt {t : Nat} {n : Nat} {ls : ZL} {st : List ZV} {θ : ZT} {σ : ZI} : zod θ (o_ifgt t n ls st θ σ) := by unfold o_ifgt; (repeat' split) <;> (first | trivial | exact zle_r _ | exact ⟨Nat.le_succ _, Nat.le_refl _⟩ | exact ⟨Nat.le_refl _, Nat.le_succ _⟩)
theorem mn_ifle {t : Nat} {n : Nat} {ls : ZL} {st : List ZV} {θ : ZT} {σ : ZI} : zod θ (o_ifle t n ls st θ σ) := by unfold o_ifle; (repeat' split) <;> (first | trivial | exact zle_r _ | exact ⟨Nat.le_succ _, Nat.le_refl _⟩ | exact ⟨Nat.le_refl _, Nat.le_succ _⟩)
theorem mn_ceq {t : Nat} {n : Nat} {ls : ZL} {st : List ZV} {θ : ZT} {σ : ZI} : zod θ (o_ceq t n ls st θ σ) := by unfold o_ceq; (repeat' split) <;> (first | trivial | exact zle_r _ | exact ⟨Nat.le_succ _, Nat.le_refl _⟩ | exact ⟨Nat.le_refl _, Nat.le_succ _⟩)
theorem mn_cne {t : Nat} {n : Nat} {ls : ZL} {st : List ZV} {θ : ZT} {σ : ZI} : zod θ (o_cne t n ls st θ σ) := by unfold o_cne; (repeat' split) <;> (first | trivial | exact zle_r _ | exact ⟨Nat.le_succ _, Nat.le_refl _⟩ | exact ⟨Nat.le_refl _, Nat.le_succ _⟩)
theorem mn_clt {t : Nat} {n : Nat} {ls : ZL} {st : List ZV} {θ : ZT} {σ : ZI} : zod θ (o_clt t n ls st θ σ) := by unfold o_clt; (repeat' split) <;> (first | trivial | exact zle_r _ | exact ⟨Nat.le_succ _, Nat.le_refl _⟩ | exact ⟨Nat.le_refl _, Nat.le_succ _⟩)
theorem mn_cge {t : Nat} {n : Nat} {ls : ZL} {st : List ZV} {θ : ZT} {σ : ZI} : zod θ (o_cge t n ls st θ σ) := by unfold o_cge; (repeat' split) <;> (first | trivial | exact zle_r _ | exact ⟨Nat.le_succ _, Nat.le_refl _⟩ | exact ⟨Nat.le_refl _, Nat.le_succ _⟩)
theorem mn_cgt {t : Nat} {n : Nat} {ls : ZL} {st : List ZV} {θ : ZT} {σ : ZI} : zod θ (o_cgt t n ls st θ σ) := by unfold o_cgt; (repeat' split) <;> (first | trivial | exact zle_r _ | exact ⟨Nat.le_succ _, Nat.le_refl _⟩ | exact ⟨Nat.le_refl _, Nat.le_succ _⟩)
theorem mn_cle {t : Nat} {n : Nat} {ls : ZL} {st : List ZV} {θ : ZT} {σ : ZI} : zod θ (o_cle t n ls st θ σ) := by unfold o_cle; (repeat' split) <;> (first | trivial | exact zle_r _ | exact ⟨Nat.le_succ _, Nat.le_refl _⟩ | exact ⟨Nat.le_refl _, Nat.le_succ _⟩)
theorem mn_ifnull {t : Nat} {n : Nat} {ls : ZL} {st : List ZV} {θ : ZT} {σ : ZI} : zod θ (o_ifnull t n ls st θ σ) := by unfold o_ifnull; (repeat' split) <;> (first | trivial | exact zle_r _ | exact ⟨Nat.le_succ _, Nat.le_refl _⟩ | exact ⟨Nat.le_refl _, Nat.le_succ _⟩)
theorem mn_ifnonnull {t : Nat} {n : Nat} {ls : ZL} {st : List ZV} {θ : ZT} {σ : ZI} : zod θ (o_ifnonnull t n ls st θ σ) := by unfold o_ifnonnull; (repeat' split) <;> (first | trivial | exact zle_r _ | exact ⟨Nat.le_succ _, Nat.le_refl _⟩ | exact ⟨Nat.le_refl _, Nat.le_succ _⟩)
theorem mn_switch {d : Nat} {ps : List Int} {ls : ZL} {st : List ZV} {θ : ZT} {σ : ZI} : zod θ (o_switch d ps ls st θ σ) := by unfold o_switch; (repeat' split) <;> (first | trivial | exact zle_r _ | exact ⟨Nat.le_succ _, Nat.le_refl _⟩ | exact ⟨Nat.le_refl _, Nat.le_succ _⟩)
theorem mn_iret {q : Nat} {ls : ZL} {st : List ZV} {θ : ZT} {σ : ZI} : zoe θ (o_iret q ls st θ σ) := by unfold o_iret; (repeat' split) <;> (first | trivial | exact zle_r _ | exact ⟨Nat.le_succ _, Nat.le_refl _⟩ | exact ⟨Nat.le_refl _, Nat.le_succ _⟩)
theorem mn_aret  {ls : ZL} {st : List ZV} {θ : ZT} {σ : ZI} : zoe θ (o_aret ls st θ σ) := by unfold o_aret; (repeat' split) <;> (first | trivial | exact zle_r _ | exact ⟨Nat.le_succ _, Nat.le_refl _⟩ | exact ⟨Nat.le_refl _, Nat.le_succ _⟩)
theorem mn_vret  {ls : ZL} {st : List ZV} {θ : ZT} {σ : ZI} : zoe θ (o_vret ls st θ σ) := by unfold o_vret; (repeat' split) <;> (first | trivial | exact zle_r _ | exact ⟨Nat.le_succ _, Nat.le_refl _⟩ | exact ⟨Nat.le_refl _, Nat.le_succ _⟩)
theorem mn_fret  {ls : ZL} {st : List ZV} {θ : ZT} {σ : ZI} : zoe θ (o_fret ls st θ σ) := by unfold o_fret; (repeat' split) <;> (first | trivial | exact zle_r _ | exact ⟨Nat.le_succ _, Nat.le_refl _⟩ | exact ⟨Nat.le_refl _, Nat.le_succ _⟩)
theorem mn_dret  {ls : ZL} {st : List ZV} {θ : ZT} {σ : ZI} : zoe θ (o_dret ls st θ σ) := by unfold o_dret; (repeat' split) <;> (first | trivial | exact zle_r _ | exact ⟨Nat.le_succ _, Nat.le_refl _⟩ | exact ⟨Nat.le_refl _, Nat.le_succ _⟩)
theorem mn_getI {ci : Nat} {f : Nat} {n : Nat} {ls : ZL} {st : List ZV} {θ : ZT} {σ : ZI} : zod θ (o_getI ci f n ls st θ σ) := by unfold o_getI; (repeat' split) <;> (first | trivial | exact zle_r _ | exact ⟨Nat.le_succ _, Nat.le_refl _⟩ | exact ⟨Nat.le_refl _, Nat.le_succ _⟩)
theorem mn_getR {ci : Nat} {f : Nat} {n : Nat} {ls : ZL} {st : List ZV} {θ : ZT} {σ : ZI} : zod θ (o_getR ci f n ls st θ σ) := by unfold o_getR; (repeat' split) <;> (first | trivial | exact zle_r _ | exact ⟨Nat.le_succ _, Nat.le_refl _⟩ | exact ⟨Nat.le_refl _, Nat.le_succ _⟩)
theorem mn_putI {ci : Nat} {f : Nat} {n : Nat} {ls : ZL} {st : List ZV} {θ : ZT} {σ : ZI} : zod θ (o_putI ci f n ls st θ σ) := by unfold o_putI; (repeat' split) <;> (first | trivial | exact zle_r _ | exact ⟨Nat.le_succ _, Nat.le_refl _⟩ | exact ⟨Nat.le_refl _, Nat.le_succ _⟩)
theorem mn_putZ {ci : Nat} {f : Nat} {n : Nat} {ls : ZL} {st : List ZV} {θ : ZT} {σ : ZI} : zod θ (o_putZ ci f n ls st θ σ) := by unfold o_putZ; (repeat' split) <;> (first | trivial | exact zle_r _ | exact ⟨Nat.le_succ _, Nat.le_refl _⟩ | exact ⟨Nat.le_refl _, Nat.le_succ _⟩)
theorem mn_putR {ci : Nat} {f : Nat} {n : Nat} {ls : ZL} {st : List ZV} {θ : ZT} {σ : ZI} : zod θ (o_putR ci f n ls st θ σ) := by unfold o_putR; (repeat' split) <;> (first | trivial | exact zle_r _ | exact ⟨Nat.le_succ _, Nat.le_refl _⟩ | exact ⟨Nat.le_refl _, Nat.le_succ _⟩)
theorem mn_iald {n : Nat} {ls : ZL} {st : List ZV} {θ : ZT} {σ : ZI} : zod θ (o_iald n ls st θ σ) := by unfold o_iald; (repeat' split) <;> (first | trivial | exact zle_r _ | exact ⟨Nat.le_succ _, Nat.le_refl _⟩ | exact ⟨Nat.le_refl _, Nat.le_succ _⟩)
theorem mn_bald {n : Nat} {ls : ZL} {st : List ZV} {θ : ZT} {σ : ZI} : zod θ (o_bald n ls st θ σ) := by unfold o_bald; (repeat' split) <;> (first | trivial | exact zle_r _ | exact ⟨Nat.le_succ _, Nat.le_refl _⟩ | exact ⟨Nat.le_refl _, Nat.le_succ _⟩)
theorem mn_cald {n : Nat} {ls : ZL} {st : List ZV} {θ : ZT} {σ : ZI} : zod θ (o_cald n ls st θ σ) := by unfold o_cald; (repeat' split) <;> (first | trivial | exact zle_r _ | exact ⟨Nat.le_succ _, Nat.le_refl _⟩ | exact ⟨Nat.le_refl _, Nat.le_succ _⟩)
theorem mn_lald {n : Nat} {ls : ZL} {st : List ZV} {θ : ZT} {σ : ZI} : zod θ (o_lald n ls st θ σ) := by unfold o_lald; (repeat' split) <;> (first | trivial | exact zle_r _ | exact ⟨Nat.le_succ _, Nat.le_refl _⟩ | exact ⟨Nat.le_refl _, Nat.le_succ _⟩)
theorem mn_aald {n : Nat} {ls : ZL} {st : List ZV} {θ : ZT} {σ : ZI} : zod θ (o_aald n ls st θ σ) := by unfold o_aald; (repeat' split) <;> (first | trivial | exact zle_r _ | exact ⟨Nat.le_succ _, Nat.le_refl _⟩ | exact ⟨Nat.le_refl _, Nat.le_succ _⟩)
theorem mn_iast {n : Nat} {ls : ZL} {st : List ZV} {θ : ZT} {σ : ZI} : zod θ (o_iast n ls st θ σ) := by unfold o_iast; (repeat' split) <;> (first | trivial | exact zle_r _ | exact ⟨Nat.le_succ _, Nat.le_refl _⟩ | exact ⟨Nat.le_refl _, Nat.le_succ _⟩)
theorem mn_bast {n : Nat} {ls : ZL} {st : List ZV} {θ : ZT} {σ : ZI} : zod θ (o_bast n ls st θ σ) := by unfold o_bast; (repeat' split) <;> (first | trivial | exact zle_r _ | exact ⟨Nat.le_succ _, Nat.le_refl _⟩ | exact ⟨Nat.le_refl _, Nat.le_succ _⟩)
theorem mn_cast {n : Nat} {ls : ZL} {st : List ZV} {θ : ZT} {σ : ZI} : zod θ (o_cast n ls st θ σ) := by unfold o_cast; (repeat' split) <;> (first | trivial | exact zle_r _ | exact ⟨Nat.le_succ _, Nat.le_refl _⟩ | exact ⟨Nat.le_refl _, Nat.le_succ _⟩)
theorem mn_last {n : Nat} {ls : ZL} {st : List ZV} {θ : ZT} {σ : ZI} : zod θ (o_last n ls st θ σ) := by unfold o_last; (repeat' split) <;> (first | trivial | exact zle_r _ | exact ⟨Nat.le_succ _, Nat.le_refl _⟩ | exact ⟨Nat.le_refl _, Nat.le_succ _⟩)
theorem mn_aast {n : Nat} {ls : ZL} {st : List ZV} {θ : ZT} {σ : ZI} : zod θ (o_aast n ls st θ σ) := by unfold o_aast; (repeat' split) <;> (first | trivial | exact zle_r _ | exact ⟨Nat.le_succ _, Nat.le_refl _⟩ | exact ⟨Nat.le_refl _, Nat.le_succ _⟩)
theorem mn_alen {n : Nat} {ls : ZL} {st : List ZV} {θ : ZT} {σ : ZI} : zod θ (o_alen n ls st θ σ) := by unfold o_alen; (repeat' split) <;> (first | trivial | exact zle_r _ | exact ⟨Nat.le_succ _, Nat.le_refl _⟩ | exact ⟨Nat.le_refl _, Nat.le_succ _⟩)
theorem mn_newa {q : Nat} {n : Nat} {ls : ZL} {st : List ZV} {θ : ZT} {σ : ZI} : zod θ (o_newa q n ls st θ σ) := by unfold o_newa; (repeat' split) <;> (first | trivial | exact zle_r _ | exact ⟨Nat.le_succ _, Nat.le_refl _⟩ | exact ⟨Nat.le_refl _, Nat.le_succ _⟩)
theorem mn_newo {q : Nat} {n : Nat} {ls : ZL} {st : List ZV} {θ : ZT} {σ : ZI} : zod θ (o_newo q n ls st θ σ) := by unfold o_newo; (repeat' split) <;> (first | trivial | exact zle_r _ | exact ⟨Nat.le_succ _, Nat.le_refl _⟩ | exact ⟨Nat.le_refl _, Nat.le_succ _⟩)
theorem mn_throw {E : Nat} {ls : ZL} {st : List ZV} {θ : ZT} {σ : ZI} : zoe θ (o_throw E ls st θ σ) := by unfold o_throw; (repeat' split) <;> (first | trivial | exact zle_r _ | exact ⟨Nat.le_succ _, Nat.le_refl _⟩ | exact ⟨Nat.le_refl _, Nat.le_succ _⟩)
theorem mn_callV {mj : Nat} {q : Nat} {na : Nat} {n : Nat} {ls : ZL} {st : List ZV} {θ : ZT} {σ : ZI} : zoc (o_callV mj q na n ls st θ σ) := by unfold o_callV; (repeat' split) <;> (first | trivial | exact zle_r _ | exact ⟨Nat.le_succ _, Nat.le_refl _⟩ | exact ⟨Nat.le_refl _, Nat.le_succ _⟩)
theorem mn_callS {mj : Nat} {na : Nat} {n : Nat} {ls : ZL} {st : List ZV} {θ : ZT} {σ : ZI} : zoc (o_callS mj na n ls st θ σ) := by unfold o_callS; (repeat' split) <;> (first | trivial | exact zle_r _ | exact ⟨Nat.le_succ _, Nat.le_refl _⟩ | exact ⟨Nat.le_refl _, Nat.le_succ _⟩)
theorem mn_callI {mj : Nat} {n : Nat} {ls : ZL} {st : List ZV} {θ : ZT} {σ : ZI} : zoc (o_callI mj n ls st θ σ) := by unfold o_callI; (repeat' split) <;> (first | trivial | exact zle_r _ | exact ⟨Nat.le_succ _, Nat.le_refl _⟩ | exact ⟨Nat.le_refl _, Nat.le_succ _⟩)
theorem mn_acopy {n : Nat} {ls : ZL} {st : List ZV} {θ : ZT} {σ : ZI} : zod θ (o_acopy n ls st θ σ) := by unfold o_acopy; (repeat' split) <;> (first | trivial | exact zle_r _ | exact ⟨Nat.le_succ _, Nat.le_refl _⟩ | exact ⟨Nat.le_refl _, Nat.le_succ _⟩)
theorem mn_chk {n : Nat} {ls : ZL} {st : List ZV} {θ : ZT} {σ : ZI} : zod θ (o_chk n ls st θ σ) := by unfold o_chk; (repeat' split) <;> (first | trivial | exact zle_r _ | exact ⟨Nat.le_succ _, Nat.le_refl _⟩ | exact ⟨Nat.le_refl _, Nat.le_succ _⟩)
theorem mn_oini {n : Nat} {ls : ZL} {st : List ZV} {θ : ZT} {σ : ZI} : zod θ (o_oini n ls st θ σ) := by unfold o_oini; (repeat' split) <;> (first | trivial | exact zle_r _ | exact ⟨Nat.le_succ _, Nat.le_refl _⟩ | exact ⟨Nat.le_refl _, Nat.le_succ _⟩)
theorem mn_sval {n : Nat} {ls : ZL} {st : List ZV} {θ : ZT} {σ : ZI} : zod θ (o_sval n ls st θ σ) := by unfold o_sval; (repeat' split) <;> (first | trivial | exact zle_r _ | exact ⟨Nat.le_succ _, Nat.le_refl _⟩ | exact ⟨Nat.le_refl _, Nat.le_succ _⟩)
theorem mn_scod {n : Nat} {ls : ZL} {st : List ZV} {θ : ZT} {σ : ZI} : zod θ (o_scod n ls st θ σ) := by unfold o_scod; (repeat' split) <;> (first | trivial | exact zle_r _ | exact ⟨Nat.le_succ _, Nat.le_refl _⟩ | exact ⟨Nat.le_refl _, Nat.le_succ _⟩)
/-- what a resolved instruction is: a call, an end, or ordinary -/
def zcl (d : Nat × List Int) (ls : ZL) (st : List ZV) (θ : ZT) (σ : ZI) : Prop := (zoc (z_sem d ls st θ σ) ∧ (d.1 = 63 ∨ d.1 = 64 ∨ d.1 = 65)) ∨ (zoe θ (z_sem d ls st θ σ) ∧ (d.1 = 39 ∨ d.1 = 40 ∨ d.1 = 41 ∨ d.1 = 42 ∨ d.1 = 43 ∨ d.1 = 62)) ∨ zod θ (z_sem d ls st θ σ)
theorem zod_i {θ θ' : ZT} {x : ZN} {pc' : Nat} {ls' : ZL} {st' : List ZV} {σ' : ZI} (h : zod θ x) (e : x = some (.inl (pc', ls', st', θ', σ'))) : zle θ θ' := by subst e; exact h
theorem zsem_i {d : Nat × List Int} {ls ls' : ZL} {st st' : List ZV} {θ θ' : ZT} {σ σ' : ZI} {pc' : Nat} (hd : zcl d ls st θ σ) (h : z_sem d ls st θ σ = some (.inl (pc', ls', st', θ', σ'))) : zle θ θ' := by
  rcases hd with ⟨h1, -⟩ | ⟨h1, -⟩ | h1
  · rw [h] at h1; exact h1.elim
  · rw [h] at h1; exact h1.elim
  · rw [h] at h1; exact h1
theorem zsem_e {d : Nat × List Int} {ls : ZL} {st : List ZV} {θ θ' : ZT} {σ σ' : ZI} {o : ZO} (hd : zcl d ls st θ σ) (h : z_sem d ls st θ σ = some (.inr (.inl (o, θ', σ')))) : zle θ θ' ∧ (d.1 = 39 ∨ d.1 = 40 ∨ d.1 = 41 ∨ d.1 = 42 ∨ d.1 = 43 ∨ d.1 = 62) := by
  rcases hd with ⟨h1, -⟩ | ⟨h1, h2⟩ | h1
  · rw [h] at h1; exact h1.elim
  · rw [h] at h1; exact ⟨h1, h2⟩
  · rw [h] at h1; exact h1.elim
theorem zsem_l {d : Nat × List Int} {ls : ZL} {st vs rest : List ZV} {θ : ZT} {σ : ZI} {mj n : Nat} (hd : zcl d ls st θ σ) (h : z_sem d ls st θ σ = some (.inr (.inr (mj, vs, rest, n)))) : d.1 = 63 ∨ d.1 = 64 ∨ d.1 = 65 := by
  rcases hd with ⟨-, h1⟩ | ⟨h1, -⟩ | h1
  · exact h1
  · rw [h] at h1; exact h1.elim
  · rw [h] at h1; exact h1.elim
theorem zle_t {a b c : ZT} (h : zle a b) (k : zle b c) : zle a c := ⟨Nat.le_trans h.1 k.1, Nat.le_trans h.2 k.2⟩
theorem zsum_le {a b : Nat} (h : a ≤ b) : zsum a ≤ zsum b := by
  induction h with
  | refl => exact Nat.le_refl _
  | step _ ih => exact Nat.le_trans ih (Nat.le_add_right _ _)
theorem zle_C {θ θ' : ZT} (h : zle θ θ') : cC θ ≤ cC θ' := by unfold cC; have := h.1; have := h.2; omega
theorem zle_S {θ θ' : ZT} (h : zle θ θ') : cS θ ≤ cS θ' := by unfold cS; have := zsum_le h.1; have := h.2; omega
section ZDI
variable {E : zE} {B : zB} {p : Program} {l : Launch} {e : Env} {R : Room} {s : State} {m : MethodId} {args : Array Value} {below : List Frame} {meth : Method} {c : Code} {Q : State → Prop} {r : ZM} {pc pc' : Nat} {ls ls' : ZL} {st st' : List ZV} {θ θ' : ZT} {σ σ' : ZI}
theorem s_ldcw5 (hF : zFr E r p l R s m meth c) (hdg : decode r.2.2.1 pc = .ok (.ldc_w 328, 3)) (hr : r.1 = 5) (h : o_push (.inr (.inr (.inr (.inl 1117913088)))) (pc + 3) ls st θ σ = some (.inl (pc', ls', st', θ', σ'))) (k : zGo E B p l e R s m args below meth c Q pc' ls' st' θ' σ') : zGo E B p l e R s m args below meth c Q pc ls st θ σ := by
  intro μ H locs Ls cells slots hc hs O
  unfold o_push at h
  cases h
  intro T hT X
  obtain ⟨t, a, b⟩ := k μ H locs Ls cells slots hc hs (O.push trivial) T hT X
  have hown : s.vm.findClass RX5 = some m.cls := by have := hF.own; rw [hr] at this; exact this
  obtain ⟨k1, cf, hk, hcf, hcp⟩ := Cond.constantFloat_spec hown (hF.w (A := args) zw_f5 rfl)
  obtain ⟨k', hk', he⟩ := X.warmed.alike.2.2 _ _ hk
  have hdg2 : decode c.code pc = .ok (.ldc_w 328, 3) := by rw [hF.bc]; exact hdg
  refine ⟨t, ?_, b⟩
  have hex := hF.ex
  jvm_step X.here [hex, hdg2, ldc_w.wp_float (s := T) (f := F0 m pc Ls (st.map (cv μ))) X.here.top hk' (by rw [he]; exact hcf) hcp]
  exact a
theorem s_ldcw6 (hF : zFr E r p l R s m meth c) (hdg : decode r.2.2.1 pc = .ok (.ldc_w 241, 3)) (hr : r.1 = 6) (h : o_push (.inr (.inr (.inr (.inl 1117913088)))) (pc + 3) ls st θ σ = some (.inl (pc', ls', st', θ', σ'))) (k : zGo E B p l e R s m args below meth c Q pc' ls' st' θ' σ') : zGo E B p l e R s m args below meth c Q pc ls st θ σ := by
  intro μ H locs Ls cells slots hc hs O
  unfold o_push at h
  cases h
  intro T hT X
  obtain ⟨t, a, b⟩ := k μ H locs Ls cells slots hc hs (O.push trivial) T hT X
  have hown : s.vm.findClass RX6 = some m.cls := by have := hF.own; rw [hr] at this; exact this
  obtain ⟨k1, cf, hk, hcf, hcp⟩ := Cond.constantFloat_spec hown (hF.w (A := args) zw_f6 rfl)
  obtain ⟨k', hk', he⟩ := X.warmed.alike.2.2 _ _ hk
  have hdg2 : decode c.code pc = .ok (.ldc_w 241, 3) := by rw [hF.bc]; exact hdg
  refine ⟨t, ?_, b⟩
  have hex := hF.ex
  jvm_step X.here [hex, hdg2, ldc_w.wp_float (s := T) (f := F0 m pc Ls (st.map (cv μ))) X.here.top hk' (by rw [he]; exact hcf) hcp]
  exact a
theorem zgo_t {off : Int} {t : Int} (h : zgo pc off = some t) : (pc : Int) + off = (t.toNat : Int) := by
  unfold zgo at h
  split at h
  next hp => cases h; omega
  next => cases h
theorem zni_e {x : ZN} {z : Nat × (ZL × (List ZV × (ZT × ZI)))} (h : zoe θ x) : ¬ x = some (.inl z) := fun e => by subst e; exact h
theorem zni_c {x : ZN} {z : Nat × (ZL × (List ZV × (ZT × ZI)))} (h : zoc x) : ¬ x = some (.inl z) := fun e => by subst e; exact h
theorem zckK_all : ∀ c : Nat, (zFT c).all (fun e => decide (e.2.2.2.2.1 < 3)) = true
  | 0 => by decide +kernel
  | 1 => by decide +kernel
  | 2 => by decide +kernel
  | 3 => by decide +kernel
  | 4 => by decide +kernel
  | 5 => by decide +kernel
  | 6 => by decide +kernel
  | 7 => by decide +kernel
  | 8 => by decide +kernel
  | 9 => by decide +kernel
  | 10 => by decide +kernel
  | _ + 11 => rfl
theorem zknd_0 {i mo ci k0 knd fin pl : Nat} (h : zlk i (zFT r.1) = some (mo, ci, k0, knd, fin, pl)) (hm : mo < 2) (h2 : ¬ knd = 2) (h1 : ¬ knd = 1) : knd = 0 := by
  have h3 := zall_in (zckK_all r.1) (zlk_in h)
  have h4 : knd < 3 := of_decide_eq_true h3
  omega
theorem zcls {ig : Instr} {len : Nat} {d : Nat × List Int} (hl : zil ig = 0 ∨ len = zil ig) (hz : zresI r pc ig = some d) : zcl d ls st θ σ := by
  cases ig with
  | aaload =>
    have e9 : len = 1 := hl.resolve_left (fun z => nomatch (show (1 : Nat) = 0 from z))
    subst e9
    have e8 : some ((53 : Nat), [((pc + 1 : Nat) : Int)]) = some d := hz
    cases e8
    exact Or.inr (Or.inr mn_aald)
  | aastore =>
    have e9 : len = 1 := hl.resolve_left (fun z => nomatch (show (1 : Nat) = 0 from z))
    subst e9
    have e8 : some ((58 : Nat), [((pc + 1 : Nat) : Int)]) = some d := hz
    cases e8
    exact Or.inr (Or.inr mn_aast)
  | aconst_null =>
    have e9 : len = 1 := hl.resolve_left (fun z => nomatch (show (1 : Nat) = 0 from z))
    subst e9
    have e8 : some ((5 : Nat), [((pc + 1 : Nat) : Int)]) = some d := hz
    cases e8
    exact Or.inr (Or.inr mn_push)
  | aload a0 =>
    have e9 : len = 2 := hl.resolve_left (fun z => nomatch (show (2 : Nat) = 0 from z))
    subst e9
    have e8 : some ((2 : Nat), [(a0 : Int), ((pc + 2 : Nat) : Int)]) = some d := hz
    cases e8
    exact Or.inr (Or.inr mn_aload)
  | aload_n a0 =>
    have e9 : len = 1 := hl.resolve_left (fun z => nomatch (show (1 : Nat) = 0 from z))
    subst e9
    have e8 : some ((2 : Nat), [((a0.val : Nat) : Int), ((pc + 1 : Nat) : Int)]) = some d := hz
    cases e8
    exact Or.inr (Or.inr mn_aload)
  | anewarray a0 =>
    have e9 : len = 3 := hl.resolve_left (fun z => nomatch (show (3 : Nat) = 0 from z))
    subst e9
    have h9 : (match zlk a0 (zNT r.1) with | some (0, 3, _) => some ((60 : Nat), [14, ((pc + 3 : Nat) : Int)]) | some (0, 2, _) => some (60, [15, ((pc + 3 : Nat) : Int)]) | _ => none) = some d := hz
    split at h9
    next pl hzl => cases h9; exact Or.inr (Or.inr mn_newa)
    next pl hzl => cases h9; exact Or.inr (Or.inr mn_newa)
    next => cases h9
  | areturn =>
    have h9 : (if zrt r.2.2.2.2.1 = 7 then some ((40 : Nat), ([] : List Int)) else none) = some d := hz
    split at h9
    next => cases h9; exact Or.inr (Or.inl ⟨mn_aret (ls := ls), by simp⟩)
    next => cases h9
  | arraylength =>
    have e9 : len = 1 := hl.resolve_left (fun z => nomatch (show (1 : Nat) = 0 from z))
    subst e9
    have e8 : some ((59 : Nat), [((pc + 1 : Nat) : Int)]) = some d := hz
    cases e8
    exact Or.inr (Or.inr mn_alen)
  | astore a0 =>
    have e9 : len = 2 := hl.resolve_left (fun z => nomatch (show (2 : Nat) = 0 from z))
    subst e9
    have e8 : some ((8 : Nat), [(a0 : Int), ((pc + 2 : Nat) : Int)]) = some d := hz
    cases e8
    exact Or.inr (Or.inr mn_astore)
  | astore_n a0 =>
    have e9 : len = 1 := hl.resolve_left (fun z => nomatch (show (1 : Nat) = 0 from z))
    subst e9
    have e8 : some ((8 : Nat), [((a0.val : Nat) : Int), ((pc + 1 : Nat) : Int)]) = some d := hz
    cases e8
    exact Or.inr (Or.inr mn_astore)
  | athrow => exact nomatch (show (none : Option (Nat × List Int)) = some d from hz)
  | baload =>
    have e9 : len = 1 := hl.resolve_left (fun z => nomatch (show (1 : Nat) = 0 from z))
    subst e9
    have e8 : some ((50 : Nat), [((pc + 1 : Nat) : Int)]) = some d := hz
    cases e8
    exact Or.inr (Or.inr mn_bald)
  | bastore =>
    have e9 : len = 1 := hl.resolve_left (fun z => nomatch (show (1 : Nat) = 0 from z))
    subst e9
    have e8 : some ((55 : Nat), [((pc + 1 : Nat) : Int)]) = some d := hz
    cases e8
    exact Or.inr (Or.inr mn_bast)
  | bipush a0 =>
    have e9 : len = 2 := hl.resolve_left (fun z => nomatch (show (2 : Nat) = 0 from z))
    subst e9
    have h9 : (if -128 ≤ a0 ∧ a0 < 128 then some ((4 : Nat), [a0, ((pc + 2 : Nat) : Int)]) else none) = some d := hz
    split at h9
    next hv => cases h9; exact Or.inr (Or.inr mn_push)
    next => cases h9
  | caload =>
    have e9 : len = 1 := hl.resolve_left (fun z => nomatch (show (1 : Nat) = 0 from z))
    subst e9
    have e8 : some ((51 : Nat), [((pc + 1 : Nat) : Int)]) = some d := hz
    cases e8
    exact Or.inr (Or.inr mn_cald)
  | castore =>
    have e9 : len = 1 := hl.resolve_left (fun z => nomatch (show (1 : Nat) = 0 from z))
    subst e9
    have e8 : some ((56 : Nat), [((pc + 1 : Nat) : Int)]) = some d := hz
    cases e8
    exact Or.inr (Or.inr mn_cast)
  | checkcast _ => exact nomatch (show (none : Option (Nat × List Int)) = some d from hz)
  | d2f => exact nomatch (show (none : Option (Nat × List Int)) = some d from hz)
  | d2i => exact nomatch (show (none : Option (Nat × List Int)) = some d from hz)
  | d2l => exact nomatch (show (none : Option (Nat × List Int)) = some d from hz)
  | dadd => exact nomatch (show (none : Option (Nat × List Int)) = some d from hz)
  | daload => exact nomatch (show (none : Option (Nat × List Int)) = some d from hz)
  | dastore => exact nomatch (show (none : Option (Nat × List Int)) = some d from hz)
  | dcmp a0 =>
    cases a0 with
    | g => exact nomatch (show (none : Option (Nat × List Int)) = some d from hz)
    | l =>
      have e9 : len = 1 := hl.resolve_left (fun z => nomatch (show (1 : Nat) = 0 from z))
      subst e9
      have e8 : some ((26 : Nat), [((pc + 1 : Nat) : Int)]) = some d := hz
      cases e8
      exact Or.inr (Or.inr mn_dcmp)
  | dconst _ => exact nomatch (show (none : Option (Nat × List Int)) = some d from hz)
  | ddiv =>
    have e9 : len = 1 := hl.resolve_left (fun z => nomatch (show (1 : Nat) = 0 from z))
    subst e9
    have e8 : some ((25 : Nat), [((pc + 1 : Nat) : Int)]) = some d := hz
    cases e8
    exact Or.inr (Or.inr mn_ddiv)
  | dload a0 =>
    have e9 : len = 2 := hl.resolve_left (fun z => nomatch (show (2 : Nat) = 0 from z))
    subst e9
    have e8 : some ((3 : Nat), [(a0 : Int), ((pc + 2 : Nat) : Int)]) = some d := hz
    cases e8
    exact Or.inr (Or.inr mn_dload)
  | dload_n _ => exact nomatch (show (none : Option (Nat × List Int)) = some d from hz)
  | dmul => exact nomatch (show (none : Option (Nat × List Int)) = some d from hz)
  | dneg => exact nomatch (show (none : Option (Nat × List Int)) = some d from hz)
  | drem => exact nomatch (show (none : Option (Nat × List Int)) = some d from hz)
  | dreturn =>
    have h9 : (if zrt r.2.2.2.2.1 = 6 then some ((43 : Nat), ([] : List Int)) else none) = some d := hz
    split at h9
    next => cases h9; exact Or.inr (Or.inl ⟨mn_dret (ls := ls), by simp⟩)
    next => cases h9
  | dstore a0 =>
    have e9 : len = 2 := hl.resolve_left (fun z => nomatch (show (2 : Nat) = 0 from z))
    subst e9
    have e8 : some ((9 : Nat), [(a0 : Int), ((pc + 2 : Nat) : Int)]) = some d := hz
    cases e8
    exact Or.inr (Or.inr mn_dstore)
  | dstore_n _ => exact nomatch (show (none : Option (Nat × List Int)) = some d from hz)
  | dsub => exact nomatch (show (none : Option (Nat × List Int)) = some d from hz)
  | dup =>
    have e9 : len = 1 := hl.resolve_left (fun z => nomatch (show (1 : Nat) = 0 from z))
    subst e9
    have e8 : some ((31 : Nat), [((pc + 1 : Nat) : Int)]) = some d := hz
    cases e8
    exact Or.inr (Or.inr mn_dup)
  | dup_x1 => exact nomatch (show (none : Option (Nat × List Int)) = some d from hz)
  | dup_x2 => exact nomatch (show (none : Option (Nat × List Int)) = some d from hz)
  | dup2 =>
    have e9 : len = 1 := hl.resolve_left (fun z => nomatch (show (1 : Nat) = 0 from z))
    subst e9
    have e8 : some ((32 : Nat), [((pc + 1 : Nat) : Int)]) = some d := hz
    cases e8
    exact Or.inr (Or.inr mn_dup2)
  | dup2_x1 => exact nomatch (show (none : Option (Nat × List Int)) = some d from hz)
  | dup2_x2 => exact nomatch (show (none : Option (Nat × List Int)) = some d from hz)
  | f2d =>
    have e9 : len = 1 := hl.resolve_left (fun z => nomatch (show (1 : Nat) = 0 from z))
    subst e9
    have e8 : some ((23 : Nat), [((pc + 1 : Nat) : Int)]) = some d := hz
    cases e8
    exact Or.inr (Or.inr mn_f2d)
  | f2i => exact nomatch (show (none : Option (Nat × List Int)) = some d from hz)
  | f2l => exact nomatch (show (none : Option (Nat × List Int)) = some d from hz)
  | fadd => exact nomatch (show (none : Option (Nat × List Int)) = some d from hz)
  | faload => exact nomatch (show (none : Option (Nat × List Int)) = some d from hz)
  | fastore => exact nomatch (show (none : Option (Nat × List Int)) = some d from hz)
  | fcmp _ => exact nomatch (show (none : Option (Nat × List Int)) = some d from hz)
  | fconst _ => exact nomatch (show (none : Option (Nat × List Int)) = some d from hz)
  | fdiv =>
    have e9 : len = 1 := hl.resolve_left (fun z => nomatch (show (1 : Nat) = 0 from z))
    subst e9
    have e8 : some ((24 : Nat), [((pc + 1 : Nat) : Int)]) = some d := hz
    cases e8
    exact Or.inr (Or.inr mn_fdiv)
  | fload _ => exact nomatch (show (none : Option (Nat × List Int)) = some d from hz)
  | fload_n _ => exact nomatch (show (none : Option (Nat × List Int)) = some d from hz)
  | fmul => exact nomatch (show (none : Option (Nat × List Int)) = some d from hz)
  | fneg => exact nomatch (show (none : Option (Nat × List Int)) = some d from hz)
  | frem => exact nomatch (show (none : Option (Nat × List Int)) = some d from hz)
  | freturn =>
    have h9 : (if zrt r.2.2.2.2.1 = 5 then some ((42 : Nat), ([] : List Int)) else none) = some d := hz
    split at h9
    next => cases h9; exact Or.inr (Or.inl ⟨mn_fret (ls := ls), by simp⟩)
    next => cases h9
  | fstore _ => exact nomatch (show (none : Option (Nat × List Int)) = some d from hz)
  | fstore_n _ => exact nomatch (show (none : Option (Nat × List Int)) = some d from hz)
  | fsub => exact nomatch (show (none : Option (Nat × List Int)) = some d from hz)
  | getfield a0 =>
    have e9 : len = 3 := hl.resolve_left (fun z => nomatch (show (3 : Nat) = 0 from z))
    subst e9
    have h9 : (match zlk a0 (zFT r.1) with | some (mode, ci, k, knd, _, _) => if mode < 2 then (if knd = 2 then some ((45 : Nat), [(ci : Int), (k : Int), ((pc + 3 : Nat) : Int)]) else some (44, [(ci : Int), (k : Int), ((pc + 3 : Nat) : Int)])) else if mode = 2 then some (71, [((pc + 3 : Nat) : Int)]) else if mode = 3 then some (72, [((pc + 3 : Nat) : Int)]) else none | none => none) = some d := hz
    split at h9
    next mo ci k0 knd fin pl hzl =>
      split at h9
      next hm =>
        split at h9
        next hk => cases h9; exact Or.inr (Or.inr mn_getR)
        next hk => cases h9; exact Or.inr (Or.inr mn_getI)
      next =>
        split at h9
        next hm => subst hm; cases h9; exact Or.inr (Or.inr mn_sval)
        next =>
          split at h9
          next hm => subst hm; cases h9; exact Or.inr (Or.inr mn_scod)
          next => cases h9
    next => cases h9
  | getstatic a0 =>
    have e9 : len = 3 := hl.resolve_left (fun z => nomatch (show (3 : Nat) = 0 from z))
    subst e9
    have h9 : (match zlk a0 (zFT r.1) with | some (4, _, _, _, _, _) => some ((70 : Nat), [((pc + 3 : Nat) : Int)]) | _ => none) = some d := hz
    split at h9
    next ci k0 knd fin pl hzl => cases h9; exact Or.inr (Or.inr mn_push)
    next => cases h9
  | goto a0 =>
    have e9 : len = 3 := hl.resolve_left (fun z => nomatch (show (3 : Nat) = 0 from z))
    subst e9
    have h9 : (match zgo pc a0 with | some t => some ((33 : Nat), [t]) | none => none) = some d := hz
    split at h9
    next t ht => cases h9; exact Or.inr (Or.inr mn_goto)
    next => cases h9
  | goto_w _ => exact nomatch (show (none : Option (Nat × List Int)) = some d from hz)
  | i2b => exact nomatch (show (none : Option (Nat × List Int)) = some d from hz)
  | i2c =>
    have e9 : len = 1 := hl.resolve_left (fun z => nomatch (show (1 : Nat) = 0 from z))
    subst e9
    have e8 : some ((20 : Nat), [((pc + 1 : Nat) : Int)]) = some d := hz
    cases e8
    exact Or.inr (Or.inr mn_i2c)
  | i2d =>
    have e9 : len = 1 := hl.resolve_left (fun z => nomatch (show (1 : Nat) = 0 from z))
    subst e9
    have e8 : some ((22 : Nat), [((pc + 1 : Nat) : Int)]) = some d := hz
    cases e8
    exact Or.inr (Or.inr mn_i2d)
  | i2f =>
    have e9 : len = 1 := hl.resolve_left (fun z => nomatch (show (1 : Nat) = 0 from z))
    subst e9
    have e8 : some ((21 : Nat), [((pc + 1 : Nat) : Int)]) = some d := hz
    cases e8
    exact Or.inr (Or.inr mn_i2f)
  | i2l =>
    have e9 : len = 1 := hl.resolve_left (fun z => nomatch (show (1 : Nat) = 0 from z))
    subst e9
    have e8 : some ((19 : Nat), [((pc + 1 : Nat) : Int)]) = some d := hz
    cases e8
    exact Or.inr (Or.inr mn_i2l)
  | i2s => exact nomatch (show (none : Option (Nat × List Int)) = some d from hz)
  | iadd =>
    have e9 : len = 1 := hl.resolve_left (fun z => nomatch (show (1 : Nat) = 0 from z))
    subst e9
    have e8 : some ((11 : Nat), [((pc + 1 : Nat) : Int)]) = some d := hz
    cases e8
    exact Or.inr (Or.inr mn_bin)
  | iaload =>
    have e9 : len = 1 := hl.resolve_left (fun z => nomatch (show (1 : Nat) = 0 from z))
    subst e9
    have e8 : some ((49 : Nat), [((pc + 1 : Nat) : Int)]) = some d := hz
    cases e8
    exact Or.inr (Or.inr mn_iald)
  | iand =>
    have e9 : len = 1 := hl.resolve_left (fun z => nomatch (show (1 : Nat) = 0 from z))
    subst e9
    have e8 : some ((16 : Nat), [((pc + 1 : Nat) : Int)]) = some d := hz
    cases e8
    exact Or.inr (Or.inr mn_bin)
  | iastore =>
    have e9 : len = 1 := hl.resolve_left (fun z => nomatch (show (1 : Nat) = 0 from z))
    subst e9
    have e8 : some ((54 : Nat), [((pc + 1 : Nat) : Int)]) = some d := hz
    cases e8
    exact Or.inr (Or.inr mn_iast)
  | iconst a0 =>
    have e9 : len = 1 := hl.resolve_left (fun z => nomatch (show (1 : Nat) = 0 from z))
    subst e9
    have h9 : (if -128 ≤ a0 ∧ a0 < 128 then some ((4 : Nat), [a0, ((pc + 1 : Nat) : Int)]) else none) = some d := hz
    split at h9
    next hv => cases h9; exact Or.inr (Or.inr mn_push)
    next => cases h9
  | idiv =>
    have e9 : len = 1 := hl.resolve_left (fun z => nomatch (show (1 : Nat) = 0 from z))
    subst e9
    have e8 : some ((14 : Nat), [((pc + 1 : Nat) : Int)]) = some d := hz
    cases e8
    exact Or.inr (Or.inr mn_div)
  | if_acmp _ _ => exact nomatch (show (none : Option (Nat × List Int)) = some d from hz)
  | if_icmp a0 a1 =>
    have e9 : len = 3 := hl.resolve_left (fun z => nomatch (show (3 : Nat) = 0 from z))
    subst e9
    have h9 : (match zgo pc a1 with | some t => some ((35 : Nat), [(match (generalizing := false) a0 with | .eq => 0 | .ne => 1 | .lt => 2 | .ge => 3 | .gt => 4 | .le => 5), t, ((pc + 3 : Nat) : Int)]) | none => none) = some d := hz
    split at h9
    next t ht =>
      cases h9
      cases a0 with
      | eq => exact Or.inr (Or.inr mn_ceq)
      | ne => exact Or.inr (Or.inr mn_cne)
      | lt => exact Or.inr (Or.inr mn_clt)
      | ge => exact Or.inr (Or.inr mn_cge)
      | gt => exact Or.inr (Or.inr mn_cgt)
      | le => exact Or.inr (Or.inr mn_cle)
    next => cases h9
  | ifCond a0 a1 =>
    have e9 : len = 3 := hl.resolve_left (fun z => nomatch (show (3 : Nat) = 0 from z))
    subst e9
    have h9 : (match zgo pc a1 with | some t => some ((34 : Nat), [(match (generalizing := false) a0 with | .eq => 0 | .ne => 1 | .lt => 2 | .ge => 3 | .gt => 4 | .le => 5), t, ((pc + 3 : Nat) : Int)]) | none => none) = some d := hz
    split at h9
    next t ht =>
      cases h9
      cases a0 with
      | eq => exact Or.inr (Or.inr mn_ifeq)
      | ne => exact Or.inr (Or.inr mn_ifne)
      | lt => exact Or.inr (Or.inr mn_iflt)
      | ge => exact Or.inr (Or.inr mn_ifge)
      | gt => exact Or.inr (Or.inr mn_ifgt)
      | le => exact Or.inr (Or.inr mn_ifle)
    next => cases h9
  | ifnonnull a0 =>
    have e9 : len = 3 := hl.resolve_left (fun z => nomatch (show (3 : Nat) = 0 from z))
    subst e9
    have h9 : (match zgo pc a0 with | some t => some ((37 : Nat), [t, ((pc + 3 : Nat) : Int)]) | none => none) = some d := hz
    split at h9
    next t ht => cases h9; exact Or.inr (Or.inr mn_ifnonnull)
    next => cases h9
  | ifnull a0 =>
    have e9 : len = 3 := hl.resolve_left (fun z => nomatch (show (3 : Nat) = 0 from z))
    subst e9
    have h9 : (match zgo pc a0 with | some t => some ((36 : Nat), [t, ((pc + 3 : Nat) : Int)]) | none => none) = some d := hz
    split at h9
    next t ht => cases h9; exact Or.inr (Or.inr mn_ifnull)
    next => cases h9
  | iinc a0 a1 =>
    have e9 : len = 3 := hl.resolve_left (fun z => nomatch (show (3 : Nat) = 0 from z))
    subst e9
    have e8 : some ((10 : Nat), [(a0 : Int), a1, ((pc + 3 : Nat) : Int)]) = some d := hz
    cases e8
    exact Or.inr (Or.inr mn_iinc)
  | iload a0 =>
    have e9 : len = 2 := hl.resolve_left (fun z => nomatch (show (2 : Nat) = 0 from z))
    subst e9
    have e8 : some ((1 : Nat), [(a0 : Int), ((pc + 2 : Nat) : Int)]) = some d := hz
    cases e8
    exact Or.inr (Or.inr mn_iload)
  | iload_n a0 =>
    have e9 : len = 1 := hl.resolve_left (fun z => nomatch (show (1 : Nat) = 0 from z))
    subst e9
    have e8 : some ((1 : Nat), [((a0.val : Nat) : Int), ((pc + 1 : Nat) : Int)]) = some d := hz
    cases e8
    exact Or.inr (Or.inr mn_iload)
  | imul =>
    have e9 : len = 1 := hl.resolve_left (fun z => nomatch (show (1 : Nat) = 0 from z))
    subst e9
    have e8 : some ((13 : Nat), [((pc + 1 : Nat) : Int)]) = some d := hz
    cases e8
    exact Or.inr (Or.inr mn_bin)
  | ineg => exact nomatch (show (none : Option (Nat × List Int)) = some d from hz)
  | instanceof _ => exact nomatch (show (none : Option (Nat × List Int)) = some d from hz)
  | invokedynamic _ => exact nomatch (show (none : Option (Nat × List Int)) = some d from hz)
  | invokeinterface _ _ => exact nomatch (show (none : Option (Nat × List Int)) = some d from hz)
  | invokespecial a0 =>
    have e9 : len = 3 := hl.resolve_left (fun z => nomatch (show (3 : Nat) = 0 from z))
    subst e9
    have h9 : (match zlk a0 (zCT r.1) with | some (9, _, _) => if 1 ≤ r.2.2.2.2.2.2.1 ∧ 12 ≤ r.2.2.2.2.2.2.2.1 then some ((68 : Nat), [((pc + 3 : Nat) : Int)]) else none | some (m, mj, _) => if (m = 2 ∨ m = 4) ∧ zmN mj = 0 ∧ zmF mj + 1 ≤ r.2.2.2.2.2.2.1 ∧ 8 + (zmL mj + 11) + zmW mj ≤ r.2.2.2.2.2.2.2.1 then some (65, [(mj : Int), ((pc + 3 : Nat) : Int)]) else none | none => none) = some d := hz
    split at h9
    next mj pl hzl =>
      split at h9
      next hv => cases h9; exact Or.inr (Or.inr mn_oini)
      next => cases h9
    next =>
      split at h9
      next => cases h9; exact Or.inl ⟨mn_callI (ls := ls) (θ := θ) (σ := σ), by simp⟩
      next => cases h9
    next => cases h9
  | invokestatic a0 =>
    have e9 : len = 3 := hl.resolve_left (fun z => nomatch (show (3 : Nat) = 0 from z))
    subst e9
    have h9 : (match zlk a0 (zCT r.1) with | some (7, _, _) => if 1 ≤ r.2.2.2.2.2.2.1 ∧ 18 ≤ r.2.2.2.2.2.2.2.1 then some ((66 : Nat), [((pc + 3 : Nat) : Int)]) else none | some (8, _, _) => if 3 ≤ r.2.2.2.2.2.2.1 ∧ 63 ≤ r.2.2.2.2.2.2.2.1 then some (67, [((pc + 3 : Nat) : Int)]) else none | some (m, mj, _) => if (m = 1 ∨ m = 3 ∨ m = 5) ∧ zmF mj + 1 ≤ r.2.2.2.2.2.2.1 ∧ 8 + (zmL mj + 11) + zmW mj ≤ r.2.2.2.2.2.2.2.1 then some (64, [(mj : Int), (zmN mj : Int), ((pc + 3 : Nat) : Int)]) else none | none => none) = some d := hz
    split at h9
    next mj pl hzl =>
      split at h9
      next hv => cases h9; exact Or.inr (Or.inr mn_acopy)
      next => cases h9
    next mj pl hzl =>
      split at h9
      next hv => cases h9; exact Or.inr (Or.inr mn_chk)
      next => cases h9
    next =>
      split at h9
      next => cases h9; exact Or.inl ⟨mn_callS (ls := ls) (θ := θ) (σ := σ), by simp⟩
      next => cases h9
    next => cases h9
  | invokevirtual a0 =>
    have h9 : (match zlk a0 (zCT r.1) with | some (0, mj, _) => if zmF mj + 1 ≤ r.2.2.2.2.2.2.1 ∧ 8 + (zmL mj + 11) + zmW mj ≤ r.2.2.2.2.2.2.2.1 then some ((63 : Nat), [(mj : Int), ((if zmC mj = 9 then 21 else zmC mj : Nat) : Int), (zmN mj : Int), ((pc + 3 : Nat) : Int)]) else none | _ => none) = some d := hz
    split at h9
    next =>
      split at h9
      next => cases h9; exact Or.inl ⟨mn_callV (ls := ls) (θ := θ) (σ := σ), by simp⟩
      next => cases h9
    next => cases h9
  | ior => exact nomatch (show (none : Option (Nat × List Int)) = some d from hz)
  | irem =>
    have e9 : len = 1 := hl.resolve_left (fun z => nomatch (show (1 : Nat) = 0 from z))
    subst e9
    have e8 : some ((15 : Nat), [((pc + 1 : Nat) : Int)]) = some d := hz
    cases e8
    exact Or.inr (Or.inr mn_rem)
  | ireturn =>
    have h9 : (if zrt r.2.2.2.2.1 < 4 then some ((39 : Nat), [((zrt r.2.2.2.2.1 : Nat) : Int)]) else none) = some d := hz
    split at h9
    next => cases h9; exact Or.inr (Or.inl ⟨mn_iret (ls := ls), by simp⟩)
    next => cases h9
  | ishl => exact nomatch (show (none : Option (Nat × List Int)) = some d from hz)
  | ishr =>
    have e9 : len = 1 := hl.resolve_left (fun z => nomatch (show (1 : Nat) = 0 from z))
    subst e9
    have e8 : some ((18 : Nat), [((pc + 1 : Nat) : Int)]) = some d := hz
    cases e8
    exact Or.inr (Or.inr mn_bin)
  | istore a0 =>
    have e9 : len = 2 := hl.resolve_left (fun z => nomatch (show (2 : Nat) = 0 from z))
    subst e9
    have e8 : some ((7 : Nat), [(a0 : Int), ((pc + 2 : Nat) : Int)]) = some d := hz
    cases e8
    exact Or.inr (Or.inr mn_istore)
  | istore_n a0 =>
    have e9 : len = 1 := hl.resolve_left (fun z => nomatch (show (1 : Nat) = 0 from z))
    subst e9
    have e8 : some ((7 : Nat), [((a0.val : Nat) : Int), ((pc + 1 : Nat) : Int)]) = some d := hz
    cases e8
    exact Or.inr (Or.inr mn_istore)
  | isub =>
    have e9 : len = 1 := hl.resolve_left (fun z => nomatch (show (1 : Nat) = 0 from z))
    subst e9
    have e8 : some ((12 : Nat), [((pc + 1 : Nat) : Int)]) = some d := hz
    cases e8
    exact Or.inr (Or.inr mn_bin)
  | iushr => exact nomatch (show (none : Option (Nat × List Int)) = some d from hz)
  | ixor =>
    have e9 : len = 1 := hl.resolve_left (fun z => nomatch (show (1 : Nat) = 0 from z))
    subst e9
    have e8 : some ((17 : Nat), [((pc + 1 : Nat) : Int)]) = some d := hz
    cases e8
    exact Or.inr (Or.inr mn_bin)
  | jsr _ => exact nomatch (show (none : Option (Nat × List Int)) = some d from hz)
  | jsr_w _ => exact nomatch (show (none : Option (Nat × List Int)) = some d from hz)
  | l2d => exact nomatch (show (none : Option (Nat × List Int)) = some d from hz)
  | l2f => exact nomatch (show (none : Option (Nat × List Int)) = some d from hz)
  | l2i => exact nomatch (show (none : Option (Nat × List Int)) = some d from hz)
  | ladd => exact nomatch (show (none : Option (Nat × List Int)) = some d from hz)
  | laload =>
    have e9 : len = 1 := hl.resolve_left (fun z => nomatch (show (1 : Nat) = 0 from z))
    subst e9
    have e8 : some ((52 : Nat), [((pc + 1 : Nat) : Int)]) = some d := hz
    cases e8
    exact Or.inr (Or.inr mn_lald)
  | land => exact nomatch (show (none : Option (Nat × List Int)) = some d from hz)
  | lastore =>
    have e9 : len = 1 := hl.resolve_left (fun z => nomatch (show (1 : Nat) = 0 from z))
    subst e9
    have e8 : some ((57 : Nat), [((pc + 1 : Nat) : Int)]) = some d := hz
    cases e8
    exact Or.inr (Or.inr mn_last)
  | lcmp =>
    have e9 : len = 1 := hl.resolve_left (fun z => nomatch (show (1 : Nat) = 0 from z))
    subst e9
    have e8 : some ((27 : Nat), [((pc + 1 : Nat) : Int)]) = some d := hz
    cases e8
    exact Or.inr (Or.inr mn_lcmp)
  | lconst a0 =>
    have e9 : len = 1 := hl.resolve_left (fun z => nomatch (show (1 : Nat) = 0 from z))
    subst e9
    have e8 : some ((6 : Nat), [((a0.val : Nat) : Int), ((pc + 1 : Nat) : Int)]) = some d := hz
    cases e8
    exact Or.inr (Or.inr mn_push)
  | ldc a0 =>
    have e9 : len = 2 := hl.resolve_left (fun z => nomatch (show (2 : Nat) = 0 from z))
    subst e9
    have h9 : (if (r.1 = 5 ∧ a0 = 328) ∨ (r.1 = 6 ∧ a0 = 241) then some ((28 : Nat), [((pc + 2 : Nat) : Int)]) else if r.1 = 6 ∧ a0 = 13 then some (4, [49616, ((pc + 2 : Nat) : Int)]) else if r.1 = 6 ∧ a0 = 62 then some (4, [43414, ((pc + 2 : Nat) : Int)]) else match zlk a0 (zSTt r.1) with | some j => some (69, [(j : Int), ((pc + 2 : Nat) : Int)]) | none => none) = some d := hz
    split at h9
    next hv =>
      cases h9
      rcases hv with ⟨h5, rfl⟩ | ⟨h5, rfl⟩
      · exact Or.inr (Or.inr mn_push)
      · exact Or.inr (Or.inr mn_push)
    next =>
      split at h9
      next hv => cases h9; obtain ⟨h5, rfl⟩ := hv; exact Or.inr (Or.inr mn_push)
      next =>
        split at h9
        next hv => cases h9; obtain ⟨h5, rfl⟩ := hv; exact Or.inr (Or.inr mn_push)
        next =>
          split at h9
          next j hj => cases h9; exact Or.inr (Or.inr mn_push)
          next => cases h9
  | ldc_w a0 =>
    have e9 : len = 3 := hl.resolve_left (fun z => nomatch (show (3 : Nat) = 0 from z))
    subst e9
    have h9 : (if (r.1 = 5 ∧ a0 = 328) ∨ (r.1 = 6 ∧ a0 = 241) then some ((28 : Nat), [((pc + 3 : Nat) : Int)]) else none) = some d := hz
    split at h9
    next hv =>
      cases h9
      rcases hv with ⟨h5, rfl⟩ | ⟨h5, rfl⟩
      · exact Or.inr (Or.inr mn_push)
      · exact Or.inr (Or.inr mn_push)
    next => cases h9
  | ldc2_w a0 =>
    have e9 : len = 3 := hl.resolve_left (fun z => nomatch (show (3 : Nat) = 0 from z))
    subst e9
    have h9 : (if (r.1 = 5 ∧ a0 = 326) ∨ (r.1 = 6 ∧ a0 = 239) then some ((29 : Nat), [((pc + 3 : Nat) : Int)]) else none) = some d := hz
    split at h9
    next hv =>
      cases h9
      rcases hv with ⟨h5, rfl⟩ | ⟨h5, rfl⟩
      · exact Or.inr (Or.inr mn_push)
      · exact Or.inr (Or.inr mn_push)
    next => cases h9
  | ldiv => exact nomatch (show (none : Option (Nat × List Int)) = some d from hz)
  | lload _ => exact nomatch (show (none : Option (Nat × List Int)) = some d from hz)
  | lload_n _ => exact nomatch (show (none : Option (Nat × List Int)) = some d from hz)
  | lmul => exact nomatch (show (none : Option (Nat × List Int)) = some d from hz)
  | lneg => exact nomatch (show (none : Option (Nat × List Int)) = some d from hz)
  | lookupswitch a0 a1 =>
    have h9 : (match zgo pc a0 with | some t => if (a1.toList.zip (a1.toList.drop 1)).all (fun (a, next) => a.1 < next.1) = true ∧ zall (zlkp pc a1.toList) = true then some ((38 : Nat), t :: zlkp pc a1.toList) else none | none => none) = some d := hz
    split at h9
    next t ht =>
      split at h9
      next hv => cases h9; exact Or.inr (Or.inr mn_switch)
      next => cases h9
    next => cases h9
  | lor => exact nomatch (show (none : Option (Nat × List Int)) = some d from hz)
  | lrem => exact nomatch (show (none : Option (Nat × List Int)) = some d from hz)
  | lreturn => exact nomatch (show (none : Option (Nat × List Int)) = some d from hz)
  | lshl => exact nomatch (show (none : Option (Nat × List Int)) = some d from hz)
  | lshr => exact nomatch (show (none : Option (Nat × List Int)) = some d from hz)
  | lstore _ => exact nomatch (show (none : Option (Nat × List Int)) = some d from hz)
  | lstore_n _ => exact nomatch (show (none : Option (Nat × List Int)) = some d from hz)
  | lsub => exact nomatch (show (none : Option (Nat × List Int)) = some d from hz)
  | lushr => exact nomatch (show (none : Option (Nat × List Int)) = some d from hz)
  | lxor => exact nomatch (show (none : Option (Nat × List Int)) = some d from hz)
  | monitorenter => exact nomatch (show (none : Option (Nat × List Int)) = some d from hz)
  | monitorexit => exact nomatch (show (none : Option (Nat × List Int)) = some d from hz)
  | multianewarray _ _ => exact nomatch (show (none : Option (Nat × List Int)) = some d from hz)
  | new a0 =>
    have e9 : len = 3 := hl.resolve_left (fun z => nomatch (show (3 : Nat) = 0 from z))
    subst e9
    have h9 : (match zlk a0 (zNT r.1) with | some (0, ci, _) => some ((61 : Nat), [(ci : Int), ((pc + 3 : Nat) : Int)]) | some (ic, E, _) => if r.1 = 5 ∧ zthr r.2.2.1 pc ic = true ∧ 6 ≤ r.2.2.2.2.2.2.1 ∧ 90 ≤ r.2.2.2.2.2.2.2.1 then some (62, [(E : Int)]) else none | none => none) = some d := hz
    split at h9
    next ci pl hzl => cases h9; exact Or.inr (Or.inr mn_newo)
    next =>
      split at h9
      next => cases h9; exact Or.inr (Or.inl ⟨mn_throw (ls := ls), by simp⟩)
      next => cases h9
    next => cases h9
  | newarray a0 =>
    have e9 : len = 2 := hl.resolve_left (fun z => nomatch (show (2 : Nat) = 0 from z))
    subst e9
    cases a0 with
    | int =>
      have e8 : some ((60 : Nat), [10, ((pc + 2 : Nat) : Int)]) = some d := hz
      cases e8
      exact Or.inr (Or.inr mn_newa)
    | boolean =>
      have e8 : some ((60 : Nat), [11, ((pc + 2 : Nat) : Int)]) = some d := hz
      cases e8
      exact Or.inr (Or.inr mn_newa)
    | char =>
      have e8 : some ((60 : Nat), [12, ((pc + 2 : Nat) : Int)]) = some d := hz
      cases e8
      exact Or.inr (Or.inr mn_newa)
    | long =>
      have e8 : some ((60 : Nat), [13, ((pc + 2 : Nat) : Int)]) = some d := hz
      cases e8
      exact Or.inr (Or.inr mn_newa)
    | _ => exact nomatch (show (none : Option (Nat × List Int)) = some d from hz)
  | nop => exact nomatch (show (none : Option (Nat × List Int)) = some d from hz)
  | pop =>
    have e9 : len = 1 := hl.resolve_left (fun z => nomatch (show (1 : Nat) = 0 from z))
    subst e9
    have e8 : some ((30 : Nat), [((pc + 1 : Nat) : Int)]) = some d := hz
    cases e8
    exact Or.inr (Or.inr mn_pop)
  | pop2 => exact nomatch (show (none : Option (Nat × List Int)) = some d from hz)
  | putfield a0 =>
    have e9 : len = 3 := hl.resolve_left (fun z => nomatch (show (3 : Nat) = 0 from z))
    subst e9
    have h9 : (match zlk a0 (zFT r.1) with | some (mode, ci, k, knd, fin, _) => if mode < 2 ∧ (fin = 0 ∨ (mode = 0 ∧ ci = r.1 ∧ r.2.1.name = "<init>")) then (if knd = 2 then some ((48 : Nat), [(ci : Int), (k : Int), ((pc + 3 : Nat) : Int)]) else if knd = 1 then some (47, [(ci : Int), (k : Int), ((pc + 3 : Nat) : Int)]) else some (46, [(ci : Int), (k : Int), ((pc + 3 : Nat) : Int)])) else none | none => none) = some d := hz
    split at h9
    next mo ci k0 knd fin pl hzl =>
      split at h9
      next hm =>
        split at h9
        next hk => cases h9; exact Or.inr (Or.inr mn_putR)
        next hk2 =>
          split at h9
          next hk => cases h9; exact Or.inr (Or.inr mn_putZ)
          next hk1 => cases h9; exact Or.inr (Or.inr mn_putI)
      next => cases h9
    next => cases h9
  | putstatic _ => exact nomatch (show (none : Option (Nat × List Int)) = some d from hz)
  | ret _ => exact nomatch (show (none : Option (Nat × List Int)) = some d from hz)
  | return_ =>
    have h9 : (if zrt r.2.2.2.2.1 = 4 then some ((41 : Nat), ([] : List Int)) else none) = some d := hz
    split at h9
    next => cases h9; exact Or.inr (Or.inl ⟨mn_vret (ls := ls), by simp⟩)
    next => cases h9
  | saload => exact nomatch (show (none : Option (Nat × List Int)) = some d from hz)
  | sastore => exact nomatch (show (none : Option (Nat × List Int)) = some d from hz)
  | sipush a0 =>
    have e9 : len = 3 := hl.resolve_left (fun z => nomatch (show (3 : Nat) = 0 from z))
    subst e9
    have h9 : (if -32768 ≤ a0 ∧ a0 < 32768 then some ((4 : Nat), [a0, ((pc + 3 : Nat) : Int)]) else none) = some d := hz
    split at h9
    next hv => cases h9; exact Or.inr (Or.inr mn_push)
    next => cases h9
  | swap => exact nomatch (show (none : Option (Nat × List Int)) = some d from hz)
  | tableswitch a0 a1 a2 a3 =>
    have h9 : (match zgo pc a0 with | some t => if a2 = a1 + (a3.size : Int) - 1 ∧ zall (ztb pc a1 a3.toList) = true ∧ (-2147483648 ≤ a1 ∧ a2 < 2147483648) then some ((38 : Nat), t :: ztb pc a1 a3.toList) else none | none => none) = some d := hz
    split at h9
    next t ht =>
      split at h9
      next hv => cases h9; exact Or.inr (Or.inr mn_switch)
      next => cases h9
    next => cases h9
theorem zstep {ig : Instr} {len : Nat} {d : Nat × List Int} (hF : zFr E r p l R s m meth c) (hB : B.2.2.2.2 = r.2.2.2.1) (hR : cC θ' ≤ B.2.2.1 + R.cells ∧ cS θ' ≤ B.2.2.2.1 + R.slots) (hdg : decode r.2.2.1 pc = .ok (ig, len)) (hl : zil ig = 0 ∨ len = zil ig) (hz : zresI r pc ig = some d) (hx : z_sem d ls st θ σ = some (.inl (pc', ls', st', θ', σ'))) (k : zGo E B p l e R s m args below meth c Q pc' ls' st' θ' σ') : zGo E B p l e R s m args below meth c Q pc ls st θ σ := by
  cases ig with
  | aaload =>
    have e9 : len = 1 := hl.resolve_left (fun z => nomatch (show (1 : Nat) = 0 from z))
    subst e9
    have e8 : some ((53 : Nat), [((pc + 1 : Nat) : Int)]) = some d := hz
    cases e8
    exact s_aald hF hdg hx k
  | aastore =>
    have e9 : len = 1 := hl.resolve_left (fun z => nomatch (show (1 : Nat) = 0 from z))
    subst e9
    have e8 : some ((58 : Nat), [((pc + 1 : Nat) : Int)]) = some d := hz
    cases e8
    exact s_aast hF hdg hx k
  | aconst_null =>
    have e9 : len = 1 := hl.resolve_left (fun z => nomatch (show (1 : Nat) = 0 from z))
    subst e9
    have e8 : some ((5 : Nat), [((pc + 1 : Nat) : Int)]) = some d := hz
    cases e8
    exact s_null hF hdg hx k
  | aload a0 =>
    have e9 : len = 2 := hl.resolve_left (fun z => nomatch (show (2 : Nat) = 0 from z))
    subst e9
    have e8 : some ((2 : Nat), [(a0 : Int), ((pc + 2 : Nat) : Int)]) = some d := hz
    cases e8
    exact s_aload hF hdg hx k
  | aload_n a0 =>
    have e9 : len = 1 := hl.resolve_left (fun z => nomatch (show (1 : Nat) = 0 from z))
    subst e9
    have e8 : some ((2 : Nat), [((a0.val : Nat) : Int), ((pc + 1 : Nat) : Int)]) = some d := hz
    cases e8
    exact s_aload_n hF hdg hx k
  | anewarray a0 =>
    have e9 : len = 3 := hl.resolve_left (fun z => nomatch (show (3 : Nat) = 0 from z))
    subst e9
    have h9 : (match zlk a0 (zNT r.1) with | some (0, 3, _) => some ((60 : Nat), [14, ((pc + 3 : Nat) : Int)]) | some (0, 2, _) => some (60, [15, ((pc + 3 : Nat) : Int)]) | _ => none) = some d := hz
    split at h9
    next pl hzl => cases h9; exact s_newqS hF hdg hzl hR hx k
    next pl hzl => cases h9; exact s_newqL hF hdg hzl hR hx k
    next => cases h9
  | areturn =>
    have h9 : (if zrt r.2.2.2.2.1 = 7 then some ((40 : Nat), ([] : List Int)) else none) = some d := hz
    split at h9
    next => cases h9; exact absurd hx (zni_e (mn_aret (ls := ls)))
    next => cases h9
  | arraylength =>
    have e9 : len = 1 := hl.resolve_left (fun z => nomatch (show (1 : Nat) = 0 from z))
    subst e9
    have e8 : some ((59 : Nat), [((pc + 1 : Nat) : Int)]) = some d := hz
    cases e8
    exact s_alen hF hdg hx k
  | astore a0 =>
    have e9 : len = 2 := hl.resolve_left (fun z => nomatch (show (2 : Nat) = 0 from z))
    subst e9
    have e8 : some ((8 : Nat), [(a0 : Int), ((pc + 2 : Nat) : Int)]) = some d := hz
    cases e8
    exact s_astore hF hdg hx k
  | astore_n a0 =>
    have e9 : len = 1 := hl.resolve_left (fun z => nomatch (show (1 : Nat) = 0 from z))
    subst e9
    have e8 : some ((8 : Nat), [((a0.val : Nat) : Int), ((pc + 1 : Nat) : Int)]) = some d := hz
    cases e8
    exact s_astore_n hF hdg hx k
  | athrow => exact nomatch (show (none : Option (Nat × List Int)) = some d from hz)
  | baload =>
    have e9 : len = 1 := hl.resolve_left (fun z => nomatch (show (1 : Nat) = 0 from z))
    subst e9
    have e8 : some ((50 : Nat), [((pc + 1 : Nat) : Int)]) = some d := hz
    cases e8
    exact s_bald hF hdg hx k
  | bastore =>
    have e9 : len = 1 := hl.resolve_left (fun z => nomatch (show (1 : Nat) = 0 from z))
    subst e9
    have e8 : some ((55 : Nat), [((pc + 1 : Nat) : Int)]) = some d := hz
    cases e8
    exact s_bast hF hdg hx k
  | bipush a0 =>
    have e9 : len = 2 := hl.resolve_left (fun z => nomatch (show (2 : Nat) = 0 from z))
    subst e9
    have h9 : (if -128 ≤ a0 ∧ a0 < 128 then some ((4 : Nat), [a0, ((pc + 2 : Nat) : Int)]) else none) = some d := hz
    split at h9
    next hv => cases h9; exact s_bipush hF hdg hv hx k
    next => cases h9
  | caload =>
    have e9 : len = 1 := hl.resolve_left (fun z => nomatch (show (1 : Nat) = 0 from z))
    subst e9
    have e8 : some ((51 : Nat), [((pc + 1 : Nat) : Int)]) = some d := hz
    cases e8
    exact s_cald hF hdg hx k
  | castore =>
    have e9 : len = 1 := hl.resolve_left (fun z => nomatch (show (1 : Nat) = 0 from z))
    subst e9
    have e8 : some ((56 : Nat), [((pc + 1 : Nat) : Int)]) = some d := hz
    cases e8
    exact s_cast hF hdg hx k
  | checkcast _ => exact nomatch (show (none : Option (Nat × List Int)) = some d from hz)
  | d2f => exact nomatch (show (none : Option (Nat × List Int)) = some d from hz)
  | d2i => exact nomatch (show (none : Option (Nat × List Int)) = some d from hz)
  | d2l => exact nomatch (show (none : Option (Nat × List Int)) = some d from hz)
  | dadd => exact nomatch (show (none : Option (Nat × List Int)) = some d from hz)
  | daload => exact nomatch (show (none : Option (Nat × List Int)) = some d from hz)
  | dastore => exact nomatch (show (none : Option (Nat × List Int)) = some d from hz)
  | dcmp a0 =>
    cases a0 with
    | g => exact nomatch (show (none : Option (Nat × List Int)) = some d from hz)
    | l =>
      have e9 : len = 1 := hl.resolve_left (fun z => nomatch (show (1 : Nat) = 0 from z))
      subst e9
      have e8 : some ((26 : Nat), [((pc + 1 : Nat) : Int)]) = some d := hz
      cases e8
      exact s_dcmp hF hdg hx k
  | dconst _ => exact nomatch (show (none : Option (Nat × List Int)) = some d from hz)
  | ddiv =>
    have e9 : len = 1 := hl.resolve_left (fun z => nomatch (show (1 : Nat) = 0 from z))
    subst e9
    have e8 : some ((25 : Nat), [((pc + 1 : Nat) : Int)]) = some d := hz
    cases e8
    exact s_ddiv hF hdg hx k
  | dload a0 =>
    have e9 : len = 2 := hl.resolve_left (fun z => nomatch (show (2 : Nat) = 0 from z))
    subst e9
    have e8 : some ((3 : Nat), [(a0 : Int), ((pc + 2 : Nat) : Int)]) = some d := hz
    cases e8
    exact s_dload hF hdg hx k
  | dload_n _ => exact nomatch (show (none : Option (Nat × List Int)) = some d from hz)
  | dmul => exact nomatch (show (none : Option (Nat × List Int)) = some d from hz)
  | dneg => exact nomatch (show (none : Option (Nat × List Int)) = some d from hz)
  | drem => exact nomatch (show (none : Option (Nat × List Int)) = some d from hz)
  | dreturn =>
    have h9 : (if zrt r.2.2.2.2.1 = 6 then some ((43 : Nat), ([] : List Int)) else none) = some d := hz
    split at h9
    next => cases h9; exact absurd hx (zni_e (mn_dret (ls := ls)))
    next => cases h9
  | dstore a0 =>
    have e9 : len = 2 := hl.resolve_left (fun z => nomatch (show (2 : Nat) = 0 from z))
    subst e9
    have e8 : some ((9 : Nat), [(a0 : Int), ((pc + 2 : Nat) : Int)]) = some d := hz
    cases e8
    exact s_dstore hF hdg hx k
  | dstore_n _ => exact nomatch (show (none : Option (Nat × List Int)) = some d from hz)
  | dsub => exact nomatch (show (none : Option (Nat × List Int)) = some d from hz)
  | dup =>
    have e9 : len = 1 := hl.resolve_left (fun z => nomatch (show (1 : Nat) = 0 from z))
    subst e9
    have e8 : some ((31 : Nat), [((pc + 1 : Nat) : Int)]) = some d := hz
    cases e8
    exact s_dup hF hdg hx k
  | dup_x1 => exact nomatch (show (none : Option (Nat × List Int)) = some d from hz)
  | dup_x2 => exact nomatch (show (none : Option (Nat × List Int)) = some d from hz)
  | dup2 =>
    have e9 : len = 1 := hl.resolve_left (fun z => nomatch (show (1 : Nat) = 0 from z))
    subst e9
    have e8 : some ((32 : Nat), [((pc + 1 : Nat) : Int)]) = some d := hz
    cases e8
    exact s_dup2 hF hdg hx k
  | dup2_x1 => exact nomatch (show (none : Option (Nat × List Int)) = some d from hz)
  | dup2_x2 => exact nomatch (show (none : Option (Nat × List Int)) = some d from hz)
  | f2d =>
    have e9 : len = 1 := hl.resolve_left (fun z => nomatch (show (1 : Nat) = 0 from z))
    subst e9
    have e8 : some ((23 : Nat), [((pc + 1 : Nat) : Int)]) = some d := hz
    cases e8
    exact s_f2d hF hdg hx k
  | f2i => exact nomatch (show (none : Option (Nat × List Int)) = some d from hz)
  | f2l => exact nomatch (show (none : Option (Nat × List Int)) = some d from hz)
  | fadd => exact nomatch (show (none : Option (Nat × List Int)) = some d from hz)
  | faload => exact nomatch (show (none : Option (Nat × List Int)) = some d from hz)
  | fastore => exact nomatch (show (none : Option (Nat × List Int)) = some d from hz)
  | fcmp _ => exact nomatch (show (none : Option (Nat × List Int)) = some d from hz)
  | fconst _ => exact nomatch (show (none : Option (Nat × List Int)) = some d from hz)
  | fdiv =>
    have e9 : len = 1 := hl.resolve_left (fun z => nomatch (show (1 : Nat) = 0 from z))
    subst e9
    have e8 : some ((24 : Nat), [((pc + 1 : Nat) : Int)]) = some d := hz
    cases e8
    exact s_fdiv hF hdg hx k
  | fload _ => exact nomatch (show (none : Option (Nat × List Int)) = some d from hz)
  | fload_n _ => exact nomatch (show (none : Option (Nat × List Int)) = some d from hz)
  | fmul => exact nomatch (show (none : Option (Nat × List Int)) = some d from hz)
  | fneg => exact nomatch (show (none : Option (Nat × List Int)) = some d from hz)
  | frem => exact nomatch (show (none : Option (Nat × List Int)) = some d from hz)
  | freturn =>
    have h9 : (if zrt r.2.2.2.2.1 = 5 then some ((42 : Nat), ([] : List Int)) else none) = some d := hz
    split at h9
    next => cases h9; exact absurd hx (zni_e (mn_fret (ls := ls)))
    next => cases h9
  | fstore _ => exact nomatch (show (none : Option (Nat × List Int)) = some d from hz)
  | fstore_n _ => exact nomatch (show (none : Option (Nat × List Int)) = some d from hz)
  | fsub => exact nomatch (show (none : Option (Nat × List Int)) = some d from hz)
  | getfield a0 =>
    have e9 : len = 3 := hl.resolve_left (fun z => nomatch (show (3 : Nat) = 0 from z))
    subst e9
    have h9 : (match zlk a0 (zFT r.1) with | some (mode, ci, k, knd, _, _) => if mode < 2 then (if knd = 2 then some ((45 : Nat), [(ci : Int), (k : Int), ((pc + 3 : Nat) : Int)]) else some (44, [(ci : Int), (k : Int), ((pc + 3 : Nat) : Int)])) else if mode = 2 then some (71, [((pc + 3 : Nat) : Int)]) else if mode = 3 then some (72, [((pc + 3 : Nat) : Int)]) else none | none => none) = some d := hz
    split at h9
    next mo ci k0 knd fin pl hzl =>
      split at h9
      next hm =>
        split at h9
        next hk => cases h9; exact s_getR hF hdg hzl hm hk hx k
        next hk => cases h9; exact s_getI hF hdg hzl hm hk hx k
      next =>
        split at h9
        next hm => subst hm; cases h9; exact s_sval hF hdg hzl hx k
        next =>
          split at h9
          next hm => subst hm; cases h9; exact s_scod hF hdg hzl hx k
          next => cases h9
    next => cases h9
  | getstatic a0 =>
    have e9 : len = 3 := hl.resolve_left (fun z => nomatch (show (3 : Nat) = 0 from z))
    subst e9
    have h9 : (match zlk a0 (zFT r.1) with | some (4, _, _, _, _, _) => some ((70 : Nat), [((pc + 3 : Nat) : Int)]) | _ => none) = some d := hz
    split at h9
    next ci k0 knd fin pl hzl => cases h9; exact s_cstr hF hdg hzl hx k
    next => cases h9
  | goto a0 =>
    have e9 : len = 3 := hl.resolve_left (fun z => nomatch (show (3 : Nat) = 0 from z))
    subst e9
    have h9 : (match zgo pc a0 with | some t => some ((33 : Nat), [t]) | none => none) = some d := hz
    split at h9
    next t ht => cases h9; exact s_goto hF hdg (zgo_t ht) hx k
    next => cases h9
  | goto_w _ => exact nomatch (show (none : Option (Nat × List Int)) = some d from hz)
  | i2b => exact nomatch (show (none : Option (Nat × List Int)) = some d from hz)
  | i2c =>
    have e9 : len = 1 := hl.resolve_left (fun z => nomatch (show (1 : Nat) = 0 from z))
    subst e9
    have e8 : some ((20 : Nat), [((pc + 1 : Nat) : Int)]) = some d := hz
    cases e8
    exact s_i2c hF hdg hx k
  | i2d =>
    have e9 : len = 1 := hl.resolve_left (fun z => nomatch (show (1 : Nat) = 0 from z))
    subst e9
    have e8 : some ((22 : Nat), [((pc + 1 : Nat) : Int)]) = some d := hz
    cases e8
    exact s_i2d hF hdg hx k
  | i2f =>
    have e9 : len = 1 := hl.resolve_left (fun z => nomatch (show (1 : Nat) = 0 from z))
    subst e9
    have e8 : some ((21 : Nat), [((pc + 1 : Nat) : Int)]) = some d := hz
    cases e8
    exact s_i2f hF hdg hx k
  | i2l =>
    have e9 : len = 1 := hl.resolve_left (fun z => nomatch (show (1 : Nat) = 0 from z))
    subst e9
    have e8 : some ((19 : Nat), [((pc + 1 : Nat) : Int)]) = some d := hz
    cases e8
    exact s_i2l hF hdg hx k
  | i2s => exact nomatch (show (none : Option (Nat × List Int)) = some d from hz)
  | iadd =>
    have e9 : len = 1 := hl.resolve_left (fun z => nomatch (show (1 : Nat) = 0 from z))
    subst e9
    have e8 : some ((11 : Nat), [((pc + 1 : Nat) : Int)]) = some d := hz
    cases e8
    exact s_iadd hF hdg hx k
  | iaload =>
    have e9 : len = 1 := hl.resolve_left (fun z => nomatch (show (1 : Nat) = 0 from z))
    subst e9
    have e8 : some ((49 : Nat), [((pc + 1 : Nat) : Int)]) = some d := hz
    cases e8
    exact s_iald hF hdg hx k
  | iand =>
    have e9 : len = 1 := hl.resolve_left (fun z => nomatch (show (1 : Nat) = 0 from z))
    subst e9
    have e8 : some ((16 : Nat), [((pc + 1 : Nat) : Int)]) = some d := hz
    cases e8
    exact s_iand hF hdg hx k
  | iastore =>
    have e9 : len = 1 := hl.resolve_left (fun z => nomatch (show (1 : Nat) = 0 from z))
    subst e9
    have e8 : some ((54 : Nat), [((pc + 1 : Nat) : Int)]) = some d := hz
    cases e8
    exact s_iast hF hdg hx k
  | iconst a0 =>
    have e9 : len = 1 := hl.resolve_left (fun z => nomatch (show (1 : Nat) = 0 from z))
    subst e9
    have h9 : (if -128 ≤ a0 ∧ a0 < 128 then some ((4 : Nat), [a0, ((pc + 1 : Nat) : Int)]) else none) = some d := hz
    split at h9
    next hv => cases h9; exact s_iconst hF hdg hx k
    next => cases h9
  | idiv =>
    have e9 : len = 1 := hl.resolve_left (fun z => nomatch (show (1 : Nat) = 0 from z))
    subst e9
    have e8 : some ((14 : Nat), [((pc + 1 : Nat) : Int)]) = some d := hz
    cases e8
    exact s_idiv hF hdg hx k
  | if_acmp _ _ => exact nomatch (show (none : Option (Nat × List Int)) = some d from hz)
  | if_icmp a0 a1 =>
    have e9 : len = 3 := hl.resolve_left (fun z => nomatch (show (3 : Nat) = 0 from z))
    subst e9
    have h9 : (match zgo pc a1 with | some t => some ((35 : Nat), [(match (generalizing := false) a0 with | .eq => 0 | .ne => 1 | .lt => 2 | .ge => 3 | .gt => 4 | .le => 5), t, ((pc + 3 : Nat) : Int)]) | none => none) = some d := hz
    split at h9
    next t ht =>
      cases h9
      cases a0 with
      | eq => exact s_ceq hF hdg (zgo_t ht) hx k
      | ne => exact s_cne hF hdg (zgo_t ht) hx k
      | lt => exact s_clt hF hdg (zgo_t ht) hx k
      | ge => exact s_cge hF hdg (zgo_t ht) hx k
      | gt => exact s_cgt hF hdg (zgo_t ht) hx k
      | le => exact s_cle hF hdg (zgo_t ht) hx k
    next => cases h9
  | ifCond a0 a1 =>
    have e9 : len = 3 := hl.resolve_left (fun z => nomatch (show (3 : Nat) = 0 from z))
    subst e9
    have h9 : (match zgo pc a1 with | some t => some ((34 : Nat), [(match (generalizing := false) a0 with | .eq => 0 | .ne => 1 | .lt => 2 | .ge => 3 | .gt => 4 | .le => 5), t, ((pc + 3 : Nat) : Int)]) | none => none) = some d := hz
    split at h9
    next t ht =>
      cases h9
      cases a0 with
      | eq => exact s_ifeq hF hdg (zgo_t ht) hx k
      | ne => exact s_ifne hF hdg (zgo_t ht) hx k
      | lt => exact s_iflt hF hdg (zgo_t ht) hx k
      | ge => exact s_ifge hF hdg (zgo_t ht) hx k
      | gt => exact s_ifgt hF hdg (zgo_t ht) hx k
      | le => exact s_ifle hF hdg (zgo_t ht) hx k
    next => cases h9
  | ifnonnull a0 =>
    have e9 : len = 3 := hl.resolve_left (fun z => nomatch (show (3 : Nat) = 0 from z))
    subst e9
    have h9 : (match zgo pc a0 with | some t => some ((37 : Nat), [t, ((pc + 3 : Nat) : Int)]) | none => none) = some d := hz
    split at h9
    next t ht => cases h9; exact s_ifnonnull hF hdg (zgo_t ht) hx k
    next => cases h9
  | ifnull a0 =>
    have e9 : len = 3 := hl.resolve_left (fun z => nomatch (show (3 : Nat) = 0 from z))
    subst e9
    have h9 : (match zgo pc a0 with | some t => some ((36 : Nat), [t, ((pc + 3 : Nat) : Int)]) | none => none) = some d := hz
    split at h9
    next t ht => cases h9; exact s_ifnull hF hdg (zgo_t ht) hx k
    next => cases h9
  | iinc a0 a1 =>
    have e9 : len = 3 := hl.resolve_left (fun z => nomatch (show (3 : Nat) = 0 from z))
    subst e9
    have e8 : some ((10 : Nat), [(a0 : Int), a1, ((pc + 3 : Nat) : Int)]) = some d := hz
    cases e8
    exact s_iinc hF hdg hx k
  | iload a0 =>
    have e9 : len = 2 := hl.resolve_left (fun z => nomatch (show (2 : Nat) = 0 from z))
    subst e9
    have e8 : some ((1 : Nat), [(a0 : Int), ((pc + 2 : Nat) : Int)]) = some d := hz
    cases e8
    exact s_iload hF hdg hx k
  | iload_n a0 =>
    have e9 : len = 1 := hl.resolve_left (fun z => nomatch (show (1 : Nat) = 0 from z))
    subst e9
    have e8 : some ((1 : Nat), [((a0.val : Nat) : Int), ((pc + 1 : Nat) : Int)]) = some d := hz
    cases e8
    exact s_iload_n hF hdg hx k
  | imul =>
    have e9 : len = 1 := hl.resolve_left (fun z => nomatch (show (1 : Nat) = 0 from z))
    subst e9
    have e8 : some ((13 : Nat), [((pc + 1 : Nat) : Int)]) = some d := hz
    cases e8
    exact s_imul hF hdg hx k
  | ineg => exact nomatch (show (none : Option (Nat × List Int)) = some d from hz)
  | instanceof _ => exact nomatch (show (none : Option (Nat × List Int)) = some d from hz)
  | invokedynamic _ => exact nomatch (show (none : Option (Nat × List Int)) = some d from hz)
  | invokeinterface _ _ => exact nomatch (show (none : Option (Nat × List Int)) = some d from hz)
  | invokespecial a0 =>
    have e9 : len = 3 := hl.resolve_left (fun z => nomatch (show (3 : Nat) = 0 from z))
    subst e9
    have h9 : (match zlk a0 (zCT r.1) with | some (9, _, _) => if 1 ≤ r.2.2.2.2.2.2.1 ∧ 12 ≤ r.2.2.2.2.2.2.2.1 then some ((68 : Nat), [((pc + 3 : Nat) : Int)]) else none | some (m, mj, _) => if (m = 2 ∨ m = 4) ∧ zmN mj = 0 ∧ zmF mj + 1 ≤ r.2.2.2.2.2.2.1 ∧ 8 + (zmL mj + 11) + zmW mj ≤ r.2.2.2.2.2.2.2.1 then some (65, [(mj : Int), ((pc + 3 : Nat) : Int)]) else none | none => none) = some d := hz
    split at h9
    next mj pl hzl =>
      split at h9
      next hv => cases h9; exact s_oini hF hdg hzl hv.1 hv.2 hB hx k
      next => cases h9
    next =>
      split at h9
      next => cases h9; exact absurd hx (zni_c (mn_callI (ls := ls) (θ := θ) (σ := σ)))
      next => cases h9
    next => cases h9
  | invokestatic a0 =>
    have e9 : len = 3 := hl.resolve_left (fun z => nomatch (show (3 : Nat) = 0 from z))
    subst e9
    have h9 : (match zlk a0 (zCT r.1) with | some (7, _, _) => if 1 ≤ r.2.2.2.2.2.2.1 ∧ 18 ≤ r.2.2.2.2.2.2.2.1 then some ((66 : Nat), [((pc + 3 : Nat) : Int)]) else none | some (8, _, _) => if 3 ≤ r.2.2.2.2.2.2.1 ∧ 63 ≤ r.2.2.2.2.2.2.2.1 then some (67, [((pc + 3 : Nat) : Int)]) else none | some (m, mj, _) => if (m = 1 ∨ m = 3 ∨ m = 5) ∧ zmF mj + 1 ≤ r.2.2.2.2.2.2.1 ∧ 8 + (zmL mj + 11) + zmW mj ≤ r.2.2.2.2.2.2.2.1 then some (64, [(mj : Int), (zmN mj : Int), ((pc + 3 : Nat) : Int)]) else none | none => none) = some d := hz
    split at h9
    next mj pl hzl =>
      split at h9
      next hv => cases h9; exact s_acopy hF hdg hzl hv.1 hv.2 hB hx k
      next => cases h9
    next mj pl hzl =>
      split at h9
      next hv => cases h9; exact s_chk hF hdg hzl hv.1 hv.2 ⟨Nat.le_trans (zle_C (zod_i (mn_chk (θ := θ)) hx)) hR.1, Nat.le_trans (zle_S (zod_i (mn_chk (θ := θ)) hx)) hR.2⟩ hB hx k
      next => cases h9
    next =>
      split at h9
      next => cases h9; exact absurd hx (zni_c (mn_callS (ls := ls) (θ := θ) (σ := σ)))
      next => cases h9
    next => cases h9
  | invokevirtual a0 =>
    have h9 : (match zlk a0 (zCT r.1) with | some (0, mj, _) => if zmF mj + 1 ≤ r.2.2.2.2.2.2.1 ∧ 8 + (zmL mj + 11) + zmW mj ≤ r.2.2.2.2.2.2.2.1 then some ((63 : Nat), [(mj : Int), ((if zmC mj = 9 then 21 else zmC mj : Nat) : Int), (zmN mj : Int), ((pc + 3 : Nat) : Int)]) else none | _ => none) = some d := hz
    split at h9
    next =>
      split at h9
      next => cases h9; exact absurd hx (zni_c (mn_callV (ls := ls) (θ := θ) (σ := σ)))
      next => cases h9
    next => cases h9
  | ior => exact nomatch (show (none : Option (Nat × List Int)) = some d from hz)
  | irem =>
    have e9 : len = 1 := hl.resolve_left (fun z => nomatch (show (1 : Nat) = 0 from z))
    subst e9
    have e8 : some ((15 : Nat), [((pc + 1 : Nat) : Int)]) = some d := hz
    cases e8
    exact s_irem hF hdg hx k
  | ireturn =>
    have h9 : (if zrt r.2.2.2.2.1 < 4 then some ((39 : Nat), [((zrt r.2.2.2.2.1 : Nat) : Int)]) else none) = some d := hz
    split at h9
    next => cases h9; exact absurd hx (zni_e (mn_iret (ls := ls)))
    next => cases h9
  | ishl => exact nomatch (show (none : Option (Nat × List Int)) = some d from hz)
  | ishr =>
    have e9 : len = 1 := hl.resolve_left (fun z => nomatch (show (1 : Nat) = 0 from z))
    subst e9
    have e8 : some ((18 : Nat), [((pc + 1 : Nat) : Int)]) = some d := hz
    cases e8
    exact s_ishr hF hdg hx k
  | istore a0 =>
    have e9 : len = 2 := hl.resolve_left (fun z => nomatch (show (2 : Nat) = 0 from z))
    subst e9
    have e8 : some ((7 : Nat), [(a0 : Int), ((pc + 2 : Nat) : Int)]) = some d := hz
    cases e8
    exact s_istore hF hdg hx k
  | istore_n a0 =>
    have e9 : len = 1 := hl.resolve_left (fun z => nomatch (show (1 : Nat) = 0 from z))
    subst e9
    have e8 : some ((7 : Nat), [((a0.val : Nat) : Int), ((pc + 1 : Nat) : Int)]) = some d := hz
    cases e8
    exact s_istore_n hF hdg hx k
  | isub =>
    have e9 : len = 1 := hl.resolve_left (fun z => nomatch (show (1 : Nat) = 0 from z))
    subst e9
    have e8 : some ((12 : Nat), [((pc + 1 : Nat) : Int)]) = some d := hz
    cases e8
    exact s_isub hF hdg hx k
  | iushr => exact nomatch (show (none : Option (Nat × List Int)) = some d from hz)
  | ixor =>
    have e9 : len = 1 := hl.resolve_left (fun z => nomatch (show (1 : Nat) = 0 from z))
    subst e9
    have e8 : some ((17 : Nat), [((pc + 1 : Nat) : Int)]) = some d := hz
    cases e8
    exact s_ixor hF hdg hx k
  | jsr _ => exact nomatch (show (none : Option (Nat × List Int)) = some d from hz)
  | jsr_w _ => exact nomatch (show (none : Option (Nat × List Int)) = some d from hz)
  | l2d => exact nomatch (show (none : Option (Nat × List Int)) = some d from hz)
  | l2f => exact nomatch (show (none : Option (Nat × List Int)) = some d from hz)
  | l2i => exact nomatch (show (none : Option (Nat × List Int)) = some d from hz)
  | ladd => exact nomatch (show (none : Option (Nat × List Int)) = some d from hz)
  | laload =>
    have e9 : len = 1 := hl.resolve_left (fun z => nomatch (show (1 : Nat) = 0 from z))
    subst e9
    have e8 : some ((52 : Nat), [((pc + 1 : Nat) : Int)]) = some d := hz
    cases e8
    exact s_lald hF hdg hx k
  | land => exact nomatch (show (none : Option (Nat × List Int)) = some d from hz)
  | lastore =>
    have e9 : len = 1 := hl.resolve_left (fun z => nomatch (show (1 : Nat) = 0 from z))
    subst e9
    have e8 : some ((57 : Nat), [((pc + 1 : Nat) : Int)]) = some d := hz
    cases e8
    exact s_last hF hdg hx k
  | lcmp =>
    have e9 : len = 1 := hl.resolve_left (fun z => nomatch (show (1 : Nat) = 0 from z))
    subst e9
    have e8 : some ((27 : Nat), [((pc + 1 : Nat) : Int)]) = some d := hz
    cases e8
    exact s_lcmp hF hdg hx k
  | lconst a0 =>
    have e9 : len = 1 := hl.resolve_left (fun z => nomatch (show (1 : Nat) = 0 from z))
    subst e9
    have e8 : some ((6 : Nat), [((a0.val : Nat) : Int), ((pc + 1 : Nat) : Int)]) = some d := hz
    cases e8
    exact s_lconst hF hdg hx k
  | ldc a0 =>
    have e9 : len = 2 := hl.resolve_left (fun z => nomatch (show (2 : Nat) = 0 from z))
    subst e9
    have h9 : (if (r.1 = 5 ∧ a0 = 328) ∨ (r.1 = 6 ∧ a0 = 241) then some ((28 : Nat), [((pc + 2 : Nat) : Int)]) else if r.1 = 6 ∧ a0 = 13 then some (4, [49616, ((pc + 2 : Nat) : Int)]) else if r.1 = 6 ∧ a0 = 62 then some (4, [43414, ((pc + 2 : Nat) : Int)]) else match zlk a0 (zSTt r.1) with | some j => some (69, [(j : Int), ((pc + 2 : Nat) : Int)]) | none => none) = some d := hz
    split at h9
    next hv =>
      cases h9
      rcases hv with ⟨h5, rfl⟩ | ⟨h5, rfl⟩
      · exact s_ldcf5 hF hdg h5 hx k
      · exact s_ldcf6 hF hdg h5 hx k
    next =>
      split at h9
      next hv => cases h9; obtain ⟨h5, rfl⟩ := hv; exact s_ldc13 hF hdg h5 hx k
      next =>
        split at h9
        next hv => cases h9; obtain ⟨h5, rfl⟩ := hv; exact s_ldc62 hF hdg h5 hx k
        next =>
          split at h9
          next j hj => cases h9; exact s_ldcS hF hdg hj hx k
          next => cases h9
  | ldc_w a0 =>
    have e9 : len = 3 := hl.resolve_left (fun z => nomatch (show (3 : Nat) = 0 from z))
    subst e9
    have h9 : (if (r.1 = 5 ∧ a0 = 328) ∨ (r.1 = 6 ∧ a0 = 241) then some ((28 : Nat), [((pc + 3 : Nat) : Int)]) else none) = some d := hz
    split at h9
    next hv =>
      cases h9
      rcases hv with ⟨h5, rfl⟩ | ⟨h5, rfl⟩
      · exact s_ldcw5 hF hdg h5 hx k
      · exact s_ldcw6 hF hdg h5 hx k
    next => cases h9
  | ldc2_w a0 =>
    have e9 : len = 3 := hl.resolve_left (fun z => nomatch (show (3 : Nat) = 0 from z))
    subst e9
    have h9 : (if (r.1 = 5 ∧ a0 = 326) ∨ (r.1 = 6 ∧ a0 = 239) then some ((29 : Nat), [((pc + 3 : Nat) : Int)]) else none) = some d := hz
    split at h9
    next hv =>
      cases h9
      rcases hv with ⟨h5, rfl⟩ | ⟨h5, rfl⟩
      · exact s_ldcd5 hF hdg h5 hx k
      · exact s_ldcd6 hF hdg h5 hx k
    next => cases h9
  | ldiv => exact nomatch (show (none : Option (Nat × List Int)) = some d from hz)
  | lload _ => exact nomatch (show (none : Option (Nat × List Int)) = some d from hz)
  | lload_n _ => exact nomatch (show (none : Option (Nat × List Int)) = some d from hz)
  | lmul => exact nomatch (show (none : Option (Nat × List Int)) = some d from hz)
  | lneg => exact nomatch (show (none : Option (Nat × List Int)) = some d from hz)
  | lookupswitch a0 a1 =>
    have h9 : (match zgo pc a0 with | some t => if (a1.toList.zip (a1.toList.drop 1)).all (fun (a, next) => a.1 < next.1) = true ∧ zall (zlkp pc a1.toList) = true then some ((38 : Nat), t :: zlkp pc a1.toList) else none | none => none) = some d := hz
    split at h9
    next t ht =>
      split at h9
      next hv => cases h9; exact s_lookup hF hdg (zgo_t ht) hv.1 hv.2 hx k
      next => cases h9
    next => cases h9
  | lor => exact nomatch (show (none : Option (Nat × List Int)) = some d from hz)
  | lrem => exact nomatch (show (none : Option (Nat × List Int)) = some d from hz)
  | lreturn => exact nomatch (show (none : Option (Nat × List Int)) = some d from hz)
  | lshl => exact nomatch (show (none : Option (Nat × List Int)) = some d from hz)
  | lshr => exact nomatch (show (none : Option (Nat × List Int)) = some d from hz)
  | lstore _ => exact nomatch (show (none : Option (Nat × List Int)) = some d from hz)
  | lstore_n _ => exact nomatch (show (none : Option (Nat × List Int)) = some d from hz)
  | lsub => exact nomatch (show (none : Option (Nat × List Int)) = some d from hz)
  | lushr => exact nomatch (show (none : Option (Nat × List Int)) = some d from hz)
  | lxor => exact nomatch (show (none : Option (Nat × List Int)) = some d from hz)
  | monitorenter => exact nomatch (show (none : Option (Nat × List Int)) = some d from hz)
  | monitorexit => exact nomatch (show (none : Option (Nat × List Int)) = some d from hz)
  | multianewarray _ _ => exact nomatch (show (none : Option (Nat × List Int)) = some d from hz)
  | new a0 =>
    have e9 : len = 3 := hl.resolve_left (fun z => nomatch (show (3 : Nat) = 0 from z))
    subst e9
    have h9 : (match zlk a0 (zNT r.1) with | some (0, ci, _) => some ((61 : Nat), [(ci : Int), ((pc + 3 : Nat) : Int)]) | some (ic, E, _) => if r.1 = 5 ∧ zthr r.2.2.1 pc ic = true ∧ 6 ≤ r.2.2.2.2.2.2.1 ∧ 90 ≤ r.2.2.2.2.2.2.2.1 then some (62, [(E : Int)]) else none | none => none) = some d := hz
    split at h9
    next ci pl hzl => cases h9; exact s_newo hF hdg hzl hR hx k
    next =>
      split at h9
      next => cases h9; exact absurd hx (zni_e (mn_throw (ls := ls)))
      next => cases h9
    next => cases h9
  | newarray a0 =>
    have e9 : len = 2 := hl.resolve_left (fun z => nomatch (show (2 : Nat) = 0 from z))
    subst e9
    cases a0 with
    | int =>
      have e8 : some ((60 : Nat), [10, ((pc + 2 : Nat) : Int)]) = some d := hz
      cases e8
      exact s_newaI hF hdg hR hx k
    | boolean =>
      have e8 : some ((60 : Nat), [11, ((pc + 2 : Nat) : Int)]) = some d := hz
      cases e8
      exact s_newaZ hF hdg hR hx k
    | char =>
      have e8 : some ((60 : Nat), [12, ((pc + 2 : Nat) : Int)]) = some d := hz
      cases e8
      exact s_newaC hF hdg hR hx k
    | long =>
      have e8 : some ((60 : Nat), [13, ((pc + 2 : Nat) : Int)]) = some d := hz
      cases e8
      exact s_newaL hF hdg hR hx k
    | _ => exact nomatch (show (none : Option (Nat × List Int)) = some d from hz)
  | nop => exact nomatch (show (none : Option (Nat × List Int)) = some d from hz)
  | pop =>
    have e9 : len = 1 := hl.resolve_left (fun z => nomatch (show (1 : Nat) = 0 from z))
    subst e9
    have e8 : some ((30 : Nat), [((pc + 1 : Nat) : Int)]) = some d := hz
    cases e8
    exact s_pop hF hdg hx k
  | pop2 => exact nomatch (show (none : Option (Nat × List Int)) = some d from hz)
  | putfield a0 =>
    have e9 : len = 3 := hl.resolve_left (fun z => nomatch (show (3 : Nat) = 0 from z))
    subst e9
    have h9 : (match zlk a0 (zFT r.1) with | some (mode, ci, k, knd, fin, _) => if mode < 2 ∧ (fin = 0 ∨ (mode = 0 ∧ ci = r.1 ∧ r.2.1.name = "<init>")) then (if knd = 2 then some ((48 : Nat), [(ci : Int), (k : Int), ((pc + 3 : Nat) : Int)]) else if knd = 1 then some (47, [(ci : Int), (k : Int), ((pc + 3 : Nat) : Int)]) else some (46, [(ci : Int), (k : Int), ((pc + 3 : Nat) : Int)])) else none | none => none) = some d := hz
    split at h9
    next mo ci k0 knd fin pl hzl =>
      split at h9
      next hm =>
        split at h9
        next hk => cases h9; exact s_putR hF hdg hzl hm.1 hk hm.2 hx k
        next hk2 =>
          split at h9
          next hk => cases h9; exact s_putZ hF hdg hzl hm.1 hk hm.2 hx k
          next hk1 => cases h9; exact s_putI hF hdg hzl hm.1 (zknd_0 hzl hm.1 hk2 hk1) hm.2 hx k
      next => cases h9
    next => cases h9
  | putstatic _ => exact nomatch (show (none : Option (Nat × List Int)) = some d from hz)
  | ret _ => exact nomatch (show (none : Option (Nat × List Int)) = some d from hz)
  | return_ =>
    have h9 : (if zrt r.2.2.2.2.1 = 4 then some ((41 : Nat), ([] : List Int)) else none) = some d := hz
    split at h9
    next => cases h9; exact absurd hx (zni_e (mn_vret (ls := ls)))
    next => cases h9
  | saload => exact nomatch (show (none : Option (Nat × List Int)) = some d from hz)
  | sastore => exact nomatch (show (none : Option (Nat × List Int)) = some d from hz)
  | sipush a0 =>
    have e9 : len = 3 := hl.resolve_left (fun z => nomatch (show (3 : Nat) = 0 from z))
    subst e9
    have h9 : (if -32768 ≤ a0 ∧ a0 < 32768 then some ((4 : Nat), [a0, ((pc + 3 : Nat) : Int)]) else none) = some d := hz
    split at h9
    next hv => cases h9; exact s_sipush hF hdg hv hx k
    next => cases h9
  | swap => exact nomatch (show (none : Option (Nat × List Int)) = some d from hz)
  | tableswitch a0 a1 a2 a3 =>
    have h9 : (match zgo pc a0 with | some t => if a2 = a1 + (a3.size : Int) - 1 ∧ zall (ztb pc a1 a3.toList) = true ∧ (-2147483648 ≤ a1 ∧ a2 < 2147483648) then some ((38 : Nat), t :: ztb pc a1 a3.toList) else none | none => none) = some d := hz
    split at h9
    next t ht =>
      split at h9
      next hv => cases h9; exact s_table hF hdg (zgo_t ht) hv.1 hv.2.1 hx k
      next => cases h9
    next => cases h9
end ZDI
theorem zres_i {mi pc : Nat} {d : Nat × List Int} (h : zres mi pc = some d) : ∃ (r : ZM) (ig : Instr) (len : Nat), zMT mi = some r ∧ decode r.2.2.1 pc = .ok (ig, len) ∧ (zil ig = 0 ∨ len = zil ig) ∧ zresI r pc ig = some d := by
  unfold zres at h
  split at h
  · cases h
  next r hr =>
    split at h
    next ig len hd =>
      split at h
      next hl => exact ⟨r, ig, len, hr, hd, hl, h⟩
      next => cases h
    next => cases h
theorem zrun_le2 : ∀ (n mi pc : Nat) (ls : ZL) (st : List ZV) (θ : ZT) (σ : ZI) (o : ZO) (θ' : ZT) (σ' : ZI), zrun n mi pc ls st θ σ = some (o, θ', σ') → zle θ θ' := by
  intro n
  induction n with
  | zero => intro mi pc ls st θ σ o θ' σ' h; cases h
  | succ n ih =>
    intro mi pc ls st θ σ o θ' σ' h
    rw [zrun_succ] at h
    split at h
    · cases h
    next d hd =>
      obtain ⟨r, ig, len, -, -, hl, hz⟩ := zres_i hd
      have hc0 : zcl d ls st θ σ := zcls hl hz
      split at h
      · cases h
      next pc' ls' st' θ1 σ1 hx => exact zle_t (zsem_i hc0 hx) (ih _ _ _ _ _ _ _ _ _ h)
      next q hx =>
        cases h
        exact (zsem_e hc0 hx).1
      next mj vs rest npc hx =>
        split at h
        · cases h
        next v θ1 σ1 hc => exact zle_t (ih _ _ _ _ _ _ _ _ _ hc) (ih _ _ _ _ _ _ _ _ _ h)
        next Ex θ1 σ1 hc =>
          split at h
          · cases h
            exact ih _ _ _ _ _ _ _ _ _ hc
          next k npc' hk =>
            split at h
            · exact zle_t (ih _ _ _ _ _ _ _ _ _ hc) (ih _ _ _ _ _ _ _ _ _ h)
            · cases h
