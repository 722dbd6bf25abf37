/-! THE INTERPRETER: bytecode over addresses 0, 1, 2 .. in the order in which things are made, with ints as integers. -/
abbrev ZV : Type := Int ⊕ (Option Nat ⊕ (Int ⊕ (UInt32 ⊕ UInt64)))
abbrev ZL : Type := List (Option ZV)
abbrev ZR : Type := Nat → Nat → Option Nat
abbrev ZI : Type := Nat → Nat → Int
abbrev ZT : Type := Nat × (Nat × ZR)
abbrev ZO : Type := Option ZV ⊕ Nat
abbrev ZN : Type := Option ((Nat × (ZL × (List ZV × (ZT × ZI)))) ⊕ ((ZO × (ZT × ZI)) ⊕ (Nat × (List ZV × (List ZV × Nat)))))
abbrev zinR (x : Int) : Prop := -2147483648 ≤ x ∧ x < 2147483648
def z_w : ZV → Nat
  | .inl _ => 1
  | .inr (.inl _) => 1
  | .inr (.inr (.inl _)) => 2
  | .inr (.inr (.inr (.inl _))) => 1
  | .inr (.inr (.inr (.inr _))) => 2
def z_c2 : Option ZV → Bool
  | none => false
  | some v => z_w v == 2
/-- what stands at an address: 0..6 an object of the class of that number; 10 ints, 11 booleans, 12 chars, 13 longs, 14 stories, 15 lawns; 20 the script, 21 a text, 22 its bytes -/
def zkS (o : Nat) : Nat := if o = 0 then 3 else if o = 1 then 2 else if o < 11 then 10 else if o = 11 then 15 else if (o - 12) % 10 = 0 then 2 else 10
def zkd (a : Nat) : Nat :=
  if a < 100 then (if a = 0 then 20 else if a < 12 then 21 else if a < 23 then 22 else 99)
  else if a = 100 then 5
  else if a < 1037 then zkS ((a - 101) % 312)
  else if a = 1037 then 0
  else if a = 1038 then 14
  else if a < 3535 then zkS ((a - 1039) % 312)
  else if a = 3535 then 2
  else if a < 3545 then 10
  else if a = 3545 then 1
  else if a = 3546 then 11
  else if a < 3550 then 10
  else if a = 3550 then 4
  else if a = 3551 then 12
  else if a = 3552 then 12
  else if a = 3553 then 6
  else if a = 3560 then 12
  else if a < 3564 then 10
  else if a = 3564 then 13
  else 99
def zlL (o : Nat) : Nat := if o = 0 then 14 else if o < 3 then 81 else if o = 4 then 12 else 4
def zlS (o : Nat) : Nat := if o = 0 then 5 else if o < 11 then zlL (o - 1) else if o = 11 then 30 else zlL ((o - 12) % 10)
def zln (a : Nat) : Nat :=
  if a < 100 then (match a with
    | 12 => 4
    | 13 => 2
    | 14 => 5
    | 15 => 4
    | 16 => 2
    | 17 => 2
    | 18 => 2
    | 19 => 1
    | 20 => 1
    | 21 => 4
    | 22 => 4
    | _ => 0)
  else if a = 100 then 14
  else if a < 1037 then zlS ((a - 101) % 312)
  else if a = 1037 then 3
  else if a = 1038 then 8
  else if a < 3535 then zlS ((a - 1039) % 312)
  else if a < 3545 then zlL (a - 3535)
  else if a = 3545 then 4
  else if a < 3549 then 81
  else if a = 3549 then 120
  else if a = 3550 then 6
  else if a = 3551 then 60
  else if a = 3552 then 9
  else if a = 3553 then 21
  else if a = 3555 then 49616
  else if a < 3559 then 6202
  else if a = 3559 then 60
  else if a = 3560 then 12
  else if a = 3561 then 81
  else if a = 3562 then 120
  else if a = 3563 then 124
  else 1
def z_and (x y : Int) : Int := (Int32.ofInt x &&& Int32.ofInt y).toInt
def z_xor (x y : Int) : Int := (Int32.ofInt x ^^^ Int32.ofInt y).toInt
def z_shr (x y : Int) : Int := (Int32.ofInt x >>> (Int32.ofInt y &&& 31)).toInt
def zup (σ : ZI) (a k : Nat) (v : Int) : ZI := fun b j => if b = a ∧ j = k then v else σ b j
def zupR (ρ : ZR) (a k : Nat) (v : Option Nat) : ZR := fun b j => if b = a ∧ j = k then v else ρ b j
def zclr (σ : ZI) (a : Nat) : ZI := fun b j => if b = a then 0 else σ b j
def zclrR (ρ : ZR) (a : Nat) : ZR := fun b j => if b = a then none else ρ b j
def zcpy (σ : ZI) (s sp d dp m : Nat) : ZI := fun b j => if b = d ∧ dp ≤ j ∧ j < dp + m then σ s (sp + (j - dp)) else σ b j
def nx (pc : Nat) (ls : ZL) (st : List ZV) (θ : ZT) (σ : ZI) : ZN := some (.inl (pc, ls, st, θ, σ))
def nrt (o : ZO) (θ : ZT) (σ : ZI) : ZN := some (.inr (.inl (o, θ, σ)))
def ncl (mj : Nat) (vs rest : List ZV) (n : Nat) : ZN := some (.inr (.inr (mj, vs, rest, n)))

def o_iload (k n : Nat) (ls : ZL) (st : List ZV) (θ : ZT) (σ : ZI) : ZN :=
  match ls.getD k none with
  | some (.inl x) => nx n ls (.inl x :: st) θ σ
  | _ => none
def o_aload (k n : Nat) (ls : ZL) (st : List ZV) (θ : ZT) (σ : ZI) : ZN :=
  match ls.getD k none with
  | some (.inr (.inl x)) => nx n ls (.inr (.inl x) :: st) θ σ
  | _ => none
def o_dload (k n : Nat) (ls : ZL) (st : List ZV) (θ : ZT) (σ : ZI) : ZN :=
  match ls.getD k none with
  | some (.inr (.inr (.inr (.inr x)))) => nx n ls (.inr (.inr (.inr (.inr x))) :: st) θ σ
  | _ => none
def o_push (v : ZV) (n : Nat) (ls : ZL) (st : List ZV) (θ : ZT) (σ : ZI) : ZN :=
  nx n ls (v :: st) θ σ
def o_istore (k n : Nat) (ls : ZL) (st : List ZV) (θ : ZT) (σ : ZI) : ZN :=
  match st with
  | .inl x :: r => if k < ls.length then (if 0 < k ∧ z_c2 (ls.getD (k - 1) none) = true then none else nx n (ls.set k (some (.inl x))) r θ σ) else none
  | _ => none
def o_astore (k n : Nat) (ls : ZL) (st : List ZV) (θ : ZT) (σ : ZI) : ZN :=
  match st with
  | .inr (.inl x) :: r => if k < ls.length then (if 0 < k ∧ z_c2 (ls.getD (k - 1) none) = true then none else nx n (ls.set k (some (.inr (.inl x)))) r θ σ) else none
  | _ => none
def o_dstore (k n : Nat) (ls : ZL) (st : List ZV) (θ : ZT) (σ : ZI) : ZN :=
  match st with
  | .inr (.inr (.inr (.inr x))) :: r => if k + 1 < ls.length then (if 0 < k ∧ z_c2 (ls.getD (k - 1) none) = true then none else nx n ((ls.set k (some (.inr (.inr (.inr (.inr x)))))).set (k + 1) none) r θ σ) else none
  | _ => none
def o_iinc (k : Nat) (c : Int) (n : Nat) (ls : ZL) (st : List ZV) (θ : ZT) (σ : ZI) : ZN :=
  match ls.getD k none with
  | some (.inl x) => nx n (ls.set k (some (.inl (x + c)))) st θ σ
  | _ => none
def o_bin (f : Int → Int → Int) (n : Nat) (ls : ZL) (st : List ZV) (θ : ZT) (σ : ZI) : ZN :=
  match st with
  | .inl y :: .inl x :: r => nx n ls (.inl (f x y) :: r) θ σ
  | _ => none
def o_div (n : Nat) (ls : ZL) (st : List ZV) (θ : ZT) (σ : ZI) : ZN :=
  match st with
  | .inl y :: .inl x :: r => if (zinR x ∧ zinR y) ∧ (y ≠ 0 ∧ y ≠ -1) then nx n ls (.inl (Int.tdiv x y) :: r) θ σ else none
  | _ => none
def o_rem (n : Nat) (ls : ZL) (st : List ZV) (θ : ZT) (σ : ZI) : ZN :=
  match st with
  | .inl y :: .inl x :: r => if (zinR x ∧ zinR y) ∧ (y ≠ 0 ∧ y ≠ -1) then nx n ls (.inl (Int.tmod x y) :: r) θ σ else none
  | _ => none
def o_i2l (n : Nat) (ls : ZL) (st : List ZV) (θ : ZT) (σ : ZI) : ZN :=
  match st with
  | .inl x :: r => if zinR x then nx n ls (.inr (.inr (.inl x)) :: r) θ σ else none
  | _ => none
def o_i2c (n : Nat) (ls : ZL) (st : List ZV) (θ : ZT) (σ : ZI) : ZN :=
  match st with
  | .inl x :: r => nx n ls (.inl (x % 65536) :: r) θ σ
  | _ => none
def o_i2f (n : Nat) (ls : ZL) (st : List ZV) (θ : ZT) (σ : ZI) : ZN :=
  match st with
  | .inl x :: r => nx n ls (.inr (.inr (.inr (.inl (FP.i2f (Int32.ofInt x))))) :: r) θ σ
  | _ => none
def o_i2d (n : Nat) (ls : ZL) (st : List ZV) (θ : ZT) (σ : ZI) : ZN :=
  match st with
  | .inl x :: r => nx n ls (.inr (.inr (.inr (.inr (FP.i2d (Int32.ofInt x))))) :: r) θ σ
  | _ => none
def o_f2d (n : Nat) (ls : ZL) (st : List ZV) (θ : ZT) (σ : ZI) : ZN :=
  match st with
  | .inr (.inr (.inr (.inl x))) :: r => if FP.f2d x &&& 0x7fffffffffffffff ≤ 0x7ff0000000000000 then nx n ls (.inr (.inr (.inr (.inr (FP.f2d x)))) :: r) θ σ else none
  | _ => none
def o_fdiv (n : Nat) (ls : ZL) (st : List ZV) (θ : ZT) (σ : ZI) : ZN :=
  match st with
  | .inr (.inr (.inr (.inl y))) :: .inr (.inr (.inr (.inl x))) :: r => if FP.fdiv x y &&& 0x7fffffff ≤ 0x7f800000 then nx n ls (.inr (.inr (.inr (.inl (FP.fdiv x y)))) :: r) θ σ else none
  | _ => none
def o_ddiv (n : Nat) (ls : ZL) (st : List ZV) (θ : ZT) (σ : ZI) : ZN :=
  match st with
  | .inr (.inr (.inr (.inr y))) :: .inr (.inr (.inr (.inr x))) :: r => if FP.ddiv x y &&& 0x7fffffffffffffff ≤ 0x7ff0000000000000 then nx n ls (.inr (.inr (.inr (.inr (FP.ddiv x y)))) :: r) θ σ else none
  | _ => none
def o_dcmp (n : Nat) (ls : ZL) (st : List ZV) (θ : ZT) (σ : ZI) : ZN :=
  match st with
  | .inr (.inr (.inr (.inr y))) :: .inr (.inr (.inr (.inr x))) :: r => nx n ls (.inl (Op.cmpValue (FP.dcmp x y) .l).toInt :: r) θ σ
  | _ => none
def o_lcmp (n : Nat) (ls : ZL) (st : List ZV) (θ : ZT) (σ : ZI) : ZN :=
  match st with
  | .inr (.inr (.inl y)) :: .inr (.inr (.inl x)) :: r => if zinR x ∧ zinR y then nx n ls (.inl (if x < y then -1 else if x = y then 0 else 1) :: r) θ σ else none
  | _ => none
def o_pop (n : Nat) (ls : ZL) (st : List ZV) (θ : ZT) (σ : ZI) : ZN :=
  match st with
  | v :: r => if z_w v = 1 then nx n ls r θ σ else none
  | _ => none
def o_dup (n : Nat) (ls : ZL) (st : List ZV) (θ : ZT) (σ : ZI) : ZN :=
  match st with
  | v :: r => if z_w v = 1 then nx n ls (v :: v :: r) θ σ else none
  | _ => none
def o_dup2 (n : Nat) (ls : ZL) (st : List ZV) (θ : ZT) (σ : ZI) : ZN :=
  match st with
  | v :: w :: r => if z_w v = 1 ∧ z_w w = 1 then nx n ls (v :: w :: v :: w :: r) θ σ else none
  | _ => none
def o_goto (t : Nat) (ls : ZL) (st : List ZV) (θ : ZT) (σ : ZI) : ZN :=
  nx t ls st θ σ
def o_ifeq (t n : Nat) (ls : ZL) (st : List ZV) (θ : ZT) (σ : ZI) : ZN :=
  match st with
  | .inl x :: r => if zinR x then (if x = 0 then nx t ls r θ σ else nx n ls r θ σ) else none
  | _ => none
def o_ifne (t n : Nat) (ls : ZL) (st : List ZV) (θ : ZT) (σ : ZI) : ZN :=
  match st with
  | .inl x :: r => if zinR x then (if x = 0 then nx n ls r θ σ else nx t ls r θ σ) else none
  | _ => none
def o_iflt (t n : Nat) (ls : ZL) (st : List ZV) (θ : ZT) (σ : ZI) : ZN :=
  match st with
  | .inl x :: r => if zinR x then (if x < 0 then nx t ls r θ σ else nx n ls r θ σ) else none
  | _ => none
def o_ifge (t n : Nat) (ls : ZL) (st : List ZV) (θ : ZT) (σ : ZI) : ZN :=
  match st with
  | .inl x :: r => if zinR x then (if x < 0 then nx n ls r θ σ else nx t ls r θ σ) else none
  | _ => none
def o_ifgt (t n : Nat) (ls : ZL) (st : List ZV) (θ : ZT) (σ : ZI) : ZN :=
  match st with
  | .inl x :: r => if zinR x then (if 0 < x then nx t ls r θ σ else nx n ls r θ σ) else none
  | _ => none
def o_ifle (t n : Nat) (ls : ZL) (st : List ZV) (θ : ZT) (σ : ZI) : ZN :=
  match st with
  | .inl x :: r => if zinR x then (if 0 < x then nx n ls r θ σ else nx t ls r θ σ) else none
  | _ => none
def o_ceq (t n : Nat) (ls : ZL) (st : List ZV) (θ : ZT) (σ : ZI) : ZN :=
  match st with
  | .inl y :: .inl x :: r => if zinR x ∧ zinR y then (if x = y then nx t ls r θ σ else nx n ls r θ σ) else none
  | _ => none
def o_cne (t n : Nat) (ls : ZL) (st : List ZV) (θ : ZT) (σ : ZI) : ZN :=
  match st with
  | .inl y :: .inl x :: r => if zinR x ∧ zinR y then (if x = y then nx n ls r θ σ else nx t ls r θ σ) else none
  | _ => none
def o_clt (t n : Nat) (ls : ZL) (st : List ZV) (θ : ZT) (σ : ZI) : ZN :=
  match st with
  | .inl y :: .inl x :: r => if zinR x ∧ zinR y then (if x < y then nx t ls r θ σ else nx n ls r θ σ) else none
  | _ => none
def o_cge (t n : Nat) (ls : ZL) (st : List ZV) (θ : ZT) (σ : ZI) : ZN :=
  match st with
  | .inl y :: .inl x :: r => if zinR x ∧ zinR y then (if x < y then nx n ls r θ σ else nx t ls r θ σ) else none
  | _ => none
def o_cgt (t n : Nat) (ls : ZL) (st : List ZV) (θ : ZT) (σ : ZI) : ZN :=
  match st with
  | .inl y :: .inl x :: r => if zinR x ∧ zinR y then (if y < x then nx t ls r θ σ else nx n ls r θ σ) else none
  | _ => none
def o_cle (t n : Nat) (ls : ZL) (st : List ZV) (θ : ZT) (σ : ZI) : ZN :=
  match st with
  | .inl y :: .inl x :: r => if zinR x ∧ zinR y then (if y < x then nx n ls r θ σ else nx t ls r θ σ) else none
  | _ => none
def o_ifnull (t n : Nat) (ls : ZL) (st : List ZV) (θ : ZT) (σ : ZI) : ZN :=
  match st with
  | .inr (.inl none) :: r => nx t ls r θ σ
  | .inr (.inl (some _)) :: r => nx n ls r θ σ
  | _ => none
def o_ifnonnull (t n : Nat) (ls : ZL) (st : List ZV) (θ : ZT) (σ : ZI) : ZN :=
  match st with
  | .inr (.inl none) :: r => nx n ls r θ σ
  | .inr (.inl (some _)) :: r => nx t ls r θ σ
  | _ => none
def zsw (x : Int) (d : Nat) : List Int → Nat
  | k :: t :: r => if x = k then t.toNat else zsw x d r
  | _ => d
def o_switch (d : Nat) (ps : List Int) (ls : ZL) (st : List ZV) (θ : ZT) (σ : ZI) : ZN :=
  match st with
  | .inl x :: r => if zinR x then nx (zsw x d ps) ls r θ σ else none
  | _ => none
def zrk (q : Nat) (x : Int) : Prop := match q with
  | 0 => True
  | 1 => x = 0 ∨ x = 1
  | 2 => 0 ≤ x ∧ x < 65536
  | _ => -128 ≤ x ∧ x < 128
def o_iret (q : Nat) (_ : ZL) (st : List ZV) (θ : ZT) (σ : ZI) : ZN :=
  match st, q with
  | [.inl x], 0 => nrt (.inl (some (.inl x))) θ σ
  | [.inl x], 1 => if x = 0 ∨ x = 1 then nrt (.inl (some (.inl x))) θ σ else none
  | [.inl x], 2 => if 0 ≤ x ∧ x < 65536 then nrt (.inl (some (.inl x))) θ σ else none
  | [.inl x], _ => if -128 ≤ x ∧ x < 128 then nrt (.inl (some (.inl x))) θ σ else none
  | _, _ => none
def o_aret (_ : ZL) (st : List ZV) (θ : ZT) (σ : ZI) : ZN :=
  match st with
  | [.inr (.inl x)] => nrt (.inl (some (.inr (.inl x)))) θ σ
  | _ => none
def o_vret (_ : ZL) (st : List ZV) (θ : ZT) (σ : ZI) : ZN :=
  match st with
  | [] => nrt (.inl none) θ σ
  | _ => none
def o_fret (_ : ZL) (st : List ZV) (θ : ZT) (σ : ZI) : ZN :=
  match st with
  | [.inr (.inr (.inr (.inl x)))] => nrt (.inl (some (.inr (.inr (.inr (.inl x)))))) θ σ
  | _ => none
def o_dret (_ : ZL) (st : List ZV) (θ : ZT) (σ : ZI) : ZN :=
  match st with
  | [.inr (.inr (.inr (.inr x)))] => nrt (.inl (some (.inr (.inr (.inr (.inr x)))))) θ σ
  | _ => none
def o_getI (ci f n : Nat) (ls : ZL) (st : List ZV) (θ : ZT) (σ : ZI) : ZN :=
  match st with
  | .inr (.inl (some a)) :: r => if zkd a = ci then nx n ls (.inl (σ a f) :: r) θ σ else none
  | _ => none
def o_getR (ci f n : Nat) (ls : ZL) (st : List ZV) (θ : ZT) (σ : ZI) : ZN :=
  match st with
  | .inr (.inl (some a)) :: r => if zkd a = ci then nx n ls (.inr (.inl (θ.2.2 a f)) :: r) θ σ else none
  | _ => none
def o_putI (ci f n : Nat) (ls : ZL) (st : List ZV) (θ : ZT) (σ : ZI) : ZN :=
  match st with
  | .inl x :: .inr (.inl (some a)) :: r => if zkd a = ci then nx n ls r θ (zup σ a f x) else none
  | _ => none
def o_putZ (ci f n : Nat) (ls : ZL) (st : List ZV) (θ : ZT) (σ : ZI) : ZN :=
  match st with
  | .inl x :: .inr (.inl (some a)) :: r => if zkd a = ci ∧ (x = 0 ∨ x = 1) then nx n ls r θ (zup σ a f x) else none
  | _ => none
def o_putR (ci f n : Nat) (ls : ZL) (st : List ZV) (θ : ZT) (σ : ZI) : ZN :=
  match st with
  | .inr (.inl v) :: .inr (.inl (some a)) :: r => if zkd a = ci then nx n ls r (θ.1, θ.2.1, zupR θ.2.2 a f v) σ else none
  | _ => none
def o_iald (n : Nat) (ls : ZL) (st : List ZV) (θ : ZT) (σ : ZI) : ZN :=
  match st with
  | .inl i :: .inr (.inl (some a)) :: r =>
    if zkd a = 10 then (if 0 ≤ i ∧ i < zln a then nx n ls (.inl (σ a i.toNat) :: r) θ σ else none)
    else if zkd a = 20 then (if 0 ≤ i ∧ i < σ 23 0 then nx n ls (.inl (σ a i.toNat) :: r) θ σ else none)
    else none
  | _ => none
def o_bald (n : Nat) (ls : ZL) (st : List ZV) (θ : ZT) (σ : ZI) : ZN :=
  match st with
  | .inl i :: .inr (.inl (some a)) :: r => if (zkd a = 11 ∨ zkd a = 22) ∧ (0 ≤ i ∧ i < zln a) then nx n ls (.inl (σ a i.toNat) :: r) θ σ else none
  | _ => none
def o_cald (n : Nat) (ls : ZL) (st : List ZV) (θ : ZT) (σ : ZI) : ZN :=
  match st with
  | .inl i :: .inr (.inl (some a)) :: r => if zkd a = 12 ∧ (0 ≤ i ∧ i < zln a) then nx n ls (.inl (σ a i.toNat) :: r) θ σ else none
  | _ => none
def o_lald (n : Nat) (ls : ZL) (st : List ZV) (θ : ZT) (σ : ZI) : ZN :=
  match st with
  | .inl i :: .inr (.inl (some a)) :: r => if zkd a = 13 ∧ (0 ≤ i ∧ i < zln a) then nx n ls (.inr (.inr (.inl (σ a i.toNat))) :: r) θ σ else none
  | _ => none
def o_aald (n : Nat) (ls : ZL) (st : List ZV) (θ : ZT) (σ : ZI) : ZN :=
  match st with
  | .inl i :: .inr (.inl (some a)) :: r => if (zkd a = 14 ∨ zkd a = 15) ∧ (0 ≤ i ∧ i < zln a) then nx n ls (.inr (.inl (θ.2.2 a i.toNat)) :: r) θ σ else none
  | _ => none
def o_iast (n : Nat) (ls : ZL) (st : List ZV) (θ : ZT) (σ : ZI) : ZN :=
  match st with
  | .inl x :: .inl i :: .inr (.inl (some a)) :: r => if zkd a = 10 ∧ (0 ≤ i ∧ i < zln a) then nx n ls r θ (zup σ a i.toNat x) else none
  | _ => none
def o_bast (n : Nat) (ls : ZL) (st : List ZV) (θ : ZT) (σ : ZI) : ZN :=
  match st with
  | .inl x :: .inl i :: .inr (.inl (some a)) :: r => if zkd a = 11 ∧ (0 ≤ i ∧ i < zln a) ∧ (x = 0 ∨ x = 1) then nx n ls r θ (zup σ a i.toNat x) else none
  | _ => none
def o_cast (n : Nat) (ls : ZL) (st : List ZV) (θ : ZT) (σ : ZI) : ZN :=
  match st with
  | .inl x :: .inl i :: .inr (.inl (some a)) :: r => if zkd a = 12 ∧ (0 ≤ i ∧ i < zln a) ∧ (0 ≤ x ∧ x < 65536) then nx n ls r θ (zup σ a i.toNat x) else none
  | _ => none
def o_last (n : Nat) (ls : ZL) (st : List ZV) (θ : ZT) (σ : ZI) : ZN :=
  match st with
  | .inr (.inr (.inl x)) :: .inl i :: .inr (.inl (some a)) :: r => if zkd a = 13 ∧ (0 ≤ i ∧ i < zln a) then nx n ls r θ (zup σ a i.toNat x) else none
  | _ => none
def o_aast (n : Nat) (ls : ZL) (st : List ZV) (θ : ZT) (σ : ZI) : ZN :=
  match st with
  | .inr (.inl (some b)) :: .inl i :: .inr (.inl (some a)) :: r => if ((zkd a = 14 ∧ zkd b = 3) ∨ (zkd a = 15 ∧ zkd b = 2)) ∧ (0 ≤ i ∧ i < zln a) then nx n ls r (θ.1, θ.2.1, zupR θ.2.2 a i.toNat (some b)) σ else none
  | _ => none
def o_alen (n : Nat) (ls : ZL) (st : List ZV) (θ : ZT) (σ : ZI) : ZN :=
  match st with
  | .inr (.inl (some a)) :: r =>
    if (10 ≤ zkd a ∧ zkd a < 16) ∨ zkd a = 22 then nx n ls (.inl (zln a) :: r) θ σ
    else if zkd a = 20 then nx n ls (.inl (σ 23 0) :: r) θ σ
    else none
  | _ => none
def o_newa (q n : Nat) (ls : ZL) (st : List ZV) (θ : ZT) (σ : ZI) : ZN :=
  match st with
  | .inl m :: r => if zkd θ.1 = q ∧ m = zln θ.1 then nx n ls (.inr (.inl (some θ.1)) :: r) (θ.1 + 1, θ.2.1, zclrR θ.2.2 θ.1) (zclr σ θ.1) else none
  | _ => none
def o_newo (q n : Nat) (ls : ZL) (st : List ZV) (θ : ZT) (σ : ZI) : ZN :=
  if zkd θ.1 = q then nx n ls (.inr (.inl (some θ.1)) :: st) (θ.1 + 1, θ.2.1, zclrR θ.2.2 θ.1) (zclr σ θ.1) else none
def o_throw (E : Nat) (_ : ZL) (st : List ZV) (θ : ZT) (σ : ZI) : ZN :=
  match st with
  | [] => nrt (.inr E) (θ.1, θ.2.1 + 1, θ.2.2) σ
  | _ => none
def z_a1 (vs : List ZV) : Bool := vs.all fun v => z_w v == 1
def o_callV (mj q na n : Nat) (_ : ZL) (st : List ZV) (_ : ZT) (_ : ZI) : ZN :=
  match st.drop na with
  | .inr (.inl (some b)) :: r => if (na ≤ st.length ∧ z_a1 (st.take na) = true) ∧ (zkd b = q ∧ (r.map z_w).sum ≤ 8) then ncl mj (.inr (.inl (some b)) :: (st.take na).reverse) r n else none
  | _ => none
def o_callS (mj na n : Nat) (_ : ZL) (st : List ZV) (_ : ZT) (_ : ZI) : ZN :=
  if (na ≤ st.length ∧ z_a1 (st.take na) = true) ∧ ((st.drop na).map z_w).sum ≤ 8 then ncl mj (st.take na).reverse (st.drop na) n else none
def o_callI (mj n : Nat) (_ : ZL) (st : List ZV) (_ : ZT) (_ : ZI) : ZN :=
  match st with
  | .inr (.inl (some b)) :: r => if (r.map z_w).sum ≤ 8 then ncl mj [.inr (.inl (some b))] r n else none
  | _ => none
def o_acopy (n : Nat) (ls : ZL) (st : List ZV) (θ : ZT) (σ : ZI) : ZN :=
  match st with
  | [.inl m, .inl dp, .inr (.inl (some d)), .inl sp, .inr (.inl (some s))] =>
    if (zkd s = 10 ∧ zkd d = 10) ∧ (0 ≤ m ∧ 0 ≤ dp ∧ 0 ≤ sp) ∧ (sp + m ≤ zln s ∧ dp + m ≤ zln d) then nx n ls [] θ (zcpy σ s sp.toNat d dp.toNat m.toNat) else none
  | _ => none
def o_chk (n : Nat) (ls : ZL) (st : List ZV) (θ : ZT) (σ : ZI) : ZN :=
  match st with
  | .inl y :: .inl x :: r => if (zinR x ∧ zinR y) ∧ (0 ≤ x ∧ x < y) ∧ (r.map z_w).sum ≤ 8 then nx n ls r θ σ else none
  | _ => none
def o_oini (n : Nat) (ls : ZL) (st : List ZV) (θ : ZT) (σ : ZI) : ZN :=
  match st with
  | [.inr (.inl (some _))] => nx n ls [] θ σ
  | _ => none
def o_sval (n : Nat) (ls : ZL) (st : List ZV) (θ : ZT) (σ : ZI) : ZN :=
  match st with
  | .inr (.inl (some a)) :: r => if zkd a = 21 then nx n ls (.inr (.inl (some (a + 11))) :: r) θ σ else none
  | _ => none
def o_scod (n : Nat) (ls : ZL) (st : List ZV) (θ : ZT) (σ : ZI) : ZN :=
  match st with
  | .inr (.inl (some a)) :: r => if zkd a = 21 then nx n ls (.inl 0 :: r) θ σ else none
  | _ => none
/-- a resolved instruction's meaning -/
def z_sem (d : Nat × List Int) : ZL → List ZV → ZT → ZI → ZN :=
  match d with
  | (1, [k, n]) => o_iload k.toNat n.toNat
  | (2, [k, n]) => o_aload k.toNat n.toNat
  | (3, [k, n]) => o_dload k.toNat n.toNat
  | (4, [v, n]) => o_push (.inl v) n.toNat
  | (5, [n]) => o_push (.inr (.inl none)) n.toNat
  | (6, [v, n]) => o_push (.inr (.inr (.inl v))) n.toNat
  | (7, [k, n]) => o_istore k.toNat n.toNat
  | (8, [k, n]) => o_astore k.toNat n.toNat
  | (9, [k, n]) => o_dstore k.toNat n.toNat
  | (10, [k, c, n]) => o_iinc k.toNat c n.toNat
  | (11, [n]) => o_bin (fun x y => x + y) n.toNat
  | (12, [n]) => o_bin (fun x y => x - y) n.toNat
  | (13, [n]) => o_bin (fun x y => x * y) n.toNat
  | (14, [n]) => o_div n.toNat
  | (15, [n]) => o_rem n.toNat
  | (16, [n]) => o_bin z_and n.toNat
  | (17, [n]) => o_bin z_xor n.toNat
  | (18, [n]) => o_bin z_shr n.toNat
  | (19, [n]) => o_i2l n.toNat
  | (20, [n]) => o_i2c n.toNat
  | (21, [n]) => o_i2f n.toNat
  | (22, [n]) => o_i2d n.toNat
  | (23, [n]) => o_f2d n.toNat
  | (24, [n]) => o_fdiv n.toNat
  | (25, [n]) => o_ddiv n.toNat
  | (26, [n]) => o_dcmp n.toNat
  | (27, [n]) => o_lcmp n.toNat
  | (28, [n]) => o_push (.inr (.inr (.inr (.inl 1117913088)))) n.toNat
  | (29, [n]) => o_push (.inr (.inr (.inr (.inr 4635400285215260672)))) n.toNat
  | (30, [n]) => o_pop n.toNat
  | (31, [n]) => o_dup n.toNat
  | (32, [n]) => o_dup2 n.toNat
  | (33, [t]) => o_goto t.toNat
  | (34, [0, t, n]) => o_ifeq t.toNat n.toNat
  | (34, [1, t, n]) => o_ifne t.toNat n.toNat
  | (34, [2, t, n]) => o_iflt t.toNat n.toNat
  | (34, [3, t, n]) => o_ifge t.toNat n.toNat
  | (34, [4, t, n]) => o_ifgt t.toNat n.toNat
  | (34, [5, t, n]) => o_ifle t.toNat n.toNat
  | (35, [0, t, n]) => o_ceq t.toNat n.toNat
  | (35, [1, t, n]) => o_cne t.toNat n.toNat
  | (35, [2, t, n]) => o_clt t.toNat n.toNat
  | (35, [3, t, n]) => o_cge t.toNat n.toNat
  | (35, [4, t, n]) => o_cgt t.toNat n.toNat
  | (35, [5, t, n]) => o_cle t.toNat n.toNat
  | (36, [t, n]) => o_ifnull t.toNat n.toNat
  | (37, [t, n]) => o_ifnonnull t.toNat n.toNat
  | (38, d :: ps) => o_switch d.toNat ps
  | (39, [q]) => o_iret q.toNat
  | (40, []) => o_aret
  | (41, []) => o_vret
  | (42, []) => o_fret
  | (43, []) => o_dret
  | (44, [c, f, n]) => o_getI c.toNat f.toNat n.toNat
  | (45, [c, f, n]) => o_getR c.toNat f.toNat n.toNat
  | (46, [c, f, n]) => o_putI c.toNat f.toNat n.toNat
  | (47, [c, f, n]) => o_putZ c.toNat f.toNat n.toNat
  | (48, [c, f, n]) => o_putR c.toNat f.toNat n.toNat
  | (49, [n]) => o_iald n.toNat
  | (50, [n]) => o_bald n.toNat
  | (51, [n]) => o_cald n.toNat
  | (52, [n]) => o_lald n.toNat
  | (53, [n]) => o_aald n.toNat
  | (54, [n]) => o_iast n.toNat
  | (55, [n]) => o_bast n.toNat
  | (56, [n]) => o_cast n.toNat
  | (57, [n]) => o_last n.toNat
  | (58, [n]) => o_aast n.toNat
  | (59, [n]) => o_alen n.toNat
  | (60, [q, n]) => o_newa q.toNat n.toNat
  | (61, [q, n]) => o_newo q.toNat n.toNat
  | (62, [E]) => o_throw E.toNat
  | (63, [mj, q, na, n]) => o_callV mj.toNat q.toNat na.toNat n.toNat
  | (64, [mj, na, n]) => o_callS mj.toNat na.toNat n.toNat
  | (65, [mj, n]) => o_callI mj.toNat n.toNat
  | (66, [n]) => o_acopy n.toNat
  | (67, [n]) => o_chk n.toNat
  | (68, [n]) => o_oini n.toNat
  | (69, [i, n]) => o_push (.inr (.inl (some i.toNat))) n.toNat
  | (70, [n]) => o_push (.inl 1) n.toNat
  | (71, [n]) => o_sval n.toNat
  | (72, [n]) => o_scod n.toNat
  | _ => fun _ _ _ _ => none
/-- the methods: class, name, bytes, locals, answer, handlers, frames, words, parameters -/
abbrev ZM : Type := Nat × (MethodName × (ByteArray × (Nat × (Option FieldType × (List (Nat × Nat × Nat × Nat) × (Nat × (Nat × Nat)))))))
def zMT0 : List ZM := [(0, yX0_init, cX0_init, 2, none, [], 3, 53, 0), (0, yX0_storyAt, cX0_storyAt, 3, (some (.object "LawnGardeners$Story")), [], 1, 22, 1), (0, yX0_push, cX0_push, 3, none, [], 3, 67, 1), (0, yX0_popInto, cX0_popInto, 2, (some .int), [], 3, 67, 1), (0, yX0_forget, cX0_forget, 1, none, [], 0, 0, 0), (1, yX1_init, cX1_init, 1, none, [], 1, 12, 0), (1, yX1_forgetSeen, cX1_forgetSeen, 2, none, [], 0, 0, 0), (1, yX1_countByGoing, cX1_countByGoing, 5, (some .int), [], 3, 69, 2), (1, yX1_greatestSize, cX1_greatestSize, 5, (some .int), [], 3, 69, 2), (1, yX1_sizeOf, cX1_sizeOf, 3, (some .int), [], 3, 69, 2), (1, yX1_sizeUnlessSeen, cX1_sizeUnlessSeen, 6, (some .int), [], 2, 44, 2), (1, yX1_find, cX1_find, 2, none, [], 0, 0, 1), (1, yX1_countByNumbers, cX1_countByNumbers, 7, (some .int), [], 3, 69, 2), (1, yX1_leastNumber, cX1_leastNumber, 6, (some .int), [], 2, 44, 2), (2, yX2_init, cX2_init, 1, none, [], 1, 12, 0), (2, yX2_copyFrom, cX2_copyFrom, 2, none, [], 1, 18, 1), (2, yX2_isHoe, cX2_isHoe, 2, (some .boolean), [], 0, 0, 1), (2, yX2_cellOfHoe, cX2_cellOfHoe, 2, (some .int), [], 1, 21, 1), (2, yX2_headingOfHoe, cX2_headingOfHoe, 2, (some .int), [], 1, 21, 1), (2, yX2_goingsOfHoe, cX2_goingsOfHoe, 2, (some .int), [], 1, 21, 1), (2, yX2_meetingsOfHoe, cX2_meetingsOfHoe, 2, (some .int), [], 1, 21, 1), (2, yX2_latestTurnOfHoe, cX2_latestTurnOfHoe, 2, (some .int), [], 1, 21, 1), (2, yX2_colourOf, cX2_colourOf, 2, (some .int), [], 0, 0, 1), (2, yX2_paintingsOf, cX2_paintingsOf, 2, (some .int), [], 0, 0, 1), (2, yX2_turnOf, cX2_turnOf, 2, (some .int), [], 0, 0, 1), (2, yX2_trailAt, cX2_trailAt, 2, (some .int), [], 0, 0, 1), (2, yX2_addHoe, cX2_addHoe, 4, (some .int), [], 0, 0, 2), (2, yX2_removeHoe, cX2_removeHoe, 3, (some .int), [], 1, 21, 1), (2, yX2_changeMany, cX2_changeMany, 4, (some .int), [], 0, 0, 1), (2, yX2_changeTurn, cX2_changeTurn, 4, (some .int), [], 1, 21, 2), (2, yX2_changeColour, cX2_changeColour, 4, (some .int), [], 1, 21, 2), (2, yX2_hoesOn, cX2_hoesOn, 4, (some .int), [], 0, 0, 1)]
def zMT1 : List ZM := [(2, yX2_lowestHoeOn, cX2_lowestHoeOn, 3, (some .int), [], 0, 0, 1), (2, yX2_moveAll, cX2_moveAll, 2, none, [], 3, 68, 0), (2, yX2_moveHoe, cX2_moveHoe, 5, none, [], 2, 44, 1), (2, yX2_turnBackOn, cX2_turnBackOn, 3, none, [], 0, 0, 1), (2, yX2_paintByHoe, cX2_paintByHoe, 2, none, [], 0, 0, 1), (2, yX2_putOnTrail, cX2_putOnTrail, 4, none, [], 1, 21, 1), (2, yX2_makeInverse, cX2_makeInverse, 4, none, [], 2, 44, 0), (2, yX2_looksLike, cX2_looksLike, 3, (some .boolean), [], 2, 42, 1), (2, yX2_allGoings, cX2_allGoings, 3, (some .int), [], 2, 42, 0), (2, yX2_allMeetings, cX2_allMeetings, 3, (some .int), [], 2, 42, 0), (2, yX2_hoeRanked, cX2_hoeRanked, 3, (some .int), [], 3, 66, 1), (2, yX2_rankOfHoe, cX2_rankOfHoe, 5, (some .int), [], 2, 42, 1), (2, yX2_cellsWith, cX2_cellsWith, 4, (some .int), [], 0, 0, 1), (2, yX2_cellsPainted, cX2_cellsPainted, 3, (some .int), [], 0, 0, 0), (2, yX2_sumOfColours, cX2_sumOfColours, 3, (some .int), [], 0, 0, 0), (2, yX2_signOf, cX2_signOf, 3, (some .char), [], 1, 22, 1), (3, yX3_init, cX3_init, 2, none, [], 2, 32, 0), (3, yX3_copyFrom, cX3_copyFrom, 4, none, [], 2, 44, 1), (3, yX3_pastAt, cX3_pastAt, 3, (some (.object "LawnGardeners$Lawn")), [], 1, 22, 1), (3, yX3_aheadOfLatestStep, cX3_aheadOfLatestStep, 1, (some (.object "LawnGardeners$Lawn")), [], 2, 44, 0), (3, yX3_keepLawn, cX3_keepLawn, 2, none, [], 2, 44, 0), (3, yX3_takeStepBack, cX3_takeStepBack, 2, (some .int), [], 3, 64, 0), (3, yX3_forgetSteps, cX3_forgetSteps, 1, none, [], 0, 0, 0), (4, yX4_init, cX4_init, 1, none, [], 1, 12, 0), (4, yX4_put, cX4_put, 2, (some .int), [], 0, 0, 1), (4, yX4_clear, cX4_clear, 1, none, [], 0, 0, 0), (4, yX4_signAt, cX4_signAt, 2, (some .int), [], 0, 0, 1), (4, yX4_digitAt, cX4_digitAt, 3, (some .int), [], 1, 21, 1), (4, yX4_readOrder, cX4_readOrder, 2, none, [], 2, 43, 1), (4, yX4_faultOffset, cX4_faultOffset, 4, (some .int), [], 6, 129, 0), (4, yX4_endOfOrder, cX4_endOfOrder, 5, (some .int), [], 5, 105, 1), (4, yX4_shapeOf, cX4_shapeOf, 1, (some (.object "java/lang/String")), [], 0, 0, 1)]
def zMT2 : List ZM := [(4, yX4_fits, cX4_fits, 4, (some .boolean), [], 2, 43, 2), (5, yX5_init, cX5_init, 1, none, [], 4, 74, 0), (5, yX5_hoe, cX5_hoe, 4, (some .int), [], 8, 130, 3), (5, yX5_drop, cX5_drop, 2, (some .int), [], 8, 130, 1), (5, yX5_colours, cX5_colours, 2, (some .int), [], 8, 130, 1), (5, yX5_turn, cX5_turn, 3, (some .int), [], 8, 130, 2), (5, yX5_paint, cX5_paint, 4, (some .int), [], 8, 130, 3), (5, yX5_manner, cX5_manner, 2, (some .int), [], 8, 130, 1), (5, yX5_at, cX5_at, 3, (some .int), [], 7, 111, 2), (5, yX5_hoeOf, cX5_hoeOf, 3, (some .int), [], 7, 111, 2), (5, yX5_on, cX5_on, 3, (some .int), [], 7, 111, 2), (5, yX5_step, cX5_step, 2, (some .int), [], 8, 130, 1), (5, yX5_back, cX5_back, 1, (some .int), [], 8, 130, 0), (5, yX5_isInverse, cX5_isInverse, 1, (some .boolean), [], 6, 90, 0), (5, yX5_trail, cX5_trail, 2, (some .int), [], 6, 90, 1), (5, yX5_painted, cX5_painted, 3, (some .int), [], 7, 111, 2), (5, yX5_count, cX5_count, 2, (some .int), [], 7, 110, 1), (5, yX5_fields, cX5_fields, 2, (some .int), [], 7, 110, 1), (5, yX5_fieldsAgain, cX5_fieldsAgain, 2, (some .int), [], 7, 110, 1), (5, yX5_field, cX5_field, 3, (some .int), [], 7, 111, 2), (5, yX5_greatest, cX5_greatest, 2, (some .int), [], 7, 110, 1), (5, yX5_willBe, cX5_willBe, 3, (some .int), [], 7, 111, 2), (5, yX5_willMeet, cX5_willMeet, 2, (some .int), [], 7, 111, 1), (5, yX5_meetIn, cX5_meetIn, 2, (some .int), [], 6, 111, 0), (5, yX5_isBackIn, cX5_isBackIn, 3, (some .int), [], 7, 112, 1), (5, yX5_highway, cX5_highway, 3, (some .int), [], 7, 111, 1), (5, yX5_ranked, cX5_ranked, 2, (some .int), [], 6, 90, 1), (5, yX5_rowLine, cX5_rowLine, 3, (some .int), [], 6, 90, 1), (5, yX5_turnLine, cX5_turnLine, 2, (some .int), [], 1, 21, 0), (5, yX5_character, cX5_character, 2, (some .char), [], 6, 90, 1), (5, yX5_append, cX5_append, 2, (some .int), [], 6, 90, 1), (5, yX5_run, cX5_run, 4, (some .int), [], 7, 152, 0)]
def zMT3 : List ZM := [(5, yX5_errorPosition, cX5_errorPosition, 1, (some .int), [], 0, 0, 0), (5, yX5_refusal, cX5_refusal, 2, (some .int), [], 6, 90, 1), (5, yX5_account, cX5_account, 2, (some .int), [], 6, 90, 1), (5, yX5_isWell, cX5_isWell, 2, (some .boolean), [], 4, 95, 0), (5, yX5_meanColour, cX5_meanColour, 1, (some .double), [], 1, 22, 0), (5, yX5_paintedShare, cX5_paintedShare, 1, (some .float), [], 1, 22, 0), (5, yX5_undo, cX5_undo, 1, (some .int), [], 6, 90, 0), (5, yX5_save, cX5_save, 1, (some .int), [], 3, 67, 0), (5, yX5_restore, cX5_restore, 1, (some .int), [], 6, 90, 0), (5, yX5_isCell, cX5_isCell, 2, (some .boolean), [], 0, 0, 2), (5, yX5_cellOf, cX5_cellOf, 2, (some .int), [], 0, 0, 2), (5, yX5_cellBeside, cX5_cellBeside, 4, (some .int), [], 1, 21, 2), (5, yX5_quartersOfTurn, cX5_quartersOfTurn, 1, (some .int), [], 0, 0, 1), (5, yX5_letterOfTurn, cX5_letterOfTurn, 1, (some .char), [], 0, 0, 1), (5, yX5_turnOfLetter, cX5_turnOfLetter, 1, (some .int), [], 0, 0, 1), (5, yX5_headingOfLetter, cX5_headingOfLetter, 1, (some .int), [], 0, 0, 1), (5, yX5_throwFor, cX5_throwFor, 1, none, [], 7, 110, 1), (5, yX5_throwForText, cX5_throwForText, 1, none, [], 6, 90, 1), (5, yX5_throwUnlessCell, cX5_throwUnlessCell, 2, none, [], 6, 90, 2), (5, yX5_throwUnlessHoe, cX5_throwUnlessHoe, 2, none, [], 6, 90, 1), (5, yX5_throwUnlessColour, cX5_throwUnlessColour, 1, none, [], 6, 90, 1), (5, yX5_throwUnlessAhead, cX5_throwUnlessAhead, 1, none, [], 6, 90, 1), (5, yX5_refuse, cX5_refuse, 3, (some .int), [], 0, 0, 2), (5, yX5_faultOfHoe, cX5_faultOfHoe, 5, (some .int), [], 1, 22, 3), (5, yX5_setHoe, cX5_setHoe, 4, (some .int), [], 1, 23, 3), (5, yX5_faultOfDrop, cX5_faultOfDrop, 2, (some .int), [], 1, 21, 1), (5, yX5_dropHoe, cX5_dropHoe, 2, (some .int), [], 2, 43, 1), (5, yX5_faultOfColours, cX5_faultOfColours, 2, (some .int), [], 1, 22, 1), (5, yX5_setColours, cX5_setColours, 2, (some .int), [], 1, 23, 1), (5, yX5_faultOfTurn, cX5_faultOfTurn, 3, (some .int), [], 1, 22, 2), (5, yX5_setTurn, cX5_setTurn, 3, (some .int), [], 2, 44, 2), (5, yX5_faultOfPaint, cX5_faultOfPaint, 4, (some .int), [], 1, 22, 3)]
def zMT4 : List ZM := [(5, yX5_setColour, cX5_setColour, 4, (some .int), [], 2, 44, 3), (5, yX5_faultOfManner, cX5_faultOfManner, 2, (some .int), [], 1, 22, 1), (5, yX5_setManner, cX5_setManner, 3, (some .int), [], 1, 20, 1), (5, yX5_faultOfStep, cX5_faultOfStep, 2, (some .int), [], 1, 22, 1), (5, yX5_makeSteps, cX5_makeSteps, 4, (some .int), [], 4, 89, 1), (5, yX5_faultOfBack, cX5_faultOfBack, 1, (some .int), [], 1, 22, 0), (5, yX5_inverseFits, cX5_inverseFits, 2, (some .boolean), [], 3, 67, 0), (5, yX5_goAhead, cX5_goAhead, 3, none, [], 4, 89, 1), (5, yX5_stepOfFirstMeeting, cX5_stepOfFirstMeeting, 3, (some .int), [], 4, 89, 0), (5, yX5_stepOfReturn, cX5_stepOfReturn, 4, (some .int), [], 4, 89, 1), (5, yX5_periodAhead, cX5_periodAhead, 3, (some .int), [], 4, 89, 1), (5, yX5_isPeriodAhead, cX5_isPeriodAhead, 4, (some .boolean), [], 0, 0, 1), (5, yX5_faultOfOrder, cX5_faultOfOrder, 1, (some .int), [], 2, 46, 0), (5, yX5_carryOutOrder, cX5_carryOutOrder, 1, none, [], 5, 112, 0), (6, yX6_init, cX6_init, 1, none, [], 1, 12, 0), (6, yX6_thrown, cX6_thrown, 1, (some .int), [], 0, 0, 0), (6, yX6_fails, cX6_fails, 2, (some .boolean), [], 0, 0, 1), (6, yX6_refuses, cX6_refuses, 4, (some .int), [], 0, 0, 3), (6, yX6_in, cX6_in, 3, (some .boolean), [], 0, 0, 3), (6, yX6_copies, cX6_copies, 6, none, [], 0, 0, 5), (6, yX6_keeps, cX6_keeps, 2, none, [], 1, 25, 1), (6, yX6_keepsAndForgets, cX6_keepsAndForgets, 1, none, [], 2, 46, 0), (6, yX6_isCell, cX6_isCell, 2, (some .boolean), [], 1, 22, 2), (6, yX6_place, cX6_place, 2, (some .int), [], 0, 0, 2), (6, yX6_isHoe, cX6_isHoe, 2, (some .boolean), [], 1, 22, 1), (6, yX6_of, cX6_of, 3, (some .int), [], 0, 0, 2), (6, yX6_lays, cX6_lays, 4, none, [], 0, 0, 3), (6, yX6_lowestOn, cX6_lowestOn, 3, (some .int), [], 1, 22, 1), (6, yX6_hoe, cX6_hoe, 5, (some .int), [], 3, 66, 3), (6, yX6_drop, cX6_drop, 3, (some .int), [], 3, 66, 1), (6, yX6_colours, cX6_colours, 4, (some .int), [], 3, 66, 1), (6, yX6_turn, cX6_turn, 4, (some .int), [], 3, 66, 2)]
def zMT5 : List ZM := [(6, yX6_paint, cX6_paint, 6, (some .int), [], 3, 66, 3), (6, yX6_manner, cX6_manner, 3, (some .int), [], 3, 66, 1), (6, yX6_at, cX6_at, 3, (some .int), [], 2, 43, 2), (6, yX6_hoeOf, cX6_hoeOf, 3, (some .int), [], 2, 43, 2), (6, yX6_hoesOn, cX6_hoesOn, 4, (some .int), [], 1, 22, 1), (6, yX6_on, cX6_on, 3, (some .int), [], 2, 45, 2), (6, yX6_toward, cX6_toward, 4, (some .int), [], 1, 21, 2), (6, yX6_quarters, cX6_quarters, 1, (some .int), [], 0, 0, 1), (6, yX6_turnOn, cX6_turnOn, 2, (some .int), [], 0, 0, 1), (6, yX6_trails, cX6_trails, 4, none, [], 0, 0, 1), (6, yX6_moves, cX6_moves, 4, (some .boolean), [], 2, 46, 1), (6, yX6_turnsBack, cX6_turnsBack, 4, none, [], 1, 23, 2), (6, yX6_stepsOnce, cX6_stepsOnce, 3, (some .int), [], 3, 69, 0), (6, yX6_step, cX6_step, 4, (some .int), [], 4, 91, 1), (6, yX6_back, cX6_back, 1, (some .int), [], 2, 46, 0), (6, yX6_isInverseNow, cX6_isInverseNow, 4, (some .boolean), [], 2, 44, 0), (6, yX6_isInverse, cX6_isInverse, 1, (some .boolean), [], 3, 67, 0), (6, yX6_trail, cX6_trail, 2, (some .int), [], 1, 22, 1), (6, yX6_painted, cX6_painted, 3, (some .int), [], 2, 43, 2), (6, yX6_finds, cX6_finds, 5, none, [], 2, 44, 0), (6, yX6_cellsOf, cX6_cellsOf, 4, (some .int), [], 0, 0, 1), (6, yX6_count, cX6_count, 2, (some .int), [], 1, 23, 1), (6, yX6_fieldMany, cX6_fieldMany, 4, (some .int), [], 3, 68, 1), (6, yX6_fields, cX6_fields, 2, (some .int), [], 4, 91, 1), (6, yX6_fieldsAgain, cX6_fieldsAgain, 2, (some .int), [], 4, 91, 1), (6, yX6_sizeOf, cX6_sizeOf, 4, (some .int), [], 0, 0, 1), (6, yX6_field, cX6_field, 3, (some .int), [], 3, 68, 2), (6, yX6_greatest, cX6_greatest, 4, (some .int), [], 3, 68, 1), (6, yX6_willBe, cX6_willBe, 5, (some .int), [], 4, 91, 2), (6, yX6_willMeet, cX6_willMeet, 4, (some .int), [], 4, 91, 1), (6, yX6_meetIn, cX6_meetIn, 3, (some .int), [], 4, 91, 0), (6, yX6_isBackIn, cX6_isBackIn, 4, (some .int), [], 4, 91, 1)]
def zMT6 : List ZM := [(6, yX6_isPeriod, cX6_isPeriod, 3, (some .boolean), [], 0, 0, 1), (6, yX6_turnOf, cX6_turnOf, 4, (some .int), [], 3, 69, 1), (6, yX6_highway, cX6_highway, 3, (some .int), [], 4, 92, 1), (6, yX6_ranked, cX6_ranked, 5, (some .int), [], 2, 43, 1), (6, yX6_writes, cX6_writes, 2, none, [], 0, 0, 1), (6, yX6_rowLine, cX6_rowLine, 4, (some .int), [], 2, 44, 1), (6, yX6_turnLine, cX6_turnLine, 2, (some .int), [], 5, 105, 0), (6, yX6_character, cX6_character, 2, (some .char), [], 1, 22, 1), (6, yX6_append, cX6_append, 2, (some .int), [], 1, 21, 1), (6, yX6_here, cX6_here, 1, (some .int), [], 0, 0, 0), (6, yX6_skips, cX6_skips, 2, (some .boolean), [], 1, 20, 1), (6, yX6_figures, cX6_figures, 4, (some .boolean), [], 1, 22, 2), (6, yX6_letter, cX6_letter, 4, (some .boolean), [], 5, 105, 2), (6, yX6_orderHere, cX6_orderHere, 2, (some .boolean), [], 6, 128, 0), (6, yX6_isText, cX6_isText, 1, (some .boolean), [], 7, 149, 0), (6, yX6_carries, cX6_carries, 2, (some .int), [], 5, 114, 1), (6, yX6_lastOf, cX6_lastOf, 1, (some .int), [], 0, 0, 1), (6, yX6_run, cX6_run, 4, (some .int), [], 8, 169, 0), (6, yX6_errorPosition, cX6_errorPosition, 1, (some .int), [], 0, 0, 0), (6, yX6_refusal, cX6_refusal, 2, (some .int), [], 1, 21, 1), (6, yX6_meetings, cX6_meetings, 3, (some .int), [], 1, 22, 0), (6, yX6_paintedMany, cX6_paintedMany, 3, (some .int), [], 0, 0, 0), (6, yX6_account, cX6_account, 2, (some .int), [], 2, 44, 1), (6, yX6_isWell, cX6_isWell, 2, (some .boolean), [], 3, 67, 0), (6, yX6_meanColour, cX6_meanColour, 3, (some .double), [], 0, 0, 0), (6, yX6_paintedShare, cX6_paintedShare, 1, (some .float), [], 1, 22, 0), (6, yX6_undo, cX6_undo, 1, (some .int), [], 1, 25, 0), (6, yX6_save, cX6_save, 1, (some .int), [], 1, 25, 0), (6, yX6_restore, cX6_restore, 1, (some .int), [], 1, 25, 0), (8, yJ9_floorMod_7cf53, cJ9_floorMod_7cf53, 3, (some .int), [], 0, 0, 2), (8, yJ9_max_7cf53, cJ9_max_7cf53, 2, (some .int), [], 0, 0, 2), (8, yJ9_min_7cf53, cJ9_min_7cf53, 2, (some .int), [], 0, 0, 2)]
def zMT7 : List ZM := [(9, yJ0_length_8abf5, cJ0_length_8abf5, 1, (some .int), [], 1, 20, 0), (9, yJ0_charAt_5068e, cJ0_charAt_5068e, 2, (some .char), [], 4, 84, 1), (9, yJ0_coder_7d493, cJ0_coder_7d493, 1, (some .byte), [], 0, 0, 0), (9, yJ0_isLatin1_aae02, cJ0_isLatin1_aae02, 1, (some .boolean), [], 0, 0, 0), (10, yJ1_charAt_3b067, cJ1_charAt_3b067, 2, (some .char), [], 3, 63, 2), (7, yL_hoe, cL_hoe, 6, (some .int), [(0, 12, 15, 13), (0, 12, 19, 15), (0, 12, 23, 17)], 9, 153, 5), (7, yL_drop, cL_drop, 4, (some .int), [(0, 9, 12, 13)], 9, 151, 3), (7, yL_colours, cL_colours, 4, (some .int), [(0, 9, 12, 15), (0, 9, 15, 17)], 9, 151, 3), (7, yL_turn, cL_turn, 5, (some .int), [(0, 10, 13, 15), (0, 10, 17, 17)], 9, 152, 4), (7, yL_paint, cL_paint, 6, (some .int), [(0, 12, 15, 13), (0, 12, 19, 15), (0, 12, 23, 17)], 9, 153, 5), (7, yL_manner, cL_manner, 4, (some .int), [(0, 9, 12, 15), (0, 9, 15, 17)], 9, 151, 3), (7, yL_at, cL_at, 5, (some .int), [(0, 10, 13, 13)], 8, 133, 4), (7, yL_hoeOf, cL_hoeOf, 5, (some .int), [(0, 10, 13, 13), (0, 10, 17, 15)], 8, 133, 4), (7, yL_on, cL_on, 5, (some .int), [(0, 10, 13, 13)], 8, 133, 4), (7, yL_step, cL_step, 4, (some .int), [(0, 9, 12, 15), (0, 9, 15, 17)], 9, 151, 3), (7, yL_back, cL_back, 3, (some .int), [(0, 8, 11, 17)], 9, 150, 2), (7, yL_isInverse, cL_isInverse, 3, (some .int), [(0, 15, 18, 56)], 7, 110, 2), (7, yL_trail, cL_trail, 4, (some .int), [(0, 9, 12, 56)], 7, 111, 3), (7, yL_painted, cL_painted, 5, (some .int), [(0, 10, 13, 13)], 8, 133, 4), (7, yL_count, cL_count, 4, (some .int), [(0, 9, 12, 15)], 8, 131, 3), (7, yL_fields, cL_fields, 4, (some .int), [(0, 9, 12, 15)], 8, 131, 3), (7, yL_fieldsAgain, cL_fieldsAgain, 4, (some .int), [(0, 9, 12, 15)], 8, 131, 3), (7, yL_field, cL_field, 5, (some .int), [(0, 10, 13, 13)], 8, 133, 4), (7, yL_greatest, cL_greatest, 4, (some .int), [(0, 9, 12, 15)], 8, 131, 3), (7, yL_willBe, cL_willBe, 5, (some .int), [(0, 10, 13, 13), (0, 10, 17, 15)], 8, 133, 4), (7, yL_willMeet, cL_willMeet, 4, (some .int), [(0, 9, 12, 15)], 8, 132, 3), (7, yL_meetIn, cL_meetIn, 3, (some .int), [(0, 8, 11, 56)], 7, 132, 2), (7, yL_isBackIn, cL_isBackIn, 4, (some .int), [(0, 9, 12, 13), (0, 9, 15, 56)], 8, 134, 3), (7, yL_highway, cL_highway, 4, (some .int), [(0, 9, 12, 13), (0, 9, 15, 56)], 8, 133, 3), (7, yL_ranked, cL_ranked, 4, (some .int), [(0, 9, 12, 56)], 7, 111, 3), (7, yL_rowLine, cL_rowLine, 4, (some .int), [(0, 9, 12, 13)], 7, 112, 3), (7, yL_character, cL_character, 4, (some .int), [(0, 9, 12, 13)], 7, 111, 3)]
def zMT8 : List ZM := [(7, yL_append, cL_append, 4, (some .int), [(0, 9, 12, 108)], 7, 111, 3), (7, yL_run, cL_run, 3, (some .int), [(0, 8, 11, 15), (0, 8, 14, 17)], 8, 175, 2), (7, yL_refusal, cL_refusal, 4, (some .int), [(0, 9, 12, 56)], 7, 111, 3), (7, yL_account, cL_account, 4, (some .int), [(0, 9, 12, 15)], 7, 111, 3), (7, yL_undo, cL_undo, 3, (some .int), [(0, 8, 11, 108)], 7, 110, 2), (7, yL_restore, cL_restore, 3, (some .int), [(0, 8, 11, 108)], 7, 110, 2), (7, yL_law, cL_law, 9, (some .boolean), [], 10, 197, 1)]
def zMTs : List (List ZM) := [zMT0, zMT1, zMT2, zMT3, zMT4, zMT5, zMT6, zMT7, zMT8]
def zMT (i : Nat) : Option ZM := match zMTs[i / 32]? with
  | some l => l[i % 32]?
  | none => none
def zmL (i : Nat) : Nat := match zMT i with
  | some r => r.2.2.2.1
  | none => 0
def zmF (i : Nat) : Nat := match zMT i with
  | some r => r.2.2.2.2.2.2.1
  | none => 0
def zmW (i : Nat) : Nat := match zMT i with
  | some r => r.2.2.2.2.2.2.2.1
  | none => 0
def zmN (i : Nat) : Nat := match zMT i with
  | some r => r.2.2.2.2.2.2.2.2
  | none => 0
def zmC (i : Nat) : Nat := match zMT i with
  | some r => r.1
  | none => 0
/-- calls: own class, index: mode, method, the word's place -/
def zCT : Nat → List (Nat × (Nat × (Nat × Nat)))
  | 0 => [(3, 9, 0, 116), (17, 2, 48, 119), (22, 1, 221, 501), (31, 0, 1, 502), (35, 0, 49, 506)]
  | 1 => [(3, 9, 0, 138), (22, 0, 6, 253), (25, 0, 22, 257), (31, 0, 10, 261), (45, 0, 11, 265), (49, 3, 107, 269), (52, 0, 13, 279), (55, 1, 223, 283), (35, 1, 222, 813)]
  | 2 => [(3, 9, 0, 41), (46, 7, 0, 304), (85, 3, 107, 311), (69, 0, 22, 312), (100, 0, 30, 313), (65, 0, 24, 317), (76, 3, 108, 318), (103, 0, 17, 325), (61, 0, 16, 329), (106, 0, 18, 333), (109, 0, 19, 672), (72, 0, 34, 681), (79, 0, 36, 685), (82, 0, 37, 689), (95, 1, 223, 693), (89, 0, 31, 694), (92, 0, 35, 695), (112, 0, 20, 842), (115, 0, 43, 899), (118, 0, 32, 915)]
  | 3 => [(3, 9, 0, 35), (11, 4, 14, 38), (36, 0, 50, 293), (40, 1, 221, 297), (22, 0, 15, 363), (46, 0, 51, 714)]
  | 4 => [(3, 9, 0, 158), (44, 0, 62, 963), (31, 0, 58, 967), (47, 1, 63, 971), (51, 0, 224, 983), (56, 0, 225, 993), (60, 0, 64, 1031), (35, 0, 59, 1035), (38, 3, 111, 1039), (41, 3, 110, 1042)]
  | 5 => [(1, 9, 0, 27), (9, 2, 48, 32), (24, 2, 0, 113), (31, 4, 14, 132), (38, 4, 5, 135), (49, 4, 55, 155), (249, 1, 223, 231), (254, 0, 24, 234), (257, 1, 109, 238), (189, 0, 7, 249), (116, 1, 106, 272), (193, 0, 12, 275), (119, 0, 22, 284), (168, 0, 134, 285), (402, 0, 51, 289), (406, 0, 15, 300), (409, 0, 38, 307), (412, 0, 39, 321), (323, 0, 46, 341), (317, 0, 45, 350), (282, 0, 49, 359), (62, 0, 119, 374), (353, 1, 105, 378), (369, 0, 118, 381), (372, 0, 32, 385), (66, 1, 112, 389), (297, 1, 113, 462), (70, 0, 2, 497), (74, 0, 120, 507), (375, 0, 54, 511), (378, 0, 26, 515), (77, 0, 121, 526), (359, 0, 16, 530), (81, 0, 122, 531), (381, 0, 27, 535), (84, 0, 123, 546), (87, 0, 124, 550), (384, 0, 28, 554), (90, 0, 125, 565), (94, 0, 126, 569), (387, 0, 29, 573), (97, 0, 127, 584), (100, 0, 128, 588), (390, 0, 30, 592), (103, 0, 129, 600), (106, 0, 130, 604), (109, 1, 114, 615), (122, 0, 115, 626), (125, 0, 17, 631), (128, 0, 18, 632), (131, 0, 19, 633), (134, 0, 20, 637), (144, 0, 31, 649), (147, 0, 131, 660), (150, 0, 132, 664), (393, 0, 40, 668), (396, 0, 52, 673), (399, 0, 33, 677), (153, 0, 133, 706), (157, 0, 53, 710), (177, 0, 25, 747), (180, 0, 23, 758), (183, 1, 116, 769), (186, 0, 44, 773), (196, 0, 9, 798), (199, 0, 8, 809), (202, 1, 117, 823), (205, 0, 135, 827), (208, 0, 41, 838), (211, 0, 136, 850), (216, 0, 137, 862), (221, 0, 138, 874), (416, 0, 21, 878), (419, 0, 139, 882), (231, 0, 42, 895), (242, 0, 47, 911), (270, 0, 56, 948), (274, 0, 61, 959), (277, 0, 57, 1045), (285, 0, 60, 1050), (288, 0, 140, 1054), (291, 0, 141, 1058), (294, 0, 62, 1062), (331, 0, 3, 1087), (341, 0, 4, 1099)]
  | 6 => [(1, 9, 0, 1108), (79, 1, 150, 1182), (71, 1, 146, 1185), (83, 0, 144, 1188), (87, 0, 145, 1192), (91, 1, 151, 1196), (94, 0, 155, 1199), (75, 0, 153, 1203), (98, 0, 149, 1207), (67, 0, 148, 1211), (63, 1, 147, 1216), (101, 0, 154, 1219), (105, 0, 152, 1227), (108, 0, 164, 1259), (131, 0, 172, 1267), (128, 0, 170, 1271), (111, 0, 168, 1275), (114, 1, 167, 1279), (117, 0, 169, 1282), (121, 1, 166, 1286), (124, 0, 171, 1289), (135, 0, 175, 1301), (139, 0, 180, 1317), (145, 0, 182, 1325), (142, 0, 179, 1329), (148, 0, 185, 1341), (151, 0, 193, 1369), (154, 0, 192, 1373), (160, 0, 196, 1385), (165, 0, 225, 1394), (224, 0, 206, 1407), (197, 0, 205, 1411), (177, 0, 201, 1415), (182, 0, 202, 1419), (188, 0, 203, 1423), (193, 0, 204, 1428), (180, 0, 224, 1432), (227, 0, 207, 1433), (200, 0, 174, 1437), (203, 0, 156, 1438), (206, 0, 160, 1439), (209, 0, 159, 1440), (212, 0, 173, 1441), (215, 0, 157, 1442), (218, 0, 158, 1443), (221, 0, 161, 1444), (230, 1, 208, 1445), (233, 0, 213, 1460), (236, 0, 212, 1464)]
  | 7 => [(126, 2, 65, 24), (217, 0, 92, 227), (231, 0, 96, 241), (242, 0, 99, 245), (246, 0, 100, 337), (251, 0, 101, 346), (259, 0, 103, 355), (130, 5, 229, 364), (7, 0, 66, 370), (139, 5, 230, 519), (19, 0, 67, 522), (143, 5, 231, 539), (23, 0, 68, 542), (146, 5, 232, 558), (26, 0, 69, 561), (150, 5, 233, 577), (30, 0, 70, 580), (153, 5, 234, 593), (33, 0, 71, 596), (156, 5, 235, 608), (36, 0, 72, 611), (159, 5, 236, 619), (39, 0, 73, 622), (162, 5, 237, 642), (42, 0, 74, 645), (165, 5, 238, 653), (45, 0, 75, 656), (168, 5, 239, 699), (48, 0, 76, 702), (172, 5, 240, 715), (52, 0, 77, 719), (175, 5, 241, 739), (58, 0, 78, 742), (178, 5, 242, 751), (61, 0, 79, 754), (181, 5, 243, 762), (64, 0, 80, 765), (184, 5, 244, 777), (67, 0, 81, 780), (187, 5, 245, 784), (70, 0, 82, 787), (190, 5, 246, 791), (73, 0, 83, 794), (193, 5, 247, 802), (76, 0, 84, 805), (196, 5, 248, 816), (79, 0, 85, 819), (199, 5, 249, 831), (82, 0, 86, 834), (202, 5, 250, 843), (85, 0, 87, 846), (205, 5, 251, 855), (88, 0, 88, 858), (208, 5, 252, 867), (91, 0, 89, 870), (211, 5, 253, 887), (94, 0, 90, 890), (214, 5, 254, 903), (97, 0, 91, 906), (221, 5, 255, 916), (100, 0, 93, 919), (224, 5, 256, 924), (104, 0, 94, 928), (228, 5, 257, 952), (110, 0, 95, 955), (235, 5, 258, 1063), (113, 0, 97, 1066), (239, 5, 259, 1071), (117, 0, 98, 1074), (256, 5, 260, 1079), (120, 0, 102, 1082), (263, 5, 261, 1091), (123, 0, 104, 1094), (129, 2, 142, 1105), (136, 0, 143, 1174), (135, 0, 156, 1178), (142, 0, 157, 1223), (145, 0, 158, 1231), (149, 0, 159, 1235), (152, 0, 160, 1239), (155, 0, 161, 1243), (158, 0, 162, 1247), (161, 0, 163, 1251), (164, 0, 165, 1255), (167, 0, 173, 1263), (171, 0, 174, 1293), (174, 0, 176, 1297), (177, 0, 177, 1305), (180, 0, 178, 1309), (183, 0, 181, 1313), (186, 0, 183, 1321), (189, 0, 184, 1333), (192, 0, 186, 1337), (195, 0, 187, 1345), (198, 0, 188, 1349), (201, 0, 189, 1353), (204, 0, 190, 1357), (207, 0, 191, 1361), (210, 0, 194, 1365), (213, 0, 195, 1377), (216, 0, 197, 1381), (220, 0, 198, 1389), (223, 0, 199, 1395), (227, 0, 200, 1399), (230, 0, 209, 1403), (234, 0, 210, 1448), (238, 0, 211, 1452), (241, 0, 214, 1456), (245, 0, 215, 1468), (250, 0, 216, 1472), (255, 0, 217, 1477), (258, 0, 218, 1482), (262, 0, 219, 1486), (265, 0, 220, 1490)]
  | 8 => []
  | 9 => [(335, 0, 226, 987), (492, 0, 227, 997), (495, 1, 228, 1001)]
  | 10 => [(9, 8, 0, 1004)]
  | _ => []
/-- fields: own class, index: mode, class, place, kind, final, the word's place -/
def zFT : Nat → List (Nat × (Nat × (Nat × (Nat × (Nat × (Nat × Nat))))))
  | 0 => [(11, 0, 0, 0, 2, 1, 120), (18, 0, 0, 1, 0, 0, 121), (28, 0, 0, 2, 0, 0, 122)]
  | 1 => [(9, 0, 1, 0, 2, 1, 139), (15, 0, 1, 1, 2, 1, 140), (41, 0, 1, 2, 0, 0, 141), (19, 0, 1, 3, 2, 1, 142)]
  | 2 => [(9, 0, 2, 0, 2, 1, 42), (15, 0, 2, 1, 2, 1, 43), (18, 0, 2, 2, 2, 1, 44), (21, 0, 2, 3, 2, 1, 45), (24, 0, 2, 4, 2, 1, 46), (27, 0, 2, 5, 2, 1, 47), (30, 0, 2, 6, 2, 1, 48), (33, 0, 2, 7, 2, 1, 49), (36, 0, 2, 8, 2, 1, 50), (52, 0, 2, 9, 0, 0, 51), (55, 0, 2, 10, 0, 0, 53), (39, 0, 2, 11, 0, 0, 55), (43, 0, 2, 12, 0, 0, 57), (58, 0, 2, 13, 0, 0, 59)]
  | 3 => [(12, 0, 3, 0, 2, 1, 92), (18, 0, 3, 1, 2, 1, 94), (26, 0, 3, 2, 0, 0, 95), (30, 0, 3, 3, 0, 0, 96), (33, 0, 3, 4, 0, 0, 98)]
  | 4 => [(9, 0, 4, 0, 2, 1, 159), (28, 0, 4, 1, 0, 0, 160), (15, 0, 4, 2, 0, 0, 162), (19, 0, 4, 3, 0, 0, 164), (22, 0, 4, 4, 0, 0, 166), (25, 0, 4, 5, 0, 0, 168)]
  | 5 => [(172, 1, 2, 9, 0, 0, 52), (226, 1, 2, 10, 0, 0, 54), (246, 1, 2, 11, 0, 0, 56), (308, 1, 2, 12, 0, 0, 58), (311, 1, 2, 13, 0, 0, 60), (113, 1, 3, 0, 2, 1, 93), (160, 1, 3, 3, 0, 0, 97), (314, 1, 3, 4, 0, 0, 99), (320, 1, 0, 2, 0, 0, 123), (262, 1, 4, 1, 0, 0, 161), (422, 1, 4, 2, 0, 0, 163), (425, 1, 4, 3, 0, 0, 165), (428, 1, 4, 4, 0, 0, 167), (431, 1, 4, 5, 0, 0, 169), (10, 0, 5, 0, 2, 1, 184), (16, 0, 5, 1, 2, 1, 185), (19, 0, 5, 2, 2, 1, 186), (335, 0, 5, 3, 1, 0, 187), (25, 0, 5, 4, 2, 1, 188), (32, 0, 5, 5, 2, 1, 189), (39, 0, 5, 6, 2, 1, 190), (43, 0, 5, 7, 2, 1, 191), (50, 0, 5, 8, 2, 1, 192), (54, 0, 5, 9, 0, 0, 193), (58, 0, 5, 10, 2, 1, 194), (239, 0, 5, 11, 0, 0, 195), (300, 0, 5, 12, 0, 0, 196), (305, 0, 5, 13, 0, 0, 197)]
  | 6 => [(7, 0, 6, 0, 2, 1, 1110), (14, 0, 6, 1, 2, 1, 1111), (17, 0, 6, 2, 2, 1, 1112), (20, 0, 6, 3, 2, 1, 1113), (23, 0, 6, 4, 2, 1, 1114), (242, 0, 6, 5, 1, 0, 1115), (59, 0, 6, 6, 0, 0, 1116), (55, 0, 6, 7, 1, 0, 1117), (46, 0, 6, 8, 0, 0, 1118), (49, 0, 6, 9, 0, 0, 1119), (52, 0, 6, 10, 0, 0, 1120), (26, 0, 6, 11, 2, 1, 1121), (171, 0, 6, 12, 0, 0, 1122), (29, 0, 6, 13, 0, 0, 1123), (33, 0, 6, 14, 2, 1, 1124), (157, 0, 6, 15, 0, 0, 1125), (37, 0, 6, 16, 2, 1, 1126), (40, 0, 6, 17, 2, 1, 1127), (174, 0, 6, 18, 0, 0, 1128), (43, 0, 6, 19, 2, 1, 1129), (185, 0, 6, 20, 0, 0, 1130)]
  | 7 => []
  | 8 => []
  | 9 => [(38, 4, 9, 0, 0, 0, 991), (15, 3, 9, 0, 0, 0, 1510), (9, 2, 9, 0, 0, 0, 1511)]
  | 10 => []
  | _ => []
/-- classes: own class, index: the index of the constructor of an exception or 0, class or exception, the word's place -/
def zNT : Nat → List (Nat × (Nat × (Nat × Nat)))
  | 0 => [(9, 0, 3, 117)]
  | 1 => []
  | 2 => []
  | 3 => [(9, 0, 2, 36)]
  | 4 => []
  | 5 => [(7, 0, 3, 30), (22, 0, 0, 111), (29, 0, 2, 131), (36, 0, 1, 133), (47, 0, 4, 153), (234, 238, 0, 392), (346, 350, 2, 465), (137, 141, 1, 481), (163, 167, 3, 723), (265, 269, 4, 932)]
  | 6 => []
  | 7 => [(8, 0, 5, 22), (127, 0, 6, 1103)]
  | 8 => []
  | 9 => []
  | 10 => []
  | _ => []
/-- texts that are values: own class, index: number -/
def zSTt : Nat → List (Nat × Nat)
  | 0 => []
  | 1 => []
  | 2 => []
  | 3 => []
  | 4 => [(64, 1), (66, 2), (68, 3), (70, 4), (72, 5), (74, 6), (76, 7), (78, 8), (80, 9)]
  | 5 => []
  | 6 => [(163, 10), (191, 11)]
  | 7 => []
  | 8 => []
  | 9 => []
  | 10 => []
  | _ => []
/-- messages of exceptions: index, the word's place, the text -/
def zMS : List (Nat × (Nat × String)) := [(344, 435, "there is no such cell or hoe"), (348, 474, "refused: the reason is kept"), (351, 490, "a number is out of range"), (357, 618, "there is no such cell"), (363, 630, "there is no such hoe"), (139, 641, "what is not from 0 to 4"), (165, 732, "no step can be taken back"), (175, 746, "the trail has no such place"), (365, 772, "the colour is not from 0 to 3"), (367, 826, "the number of steps is not from 0 to 200"), (214, 854, "hoes do not meet in the next 200 steps"), (219, 866, "the hoe is not back within 200 steps"), (224, 886, "the hoe has no highway"), (229, 894, "there is no such place"), (236, 910, "there is no such row"), (260, 923, "the line has no such index"), (267, 941, "the input contains 60 characters"), (280, 1049, "the text has an error"), (303, 1070, "nothing was refused"), (321, 1078, "what is not from 0 to 10"), (329, 1086, "no change can be undone"), (339, 1098, "there is no snapshot")]
def zlk {α : Type} (i : Nat) : List (Nat × α) → Option α
  | [] => none
  | (j, x) :: r => if j = i then some x else zlk i r
def zrt : Option FieldType → Nat
  | some .int => 0
  | some .boolean => 1
  | some .char => 2
  | some .byte => 3
  | none => 4
  | some .float => 5
  | some .double => 6
  | some (.object _) => 7
  | some (.array _) => 7
  | _ => 9
/-- jump targets of a table -/
def ztb (pc : Nat) (lo : Int) : List Int → List Int
  | [] => []
  | o :: r => lo :: ((pc : Int) + o) :: ztb pc (lo + 1) r
def zlkp (pc : Nat) : List (Int × Int) → List Int
  | [] => []
  | (k, o) :: r => k :: ((pc : Int) + o) :: zlkp pc r
def zall : List Int → Bool
  | _ :: t :: r => decide (0 ≤ t) && zall r
  | _ => true
/-- 'new E("..")' thrown at once: the bytes behind the 'new' -/
def zthr (b : ByteArray) (pc ic : Nat) : Bool :=
  match decode b (pc + 3), decode b (pc + 4) with
  | .ok (.dup, 1), .ok (.ldc i, 2) => (zlk i zMS).isSome && decide (decode b (pc + 6) = .ok (.invokespecial ic, 3)) && decide (decode b (pc + 9) = .ok (.athrow, 1))
  | .ok (.dup, 1), .ok (.ldc_w i, 3) => (zlk i zMS).isSome && decide (decode b (pc + 7) = .ok (.invokespecial ic, 3)) && decide (decode b (pc + 10) = .ok (.athrow, 1))
  | _, _ => false
def zgo (pc : Nat) (off : Int) : Option Int := if 0 ≤ (pc : Int) + off then some ((pc : Int) + off) else none
/-- how long an instruction is (0: as the table says) -/
def zil : Instr → Nat
  | .iload _ | .aload _ | .dload _ | .istore _ | .astore _ | .dstore _ | .bipush _ | .ldc _ | .newarray _ => 2
  | .sipush _ | .iinc _ _ | .goto _ | .ifCond _ _ | .if_icmp _ _ | .ifnull _ | .ifnonnull _ | .ldc_w _ | .ldc2_w _ | .getfield _ | .putfield _ | .getstatic _ | .new _ | .anewarray _ | .invokevirtual _ | .invokestatic _ | .invokespecial _ => 3
  | .tableswitch _ _ _ _ | .lookupswitch _ _ => 0
  | _ => 1
def zresI (r : ZM) (pc : Nat) (ig : Instr) : Option (Nat × List Int) :=
  match ig with
  | .iload k => some (1, [k, (pc + 2 : Nat)])
  | .iload_n k => some (1, [(k.val : Nat), (pc + 1 : Nat)])
  | .aload k => some (2, [k, (pc + 2 : Nat)])
  | .aload_n k => some (2, [(k.val : Nat), (pc + 1 : Nat)])
  | .dload k => some (3, [k, (pc + 2 : Nat)])
  | .iconst v => if -128 ≤ v ∧ v < 128 then some (4, [v, (pc + 1 : Nat)]) else none
  | .bipush v => if -128 ≤ v ∧ v < 128 then some (4, [v, (pc + 2 : Nat)]) else none
  | .sipush v => if -32768 ≤ v ∧ v < 32768 then some (4, [v, (pc + 3 : Nat)]) else none
  | .aconst_null => some (5, [(pc + 1 : Nat)])
  | .lconst v => some (6, [(v.val : Nat), (pc + 1 : Nat)])
  | .istore k => some (7, [k, (pc + 2 : Nat)])
  | .istore_n k => some (7, [(k.val : Nat), (pc + 1 : Nat)])
  | .astore k => some (8, [k, (pc + 2 : Nat)])
  | .astore_n k => some (8, [(k.val : Nat), (pc + 1 : Nat)])
  | .dstore k => some (9, [k, (pc + 2 : Nat)])
  | .iinc k c => some (10, [k, c, (pc + 3 : Nat)])
  | .iadd => some (11, [(pc + 1 : Nat)])
  | .isub => some (12, [(pc + 1 : Nat)])
  | .imul => some (13, [(pc + 1 : Nat)])
  | .idiv => some (14, [(pc + 1 : Nat)])
  | .irem => some (15, [(pc + 1 : Nat)])
  | .iand => some (16, [(pc + 1 : Nat)])
  | .ixor => some (17, [(pc + 1 : Nat)])
  | .ishr => some (18, [(pc + 1 : Nat)])
  | .i2l => some (19, [(pc + 1 : Nat)])
  | .i2c => some (20, [(pc + 1 : Nat)])
  | .i2f => some (21, [(pc + 1 : Nat)])
  | .i2d => some (22, [(pc + 1 : Nat)])
  | .f2d => some (23, [(pc + 1 : Nat)])
  | .fdiv => some (24, [(pc + 1 : Nat)])
  | .ddiv => some (25, [(pc + 1 : Nat)])
  | .dcmp .l => some (26, [(pc + 1 : Nat)])
  | .lcmp => some (27, [(pc + 1 : Nat)])
  | .ldc i =>
    if (r.1 = 5 ∧ i = 328) ∨ (r.1 = 6 ∧ i = 241) then some (28, [(pc + 2 : Nat)])
    else if r.1 = 6 ∧ i = 13 then some (4, [49616, (pc + 2 : Nat)])
    else if r.1 = 6 ∧ i = 62 then some (4, [43414, (pc + 2 : Nat)])
    else match zlk i (zSTt r.1) with
      | some j => some (69, [j, (pc + 2 : Nat)])
      | none => none
  | .ldc_w i =>
    if (r.1 = 5 ∧ i = 328) ∨ (r.1 = 6 ∧ i = 241) then some (28, [(pc + 3 : Nat)]) else none
  | .ldc2_w i => if (r.1 = 5 ∧ i = 326) ∨ (r.1 = 6 ∧ i = 239) then some (29, [(pc + 3 : Nat)]) else none
  | .pop => some (30, [(pc + 1 : Nat)])
  | .dup => some (31, [(pc + 1 : Nat)])
  | .dup2 => some (32, [(pc + 1 : Nat)])
  | .goto off => match zgo pc off with
    | some t => some (33, [t])
    | none => none
  | .ifCond c off => match zgo pc off with
    | some t => some (34, [(match c with | .eq => 0 | .ne => 1 | .lt => 2 | .ge => 3 | .gt => 4 | .le => 5), t, (pc + 3 : Nat)])
    | none => none
  | .if_icmp c off => match zgo pc off with
    | some t => some (35, [(match c with | .eq => 0 | .ne => 1 | .lt => 2 | .ge => 3 | .gt => 4 | .le => 5), t, (pc + 3 : Nat)])
    | none => none
  | .ifnull off => match zgo pc off with
    | some t => some (36, [t, (pc + 3 : Nat)])
    | none => none
  | .ifnonnull off => match zgo pc off with
    | some t => some (37, [t, (pc + 3 : Nat)])
    | none => none
  | .tableswitch d lo hi offs => match zgo pc d with
    | some t => if hi = lo + (offs.size : Int) - 1 ∧ zall (ztb pc lo offs.toList) = true ∧ (-2147483648 ≤ lo ∧ hi < 2147483648) then some (38, t :: ztb pc lo offs.toList) else none
    | none => none
  | .lookupswitch d ps => match zgo pc d with
    | some t => if (ps.toList.zip (ps.toList.drop 1)).all (fun (a, next) => a.1 < next.1) = true ∧ zall (zlkp pc ps.toList) = true then some (38, t :: zlkp pc ps.toList) else none
    | none => none
  | .ireturn => if zrt r.2.2.2.2.1 < 4 then some (39, [(zrt r.2.2.2.2.1 : Nat)]) else none
  | .areturn => if zrt r.2.2.2.2.1 = 7 then some (40, []) else none
  | .return_ => if zrt r.2.2.2.2.1 = 4 then some (41, []) else none
  | .freturn => if zrt r.2.2.2.2.1 = 5 then some (42, []) else none
  | .dreturn => if zrt r.2.2.2.2.1 = 6 then some (43, []) else none
  | .getfield i => match zlk i (zFT r.1) with
    | some (mode, ci, k, knd, _, _) => if mode < 2 then (if knd = 2 then some (45, [ci, k, (pc + 3 : Nat)]) else some (44, [ci, k, (pc + 3 : Nat)])) else if mode = 2 then some (71, [(pc + 3 : Nat)]) else if mode = 3 then some (72, [(pc + 3 : Nat)]) else none
    | none => none
  | .putfield i => match zlk i (zFT r.1) with
    | some (mode, ci, k, knd, fin, _) => if mode < 2 ∧ (fin = 0 ∨ (mode = 0 ∧ ci = r.1 ∧ r.2.1.name = "<init>")) then (if knd = 2 then some (48, [ci, k, (pc + 3 : Nat)]) else if knd = 1 then some (47, [ci, k, (pc + 3 : Nat)]) else some (46, [ci, k, (pc + 3 : Nat)])) else none
    | none => none
  | .getstatic i => match zlk i (zFT r.1) with
    | some (4, _, _, _, _, _) => some (70, [(pc + 3 : Nat)])
    | _ => none
  | .iaload => some (49, [(pc + 1 : Nat)])
  | .baload => some (50, [(pc + 1 : Nat)])
  | .caload => some (51, [(pc + 1 : Nat)])
  | .laload => some (52, [(pc + 1 : Nat)])
  | .aaload => some (53, [(pc + 1 : Nat)])
  | .iastore => some (54, [(pc + 1 : Nat)])
  | .bastore => some (55, [(pc + 1 : Nat)])
  | .castore => some (56, [(pc + 1 : Nat)])
  | .lastore => some (57, [(pc + 1 : Nat)])
  | .aastore => some (58, [(pc + 1 : Nat)])
  | .arraylength => some (59, [(pc + 1 : Nat)])
  | .newarray .int => some (60, [10, (pc + 2 : Nat)])
  | .newarray .boolean => some (60, [11, (pc + 2 : Nat)])
  | .newarray .char => some (60, [12, (pc + 2 : Nat)])
  | .newarray .long => some (60, [13, (pc + 2 : Nat)])
  | .anewarray i => match zlk i (zNT r.1) with
    | some (0, 3, _) => some (60, [14, (pc + 3 : Nat)])
    | some (0, 2, _) => some (60, [15, (pc + 3 : Nat)])
    | _ => none
  | .new i => match zlk i (zNT r.1) with
    | some (0, ci, _) => some (61, [ci, (pc + 3 : Nat)])
    | some (ic, E, _) => if r.1 = 5 ∧ zthr r.2.2.1 pc ic = true ∧ 6 ≤ r.2.2.2.2.2.2.1 ∧ 90 ≤ r.2.2.2.2.2.2.2.1 then some (62, [E]) else none
    | none => none
  | .invokevirtual i => match zlk i (zCT r.1) with
    | some (0, mj, _) => if zmF mj + 1 ≤ r.2.2.2.2.2.2.1 ∧ 8 + (zmL mj + 11) + zmW mj ≤ r.2.2.2.2.2.2.2.1 then some (63, [mj, (if zmC mj = 9 then 21 else zmC mj : Nat), zmN mj, (pc + 3 : Nat)]) else none
    | _ => none
  | .invokestatic i => match zlk i (zCT r.1) with
    | some (7, _, _) => if 1 ≤ r.2.2.2.2.2.2.1 ∧ 18 ≤ r.2.2.2.2.2.2.2.1 then some (66, [(pc + 3 : Nat)]) else none
    | some (8, _, _) => if 3 ≤ r.2.2.2.2.2.2.1 ∧ 63 ≤ r.2.2.2.2.2.2.2.1 then some (67, [(pc + 3 : Nat)]) else none
    | some (m, mj, _) => if (m = 1 ∨ m = 3 ∨ m = 5) ∧ zmF mj + 1 ≤ r.2.2.2.2.2.2.1 ∧ 8 + (zmL mj + 11) + zmW mj ≤ r.2.2.2.2.2.2.2.1 then some (64, [mj, zmN mj, (pc + 3 : Nat)]) else none
    | none => none
  | .invokespecial i => match zlk i (zCT r.1) with
    | some (9, _, _) => if 1 ≤ r.2.2.2.2.2.2.1 ∧ 12 ≤ r.2.2.2.2.2.2.2.1 then some (68, [(pc + 3 : Nat)]) else none
    | some (m, mj, _) => if (m = 2 ∨ m = 4) ∧ zmN mj = 0 ∧ zmF mj + 1 ≤ r.2.2.2.2.2.2.1 ∧ 8 + (zmL mj + 11) + zmW mj ≤ r.2.2.2.2.2.2.2.1 then some (65, [mj, (pc + 3 : Nat)]) else none
    | none => none
  | _ => none
def zres (mi pc : Nat) : Option (Nat × List Int) :=
  match zMT mi with
  | none => none
  | some r => match decode r.2.2.1 pc with
    | .ok (ig, len) => if zil ig = 0 ∨ len = zil ig then zresI r pc ig else none
    | .error _ => none
/-- the handlers of the law's methods: what class the catch index names -/
def zHC : Nat → Option Nat
  | 13 => some 0
  | 15 => some 1
  | 17 => some 2
  | 56 => some 3
  | 108 => some 4
  | _ => none
def zhd (b : ByteArray) (pc E : Nat) : List (Nat × Nat × Nat × Nat) → Option (Nat × Nat)
  | [] => none
  | (s, e, h, t) :: r => if (s ≤ pc ∧ pc < e) ∧ zHC t = some E then (match decode b h with
      | .ok (.astore k, 2) => some (k, h + 2)
      | .ok (.astore_n k, 1) => some (k.val, h + 1)
      | _ => none) else zhd b pc E r
def zhnd (mi pc E : Nat) : Option (Nat × Nat) := match zMT mi with
  | none => none
  | some r => zhd r.2.2.1 pc E r.2.2.2.2.2.1
def zent (mj : Nat) (vs : List ZV) : ZL := vs.map some ++ List.replicate (zmL mj - vs.length) none
def zrun : Nat → Nat → Nat → ZL → List ZV → ZT → ZI → Option (ZO × (ZT × ZI))
  | 0, _, _, _, _, _, _ => none
  | n + 1, mi, pc, ls, st, θ, σ => match zres mi pc with
    | none => none
    | some d => match z_sem d ls st θ σ with
      | none => none
      | some (.inl (pc', ls', st', θ', σ')) => zrun n mi pc' ls' st' θ' σ'
      | some (.inr (.inl r)) => some r
      | some (.inr (.inr (mj, vs, rest, npc))) => match zrun n mj 0 (zent mj vs) [] θ σ with
        | none => none
        | some (.inl v, θ', σ') => zrun n mi npc ls (v.toList ++ rest) θ' σ'
        | some (.inr E, θ', σ') => match zhnd mi pc E with
          | none => some (.inr E, θ', σ')
          | some (k, npc') => if k < ls.length ∧ ¬ (0 < k ∧ z_c2 (ls.getD (k - 1) none) = true) then zrun n mi npc' (ls.set k none) [] θ' σ' else none
