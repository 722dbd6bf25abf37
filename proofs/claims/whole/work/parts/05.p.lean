/-! rules of the operations, on what stands there -/
theorem p_il0 {l : ZL} {st : List ZV} {θ : ZT} {σ : ZI} {n : Nat} {x : Int} : o_iload 0 n (some (.inl x) :: l) st θ σ = nx n (some (.inl x) :: l) (.inl x :: st) θ σ := rfl
theorem p_al0 {l : ZL} {st : List ZV} {θ : ZT} {σ : ZI} {n : Nat} {x : Option Nat} : o_aload 0 n (some (.inr (.inl x)) :: l) st θ σ = nx n (some (.inr (.inl x)) :: l) (.inr (.inl x) :: st) θ σ := rfl
theorem p_dl0 {l : ZL} {st : List ZV} {θ : ZT} {σ : ZI} {n : Nat} {x : UInt64} : o_dload 0 n (some (.inr (.inr (.inr (.inr x)))) :: l) st θ σ = nx n (some (.inr (.inr (.inr (.inr x)))) :: l) (.inr (.inr (.inr (.inr x))) :: st) θ σ := rfl
theorem p_ii0 {l : ZL} {st : List ZV} {θ : ZT} {σ : ZI} {n : Nat} {x c : Int} : o_iinc 0 c n (some (.inl x) :: l) st θ σ = nx n (some (.inl (x + c)) :: l) st θ σ := rfl
theorem p_is0 {l : ZL} {st : List ZV} {θ : ZT} {σ : ZI} {n : Nat} {z : Option ZV} {x : Int} : o_istore 0 n (z :: l) (.inl x :: st) θ σ = nx n (some (.inl x) :: l) st θ σ := by simp [o_istore]
theorem p_as0 {l : ZL} {st : List ZV} {θ : ZT} {σ : ZI} {n : Nat} {z : Option ZV} {x : Option Nat} : o_astore 0 n (z :: l) (.inr (.inl x) :: st) θ σ = nx n (some (.inr (.inl x)) :: l) st θ σ := by simp [o_astore]
theorem p_ds0 {l : ZL} {st : List ZV} {θ : ZT} {σ : ZI} {n : Nat} {z y : Option ZV} {x : UInt64} : o_dstore 0 n (z :: y :: l) (.inr (.inr (.inr (.inr x))) :: st) θ σ = nx n (some (.inr (.inr (.inr (.inr x)))) :: none :: l) st θ σ := by simp [o_dstore]
theorem p_il1 {l : ZL} {st : List ZV} {θ : ZT} {σ : ZI} {n : Nat} {a0 : Option ZV} {x : Int} : o_iload 1 n (a0 :: some (.inl x) :: l) st θ σ = nx n (a0 :: some (.inl x) :: l) (.inl x :: st) θ σ := rfl
theorem p_al1 {l : ZL} {st : List ZV} {θ : ZT} {σ : ZI} {n : Nat} {a0 : Option ZV} {x : Option Nat} : o_aload 1 n (a0 :: some (.inr (.inl x)) :: l) st θ σ = nx n (a0 :: some (.inr (.inl x)) :: l) (.inr (.inl x) :: st) θ σ := rfl
theorem p_dl1 {l : ZL} {st : List ZV} {θ : ZT} {σ : ZI} {n : Nat} {a0 : Option ZV} {x : UInt64} : o_dload 1 n (a0 :: some (.inr (.inr (.inr (.inr x)))) :: l) st θ σ = nx n (a0 :: some (.inr (.inr (.inr (.inr x)))) :: l) (.inr (.inr (.inr (.inr x))) :: st) θ σ := rfl
theorem p_ii1 {l : ZL} {st : List ZV} {θ : ZT} {σ : ZI} {n : Nat} {a0 : Option ZV} {x c : Int} : o_iinc 1 c n (a0 :: some (.inl x) :: l) st θ σ = nx n (a0 :: some (.inl (x + c)) :: l) st θ σ := rfl
theorem p_is1 {l : ZL} {st : List ZV} {θ : ZT} {σ : ZI} {n : Nat} {a0 : Option ZV} {z : Option ZV} {x : Int} (hc : z_c2 a0 = false) : o_istore 1 n (a0 :: z :: l) (.inl x :: st) θ σ = nx n (a0 :: some (.inl x) :: l) st θ σ := by simp [o_istore, hc]
theorem p_as1 {l : ZL} {st : List ZV} {θ : ZT} {σ : ZI} {n : Nat} {a0 : Option ZV} {z : Option ZV} {x : Option Nat} (hc : z_c2 a0 = false) : o_astore 1 n (a0 :: z :: l) (.inr (.inl x) :: st) θ σ = nx n (a0 :: some (.inr (.inl x)) :: l) st θ σ := by simp [o_astore, hc]
theorem p_ds1 {l : ZL} {st : List ZV} {θ : ZT} {σ : ZI} {n : Nat} {a0 : Option ZV} {z y : Option ZV} {x : UInt64} (hc : z_c2 a0 = false) : o_dstore 1 n (a0 :: z :: y :: l) (.inr (.inr (.inr (.inr x))) :: st) θ σ = nx n (a0 :: some (.inr (.inr (.inr (.inr x)))) :: none :: l) st θ σ := by simp [o_dstore, hc]
theorem p_il2 {l : ZL} {st : List ZV} {θ : ZT} {σ : ZI} {n : Nat} {a0 a1 : Option ZV} {x : Int} : o_iload 2 n (a0 :: a1 :: some (.inl x) :: l) st θ σ = nx n (a0 :: a1 :: some (.inl x) :: l) (.inl x :: st) θ σ := rfl
theorem p_al2 {l : ZL} {st : List ZV} {θ : ZT} {σ : ZI} {n : Nat} {a0 a1 : Option ZV} {x : Option Nat} : o_aload 2 n (a0 :: a1 :: some (.inr (.inl x)) :: l) st θ σ = nx n (a0 :: a1 :: some (.inr (.inl x)) :: l) (.inr (.inl x) :: st) θ σ := rfl
theorem p_dl2 {l : ZL} {st : List ZV} {θ : ZT} {σ : ZI} {n : Nat} {a0 a1 : Option ZV} {x : UInt64} : o_dload 2 n (a0 :: a1 :: some (.inr (.inr (.inr (.inr x)))) :: l) st θ σ = nx n (a0 :: a1 :: some (.inr (.inr (.inr (.inr x)))) :: l) (.inr (.inr (.inr (.inr x))) :: st) θ σ := rfl
theorem p_ii2 {l : ZL} {st : List ZV} {θ : ZT} {σ : ZI} {n : Nat} {a0 a1 : Option ZV} {x c : Int} : o_iinc 2 c n (a0 :: a1 :: some (.inl x) :: l) st θ σ = nx n (a0 :: a1 :: some (.inl (x + c)) :: l) st θ σ := rfl
theorem p_is2 {l : ZL} {st : List ZV} {θ : ZT} {σ : ZI} {n : Nat} {a0 a1 : Option ZV} {z : Option ZV} {x : Int} (hc : z_c2 a1 = false) : o_istore 2 n (a0 :: a1 :: z :: l) (.inl x :: st) θ σ = nx n (a0 :: a1 :: some (.inl x) :: l) st θ σ := by simp [o_istore, hc]
theorem p_as2 {l : ZL} {st : List ZV} {θ : ZT} {σ : ZI} {n : Nat} {a0 a1 : Option ZV} {z : Option ZV} {x : Option Nat} (hc : z_c2 a1 = false) : o_astore 2 n (a0 :: a1 :: z :: l) (.inr (.inl x) :: st) θ σ = nx n (a0 :: a1 :: some (.inr (.inl x)) :: l) st θ σ := by simp [o_astore, hc]
theorem p_ds2 {l : ZL} {st : List ZV} {θ : ZT} {σ : ZI} {n : Nat} {a0 a1 : Option ZV} {z y : Option ZV} {x : UInt64} (hc : z_c2 a1 = false) : o_dstore 2 n (a0 :: a1 :: z :: y :: l) (.inr (.inr (.inr (.inr x))) :: st) θ σ = nx n (a0 :: a1 :: some (.inr (.inr (.inr (.inr x)))) :: none :: l) st θ σ := by simp [o_dstore, hc]
theorem p_il3 {l : ZL} {st : List ZV} {θ : ZT} {σ : ZI} {n : Nat} {a0 a1 a2 : Option ZV} {x : Int} : o_iload 3 n (a0 :: a1 :: a2 :: some (.inl x) :: l) st θ σ = nx n (a0 :: a1 :: a2 :: some (.inl x) :: l) (.inl x :: st) θ σ := rfl
theorem p_al3 {l : ZL} {st : List ZV} {θ : ZT} {σ : ZI} {n : Nat} {a0 a1 a2 : Option ZV} {x : Option Nat} : o_aload 3 n (a0 :: a1 :: a2 :: some (.inr (.inl x)) :: l) st θ σ = nx n (a0 :: a1 :: a2 :: some (.inr (.inl x)) :: l) (.inr (.inl x) :: st) θ σ := rfl
theorem p_dl3 {l : ZL} {st : List ZV} {θ : ZT} {σ : ZI} {n : Nat} {a0 a1 a2 : Option ZV} {x : UInt64} : o_dload 3 n (a0 :: a1 :: a2 :: some (.inr (.inr (.inr (.inr x)))) :: l) st θ σ = nx n (a0 :: a1 :: a2 :: some (.inr (.inr (.inr (.inr x)))) :: l) (.inr (.inr (.inr (.inr x))) :: st) θ σ := rfl
theorem p_ii3 {l : ZL} {st : List ZV} {θ : ZT} {σ : ZI} {n : Nat} {a0 a1 a2 : Option ZV} {x c : Int} : o_iinc 3 c n (a0 :: a1 :: a2 :: some (.inl x) :: l) st θ σ = nx n (a0 :: a1 :: a2 :: some (.inl (x + c)) :: l) st θ σ := rfl
theorem p_is3 {l : ZL} {st : List ZV} {θ : ZT} {σ : ZI} {n : Nat} {a0 a1 a2 : Option ZV} {z : Option ZV} {x : Int} (hc : z_c2 a2 = false) : o_istore 3 n (a0 :: a1 :: a2 :: z :: l) (.inl x :: st) θ σ = nx n (a0 :: a1 :: a2 :: some (.inl x) :: l) st θ σ := by simp [o_istore, hc]
theorem p_as3 {l : ZL} {st : List ZV} {θ : ZT} {σ : ZI} {n : Nat} {a0 a1 a2 : Option ZV} {z : Option ZV} {x : Option Nat} (hc : z_c2 a2 = false) : o_astore 3 n (a0 :: a1 :: a2 :: z :: l) (.inr (.inl x) :: st) θ σ = nx n (a0 :: a1 :: a2 :: some (.inr (.inl x)) :: l) st θ σ := by simp [o_astore, hc]
theorem p_ds3 {l : ZL} {st : List ZV} {θ : ZT} {σ : ZI} {n : Nat} {a0 a1 a2 : Option ZV} {z y : Option ZV} {x : UInt64} (hc : z_c2 a2 = false) : o_dstore 3 n (a0 :: a1 :: a2 :: z :: y :: l) (.inr (.inr (.inr (.inr x))) :: st) θ σ = nx n (a0 :: a1 :: a2 :: some (.inr (.inr (.inr (.inr x)))) :: none :: l) st θ σ := by simp [o_dstore, hc]
theorem p_il4 {l : ZL} {st : List ZV} {θ : ZT} {σ : ZI} {n : Nat} {a0 a1 a2 a3 : Option ZV} {x : Int} : o_iload 4 n (a0 :: a1 :: a2 :: a3 :: some (.inl x) :: l) st θ σ = nx n (a0 :: a1 :: a2 :: a3 :: some (.inl x) :: l) (.inl x :: st) θ σ := rfl
theorem p_al4 {l : ZL} {st : List ZV} {θ : ZT} {σ : ZI} {n : Nat} {a0 a1 a2 a3 : Option ZV} {x : Option Nat} : o_aload 4 n (a0 :: a1 :: a2 :: a3 :: some (.inr (.inl x)) :: l) st θ σ = nx n (a0 :: a1 :: a2 :: a3 :: some (.inr (.inl x)) :: l) (.inr (.inl x) :: st) θ σ := rfl
theorem p_dl4 {l : ZL} {st : List ZV} {θ : ZT} {σ : ZI} {n : Nat} {a0 a1 a2 a3 : Option ZV} {x : UInt64} : o_dload 4 n (a0 :: a1 :: a2 :: a3 :: some (.inr (.inr (.inr (.inr x)))) :: l) st θ σ = nx n (a0 :: a1 :: a2 :: a3 :: some (.inr (.inr (.inr (.inr x)))) :: l) (.inr (.inr (.inr (.inr x))) :: st) θ σ := rfl
theorem p_ii4 {l : ZL} {st : List ZV} {θ : ZT} {σ : ZI} {n : Nat} {a0 a1 a2 a3 : Option ZV} {x c : Int} : o_iinc 4 c n (a0 :: a1 :: a2 :: a3 :: some (.inl x) :: l) st θ σ = nx n (a0 :: a1 :: a2 :: a3 :: some (.inl (x + c)) :: l) st θ σ := rfl
theorem p_is4 {l : ZL} {st : List ZV} {θ : ZT} {σ : ZI} {n : Nat} {a0 a1 a2 a3 : Option ZV} {z : Option ZV} {x : Int} (hc : z_c2 a3 = false) : o_istore 4 n (a0 :: a1 :: a2 :: a3 :: z :: l) (.inl x :: st) θ σ = nx n (a0 :: a1 :: a2 :: a3 :: some (.inl x) :: l) st θ σ := by simp [o_istore, hc]
theorem p_as4 {l : ZL} {st : List ZV} {θ : ZT} {σ : ZI} {n : Nat} {a0 a1 a2 a3 : Option ZV} {z : Option ZV} {x : Option Nat} (hc : z_c2 a3 = false) : o_astore 4 n (a0 :: a1 :: a2 :: a3 :: z :: l) (.inr (.inl x) :: st) θ σ = nx n (a0 :: a1 :: a2 :: a3 :: some (.inr (.inl x)) :: l) st θ σ := by simp [o_astore, hc]
theorem p_ds4 {l : ZL} {st : List ZV} {θ : ZT} {σ : ZI} {n : Nat} {a0 a1 a2 a3 : Option ZV} {z y : Option ZV} {x : UInt64} (hc : z_c2 a3 = false) : o_dstore 4 n (a0 :: a1 :: a2 :: a3 :: z :: y :: l) (.inr (.inr (.inr (.inr x))) :: st) θ σ = nx n (a0 :: a1 :: a2 :: a3 :: some (.inr (.inr (.inr (.inr x)))) :: none :: l) st θ σ := by simp [o_dstore, hc]
theorem p_il5 {l : ZL} {st : List ZV} {θ : ZT} {σ : ZI} {n : Nat} {a0 a1 a2 a3 a4 : Option ZV} {x : Int} : o_iload 5 n (a0 :: a1 :: a2 :: a3 :: a4 :: some (.inl x) :: l) st θ σ = nx n (a0 :: a1 :: a2 :: a3 :: a4 :: some (.inl x) :: l) (.inl x :: st) θ σ := rfl
theorem p_al5 {l : ZL} {st : List ZV} {θ : ZT} {σ : ZI} {n : Nat} {a0 a1 a2 a3 a4 : Option ZV} {x : Option Nat} : o_aload 5 n (a0 :: a1 :: a2 :: a3 :: a4 :: some (.inr (.inl x)) :: l) st θ σ = nx n (a0 :: a1 :: a2 :: a3 :: a4 :: some (.inr (.inl x)) :: l) (.inr (.inl x) :: st) θ σ := rfl
theorem p_dl5 {l : ZL} {st : List ZV} {θ : ZT} {σ : ZI} {n : Nat} {a0 a1 a2 a3 a4 : Option ZV} {x : UInt64} : o_dload 5 n (a0 :: a1 :: a2 :: a3 :: a4 :: some (.inr (.inr (.inr (.inr x)))) :: l) st θ σ = nx n (a0 :: a1 :: a2 :: a3 :: a4 :: some (.inr (.inr (.inr (.inr x)))) :: l) (.inr (.inr (.inr (.inr x))) :: st) θ σ := rfl
theorem p_ii5 {l : ZL} {st : List ZV} {θ : ZT} {σ : ZI} {n : Nat} {a0 a1 a2 a3 a4 : Option ZV} {x c : Int} : o_iinc 5 c n (a0 :: a1 :: a2 :: a3 :: a4 :: some (.inl x) :: l) st θ σ = nx n (a0 :: a1 :: a2 :: a3 :: a4 :: some (.inl (x + c)) :: l) st θ σ := rfl
theorem p_is5 {l : ZL} {st : List ZV} {θ : ZT} {σ : ZI} {n : Nat} {a0 a1 a2 a3 a4 : Option ZV} {z : Option ZV} {x : Int} (hc : z_c2 a4 = false) : o_istore 5 n (a0 :: a1 :: a2 :: a3 :: a4 :: z :: l) (.inl x :: st) θ σ = nx n (a0 :: a1 :: a2 :: a3 :: a4 :: some (.inl x) :: l) st θ σ := by simp [o_istore, hc]
theorem p_as5 {l : ZL} {st : List ZV} {θ : ZT} {σ : ZI} {n : Nat} {a0 a1 a2 a3 a4 : Option ZV} {z : Option ZV} {x : Option Nat} (hc : z_c2 a4 = false) : o_astore 5 n (a0 :: a1 :: a2 :: a3 :: a4 :: z :: l) (.inr (.inl x) :: st) θ σ = nx n (a0 :: a1 :: a2 :: a3 :: a4 :: some (.inr (.inl x)) :: l) st θ σ := by simp [o_astore, hc]
theorem p_ds5 {l : ZL} {st : List ZV} {θ : ZT} {σ : ZI} {n : Nat} {a0 a1 a2 a3 a4 : Option ZV} {z y : Option ZV} {x : UInt64} (hc : z_c2 a4 = false) : o_dstore 5 n (a0 :: a1 :: a2 :: a3 :: a4 :: z :: y :: l) (.inr (.inr (.inr (.inr x))) :: st) θ σ = nx n (a0 :: a1 :: a2 :: a3 :: a4 :: some (.inr (.inr (.inr (.inr x)))) :: none :: l) st θ σ := by simp [o_dstore, hc]
theorem p_il6 {l : ZL} {st : List ZV} {θ : ZT} {σ : ZI} {n : Nat} {a0 a1 a2 a3 a4 a5 : Option ZV} {x : Int} : o_iload 6 n (a0 :: a1 :: a2 :: a3 :: a4 :: a5 :: some (.inl x) :: l) st θ σ = nx n (a0 :: a1 :: a2 :: a3 :: a4 :: a5 :: some (.inl x) :: l) (.inl x :: st) θ σ := rfl
theorem p_al6 {l : ZL} {st : List ZV} {θ : ZT} {σ : ZI} {n : Nat} {a0 a1 a2 a3 a4 a5 : Option ZV} {x : Option Nat} : o_aload 6 n (a0 :: a1 :: a2 :: a3 :: a4 :: a5 :: some (.inr (.inl x)) :: l) st θ σ = nx n (a0 :: a1 :: a2 :: a3 :: a4 :: a5 :: some (.inr (.inl x)) :: l) (.inr (.inl x) :: st) θ σ := rfl
theorem p_dl6 {l : ZL} {st : List ZV} {θ : ZT} {σ : ZI} {n : Nat} {a0 a1 a2 a3 a4 a5 : Option ZV} {x : UInt64} : o_dload 6 n (a0 :: a1 :: a2 :: a3 :: a4 :: a5 :: some (.inr (.inr (.inr (.inr x)))) :: l) st θ σ = nx n (a0 :: a1 :: a2 :: a3 :: a4 :: a5 :: some (.inr (.inr (.inr (.inr x)))) :: l) (.inr (.inr (.inr (.inr x))) :: st) θ σ := rfl
theorem p_ii6 {l : ZL} {st : List ZV} {θ : ZT} {σ : ZI} {n : Nat} {a0 a1 a2 a3 a4 a5 : Option ZV} {x c : Int} : o_iinc 6 c n (a0 :: a1 :: a2 :: a3 :: a4 :: a5 :: some (.inl x) :: l) st θ σ = nx n (a0 :: a1 :: a2 :: a3 :: a4 :: a5 :: some (.inl (x + c)) :: l) st θ σ := rfl
theorem p_is6 {l : ZL} {st : List ZV} {θ : ZT} {σ : ZI} {n : Nat} {a0 a1 a2 a3 a4 a5 : Option ZV} {z : Option ZV} {x : Int} (hc : z_c2 a5 = false) : o_istore 6 n (a0 :: a1 :: a2 :: a3 :: a4 :: a5 :: z :: l) (.inl x :: st) θ σ = nx n (a0 :: a1 :: a2 :: a3 :: a4 :: a5 :: some (.inl x) :: l) st θ σ := by simp [o_istore, hc]
theorem p_as6 {l : ZL} {st : List ZV} {θ : ZT} {σ : ZI} {n : Nat} {a0 a1 a2 a3 a4 a5 : Option ZV} {z : Option ZV} {x : Option Nat} (hc : z_c2 a5 = false) : o_astore 6 n (a0 :: a1 :: a2 :: a3 :: a4 :: a5 :: z :: l) (.inr (.inl x) :: st) θ σ = nx n (a0 :: a1 :: a2 :: a3 :: a4 :: a5 :: some (.inr (.inl x)) :: l) st θ σ := by simp [o_astore, hc]
theorem p_ds6 {l : ZL} {st : List ZV} {θ : ZT} {σ : ZI} {n : Nat} {a0 a1 a2 a3 a4 a5 : Option ZV} {z y : Option ZV} {x : UInt64} (hc : z_c2 a5 = false) : o_dstore 6 n (a0 :: a1 :: a2 :: a3 :: a4 :: a5 :: z :: y :: l) (.inr (.inr (.inr (.inr x))) :: st) θ σ = nx n (a0 :: a1 :: a2 :: a3 :: a4 :: a5 :: some (.inr (.inr (.inr (.inr x)))) :: none :: l) st θ σ := by simp [o_dstore, hc]
theorem p_il7 {l : ZL} {st : List ZV} {θ : ZT} {σ : ZI} {n : Nat} {a0 a1 a2 a3 a4 a5 a6 : Option ZV} {x : Int} : o_iload 7 n (a0 :: a1 :: a2 :: a3 :: a4 :: a5 :: a6 :: some (.inl x) :: l) st θ σ = nx n (a0 :: a1 :: a2 :: a3 :: a4 :: a5 :: a6 :: some (.inl x) :: l) (.inl x :: st) θ σ := rfl
theorem p_al7 {l : ZL} {st : List ZV} {θ : ZT} {σ : ZI} {n : Nat} {a0 a1 a2 a3 a4 a5 a6 : Option ZV} {x : Option Nat} : o_aload 7 n (a0 :: a1 :: a2 :: a3 :: a4 :: a5 :: a6 :: some (.inr (.inl x)) :: l) st θ σ = nx n (a0 :: a1 :: a2 :: a3 :: a4 :: a5 :: a6 :: some (.inr (.inl x)) :: l) (.inr (.inl x) :: st) θ σ := rfl
theorem p_dl7 {l : ZL} {st : List ZV} {θ : ZT} {σ : ZI} {n : Nat} {a0 a1 a2 a3 a4 a5 a6 : Option ZV} {x : UInt64} : o_dload 7 n (a0 :: a1 :: a2 :: a3 :: a4 :: a5 :: a6 :: some (.inr (.inr (.inr (.inr x)))) :: l) st θ σ = nx n (a0 :: a1 :: a2 :: a3 :: a4 :: a5 :: a6 :: some (.inr (.inr (.inr (.inr x)))) :: l) (.inr (.inr (.inr (.inr x))) :: st) θ σ := rfl
theorem p_ii7 {l : ZL} {st : List ZV} {θ : ZT} {σ : ZI} {n : Nat} {a0 a1 a2 a3 a4 a5 a6 : Option ZV} {x c : Int} : o_iinc 7 c n (a0 :: a1 :: a2 :: a3 :: a4 :: a5 :: a6 :: some (.inl x) :: l) st θ σ = nx n (a0 :: a1 :: a2 :: a3 :: a4 :: a5 :: a6 :: some (.inl (x + c)) :: l) st θ σ := rfl
theorem p_is7 {l : ZL} {st : List ZV} {θ : ZT} {σ : ZI} {n : Nat} {a0 a1 a2 a3 a4 a5 a6 : Option ZV} {z : Option ZV} {x : Int} (hc : z_c2 a6 = false) : o_istore 7 n (a0 :: a1 :: a2 :: a3 :: a4 :: a5 :: a6 :: z :: l) (.inl x :: st) θ σ = nx n (a0 :: a1 :: a2 :: a3 :: a4 :: a5 :: a6 :: some (.inl x) :: l) st θ σ := by simp [o_istore, hc]
theorem p_as7 {l : ZL} {st : List ZV} {θ : ZT} {σ : ZI} {n : Nat} {a0 a1 a2 a3 a4 a5 a6 : Option ZV} {z : Option ZV} {x : Option Nat} (hc : z_c2 a6 = false) : o_astore 7 n (a0 :: a1 :: a2 :: a3 :: a4 :: a5 :: a6 :: z :: l) (.inr (.inl x) :: st) θ σ = nx n (a0 :: a1 :: a2 :: a3 :: a4 :: a5 :: a6 :: some (.inr (.inl x)) :: l) st θ σ := by simp [o_astore, hc]
theorem p_ds7 {l : ZL} {st : List ZV} {θ : ZT} {σ : ZI} {n : Nat} {a0 a1 a2 a3 a4 a5 a6 : Option ZV} {z y : Option ZV} {x : UInt64} (hc : z_c2 a6 = false) : o_dstore 7 n (a0 :: a1 :: a2 :: a3 :: a4 :: a5 :: a6 :: z :: y :: l) (.inr (.inr (.inr (.inr x))) :: st) θ σ = nx n (a0 :: a1 :: a2 :: a3 :: a4 :: a5 :: a6 :: some (.inr (.inr (.inr (.inr x)))) :: none :: l) st θ σ := by simp [o_dstore, hc]
theorem p_il8 {l : ZL} {st : List ZV} {θ : ZT} {σ : ZI} {n : Nat} {a0 a1 a2 a3 a4 a5 a6 a7 : Option ZV} {x : Int} : o_iload 8 n (a0 :: a1 :: a2 :: a3 :: a4 :: a5 :: a6 :: a7 :: some (.inl x) :: l) st θ σ = nx n (a0 :: a1 :: a2 :: a3 :: a4 :: a5 :: a6 :: a7 :: some (.inl x) :: l) (.inl x :: st) θ σ := rfl
theorem p_al8 {l : ZL} {st : List ZV} {θ : ZT} {σ : ZI} {n : Nat} {a0 a1 a2 a3 a4 a5 a6 a7 : Option ZV} {x : Option Nat} : o_aload 8 n (a0 :: a1 :: a2 :: a3 :: a4 :: a5 :: a6 :: a7 :: some (.inr (.inl x)) :: l) st θ σ = nx n (a0 :: a1 :: a2 :: a3 :: a4 :: a5 :: a6 :: a7 :: some (.inr (.inl x)) :: l) (.inr (.inl x) :: st) θ σ := rfl
theorem p_dl8 {l : ZL} {st : List ZV} {θ : ZT} {σ : ZI} {n : Nat} {a0 a1 a2 a3 a4 a5 a6 a7 : Option ZV} {x : UInt64} : o_dload 8 n (a0 :: a1 :: a2 :: a3 :: a4 :: a5 :: a6 :: a7 :: some (.inr (.inr (.inr (.inr x)))) :: l) st θ σ = nx n (a0 :: a1 :: a2 :: a3 :: a4 :: a5 :: a6 :: a7 :: some (.inr (.inr (.inr (.inr x)))) :: l) (.inr (.inr (.inr (.inr x))) :: st) θ σ := rfl
theorem p_ii8 {l : ZL} {st : List ZV} {θ : ZT} {σ : ZI} {n : Nat} {a0 a1 a2 a3 a4 a5 a6 a7 : Option ZV} {x c : Int} : o_iinc 8 c n (a0 :: a1 :: a2 :: a3 :: a4 :: a5 :: a6 :: a7 :: some (.inl x) :: l) st θ σ = nx n (a0 :: a1 :: a2 :: a3 :: a4 :: a5 :: a6 :: a7 :: some (.inl (x + c)) :: l) st θ σ := rfl
theorem p_is8 {l : ZL} {st : List ZV} {θ : ZT} {σ : ZI} {n : Nat} {a0 a1 a2 a3 a4 a5 a6 a7 : Option ZV} {z : Option ZV} {x : Int} (hc : z_c2 a7 = false) : o_istore 8 n (a0 :: a1 :: a2 :: a3 :: a4 :: a5 :: a6 :: a7 :: z :: l) (.inl x :: st) θ σ = nx n (a0 :: a1 :: a2 :: a3 :: a4 :: a5 :: a6 :: a7 :: some (.inl x) :: l) st θ σ := by simp [o_istore, hc]
theorem p_as8 {l : ZL} {st : List ZV} {θ : ZT} {σ : ZI} {n : Nat} {a0 a1 a2 a3 a4 a5 a6 a7 : Option ZV} {z : Option ZV} {x : Option Nat} (hc : z_c2 a7 = false) : o_astore 8 n (a0 :: a1 :: a2 :: a3 :: a4 :: a5 :: a6 :: a7 :: z :: l) (.inr (.inl x) :: st) θ σ = nx n (a0 :: a1 :: a2 :: a3 :: a4 :: a5 :: a6 :: a7 :: some (.inr (.inl x)) :: l) st θ σ := by simp [o_astore, hc]
theorem p_ds8 {l : ZL} {st : List ZV} {θ : ZT} {σ : ZI} {n : Nat} {a0 a1 a2 a3 a4 a5 a6 a7 : Option ZV} {z y : Option ZV} {x : UInt64} (hc : z_c2 a7 = false) : o_dstore 8 n (a0 :: a1 :: a2 :: a3 :: a4 :: a5 :: a6 :: a7 :: z :: y :: l) (.inr (.inr (.inr (.inr x))) :: st) θ σ = nx n (a0 :: a1 :: a2 :: a3 :: a4 :: a5 :: a6 :: a7 :: some (.inr (.inr (.inr (.inr x)))) :: none :: l) st θ σ := by simp [o_dstore, hc]
theorem p_il9 {l : ZL} {st : List ZV} {θ : ZT} {σ : ZI} {n : Nat} {a0 a1 a2 a3 a4 a5 a6 a7 a8 : Option ZV} {x : Int} : o_iload 9 n (a0 :: a1 :: a2 :: a3 :: a4 :: a5 :: a6 :: a7 :: a8 :: some (.inl x) :: l) st θ σ = nx n (a0 :: a1 :: a2 :: a3 :: a4 :: a5 :: a6 :: a7 :: a8 :: some (.inl x) :: l) (.inl x :: st) θ σ := rfl
theorem p_al9 {l : ZL} {st : List ZV} {θ : ZT} {σ : ZI} {n : Nat} {a0 a1 a2 a3 a4 a5 a6 a7 a8 : Option ZV} {x : Option Nat} : o_aload 9 n (a0 :: a1 :: a2 :: a3 :: a4 :: a5 :: a6 :: a7 :: a8 :: some (.inr (.inl x)) :: l) st θ σ = nx n (a0 :: a1 :: a2 :: a3 :: a4 :: a5 :: a6 :: a7 :: a8 :: some (.inr (.inl x)) :: l) (.inr (.inl x) :: st) θ σ := rfl
theorem p_dl9 {l : ZL} {st : List ZV} {θ : ZT} {σ : ZI} {n : Nat} {a0 a1 a2 a3 a4 a5 a6 a7 a8 : Option ZV} {x : UInt64} : o_dload 9 n (a0 :: a1 :: a2 :: a3 :: a4 :: a5 :: a6 :: a7 :: a8 :: some (.inr (.inr (.inr (.inr x)))) :: l) st θ σ = nx n (a0 :: a1 :: a2 :: a3 :: a4 :: a5 :: a6 :: a7 :: a8 :: some (.inr (.inr (.inr (.inr x)))) :: l) (.inr (.inr (.inr (.inr x))) :: st) θ σ := rfl
theorem p_ii9 {l : ZL} {st : List ZV} {θ : ZT} {σ : ZI} {n : Nat} {a0 a1 a2 a3 a4 a5 a6 a7 a8 : Option ZV} {x c : Int} : o_iinc 9 c n (a0 :: a1 :: a2 :: a3 :: a4 :: a5 :: a6 :: a7 :: a8 :: some (.inl x) :: l) st θ σ = nx n (a0 :: a1 :: a2 :: a3 :: a4 :: a5 :: a6 :: a7 :: a8 :: some (.inl (x + c)) :: l) st θ σ := rfl
theorem p_is9 {l : ZL} {st : List ZV} {θ : ZT} {σ : ZI} {n : Nat} {a0 a1 a2 a3 a4 a5 a6 a7 a8 : Option ZV} {z : Option ZV} {x : Int} (hc : z_c2 a8 = false) : o_istore 9 n (a0 :: a1 :: a2 :: a3 :: a4 :: a5 :: a6 :: a7 :: a8 :: z :: l) (.inl x :: st) θ σ = nx n (a0 :: a1 :: a2 :: a3 :: a4 :: a5 :: a6 :: a7 :: a8 :: some (.inl x) :: l) st θ σ := by simp [o_istore, hc]
theorem p_as9 {l : ZL} {st : List ZV} {θ : ZT} {σ : ZI} {n : Nat} {a0 a1 a2 a3 a4 a5 a6 a7 a8 : Option ZV} {z : Option ZV} {x : Option Nat} (hc : z_c2 a8 = false) : o_astore 9 n (a0 :: a1 :: a2 :: a3 :: a4 :: a5 :: a6 :: a7 :: a8 :: z :: l) (.inr (.inl x) :: st) θ σ = nx n (a0 :: a1 :: a2 :: a3 :: a4 :: a5 :: a6 :: a7 :: a8 :: some (.inr (.inl x)) :: l) st θ σ := by simp [o_astore, hc]
theorem p_ds9 {l : ZL} {st : List ZV} {θ : ZT} {σ : ZI} {n : Nat} {a0 a1 a2 a3 a4 a5 a6 a7 a8 : Option ZV} {z y : Option ZV} {x : UInt64} (hc : z_c2 a8 = false) : o_dstore 9 n (a0 :: a1 :: a2 :: a3 :: a4 :: a5 :: a6 :: a7 :: a8 :: z :: y :: l) (.inr (.inr (.inr (.inr x))) :: st) θ σ = nx n (a0 :: a1 :: a2 :: a3 :: a4 :: a5 :: a6 :: a7 :: a8 :: some (.inr (.inr (.inr (.inr x)))) :: none :: l) st θ σ := by simp [o_dstore, hc]
theorem p_c2n : z_c2 none = false := rfl
theorem p_c2i {x : Int} : z_c2 (some (.inl x)) = false := rfl
theorem p_c2r {x : Option Nat} : z_c2 (some (.inr (.inl x))) = false := rfl
theorem p_c2f {x : UInt32} : z_c2 (some (.inr (.inr (.inr (.inl x))))) = false := rfl
theorem p_push {ls : ZL} {st : List ZV} {θ : ZT} {σ : ZI} {n : Nat} {v : ZV} : o_push v n ls st θ σ = nx n ls (v :: st) θ σ := rfl
theorem p_bin {ls : ZL} {st : List ZV} {θ : ZT} {σ : ZI} {n : Nat} {f : Int → Int → Int} {x y : Int} : o_bin f n ls (.inl y :: .inl x :: st) θ σ = nx n ls (.inl (f x y) :: st) θ σ := rfl
theorem p_div {ls : ZL} {st : List ZV} {θ : ZT} {σ : ZI} {n : Nat} {x y : Int} (h1 : -2147483648 ≤ x) (h2 : x < 2147483648) (h3 : 0 < y) (h4 : y < 2147483648) : o_div n ls (.inl y :: .inl x :: st) θ σ = nx n ls (.inl (Int.tdiv x y) :: st) θ σ := by
  show (if (zinR x ∧ zinR y) ∧ (y ≠ 0 ∧ y ≠ -1) then _ else none) = _
  rw [if_pos ⟨⟨⟨h1, h2⟩, by omega, h4⟩, by omega, by omega⟩]
theorem p_rem {ls : ZL} {st : List ZV} {θ : ZT} {σ : ZI} {n : Nat} {x y : Int} (h1 : -2147483648 ≤ x) (h2 : x < 2147483648) (h3 : 0 < y) (h4 : y < 2147483648) : o_rem n ls (.inl y :: .inl x :: st) θ σ = nx n ls (.inl (Int.tmod x y) :: st) θ σ := by
  show (if (zinR x ∧ zinR y) ∧ (y ≠ 0 ∧ y ≠ -1) then _ else none) = _
  rw [if_pos ⟨⟨⟨h1, h2⟩, by omega, h4⟩, by omega, by omega⟩]
theorem p_i2l {ls : ZL} {st : List ZV} {θ : ZT} {σ : ZI} {n : Nat} {x : Int} (h1 : -2147483648 ≤ x) (h2 : x < 2147483648) : o_i2l n ls (.inl x :: st) θ σ = nx n ls (.inr (.inr (.inl x)) :: st) θ σ := by
  show (if zinR x then _ else none) = _
  rw [if_pos ⟨h1, h2⟩]
theorem p_i2c {ls : ZL} {st : List ZV} {θ : ZT} {σ : ZI} {n : Nat} {x : Int} : o_i2c n ls (.inl x :: st) θ σ = nx n ls (.inl (x % 65536) :: st) θ σ := rfl
theorem p_i2f {ls : ZL} {st : List ZV} {θ : ZT} {σ : ZI} {n : Nat} {x : Int} : o_i2f n ls (.inl x :: st) θ σ = nx n ls (.inr (.inr (.inr (.inl (FP.i2f (Int32.ofInt x))))) :: st) θ σ := rfl
theorem p_i2d {ls : ZL} {st : List ZV} {θ : ZT} {σ : ZI} {n : Nat} {x : Int} : o_i2d n ls (.inl x :: st) θ σ = nx n ls (.inr (.inr (.inr (.inr (FP.i2d (Int32.ofInt x))))) :: st) θ σ := rfl
theorem p_lcmp {ls : ZL} {st : List ZV} {θ : ZT} {σ : ZI} {n : Nat} {x y : Int} (h1 : -2147483648 ≤ x) (h2 : x < 2147483648) (h3 : -2147483648 ≤ y) (h4 : y < 2147483648) : o_lcmp n ls (.inr (.inr (.inl y)) :: .inr (.inr (.inl x)) :: st) θ σ = nx n ls (.inl (if x < y then -1 else if x = y then 0 else 1) :: st) θ σ := by
  show (if zinR x ∧ zinR y then _ else none) = _
  rw [if_pos ⟨⟨h1, h2⟩, h3, h4⟩]
theorem p_popi {ls : ZL} {st : List ZV} {θ : ZT} {σ : ZI} {n : Nat} {x : Int} : o_pop n ls (.inl x :: st) θ σ = nx n ls st θ σ := rfl
theorem p_dupi {ls : ZL} {st : List ZV} {θ : ZT} {σ : ZI} {n : Nat} {x : Int} : o_dup n ls (.inl x :: st) θ σ = nx n ls (.inl x :: .inl x :: st) θ σ := rfl
theorem p_popr {ls : ZL} {st : List ZV} {θ : ZT} {σ : ZI} {n : Nat} {x : Option Nat} : o_pop n ls (.inr (.inl x) :: st) θ σ = nx n ls st θ σ := rfl
theorem p_dupr {ls : ZL} {st : List ZV} {θ : ZT} {σ : ZI} {n : Nat} {x : Option Nat} : o_dup n ls (.inr (.inl x) :: st) θ σ = nx n ls (.inr (.inl x) :: .inr (.inl x) :: st) θ σ := rfl
theorem p_dup2 {ls : ZL} {st : List ZV} {θ : ZT} {σ : ZI} {n : Nat} {x : Int} {a : Option Nat} : o_dup2 n ls (.inl x :: .inr (.inl a) :: st) θ σ = nx n ls (.inl x :: .inr (.inl a) :: .inl x :: .inr (.inl a) :: st) θ σ := rfl
theorem p_goto {ls : ZL} {st : List ZV} {θ : ZT} {σ : ZI} {t : Nat} : o_goto t ls st θ σ = nx t ls st θ σ := rfl
theorem p_ifeq {ls : ZL} {r : List ZV} {θ : ZT} {σ : ZI} {t n : Nat} {x : Int} (h1 : -2147483648 ≤ x) (h2 : x < 2147483648) : o_ifeq t n ls (.inl x :: r) θ σ = if x = 0 then nx t ls r θ σ else nx n ls r θ σ := by
  show (if zinR x then _ else none) = _
  rw [if_pos ⟨h1, h2⟩]
theorem p_ifne {ls : ZL} {r : List ZV} {θ : ZT} {σ : ZI} {t n : Nat} {x : Int} (h1 : -2147483648 ≤ x) (h2 : x < 2147483648) : o_ifne t n ls (.inl x :: r) θ σ = if x = 0 then nx n ls r θ σ else nx t ls r θ σ := by
  show (if zinR x then _ else none) = _
  rw [if_pos ⟨h1, h2⟩]
theorem p_iflt {ls : ZL} {r : List ZV} {θ : ZT} {σ : ZI} {t n : Nat} {x : Int} (h1 : -2147483648 ≤ x) (h2 : x < 2147483648) : o_iflt t n ls (.inl x :: r) θ σ = if x < 0 then nx t ls r θ σ else nx n ls r θ σ := by
  show (if zinR x then _ else none) = _
  rw [if_pos ⟨h1, h2⟩]
theorem p_ifge {ls : ZL} {r : List ZV} {θ : ZT} {σ : ZI} {t n : Nat} {x : Int} (h1 : -2147483648 ≤ x) (h2 : x < 2147483648) : o_ifge t n ls (.inl x :: r) θ σ = if x < 0 then nx n ls r θ σ else nx t ls r θ σ := by
  show (if zinR x then _ else none) = _
  rw [if_pos ⟨h1, h2⟩]
theorem p_ifgt {ls : ZL} {r : List ZV} {θ : ZT} {σ : ZI} {t n : Nat} {x : Int} (h1 : -2147483648 ≤ x) (h2 : x < 2147483648) : o_ifgt t n ls (.inl x :: r) θ σ = if 0 < x then nx t ls r θ σ else nx n ls r θ σ := by
  show (if zinR x then _ else none) = _
  rw [if_pos ⟨h1, h2⟩]
theorem p_ifle {ls : ZL} {r : List ZV} {θ : ZT} {σ : ZI} {t n : Nat} {x : Int} (h1 : -2147483648 ≤ x) (h2 : x < 2147483648) : o_ifle t n ls (.inl x :: r) θ σ = if 0 < x then nx n ls r θ σ else nx t ls r θ σ := by
  show (if zinR x then _ else none) = _
  rw [if_pos ⟨h1, h2⟩]
theorem p_ceq {ls : ZL} {r : List ZV} {θ : ZT} {σ : ZI} {t n : Nat} {x y : Int} (h1 : -2147483648 ≤ x) (h2 : x < 2147483648) (h3 : -2147483648 ≤ y) (h4 : y < 2147483648) : o_ceq t n ls (.inl y :: .inl x :: r) θ σ = if x = y then nx t ls r θ σ else nx n ls r θ σ := by
  show (if zinR x ∧ zinR y then _ else none) = _
  rw [if_pos ⟨⟨h1, h2⟩, h3, h4⟩]
theorem p_cne {ls : ZL} {r : List ZV} {θ : ZT} {σ : ZI} {t n : Nat} {x y : Int} (h1 : -2147483648 ≤ x) (h2 : x < 2147483648) (h3 : -2147483648 ≤ y) (h4 : y < 2147483648) : o_cne t n ls (.inl y :: .inl x :: r) θ σ = if x = y then nx n ls r θ σ else nx t ls r θ σ := by
  show (if zinR x ∧ zinR y then _ else none) = _
  rw [if_pos ⟨⟨h1, h2⟩, h3, h4⟩]
theorem p_clt {ls : ZL} {r : List ZV} {θ : ZT} {σ : ZI} {t n : Nat} {x y : Int} (h1 : -2147483648 ≤ x) (h2 : x < 2147483648) (h3 : -2147483648 ≤ y) (h4 : y < 2147483648) : o_clt t n ls (.inl y :: .inl x :: r) θ σ = if x < y then nx t ls r θ σ else nx n ls r θ σ := by
  show (if zinR x ∧ zinR y then _ else none) = _
  rw [if_pos ⟨⟨h1, h2⟩, h3, h4⟩]
theorem p_cge {ls : ZL} {r : List ZV} {θ : ZT} {σ : ZI} {t n : Nat} {x y : Int} (h1 : -2147483648 ≤ x) (h2 : x < 2147483648) (h3 : -2147483648 ≤ y) (h4 : y < 2147483648) : o_cge t n ls (.inl y :: .inl x :: r) θ σ = if x < y then nx n ls r θ σ else nx t ls r θ σ := by
  show (if zinR x ∧ zinR y then _ else none) = _
  rw [if_pos ⟨⟨h1, h2⟩, h3, h4⟩]
theorem p_cgt {ls : ZL} {r : List ZV} {θ : ZT} {σ : ZI} {t n : Nat} {x y : Int} (h1 : -2147483648 ≤ x) (h2 : x < 2147483648) (h3 : -2147483648 ≤ y) (h4 : y < 2147483648) : o_cgt t n ls (.inl y :: .inl x :: r) θ σ = if y < x then nx t ls r θ σ else nx n ls r θ σ := by
  show (if zinR x ∧ zinR y then _ else none) = _
  rw [if_pos ⟨⟨h1, h2⟩, h3, h4⟩]
theorem p_cle {ls : ZL} {r : List ZV} {θ : ZT} {σ : ZI} {t n : Nat} {x y : Int} (h1 : -2147483648 ≤ x) (h2 : x < 2147483648) (h3 : -2147483648 ≤ y) (h4 : y < 2147483648) : o_cle t n ls (.inl y :: .inl x :: r) θ σ = if y < x then nx n ls r θ σ else nx t ls r θ σ := by
  show (if zinR x ∧ zinR y then _ else none) = _
  rw [if_pos ⟨⟨h1, h2⟩, h3, h4⟩]
theorem p_null0 {ls : ZL} {r : List ZV} {θ : ZT} {σ : ZI} {t n : Nat} : o_ifnull t n ls (.inr (.inl none) :: r) θ σ = nx t ls r θ σ := rfl
theorem p_null1 {ls : ZL} {r : List ZV} {θ : ZT} {σ : ZI} {t n : Nat} {a : Nat} : o_ifnull t n ls (.inr (.inl (some a)) :: r) θ σ = nx n ls r θ σ := rfl
theorem p_nn0 {ls : ZL} {r : List ZV} {θ : ZT} {σ : ZI} {t n : Nat} : o_ifnonnull t n ls (.inr (.inl none) :: r) θ σ = nx n ls r θ σ := rfl
theorem p_nn1 {ls : ZL} {r : List ZV} {θ : ZT} {σ : ZI} {t n : Nat} {a : Nat} : o_ifnonnull t n ls (.inr (.inl (some a)) :: r) θ σ = nx t ls r θ σ := rfl
theorem p_sw {ls : ZL} {r : List ZV} {θ : ZT} {σ : ZI} {d : Nat} {ps : List Int} {x : Int} (h1 : -2147483648 ≤ x) (h2 : x < 2147483648) : o_switch d ps ls (.inl x :: r) θ σ = nx (zsw x d ps) ls r θ σ := by
  show (if zinR x then _ else none) = _
  rw [if_pos ⟨h1, h2⟩]
theorem p_ret0 {ls : ZL} {θ : ZT} {σ : ZI} {x : Int} : o_iret 0 ls [.inl x] θ σ = nrt (.inl (some (.inl x))) θ σ := rfl
theorem p_ret1 {ls : ZL} {θ : ZT} {σ : ZI} {x : Int} (h : x = 0 ∨ x = 1) : o_iret 1 ls [.inl x] θ σ = nrt (.inl (some (.inl x))) θ σ := by
  show (if x = 0 ∨ x = 1 then _ else none) = _
  rw [if_pos h]
theorem p_ret2 {ls : ZL} {θ : ZT} {σ : ZI} {x : Int} (h : 0 ≤ x) (h2 : x < 65536) : o_iret 2 ls [.inl x] θ σ = nrt (.inl (some (.inl x))) θ σ := by
  show (if 0 ≤ x ∧ x < 65536 then _ else none) = _
  rw [if_pos ⟨h, h2⟩]
theorem p_ret3 {ls : ZL} {θ : ZT} {σ : ZI} {x : Int} (h : -128 ≤ x) (h2 : x < 128) : o_iret 3 ls [.inl x] θ σ = nrt (.inl (some (.inl x))) θ σ := by
  show (if -128 ≤ x ∧ x < 128 then _ else none) = _
  rw [if_pos ⟨h, h2⟩]
theorem p_aret {ls : ZL} {θ : ZT} {σ : ZI} {x : Option Nat} : o_aret ls [.inr (.inl x)] θ σ = nrt (.inl (some (.inr (.inl x)))) θ σ := rfl
theorem p_vret {ls : ZL} {θ : ZT} {σ : ZI} : o_vret ls [] θ σ = nrt (.inl none) θ σ := rfl
theorem p_fret {ls : ZL} {θ : ZT} {σ : ZI} {x : UInt32} : o_fret ls [.inr (.inr (.inr (.inl x)))] θ σ = nrt (.inl (some (.inr (.inr (.inr (.inl x)))))) θ σ := rfl
theorem p_dret {ls : ZL} {θ : ZT} {σ : ZI} {x : UInt64} : o_dret ls [.inr (.inr (.inr (.inr x)))] θ σ = nrt (.inl (some (.inr (.inr (.inr (.inr x)))))) θ σ := rfl
theorem p_getI {ls : ZL} {r : List ZV} {θ : ZT} {σ : ZI} {n a : Nat} {ci f : Nat} (h : zkd a = ci) : o_getI ci f n ls (.inr (.inl (some a)) :: r) θ σ = nx n ls (.inl (σ a f) :: r) θ σ := by
  show (if zkd a = ci then _ else none) = _
  rw [if_pos h]
theorem p_getR {ls : ZL} {r : List ZV} {θ : ZT} {σ : ZI} {n a : Nat} {ci f : Nat} (h : zkd a = ci) : o_getR ci f n ls (.inr (.inl (some a)) :: r) θ σ = nx n ls (.inr (.inl (θ.2.2 a f)) :: r) θ σ := by
  show (if zkd a = ci then _ else none) = _
  rw [if_pos h]
theorem p_putI {ls : ZL} {r : List ZV} {θ : ZT} {σ : ZI} {n a : Nat} {ci f : Nat} {x : Int} (h : zkd a = ci) : o_putI ci f n ls (.inl x :: .inr (.inl (some a)) :: r) θ σ = nx n ls r θ (zup σ a f x) := by
  show (if zkd a = ci then _ else none) = _
  rw [if_pos h]
theorem p_putZ {ls : ZL} {r : List ZV} {θ : ZT} {σ : ZI} {n a : Nat} {ci f : Nat} {x : Int} (h : zkd a = ci) (h2 : x = 0 ∨ x = 1) : o_putZ ci f n ls (.inl x :: .inr (.inl (some a)) :: r) θ σ = nx n ls r θ (zup σ a f x) := by
  show (if zkd a = ci ∧ (x = 0 ∨ x = 1) then _ else none) = _
  rw [if_pos ⟨h, h2⟩]
theorem p_putR {ls : ZL} {r : List ZV} {θ : ZT} {σ : ZI} {n a : Nat} {ci f : Nat} {x : Option Nat} (h : zkd a = ci) : o_putR ci f n ls (.inr (.inl x) :: .inr (.inl (some a)) :: r) θ σ = nx n ls r (θ.1, θ.2.1, zupR θ.2.2 a f x) σ := by
  show (if zkd a = ci then _ else none) = _
  rw [if_pos h]
theorem p_iald {ls : ZL} {r : List ZV} {θ : ZT} {σ : ZI} {n a : Nat} {i : Int} (h : zkd a = 10) (h1 : 0 ≤ i) (h2 : i < zln a) : o_iald n ls (.inl i :: .inr (.inl (some a)) :: r) θ σ = nx n ls (.inl (σ a i.toNat) :: r) θ σ := by
  show (if zkd a = 10 then (if 0 ≤ i ∧ i < zln a then _ else none) else _) = _
  rw [if_pos h, if_pos ⟨h1, h2⟩]
theorem p_sald {ls : ZL} {r : List ZV} {θ : ZT} {σ : ZI} {n a : Nat} {i : Int} (h : zkd a = 20) (h1 : 0 ≤ i) (h2 : i < σ 23 0) : o_iald n ls (.inl i :: .inr (.inl (some a)) :: r) θ σ = nx n ls (.inl (σ a i.toNat) :: r) θ σ := by
  show (if zkd a = 10 then _ else if zkd a = 20 then (if 0 ≤ i ∧ i < σ 23 0 then _ else none) else none) = _
  rw [if_neg (by omega), if_pos h, if_pos ⟨h1, h2⟩]
theorem p_bald {ls : ZL} {r : List ZV} {θ : ZT} {σ : ZI} {n a : Nat} {i : Int} (h : zkd a = 11) (h1 : 0 ≤ i) (h2 : i < zln a) : o_bald n ls (.inl i :: .inr (.inl (some a)) :: r) θ σ = nx n ls (.inl (σ a i.toNat) :: r) θ σ := by
  show (if (zkd a = 11 ∨ zkd a = 22) ∧ (0 ≤ i ∧ i < zln a) then _ else none) = _
  rw [if_pos ⟨Or.inl h, h1, h2⟩]
theorem p_bytld {ls : ZL} {r : List ZV} {θ : ZT} {σ : ZI} {n a : Nat} {i : Int} (h : zkd a = 22) (h1 : 0 ≤ i) (h2 : i < zln a) : o_bald n ls (.inl i :: .inr (.inl (some a)) :: r) θ σ = nx n ls (.inl (σ a i.toNat) :: r) θ σ := by
  show (if (zkd a = 11 ∨ zkd a = 22) ∧ (0 ≤ i ∧ i < zln a) then _ else none) = _
  rw [if_pos ⟨Or.inr h, h1, h2⟩]
theorem p_cald {ls : ZL} {r : List ZV} {θ : ZT} {σ : ZI} {n a : Nat} {i : Int} (h : zkd a = 12) (h1 : 0 ≤ i) (h2 : i < zln a) : o_cald n ls (.inl i :: .inr (.inl (some a)) :: r) θ σ = nx n ls (.inl (σ a i.toNat) :: r) θ σ := by
  show (if zkd a = 12 ∧ (0 ≤ i ∧ i < zln a) then _ else none) = _
  rw [if_pos ⟨h, h1, h2⟩]
theorem p_lald {ls : ZL} {r : List ZV} {θ : ZT} {σ : ZI} {n a : Nat} {i : Int} (h : zkd a = 13) (h1 : 0 ≤ i) (h2 : i < zln a) : o_lald n ls (.inl i :: .inr (.inl (some a)) :: r) θ σ = nx n ls (.inr (.inr (.inl (σ a i.toNat))) :: r) θ σ := by
  show (if zkd a = 13 ∧ (0 ≤ i ∧ i < zln a) then _ else none) = _
  rw [if_pos ⟨h, h1, h2⟩]
theorem p_aald14 {ls : ZL} {r : List ZV} {θ : ZT} {σ : ZI} {n a : Nat} {i : Int} (h : zkd a = 14) (h1 : 0 ≤ i) (h2 : i < zln a) : o_aald n ls (.inl i :: .inr (.inl (some a)) :: r) θ σ = nx n ls (.inr (.inl (θ.2.2 a i.toNat)) :: r) θ σ := by
  show (if (zkd a = 14 ∨ zkd a = 15) ∧ (0 ≤ i ∧ i < zln a) then _ else none) = _
  rw [if_pos ⟨Or.inl h, h1, h2⟩]
theorem p_aald15 {ls : ZL} {r : List ZV} {θ : ZT} {σ : ZI} {n a : Nat} {i : Int} (h : zkd a = 15) (h1 : 0 ≤ i) (h2 : i < zln a) : o_aald n ls (.inl i :: .inr (.inl (some a)) :: r) θ σ = nx n ls (.inr (.inl (θ.2.2 a i.toNat)) :: r) θ σ := by
  show (if (zkd a = 14 ∨ zkd a = 15) ∧ (0 ≤ i ∧ i < zln a) then _ else none) = _
  rw [if_pos ⟨Or.inr h, h1, h2⟩]
theorem p_iast {ls : ZL} {r : List ZV} {θ : ZT} {σ : ZI} {n a : Nat} {i x : Int} (h : zkd a = 10) (h1 : 0 ≤ i) (h2 : i < zln a) : o_iast n ls (.inl x :: .inl i :: .inr (.inl (some a)) :: r) θ σ = nx n ls r θ (zup σ a i.toNat x) := by
  show (if zkd a = 10 ∧ (0 ≤ i ∧ i < zln a) then _ else none) = _
  rw [if_pos ⟨h, h1, h2⟩]
theorem p_bast {ls : ZL} {r : List ZV} {θ : ZT} {σ : ZI} {n a : Nat} {i x : Int} (h : zkd a = 11) (h1 : 0 ≤ i) (h2 : i < zln a) (h3 : x = 0 ∨ x = 1) : o_bast n ls (.inl x :: .inl i :: .inr (.inl (some a)) :: r) θ σ = nx n ls r θ (zup σ a i.toNat x) := by
  show (if zkd a = 11 ∧ (0 ≤ i ∧ i < zln a) ∧ (x = 0 ∨ x = 1) then _ else none) = _
  rw [if_pos ⟨h, ⟨h1, h2⟩, h3⟩]
theorem p_cast {ls : ZL} {r : List ZV} {θ : ZT} {σ : ZI} {n a : Nat} {i x : Int} (h : zkd a = 12) (h1 : 0 ≤ i) (h2 : i < zln a) (h3 : 0 ≤ x) (h4 : x < 65536) : o_cast n ls (.inl x :: .inl i :: .inr (.inl (some a)) :: r) θ σ = nx n ls r θ (zup σ a i.toNat x) := by
  show (if zkd a = 12 ∧ (0 ≤ i ∧ i < zln a) ∧ (0 ≤ x ∧ x < 65536) then _ else none) = _
  rw [if_pos ⟨h, ⟨h1, h2⟩, h3, h4⟩]
theorem p_last {ls : ZL} {r : List ZV} {θ : ZT} {σ : ZI} {n a : Nat} {i x : Int} (h : zkd a = 13) (h1 : 0 ≤ i) (h2 : i < zln a) : o_last n ls (.inr (.inr (.inl x)) :: .inl i :: .inr (.inl (some a)) :: r) θ σ = nx n ls r θ (zup σ a i.toNat x) := by
  show (if zkd a = 13 ∧ (0 ≤ i ∧ i < zln a) then _ else none) = _
  rw [if_pos ⟨h, h1, h2⟩]
theorem p_alen {ls : ZL} {r : List ZV} {θ : ZT} {σ : ZI} {n a : Nat} (h : 10 ≤ zkd a) (h2 : zkd a < 16) : o_alen n ls (.inr (.inl (some a)) :: r) θ σ = nx n ls (.inl (zln a) :: r) θ σ := by
  show (if (10 ≤ zkd a ∧ zkd a < 16) ∨ zkd a = 22 then _ else _) = _
  rw [if_pos (Or.inl ⟨h, h2⟩)]
theorem p_alen22 {ls : ZL} {r : List ZV} {θ : ZT} {σ : ZI} {n a : Nat} (h : zkd a = 22) : o_alen n ls (.inr (.inl (some a)) :: r) θ σ = nx n ls (.inl (zln a) :: r) θ σ := by
  show (if (10 ≤ zkd a ∧ zkd a < 16) ∨ zkd a = 22 then _ else _) = _
  rw [if_pos (Or.inr h)]
theorem p_alenS {ls : ZL} {r : List ZV} {θ : ZT} {σ : ZI} {n a : Nat} (h : zkd a = 20) : o_alen n ls (.inr (.inl (some a)) :: r) θ σ = nx n ls (.inl (σ 23 0) :: r) θ σ := by
  show (if (10 ≤ zkd a ∧ zkd a < 16) ∨ zkd a = 22 then _ else if zkd a = 20 then _ else none) = _
  rw [if_neg (by omega), if_pos h]
theorem p_cs0_0 {ls : ZL} {θ : ZT} {σ : ZI} {mj n : Nat} : o_callS mj 0 n ls ([]) θ σ = ncl mj [] [] n := by
  show (if _ then _ else none) = _
  rw [if_pos ⟨⟨by simp, rfl⟩, by simp⟩]
  rfl
theorem p_cv0_0 {ls : ZL} {θ : ZT} {σ : ZI} {mj q n b : Nat} (h : zkd b = q) : o_callV mj q 0 n ls (.inr (.inl (some b)) :: []) θ σ = ncl mj (.inr (.inl (some b)) :: []) [] n := by
  show (if _ then _ else none) = _
  rw [if_pos ⟨⟨by simp, rfl⟩, h, by simp⟩]
  rfl
theorem p_cs0_1 {ls : ZL} {b0 : ZV} {θ : ZT} {σ : ZI} {mj n : Nat} (hw : ([b0].map z_w).sum ≤ 8) : o_callS mj 0 n ls ([b0]) θ σ = ncl mj [] [b0] n := by
  show (if _ then _ else none) = _
  rw [if_pos ⟨⟨by simp, rfl⟩, by simpa using hw⟩]
  rfl
theorem p_cv0_1 {ls : ZL} {b0 : ZV} {θ : ZT} {σ : ZI} {mj q n b : Nat} (h : zkd b = q) (hw : ([b0].map z_w).sum ≤ 8) : o_callV mj q 0 n ls (.inr (.inl (some b)) :: [b0]) θ σ = ncl mj (.inr (.inl (some b)) :: []) [b0] n := by
  show (if _ then _ else none) = _
  rw [if_pos ⟨⟨by simp, rfl⟩, h, by simpa using hw⟩]
  rfl
theorem p_cs0_2 {ls : ZL} {b0 b1 : ZV} {θ : ZT} {σ : ZI} {mj n : Nat} (hw : ([b0, b1].map z_w).sum ≤ 8) : o_callS mj 0 n ls ([b0, b1]) θ σ = ncl mj [] [b0, b1] n := by
  show (if _ then _ else none) = _
  rw [if_pos ⟨⟨by simp, rfl⟩, by simpa using hw⟩]
  rfl
theorem p_cv0_2 {ls : ZL} {b0 b1 : ZV} {θ : ZT} {σ : ZI} {mj q n b : Nat} (h : zkd b = q) (hw : ([b0, b1].map z_w).sum ≤ 8) : o_callV mj q 0 n ls (.inr (.inl (some b)) :: [b0, b1]) θ σ = ncl mj (.inr (.inl (some b)) :: []) [b0, b1] n := by
  show (if _ then _ else none) = _
  rw [if_pos ⟨⟨by simp, rfl⟩, h, by simpa using hw⟩]
  rfl
theorem p_cs0_3 {ls : ZL} {b0 b1 b2 : ZV} {θ : ZT} {σ : ZI} {mj n : Nat} (hw : ([b0, b1, b2].map z_w).sum ≤ 8) : o_callS mj 0 n ls ([b0, b1, b2]) θ σ = ncl mj [] [b0, b1, b2] n := by
  show (if _ then _ else none) = _
  rw [if_pos ⟨⟨by simp, rfl⟩, by simpa using hw⟩]
  rfl
theorem p_cv0_3 {ls : ZL} {b0 b1 b2 : ZV} {θ : ZT} {σ : ZI} {mj q n b : Nat} (h : zkd b = q) (hw : ([b0, b1, b2].map z_w).sum ≤ 8) : o_callV mj q 0 n ls (.inr (.inl (some b)) :: [b0, b1, b2]) θ σ = ncl mj (.inr (.inl (some b)) :: []) [b0, b1, b2] n := by
  show (if _ then _ else none) = _
  rw [if_pos ⟨⟨by simp, rfl⟩, h, by simpa using hw⟩]
  rfl
theorem p_cs0_4 {ls : ZL} {b0 b1 b2 b3 : ZV} {θ : ZT} {σ : ZI} {mj n : Nat} (hw : ([b0, b1, b2, b3].map z_w).sum ≤ 8) : o_callS mj 0 n ls ([b0, b1, b2, b3]) θ σ = ncl mj [] [b0, b1, b2, b3] n := by
  show (if _ then _ else none) = _
  rw [if_pos ⟨⟨by simp, rfl⟩, by simpa using hw⟩]
  rfl
theorem p_cv0_4 {ls : ZL} {b0 b1 b2 b3 : ZV} {θ : ZT} {σ : ZI} {mj q n b : Nat} (h : zkd b = q) (hw : ([b0, b1, b2, b3].map z_w).sum ≤ 8) : o_callV mj q 0 n ls (.inr (.inl (some b)) :: [b0, b1, b2, b3]) θ σ = ncl mj (.inr (.inl (some b)) :: []) [b0, b1, b2, b3] n := by
  show (if _ then _ else none) = _
  rw [if_pos ⟨⟨by simp, rfl⟩, h, by simpa using hw⟩]
  rfl
theorem p_cs1_0 {ls : ZL} {a0 : ZV} {θ : ZT} {σ : ZI} {mj n : Nat} (ha : z_a1 [a0] = true) : o_callS mj 1 n ls (a0 :: []) θ σ = ncl mj [a0] [] n := by
  show (if _ then _ else none) = _
  rw [if_pos ⟨⟨by simp, ha⟩, by simp⟩]
  rfl
theorem p_cv1_0 {ls : ZL} {a0 : ZV} {θ : ZT} {σ : ZI} {mj q n b : Nat} (h : zkd b = q) (ha : z_a1 [a0] = true) : o_callV mj q 1 n ls (a0 :: .inr (.inl (some b)) :: []) θ σ = ncl mj (.inr (.inl (some b)) :: [a0]) [] n := by
  show (if _ then _ else none) = _
  rw [if_pos ⟨⟨by simp, ha⟩, h, by simp⟩]
  rfl
theorem p_cs1_1 {ls : ZL} {a0 : ZV} {b0 : ZV} {θ : ZT} {σ : ZI} {mj n : Nat} (ha : z_a1 [a0] = true) (hw : ([b0].map z_w).sum ≤ 8) : o_callS mj 1 n ls (a0 :: [b0]) θ σ = ncl mj [a0] [b0] n := by
  show (if _ then _ else none) = _
  rw [if_pos ⟨⟨by simp, ha⟩, by simpa using hw⟩]
  rfl
theorem p_cv1_1 {ls : ZL} {a0 : ZV} {b0 : ZV} {θ : ZT} {σ : ZI} {mj q n b : Nat} (h : zkd b = q) (ha : z_a1 [a0] = true) (hw : ([b0].map z_w).sum ≤ 8) : o_callV mj q 1 n ls (a0 :: .inr (.inl (some b)) :: [b0]) θ σ = ncl mj (.inr (.inl (some b)) :: [a0]) [b0] n := by
  show (if _ then _ else none) = _
  rw [if_pos ⟨⟨by simp, ha⟩, h, by simpa using hw⟩]
  rfl
theorem p_cs1_2 {ls : ZL} {a0 : ZV} {b0 b1 : ZV} {θ : ZT} {σ : ZI} {mj n : Nat} (ha : z_a1 [a0] = true) (hw : ([b0, b1].map z_w).sum ≤ 8) : o_callS mj 1 n ls (a0 :: [b0, b1]) θ σ = ncl mj [a0] [b0, b1] n := by
  show (if _ then _ else none) = _
  rw [if_pos ⟨⟨by simp, ha⟩, by simpa using hw⟩]
  rfl
theorem p_cv1_2 {ls : ZL} {a0 : ZV} {b0 b1 : ZV} {θ : ZT} {σ : ZI} {mj q n b : Nat} (h : zkd b = q) (ha : z_a1 [a0] = true) (hw : ([b0, b1].map z_w).sum ≤ 8) : o_callV mj q 1 n ls (a0 :: .inr (.inl (some b)) :: [b0, b1]) θ σ = ncl mj (.inr (.inl (some b)) :: [a0]) [b0, b1] n := by
  show (if _ then _ else none) = _
  rw [if_pos ⟨⟨by simp, ha⟩, h, by simpa using hw⟩]
  rfl
theorem p_cs1_3 {ls : ZL} {a0 : ZV} {b0 b1 b2 : ZV} {θ : ZT} {σ : ZI} {mj n : Nat} (ha : z_a1 [a0] = true) (hw : ([b0, b1, b2].map z_w).sum ≤ 8) : o_callS mj 1 n ls (a0 :: [b0, b1, b2]) θ σ = ncl mj [a0] [b0, b1, b2] n := by
  show (if _ then _ else none) = _
  rw [if_pos ⟨⟨by simp, ha⟩, by simpa using hw⟩]
  rfl
theorem p_cv1_3 {ls : ZL} {a0 : ZV} {b0 b1 b2 : ZV} {θ : ZT} {σ : ZI} {mj q n b : Nat} (h : zkd b = q) (ha : z_a1 [a0] = true) (hw : ([b0, b1, b2].map z_w).sum ≤ 8) : o_callV mj q 1 n ls (a0 :: .inr (.inl (some b)) :: [b0, b1, b2]) θ σ = ncl mj (.inr (.inl (some b)) :: [a0]) [b0, b1, b2] n := by
  show (if _ then _ else none) = _
  rw [if_pos ⟨⟨by simp, ha⟩, h, by simpa using hw⟩]
  rfl
theorem p_cs1_4 {ls : ZL} {a0 : ZV} {b0 b1 b2 b3 : ZV} {θ : ZT} {σ : ZI} {mj n : Nat} (ha : z_a1 [a0] = true) (hw : ([b0, b1, b2, b3].map z_w).sum ≤ 8) : o_callS mj 1 n ls (a0 :: [b0, b1, b2, b3]) θ σ = ncl mj [a0] [b0, b1, b2, b3] n := by
  show (if _ then _ else none) = _
  rw [if_pos ⟨⟨by simp, ha⟩, by simpa using hw⟩]
  rfl
theorem p_cv1_4 {ls : ZL} {a0 : ZV} {b0 b1 b2 b3 : ZV} {θ : ZT} {σ : ZI} {mj q n b : Nat} (h : zkd b = q) (ha : z_a1 [a0] = true) (hw : ([b0, b1, b2, b3].map z_w).sum ≤ 8) : o_callV mj q 1 n ls (a0 :: .inr (.inl (some b)) :: [b0, b1, b2, b3]) θ σ = ncl mj (.inr (.inl (some b)) :: [a0]) [b0, b1, b2, b3] n := by
  show (if _ then _ else none) = _
  rw [if_pos ⟨⟨by simp, ha⟩, h, by simpa using hw⟩]
  rfl
theorem p_cs2_0 {ls : ZL} {a0 a1 : ZV} {θ : ZT} {σ : ZI} {mj n : Nat} (ha : z_a1 [a0, a1] = true) : o_callS mj 2 n ls (a0 :: a1 :: []) θ σ = ncl mj [a1, a0] [] n := by
  show (if _ then _ else none) = _
  rw [if_pos ⟨⟨by simp, ha⟩, by simp⟩]
  rfl
theorem p_cv2_0 {ls : ZL} {a0 a1 : ZV} {θ : ZT} {σ : ZI} {mj q n b : Nat} (h : zkd b = q) (ha : z_a1 [a0, a1] = true) : o_callV mj q 2 n ls (a0 :: a1 :: .inr (.inl (some b)) :: []) θ σ = ncl mj (.inr (.inl (some b)) :: [a1, a0]) [] n := by
  show (if _ then _ else none) = _
  rw [if_pos ⟨⟨by simp, ha⟩, h, by simp⟩]
  rfl
theorem p_cs2_1 {ls : ZL} {a0 a1 : ZV} {b0 : ZV} {θ : ZT} {σ : ZI} {mj n : Nat} (ha : z_a1 [a0, a1] = true) (hw : ([b0].map z_w).sum ≤ 8) : o_callS mj 2 n ls (a0 :: a1 :: [b0]) θ σ = ncl mj [a1, a0] [b0] n := by
  show (if _ then _ else none) = _
  rw [if_pos ⟨⟨by simp, ha⟩, by simpa using hw⟩]
  rfl
theorem p_cv2_1 {ls : ZL} {a0 a1 : ZV} {b0 : ZV} {θ : ZT} {σ : ZI} {mj q n b : Nat} (h : zkd b = q) (ha : z_a1 [a0, a1] = true) (hw : ([b0].map z_w).sum ≤ 8) : o_callV mj q 2 n ls (a0 :: a1 :: .inr (.inl (some b)) :: [b0]) θ σ = ncl mj (.inr (.inl (some b)) :: [a1, a0]) [b0] n := by
  show (if _ then _ else none) = _
  rw [if_pos ⟨⟨by simp, ha⟩, h, by simpa using hw⟩]
  rfl
theorem p_cs2_2 {ls : ZL} {a0 a1 : ZV} {b0 b1 : ZV} {θ : ZT} {σ : ZI} {mj n : Nat} (ha : z_a1 [a0, a1] = true) (hw : ([b0, b1].map z_w).sum ≤ 8) : o_callS mj 2 n ls (a0 :: a1 :: [b0, b1]) θ σ = ncl mj [a1, a0] [b0, b1] n := by
  show (if _ then _ else none) = _
  rw [if_pos ⟨⟨by simp, ha⟩, by simpa using hw⟩]
  rfl
theorem p_cv2_2 {ls : ZL} {a0 a1 : ZV} {b0 b1 : ZV} {θ : ZT} {σ : ZI} {mj q n b : Nat} (h : zkd b = q) (ha : z_a1 [a0, a1] = true) (hw : ([b0, b1].map z_w).sum ≤ 8) : o_callV mj q 2 n ls (a0 :: a1 :: .inr (.inl (some b)) :: [b0, b1]) θ σ = ncl mj (.inr (.inl (some b)) :: [a1, a0]) [b0, b1] n := by
  show (if _ then _ else none) = _
  rw [if_pos ⟨⟨by simp, ha⟩, h, by simpa using hw⟩]
  rfl
theorem p_cs2_3 {ls : ZL} {a0 a1 : ZV} {b0 b1 b2 : ZV} {θ : ZT} {σ : ZI} {mj n : Nat} (ha : z_a1 [a0, a1] = true) (hw : ([b0, b1, b2].map z_w).sum ≤ 8) : o_callS mj 2 n ls (a0 :: a1 :: [b0, b1, b2]) θ σ = ncl mj [a1, a0] [b0, b1, b2] n := by
  show (if _ then _ else none) = _
  rw [if_pos ⟨⟨by simp, ha⟩, by simpa using hw⟩]
  rfl
theorem p_cv2_3 {ls : ZL} {a0 a1 : ZV} {b0 b1 b2 : ZV} {θ : ZT} {σ : ZI} {mj q n b : Nat} (h : zkd b = q) (ha : z_a1 [a0, a1] = true) (hw : ([b0, b1, b2].map z_w).sum ≤ 8) : o_callV mj q 2 n ls (a0 :: a1 :: .inr (.inl (some b)) :: [b0, b1, b2]) θ σ = ncl mj (.inr (.inl (some b)) :: [a1, a0]) [b0, b1, b2] n := by
  show (if _ then _ else none) = _
  rw [if_pos ⟨⟨by simp, ha⟩, h, by simpa using hw⟩]
  rfl
theorem p_cs2_4 {ls : ZL} {a0 a1 : ZV} {b0 b1 b2 b3 : ZV} {θ : ZT} {σ : ZI} {mj n : Nat} (ha : z_a1 [a0, a1] = true) (hw : ([b0, b1, b2, b3].map z_w).sum ≤ 8) : o_callS mj 2 n ls (a0 :: a1 :: [b0, b1, b2, b3]) θ σ = ncl mj [a1, a0] [b0, b1, b2, b3] n := by
  show (if _ then _ else none) = _
  rw [if_pos ⟨⟨by simp, ha⟩, by simpa using hw⟩]
  rfl
theorem p_cv2_4 {ls : ZL} {a0 a1 : ZV} {b0 b1 b2 b3 : ZV} {θ : ZT} {σ : ZI} {mj q n b : Nat} (h : zkd b = q) (ha : z_a1 [a0, a1] = true) (hw : ([b0, b1, b2, b3].map z_w).sum ≤ 8) : o_callV mj q 2 n ls (a0 :: a1 :: .inr (.inl (some b)) :: [b0, b1, b2, b3]) θ σ = ncl mj (.inr (.inl (some b)) :: [a1, a0]) [b0, b1, b2, b3] n := by
  show (if _ then _ else none) = _
  rw [if_pos ⟨⟨by simp, ha⟩, h, by simpa using hw⟩]
  rfl
theorem p_cs3_0 {ls : ZL} {a0 a1 a2 : ZV} {θ : ZT} {σ : ZI} {mj n : Nat} (ha : z_a1 [a0, a1, a2] = true) : o_callS mj 3 n ls (a0 :: a1 :: a2 :: []) θ σ = ncl mj [a2, a1, a0] [] n := by
  show (if _ then _ else none) = _
  rw [if_pos ⟨⟨by simp, ha⟩, by simp⟩]
  rfl
theorem p_cv3_0 {ls : ZL} {a0 a1 a2 : ZV} {θ : ZT} {σ : ZI} {mj q n b : Nat} (h : zkd b = q) (ha : z_a1 [a0, a1, a2] = true) : o_callV mj q 3 n ls (a0 :: a1 :: a2 :: .inr (.inl (some b)) :: []) θ σ = ncl mj (.inr (.inl (some b)) :: [a2, a1, a0]) [] n := by
  show (if _ then _ else none) = _
  rw [if_pos ⟨⟨by simp, ha⟩, h, by simp⟩]
  rfl
theorem p_cs3_1 {ls : ZL} {a0 a1 a2 : ZV} {b0 : ZV} {θ : ZT} {σ : ZI} {mj n : Nat} (ha : z_a1 [a0, a1, a2] = true) (hw : ([b0].map z_w).sum ≤ 8) : o_callS mj 3 n ls (a0 :: a1 :: a2 :: [b0]) θ σ = ncl mj [a2, a1, a0] [b0] n := by
  show (if _ then _ else none) = _
  rw [if_pos ⟨⟨by simp, ha⟩, by simpa using hw⟩]
  rfl
theorem p_cv3_1 {ls : ZL} {a0 a1 a2 : ZV} {b0 : ZV} {θ : ZT} {σ : ZI} {mj q n b : Nat} (h : zkd b = q) (ha : z_a1 [a0, a1, a2] = true) (hw : ([b0].map z_w).sum ≤ 8) : o_callV mj q 3 n ls (a0 :: a1 :: a2 :: .inr (.inl (some b)) :: [b0]) θ σ = ncl mj (.inr (.inl (some b)) :: [a2, a1, a0]) [b0] n := by
  show (if _ then _ else none) = _
  rw [if_pos ⟨⟨by simp, ha⟩, h, by simpa using hw⟩]
  rfl
theorem p_cs3_2 {ls : ZL} {a0 a1 a2 : ZV} {b0 b1 : ZV} {θ : ZT} {σ : ZI} {mj n : Nat} (ha : z_a1 [a0, a1, a2] = true) (hw : ([b0, b1].map z_w).sum ≤ 8) : o_callS mj 3 n ls (a0 :: a1 :: a2 :: [b0, b1]) θ σ = ncl mj [a2, a1, a0] [b0, b1] n := by
  show (if _ then _ else none) = _
  rw [if_pos ⟨⟨by simp, ha⟩, by simpa using hw⟩]
  rfl
theorem p_cv3_2 {ls : ZL} {a0 a1 a2 : ZV} {b0 b1 : ZV} {θ : ZT} {σ : ZI} {mj q n b : Nat} (h : zkd b = q) (ha : z_a1 [a0, a1, a2] = true) (hw : ([b0, b1].map z_w).sum ≤ 8) : o_callV mj q 3 n ls (a0 :: a1 :: a2 :: .inr (.inl (some b)) :: [b0, b1]) θ σ = ncl mj (.inr (.inl (some b)) :: [a2, a1, a0]) [b0, b1] n := by
  show (if _ then _ else none) = _
  rw [if_pos ⟨⟨by simp, ha⟩, h, by simpa using hw⟩]
  rfl
theorem p_cs3_3 {ls : ZL} {a0 a1 a2 : ZV} {b0 b1 b2 : ZV} {θ : ZT} {σ : ZI} {mj n : Nat} (ha : z_a1 [a0, a1, a2] = true) (hw : ([b0, b1, b2].map z_w).sum ≤ 8) : o_callS mj 3 n ls (a0 :: a1 :: a2 :: [b0, b1, b2]) θ σ = ncl mj [a2, a1, a0] [b0, b1, b2] n := by
  show (if _ then _ else none) = _
  rw [if_pos ⟨⟨by simp, ha⟩, by simpa using hw⟩]
  rfl
theorem p_cv3_3 {ls : ZL} {a0 a1 a2 : ZV} {b0 b1 b2 : ZV} {θ : ZT} {σ : ZI} {mj q n b : Nat} (h : zkd b = q) (ha : z_a1 [a0, a1, a2] = true) (hw : ([b0, b1, b2].map z_w).sum ≤ 8) : o_callV mj q 3 n ls (a0 :: a1 :: a2 :: .inr (.inl (some b)) :: [b0, b1, b2]) θ σ = ncl mj (.inr (.inl (some b)) :: [a2, a1, a0]) [b0, b1, b2] n := by
  show (if _ then _ else none) = _
  rw [if_pos ⟨⟨by simp, ha⟩, h, by simpa using hw⟩]
  rfl
theorem p_cs3_4 {ls : ZL} {a0 a1 a2 : ZV} {b0 b1 b2 b3 : ZV} {θ : ZT} {σ : ZI} {mj n : Nat} (ha : z_a1 [a0, a1, a2] = true) (hw : ([b0, b1, b2, b3].map z_w).sum ≤ 8) : o_callS mj 3 n ls (a0 :: a1 :: a2 :: [b0, b1, b2, b3]) θ σ = ncl mj [a2, a1, a0] [b0, b1, b2, b3] n := by
  show (if _ then _ else none) = _
  rw [if_pos ⟨⟨by simp, ha⟩, by simpa using hw⟩]
  rfl
theorem p_cv3_4 {ls : ZL} {a0 a1 a2 : ZV} {b0 b1 b2 b3 : ZV} {θ : ZT} {σ : ZI} {mj q n b : Nat} (h : zkd b = q) (ha : z_a1 [a0, a1, a2] = true) (hw : ([b0, b1, b2, b3].map z_w).sum ≤ 8) : o_callV mj q 3 n ls (a0 :: a1 :: a2 :: .inr (.inl (some b)) :: [b0, b1, b2, b3]) θ σ = ncl mj (.inr (.inl (some b)) :: [a2, a1, a0]) [b0, b1, b2, b3] n := by
  show (if _ then _ else none) = _
  rw [if_pos ⟨⟨by simp, ha⟩, h, by simpa using hw⟩]
  rfl
theorem p_cs4_0 {ls : ZL} {a0 a1 a2 a3 : ZV} {θ : ZT} {σ : ZI} {mj n : Nat} (ha : z_a1 [a0, a1, a2, a3] = true) : o_callS mj 4 n ls (a0 :: a1 :: a2 :: a3 :: []) θ σ = ncl mj [a3, a2, a1, a0] [] n := by
  show (if _ then _ else none) = _
  rw [if_pos ⟨⟨by simp, ha⟩, by simp⟩]
  rfl
theorem p_cv4_0 {ls : ZL} {a0 a1 a2 a3 : ZV} {θ : ZT} {σ : ZI} {mj q n b : Nat} (h : zkd b = q) (ha : z_a1 [a0, a1, a2, a3] = true) : o_callV mj q 4 n ls (a0 :: a1 :: a2 :: a3 :: .inr (.inl (some b)) :: []) θ σ = ncl mj (.inr (.inl (some b)) :: [a3, a2, a1, a0]) [] n := by
  show (if _ then _ else none) = _
  rw [if_pos ⟨⟨by simp, ha⟩, h, by simp⟩]
  rfl
theorem p_cs4_1 {ls : ZL} {a0 a1 a2 a3 : ZV} {b0 : ZV} {θ : ZT} {σ : ZI} {mj n : Nat} (ha : z_a1 [a0, a1, a2, a3] = true) (hw : ([b0].map z_w).sum ≤ 8) : o_callS mj 4 n ls (a0 :: a1 :: a2 :: a3 :: [b0]) θ σ = ncl mj [a3, a2, a1, a0] [b0] n := by
  show (if _ then _ else none) = _
  rw [if_pos ⟨⟨by simp, ha⟩, by simpa using hw⟩]
  rfl
theorem p_cv4_1 {ls : ZL} {a0 a1 a2 a3 : ZV} {b0 : ZV} {θ : ZT} {σ : ZI} {mj q n b : Nat} (h : zkd b = q) (ha : z_a1 [a0, a1, a2, a3] = true) (hw : ([b0].map z_w).sum ≤ 8) : o_callV mj q 4 n ls (a0 :: a1 :: a2 :: a3 :: .inr (.inl (some b)) :: [b0]) θ σ = ncl mj (.inr (.inl (some b)) :: [a3, a2, a1, a0]) [b0] n := by
  show (if _ then _ else none) = _
  rw [if_pos ⟨⟨by simp, ha⟩, h, by simpa using hw⟩]
  rfl
theorem p_cs4_2 {ls : ZL} {a0 a1 a2 a3 : ZV} {b0 b1 : ZV} {θ : ZT} {σ : ZI} {mj n : Nat} (ha : z_a1 [a0, a1, a2, a3] = true) (hw : ([b0, b1].map z_w).sum ≤ 8) : o_callS mj 4 n ls (a0 :: a1 :: a2 :: a3 :: [b0, b1]) θ σ = ncl mj [a3, a2, a1, a0] [b0, b1] n := by
  show (if _ then _ else none) = _
  rw [if_pos ⟨⟨by simp, ha⟩, by simpa using hw⟩]
  rfl
theorem p_cv4_2 {ls : ZL} {a0 a1 a2 a3 : ZV} {b0 b1 : ZV} {θ : ZT} {σ : ZI} {mj q n b : Nat} (h : zkd b = q) (ha : z_a1 [a0, a1, a2, a3] = true) (hw : ([b0, b1].map z_w).sum ≤ 8) : o_callV mj q 4 n ls (a0 :: a1 :: a2 :: a3 :: .inr (.inl (some b)) :: [b0, b1]) θ σ = ncl mj (.inr (.inl (some b)) :: [a3, a2, a1, a0]) [b0, b1] n := by
  show (if _ then _ else none) = _
  rw [if_pos ⟨⟨by simp, ha⟩, h, by simpa using hw⟩]
  rfl
theorem p_cs4_3 {ls : ZL} {a0 a1 a2 a3 : ZV} {b0 b1 b2 : ZV} {θ : ZT} {σ : ZI} {mj n : Nat} (ha : z_a1 [a0, a1, a2, a3] = true) (hw : ([b0, b1, b2].map z_w).sum ≤ 8) : o_callS mj 4 n ls (a0 :: a1 :: a2 :: a3 :: [b0, b1, b2]) θ σ = ncl mj [a3, a2, a1, a0] [b0, b1, b2] n := by
  show (if _ then _ else none) = _
  rw [if_pos ⟨⟨by simp, ha⟩, by simpa using hw⟩]
  rfl
theorem p_cv4_3 {ls : ZL} {a0 a1 a2 a3 : ZV} {b0 b1 b2 : ZV} {θ : ZT} {σ : ZI} {mj q n b : Nat} (h : zkd b = q) (ha : z_a1 [a0, a1, a2, a3] = true) (hw : ([b0, b1, b2].map z_w).sum ≤ 8) : o_callV mj q 4 n ls (a0 :: a1 :: a2 :: a3 :: .inr (.inl (some b)) :: [b0, b1, b2]) θ σ = ncl mj (.inr (.inl (some b)) :: [a3, a2, a1, a0]) [b0, b1, b2] n := by
  show (if _ then _ else none) = _
  rw [if_pos ⟨⟨by simp, ha⟩, h, by simpa using hw⟩]
  rfl
theorem p_cs4_4 {ls : ZL} {a0 a1 a2 a3 : ZV} {b0 b1 b2 b3 : ZV} {θ : ZT} {σ : ZI} {mj n : Nat} (ha : z_a1 [a0, a1, a2, a3] = true) (hw : ([b0, b1, b2, b3].map z_w).sum ≤ 8) : o_callS mj 4 n ls (a0 :: a1 :: a2 :: a3 :: [b0, b1, b2, b3]) θ σ = ncl mj [a3, a2, a1, a0] [b0, b1, b2, b3] n := by
  show (if _ then _ else none) = _
  rw [if_pos ⟨⟨by simp, ha⟩, by simpa using hw⟩]
  rfl
theorem p_cv4_4 {ls : ZL} {a0 a1 a2 a3 : ZV} {b0 b1 b2 b3 : ZV} {θ : ZT} {σ : ZI} {mj q n b : Nat} (h : zkd b = q) (ha : z_a1 [a0, a1, a2, a3] = true) (hw : ([b0, b1, b2, b3].map z_w).sum ≤ 8) : o_callV mj q 4 n ls (a0 :: a1 :: a2 :: a3 :: .inr (.inl (some b)) :: [b0, b1, b2, b3]) θ σ = ncl mj (.inr (.inl (some b)) :: [a3, a2, a1, a0]) [b0, b1, b2, b3] n := by
  show (if _ then _ else none) = _
  rw [if_pos ⟨⟨by simp, ha⟩, h, by simpa using hw⟩]
  rfl
theorem p_cs5_0 {ls : ZL} {a0 a1 a2 a3 a4 : ZV} {θ : ZT} {σ : ZI} {mj n : Nat} (ha : z_a1 [a0, a1, a2, a3, a4] = true) : o_callS mj 5 n ls (a0 :: a1 :: a2 :: a3 :: a4 :: []) θ σ = ncl mj [a4, a3, a2, a1, a0] [] n := by
  show (if _ then _ else none) = _
  rw [if_pos ⟨⟨by simp, ha⟩, by simp⟩]
  rfl
theorem p_cv5_0 {ls : ZL} {a0 a1 a2 a3 a4 : ZV} {θ : ZT} {σ : ZI} {mj q n b : Nat} (h : zkd b = q) (ha : z_a1 [a0, a1, a2, a3, a4] = true) : o_callV mj q 5 n ls (a0 :: a1 :: a2 :: a3 :: a4 :: .inr (.inl (some b)) :: []) θ σ = ncl mj (.inr (.inl (some b)) :: [a4, a3, a2, a1, a0]) [] n := by
  show (if _ then _ else none) = _
  rw [if_pos ⟨⟨by simp, ha⟩, h, by simp⟩]
  rfl
theorem p_cs5_1 {ls : ZL} {a0 a1 a2 a3 a4 : ZV} {b0 : ZV} {θ : ZT} {σ : ZI} {mj n : Nat} (ha : z_a1 [a0, a1, a2, a3, a4] = true) (hw : ([b0].map z_w).sum ≤ 8) : o_callS mj 5 n ls (a0 :: a1 :: a2 :: a3 :: a4 :: [b0]) θ σ = ncl mj [a4, a3, a2, a1, a0] [b0] n := by
  show (if _ then _ else none) = _
  rw [if_pos ⟨⟨by simp, ha⟩, by simpa using hw⟩]
  rfl
theorem p_cv5_1 {ls : ZL} {a0 a1 a2 a3 a4 : ZV} {b0 : ZV} {θ : ZT} {σ : ZI} {mj q n b : Nat} (h : zkd b = q) (ha : z_a1 [a0, a1, a2, a3, a4] = true) (hw : ([b0].map z_w).sum ≤ 8) : o_callV mj q 5 n ls (a0 :: a1 :: a2 :: a3 :: a4 :: .inr (.inl (some b)) :: [b0]) θ σ = ncl mj (.inr (.inl (some b)) :: [a4, a3, a2, a1, a0]) [b0] n := by
  show (if _ then _ else none) = _
  rw [if_pos ⟨⟨by simp, ha⟩, h, by simpa using hw⟩]
  rfl
theorem p_cs5_2 {ls : ZL} {a0 a1 a2 a3 a4 : ZV} {b0 b1 : ZV} {θ : ZT} {σ : ZI} {mj n : Nat} (ha : z_a1 [a0, a1, a2, a3, a4] = true) (hw : ([b0, b1].map z_w).sum ≤ 8) : o_callS mj 5 n ls (a0 :: a1 :: a2 :: a3 :: a4 :: [b0, b1]) θ σ = ncl mj [a4, a3, a2, a1, a0] [b0, b1] n := by
  show (if _ then _ else none) = _
  rw [if_pos ⟨⟨by simp, ha⟩, by simpa using hw⟩]
  rfl
theorem p_cv5_2 {ls : ZL} {a0 a1 a2 a3 a4 : ZV} {b0 b1 : ZV} {θ : ZT} {σ : ZI} {mj q n b : Nat} (h : zkd b = q) (ha : z_a1 [a0, a1, a2, a3, a4] = true) (hw : ([b0, b1].map z_w).sum ≤ 8) : o_callV mj q 5 n ls (a0 :: a1 :: a2 :: a3 :: a4 :: .inr (.inl (some b)) :: [b0, b1]) θ σ = ncl mj (.inr (.inl (some b)) :: [a4, a3, a2, a1, a0]) [b0, b1] n := by
  show (if _ then _ else none) = _
  rw [if_pos ⟨⟨by simp, ha⟩, h, by simpa using hw⟩]
  rfl
theorem p_cs5_3 {ls : ZL} {a0 a1 a2 a3 a4 : ZV} {b0 b1 b2 : ZV} {θ : ZT} {σ : ZI} {mj n : Nat} (ha : z_a1 [a0, a1, a2, a3, a4] = true) (hw : ([b0, b1, b2].map z_w).sum ≤ 8) : o_callS mj 5 n ls (a0 :: a1 :: a2 :: a3 :: a4 :: [b0, b1, b2]) θ σ = ncl mj [a4, a3, a2, a1, a0] [b0, b1, b2] n := by
  show (if _ then _ else none) = _
  rw [if_pos ⟨⟨by simp, ha⟩, by simpa using hw⟩]
  rfl
theorem p_cv5_3 {ls : ZL} {a0 a1 a2 a3 a4 : ZV} {b0 b1 b2 : ZV} {θ : ZT} {σ : ZI} {mj q n b : Nat} (h : zkd b = q) (ha : z_a1 [a0, a1, a2, a3, a4] = true) (hw : ([b0, b1, b2].map z_w).sum ≤ 8) : o_callV mj q 5 n ls (a0 :: a1 :: a2 :: a3 :: a4 :: .inr (.inl (some b)) :: [b0, b1, b2]) θ σ = ncl mj (.inr (.inl (some b)) :: [a4, a3, a2, a1, a0]) [b0, b1, b2] n := by
  show (if _ then _ else none) = _
  rw [if_pos ⟨⟨by simp, ha⟩, h, by simpa using hw⟩]
  rfl
theorem p_cs5_4 {ls : ZL} {a0 a1 a2 a3 a4 : ZV} {b0 b1 b2 b3 : ZV} {θ : ZT} {σ : ZI} {mj n : Nat} (ha : z_a1 [a0, a1, a2, a3, a4] = true) (hw : ([b0, b1, b2, b3].map z_w).sum ≤ 8) : o_callS mj 5 n ls (a0 :: a1 :: a2 :: a3 :: a4 :: [b0, b1, b2, b3]) θ σ = ncl mj [a4, a3, a2, a1, a0] [b0, b1, b2, b3] n := by
  show (if _ then _ else none) = _
  rw [if_pos ⟨⟨by simp, ha⟩, by simpa using hw⟩]
  rfl
theorem p_cv5_4 {ls : ZL} {a0 a1 a2 a3 a4 : ZV} {b0 b1 b2 b3 : ZV} {θ : ZT} {σ : ZI} {mj q n b : Nat} (h : zkd b = q) (ha : z_a1 [a0, a1, a2, a3, a4] = true) (hw : ([b0, b1, b2, b3].map z_w).sum ≤ 8) : o_callV mj q 5 n ls (a0 :: a1 :: a2 :: a3 :: a4 :: .inr (.inl (some b)) :: [b0, b1, b2, b3]) θ σ = ncl mj (.inr (.inl (some b)) :: [a4, a3, a2, a1, a0]) [b0, b1, b2, b3] n := by
  show (if _ then _ else none) = _
  rw [if_pos ⟨⟨by simp, ha⟩, h, by simpa using hw⟩]
  rfl
theorem p_cs6_0 {ls : ZL} {a0 a1 a2 a3 a4 a5 : ZV} {θ : ZT} {σ : ZI} {mj n : Nat} (ha : z_a1 [a0, a1, a2, a3, a4, a5] = true) : o_callS mj 6 n ls (a0 :: a1 :: a2 :: a3 :: a4 :: a5 :: []) θ σ = ncl mj [a5, a4, a3, a2, a1, a0] [] n := by
  show (if _ then _ else none) = _
  rw [if_pos ⟨⟨by simp, ha⟩, by simp⟩]
  rfl
theorem p_cv6_0 {ls : ZL} {a0 a1 a2 a3 a4 a5 : ZV} {θ : ZT} {σ : ZI} {mj q n b : Nat} (h : zkd b = q) (ha : z_a1 [a0, a1, a2, a3, a4, a5] = true) : o_callV mj q 6 n ls (a0 :: a1 :: a2 :: a3 :: a4 :: a5 :: .inr (.inl (some b)) :: []) θ σ = ncl mj (.inr (.inl (some b)) :: [a5, a4, a3, a2, a1, a0]) [] n := by
  show (if _ then _ else none) = _
  rw [if_pos ⟨⟨by simp, ha⟩, h, by simp⟩]
  rfl
theorem p_cs6_1 {ls : ZL} {a0 a1 a2 a3 a4 a5 : ZV} {b0 : ZV} {θ : ZT} {σ : ZI} {mj n : Nat} (ha : z_a1 [a0, a1, a2, a3, a4, a5] = true) (hw : ([b0].map z_w).sum ≤ 8) : o_callS mj 6 n ls (a0 :: a1 :: a2 :: a3 :: a4 :: a5 :: [b0]) θ σ = ncl mj [a5, a4, a3, a2, a1, a0] [b0] n := by
  show (if _ then _ else none) = _
  rw [if_pos ⟨⟨by simp, ha⟩, by simpa using hw⟩]
  rfl
theorem p_cv6_1 {ls : ZL} {a0 a1 a2 a3 a4 a5 : ZV} {b0 : ZV} {θ : ZT} {σ : ZI} {mj q n b : Nat} (h : zkd b = q) (ha : z_a1 [a0, a1, a2, a3, a4, a5] = true) (hw : ([b0].map z_w).sum ≤ 8) : o_callV mj q 6 n ls (a0 :: a1 :: a2 :: a3 :: a4 :: a5 :: .inr (.inl (some b)) :: [b0]) θ σ = ncl mj (.inr (.inl (some b)) :: [a5, a4, a3, a2, a1, a0]) [b0] n := by
  show (if _ then _ else none) = _
  rw [if_pos ⟨⟨by simp, ha⟩, h, by simpa using hw⟩]
  rfl
theorem p_cs6_2 {ls : ZL} {a0 a1 a2 a3 a4 a5 : ZV} {b0 b1 : ZV} {θ : ZT} {σ : ZI} {mj n : Nat} (ha : z_a1 [a0, a1, a2, a3, a4, a5] = true) (hw : ([b0, b1].map z_w).sum ≤ 8) : o_callS mj 6 n ls (a0 :: a1 :: a2 :: a3 :: a4 :: a5 :: [b0, b1]) θ σ = ncl mj [a5, a4, a3, a2, a1, a0] [b0, b1] n := by
  show (if _ then _ else none) = _
  rw [if_pos ⟨⟨by simp, ha⟩, by simpa using hw⟩]
  rfl
theorem p_cv6_2 {ls : ZL} {a0 a1 a2 a3 a4 a5 : ZV} {b0 b1 : ZV} {θ : ZT} {σ : ZI} {mj q n b : Nat} (h : zkd b = q) (ha : z_a1 [a0, a1, a2, a3, a4, a5] = true) (hw : ([b0, b1].map z_w).sum ≤ 8) : o_callV mj q 6 n ls (a0 :: a1 :: a2 :: a3 :: a4 :: a5 :: .inr (.inl (some b)) :: [b0, b1]) θ σ = ncl mj (.inr (.inl (some b)) :: [a5, a4, a3, a2, a1, a0]) [b0, b1] n := by
  show (if _ then _ else none) = _
  rw [if_pos ⟨⟨by simp, ha⟩, h, by simpa using hw⟩]
  rfl
theorem p_cs6_3 {ls : ZL} {a0 a1 a2 a3 a4 a5 : ZV} {b0 b1 b2 : ZV} {θ : ZT} {σ : ZI} {mj n : Nat} (ha : z_a1 [a0, a1, a2, a3, a4, a5] = true) (hw : ([b0, b1, b2].map z_w).sum ≤ 8) : o_callS mj 6 n ls (a0 :: a1 :: a2 :: a3 :: a4 :: a5 :: [b0, b1, b2]) θ σ = ncl mj [a5, a4, a3, a2, a1, a0] [b0, b1, b2] n := by
  show (if _ then _ else none) = _
  rw [if_pos ⟨⟨by simp, ha⟩, by simpa using hw⟩]
  rfl
theorem p_cv6_3 {ls : ZL} {a0 a1 a2 a3 a4 a5 : ZV} {b0 b1 b2 : ZV} {θ : ZT} {σ : ZI} {mj q n b : Nat} (h : zkd b = q) (ha : z_a1 [a0, a1, a2, a3, a4, a5] = true) (hw : ([b0, b1, b2].map z_w).sum ≤ 8) : o_callV mj q 6 n ls (a0 :: a1 :: a2 :: a3 :: a4 :: a5 :: .inr (.inl (some b)) :: [b0, b1, b2]) θ σ = ncl mj (.inr (.inl (some b)) :: [a5, a4, a3, a2, a1, a0]) [b0, b1, b2] n := by
  show (if _ then _ else none) = _
  rw [if_pos ⟨⟨by simp, ha⟩, h, by simpa using hw⟩]
  rfl
theorem p_cs6_4 {ls : ZL} {a0 a1 a2 a3 a4 a5 : ZV} {b0 b1 b2 b3 : ZV} {θ : ZT} {σ : ZI} {mj n : Nat} (ha : z_a1 [a0, a1, a2, a3, a4, a5] = true) (hw : ([b0, b1, b2, b3].map z_w).sum ≤ 8) : o_callS mj 6 n ls (a0 :: a1 :: a2 :: a3 :: a4 :: a5 :: [b0, b1, b2, b3]) θ σ = ncl mj [a5, a4, a3, a2, a1, a0] [b0, b1, b2, b3] n := by
  show (if _ then _ else none) = _
  rw [if_pos ⟨⟨by simp, ha⟩, by simpa using hw⟩]
  rfl
theorem p_cv6_4 {ls : ZL} {a0 a1 a2 a3 a4 a5 : ZV} {b0 b1 b2 b3 : ZV} {θ : ZT} {σ : ZI} {mj q n b : Nat} (h : zkd b = q) (ha : z_a1 [a0, a1, a2, a3, a4, a5] = true) (hw : ([b0, b1, b2, b3].map z_w).sum ≤ 8) : o_callV mj q 6 n ls (a0 :: a1 :: a2 :: a3 :: a4 :: a5 :: .inr (.inl (some b)) :: [b0, b1, b2, b3]) θ σ = ncl mj (.inr (.inl (some b)) :: [a5, a4, a3, a2, a1, a0]) [b0, b1, b2, b3] n := by
  show (if _ then _ else none) = _
  rw [if_pos ⟨⟨by simp, ha⟩, h, by simpa using hw⟩]
  rfl
