/-! THE MAKING: a lawn -/
theorem zclr_o {σ : ZI} {a b j : Nat} (h : b ≠ a) : zclr σ a b j = σ b j := if_neg h
theorem zclr_s {σ : ZI} {a j : Nat} : zclr σ a a j = 0 := by unfold zclr; rw [if_pos rfl]
theorem zclr_f {σ : ZI} {a b : Nat} (h : b ≠ a) : zclr σ a b = σ b := funext fun _ => zclr_o h
theorem zclrR_o {ρ : ZR} {a b j : Nat} (h : b ≠ a) : zclrR ρ a b j = ρ b j := if_neg h
theorem zclrR_s {ρ : ZR} {a j : Nat} : zclrR ρ a a j = none := if_pos rfl
theorem zclrR_f {ρ : ZR} {a b : Nat} (h : b ≠ a) : zclrR ρ a b = ρ b := funext fun _ => zclrR_o h
theorem zupR_o {ρ : ZR} {a b k j : Nat} {v : Option Nat} (h : b ≠ a) : zupR ρ a k v b j = ρ b j := if_neg (fun z => h z.1)
theorem zupR_f {ρ : ZR} {a b k : Nat} {v : Option Nat} (h : b ≠ a) : zupR ρ a k v b = ρ b := funext fun _ => zupR_o h
theorem zupR_s {ρ : ZR} {a k : Nat} {v : Option Nat} : zupR ρ a k v a k = v := if_pos ⟨rfl, rfl⟩
theorem zupR_j {ρ : ZR} {a k j : Nat} {v : Option Nat} (h : j ≠ k) : zupR ρ a k v a j = ρ a j := if_neg (fun z => h z.2)
theorem p_newa {n q N x : Nat} {m : Int} {ls : ZL} {st : List ZV} {ρ : ZR} {σ : ZI} (h1 : zkd N = q) (h2 : ((zln N : Nat) : Int) = m) : o_newa q n ls (.inl m :: st) (N, x, ρ) σ = nx n ls (.inr (.inl (some N)) :: st) (N + 1, x, zclrR ρ N) (zclr σ N) := if_pos ⟨h1, h2.symm⟩
theorem p_newo {n q N x : Nat} {ls : ZL} {st : List ZV} {ρ : ZR} {σ : ZI} (h1 : zkd N = q) : o_newo q n ls st (N, x, ρ) σ = nx n ls (.inr (.inl (some N)) :: st) (N + 1, x, zclrR ρ N) (zclr σ N) := if_pos h1
theorem p_ci1 {mj n : Nat} {b : Nat} {c : Option Nat} {ls : ZL} {θ : ZT} {σ : ZI} : o_callI mj n ls [.inr (.inl (some b)), .inr (.inl c)] θ σ = ncl mj [.inr (.inl (some b))] [.inr (.inl c)] n := rfl
theorem p_ci2 {mj n : Nat} {b : Nat} {c d : Option Nat} {ls : ZL} {θ : ZT} {σ : ZI} : o_callI mj n ls [.inr (.inl (some b)), .inr (.inl c), .inr (.inl d)] θ σ = ncl mj [.inr (.inl (some b))] [.inr (.inl c), .inr (.inl d)] n := rfl
theorem p_ci3 {mj n : Nat} {b : Nat} {c e : Option Nat} {d : Int} {ls : ZL} {θ : ZT} {σ : ZI} : o_callI mj n ls [.inr (.inl (some b)), .inr (.inl c), .inl d, .inr (.inl e)] θ σ = ncl mj [.inr (.inl (some b))] [.inr (.inl c), .inl d, .inr (.inl e)] n := rfl
theorem p_aa15 {n a b : Nat} {i : Int} {ls : ZL} {st : List ZV} {θ : ZT} {σ : ZI} (h1 : zkd a = 15) (h2 : zkd b = 2) (h3 : 0 ≤ i) (h4 : i < zln a) : o_aast n ls (.inr (.inl (some b)) :: .inl i :: .inr (.inl (some a)) :: st) θ σ = nx n ls st (θ.1, θ.2.1, zupR θ.2.2 a i.toNat (some b)) σ := if_pos ⟨Or.inr ⟨h1, h2⟩, h3, h4⟩
theorem p_aa14 {n a b : Nat} {i : Int} {ls : ZL} {st : List ZV} {θ : ZT} {σ : ZI} (h1 : zkd a = 14) (h2 : zkd b = 3) (h3 : 0 ≤ i) (h4 : i < zln a) : o_aast n ls (.inr (.inl (some b)) :: .inl i :: .inr (.inl (some a)) :: st) θ σ = nx n ls st (θ.1, θ.2.1, zupR θ.2.2 a i.toNat (some b)) σ := if_pos ⟨Or.inl ⟨h1, h2⟩, h3, h4⟩
/-- what refers to nothing -/
theorem zrho_z {a : Nat} (h : zkd a ≠ 0 ∧ zkd a ≠ 1 ∧ zkd a ≠ 2 ∧ zkd a ≠ 3 ∧ zkd a ≠ 4 ∧ zkd a ≠ 5 ∧ zkd a ≠ 6 ∧ zkd a ≠ 14 ∧ zkd a ≠ 15) (k : Nat) : zrho a k = none := by
  obtain ⟨h0, h1, h2, h3, h4, h5, h6, h14, h15⟩ := h
  unfold zrho
  rw [if_neg h2, if_neg h3, if_neg h15, if_neg h14, if_neg (fun e => h0 (by rw [e]; rfl)), if_neg (fun e => h1 (by rw [e]; rfl)), if_neg (fun e => h4 (by rw [e]; rfl)), if_neg (fun e => h5 (by rw [e]; rfl)), if_neg (fun e => h6 (by rw [e]; rfl))]
theorem zrho_10 {a : Nat} (h : zkd a = 10) (k : Nat) : zrho a k = none := zrho_z (by omega) k
/-- the row of a new lawn -/
def zw0 : zW := fun j => if j = 1 then 2 else if j = 6 then 1 else if j = 7 then 2 else 0
section
variable {L : Nat} {ρ : ZR} {σ : ZI} {Q : ZO → ZT → ZI → Prop} {x n : Nat}
theorem t_lawnI (hk : zkd L = 2) (hρ : ∀ k, ρ L k = none) (hσ : ∀ k, σ L k = 0) (K : ∀ ρ' σ', (∀ a, L ≤ a → a < L + 10 → ρ' a = zrho a) → (∀ a, a < L ∨ L + 10 ≤ a → ρ' a = ρ a) → zLr σ' L zw0 → zfr σ σ' L → Q (.inl none) (L + 10, x, ρ') σ') : WM 14 [.inr (.inl (some L))] (L + 1, x, ρ) σ Q := by
  show Wp 14 0 [some (.inr (.inl (some L)))] [] _ _ Q
  have k1 := zkL1 hk
  have k2 := zkL2 hk
  have k3 := zkL3 hk
  have k4 := zkL4 hk
  have k5 := zkL5 hk
  have k6 := zkL6 hk
  have k7 := zkL7 hk
  have k8 := zkL8 hk
  have k9 := zkL9 hk
  have n1 := znL1 hk
  have n2 := znL2 hk
  have n3 := znL3 hk
  have n4 := znL4 hk
  have n5 := znL5 hk
  have n6 := znL6 hk
  have n7 := znL7 hk
  have n8 := znL8 hk
  have n9 := znL9 hk
  have a1 : L + 1 + 1 = L + 2 := rfl
  have a2 : L + 2 + 1 = L + 3 := rfl
  have a3 : L + 3 + 1 = L + 4 := rfl
  have a4 : L + 4 + 1 = L + 5 := rfl
  have a5 : L + 5 + 1 = L + 6 := rfl
  have a6 : L + 6 + 1 = L + 7 := rfl
  have a7 : L + 7 + 1 = L + 8 := rfl
  have a8 : L + 8 + 1 = L + 9 := rfl
  have a9 : L + 9 + 1 = L + 10 := rfl
  simp (disch := first | assumption | exact p_c2i | exact p_c2r | exact p_c2n | omega | ((repeat (first | refine p_a1i.trans ?_ | refine p_a1r.trans ?_)); exact p_a10) | ((repeat (first | refine p_wI ?_ | refine p_wR ?_)); exact p_w0) | decide) only [reduceIte, Int.reduceLT, Int.reduceLE, Int.reduceEq, Int.reduceToNat, Int.reduceAdd, Int.reduceSub, Int.reduceMul, Int.reduceNeg, e14_0, e14_1, e14_4, e14_5, e14_7, e14_9, e14_12, e14_13, e14_15, e14_17, e14_20, e14_21, e14_22, e14_24, e14_25, e14_26, e14_27, e14_28, e14_29, e14_30, e14_31, e14_32, e14_33, e14_34, e14_35, e14_36, e14_37, e14_38, e14_39, e14_40, e14_43, e14_44, e14_46, e14_48, e14_51, e14_52, e14_53, e14_55, e14_58, e14_59, e14_60, e14_62, e14_65, e14_66, e14_67, e14_69, e14_72, e14_73, e14_74, e14_76, e14_79, e14_80, e14_81, e14_83, e14_86, e14_87, e14_88, e14_91, e14_92, e14_93, e14_96, p_al0, o_oini, p_push, p_putR, p_dupi, p_dupr, p_iast, p_putI, p_vret, WN_nx, WN_nrt, WN_ite, p_newa, a1, a2, a3, a4, a5, a6, a7, a8, a9]
  refine K _ _ (fun a h1 h2 => ?_) (fun a ha => ?_) ?_ (fun a ha => ?_)
  · funext k
    rcases (show a = L ∨ a = L + 1 ∨ a = L + 2 ∨ a = L + 3 ∨ a = L + 4 ∨ a = L + 5 ∨ a = L + 6 ∨ a = L + 7 ∨ a = L + 8 ∨ a = L + 9 by omega) with e | e | e | e | e | e | e | e | e | e
    · subst e
      by_cases h9 : k < 9
      · rw [zrL hk h9]
        rcases (show k = 0 ∨ k = 1 ∨ k = 2 ∨ k = 3 ∨ k = 4 ∨ k = 5 ∨ k = 6 ∨ k = 7 ∨ k = 8 by omega) with q | q | q | q | q | q | q | q | q
        all_goals
          subst q
          simp (disch := omega) only [zupR_s, zupR_j, zclrR_o]
      · have hz : zrho a k = none := by unfold zrho; rw [if_pos hk, if_neg h9]
        rw [hz]
        simp (disch := omega) only [zupR_j, zclrR_o]
        exact hρ k
    all_goals
      subst e
      first | rw [zrho_10 k1] | rw [zrho_10 k2] | rw [zrho_10 k3] | rw [zrho_10 k4] | rw [zrho_10 k5] | rw [zrho_10 k6] | rw [zrho_10 k7] | rw [zrho_10 k8] | rw [zrho_10 k9]
      simp (disch := omega) only [zupR_o, zclrR_o, zclrR_s]
  · simp (disch := omega) only [zupR_f, zclrR_f]
  · refine ⟨⟨?_, ?_, ?_, ?_, ?_⟩, fun t ht => ?_, fun c hc => ?_, fun c hc => ?_, fun h hh => absurd hh (by show ¬ ((h : Int) < 0); omega), fun h hh => absurd hh (by show ¬ ((h : Int) < 0); omega)⟩
    · simp (disch := omega) only [zup_j, zup_o, zclr_o]
      exact hσ 10
    · simp (disch := omega) only [zup_s, zup_j]
      rfl
    · simp (disch := omega) only [zup_s]
      rfl
    · simp (disch := omega) only [zup_j, zup_o, zclr_o]
      exact hσ 13
    · simp (disch := omega) only [zup_j, zup_o, zclr_o]
      exact hσ 9
    · rcases (show t = 0 ∨ t = 1 ∨ t = 2 ∨ t = 3 by omega) with q | q | q | q
      all_goals
        subst q
        simp (disch := omega) only [zup_o, zclr_o, zup_s, zup_j]
        rfl
    · simp (disch := omega) only [zup_o, zclr_o, zclr_s]
      unfold zw0
      rw [if_neg (by omega), if_neg (by omega), if_neg (by omega)]
    · simp (disch := omega) only [zup_o, zclr_o, zclr_s]
      unfold zw0
      rw [if_neg (by omega), if_neg (by omega), if_neg (by omega)]
  · simp (disch := omega) only [zup_f, zclr_f]
end
