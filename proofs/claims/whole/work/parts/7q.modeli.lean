/-! THE MAKING: the model; the start of the law -/
section
variable {ρ : ZR} {σ : ZI} {Q : ZO → ZT → ZI → Prop} {x n : Nat}
theorem zrho_3553 {k : Nat} : zrho 3553 k = if k < 5 then some (3554 + k) else if k = 11 then some 3559 else if k = 14 then some 3560 else if k = 16 then some 3561 else if k = 17 then some 3562 else if k = 19 then some 3563 else none := by
  unfold zrho
  rw [if_neg (show ¬ zkd 3553 = 2 by decide), if_neg (show ¬ zkd 3553 = 3 by decide), if_neg (show ¬ zkd 3553 = 15 by decide), if_neg (show ¬ zkd 3553 = 14 by decide), if_neg (show ¬ (3553 : Nat) = 1037 by decide), if_neg (show ¬ (3553 : Nat) = 3545 by decide), if_neg (show ¬ (3553 : Nat) = 3550 by decide), if_neg (show ¬ (3553 : Nat) = 100 by decide), if_pos rfl]
theorem t_modelI (hρ : ∀ k, ρ 3553 k = none) (hσ : ∀ k, σ 3553 k = 0) (K : ∀ ρ' σ', (∀ a, 3553 ≤ a → a < 3564 → ρ' a = zrho a) → (∀ a, a < 3553 ∨ 3564 ≤ a → ρ' a = ρ a) → σ' 3554 = zw0 → σ' 3553 13 = -1 → (∀ k, k ≠ 13 → σ' 3553 k = 0) → (∀ a, a < 3553 ∨ 3564 ≤ a → σ' a = σ a) → Q (.inl none) (3564, x, ρ') σ') : WM 142 [.inr (.inl (some 3553))] (3554, x, ρ) σ Q := by
  show Wp 142 0 [some (.inr (.inl (some 3553)))] [] _ _ Q
  have k3 : zkd 3553 = 6 := rfl
  have k4 : zkd 3554 = 10 := rfl
  have k5 : zkd 3555 = 10 := rfl
  have k6 : zkd 3556 = 10 := rfl
  have k7 : zkd 3557 = 10 := rfl
  have k8 : zkd 3558 = 10 := rfl
  have k9 : zkd 3559 = 10 := rfl
  have k10 : zkd 3560 = 12 := rfl
  have k11 : zkd 3561 = 10 := rfl
  have k12 : zkd 3562 = 10 := rfl
  have k13 : zkd 3563 = 10 := rfl
  have n4 : ((zln 3554 : Nat) : Int) = 6202 := rfl
  have n5 : ((zln 3555 : Nat) : Int) = 49616 := rfl
  have n6 : ((zln 3556 : Nat) : Int) = 6202 := rfl
  have n7 : ((zln 3557 : Nat) : Int) = 6202 := rfl
  have n8 : ((zln 3558 : Nat) : Int) = 6202 := rfl
  have n9 : ((zln 3559 : Nat) : Int) = 60 := rfl
  have n10 : ((zln 3560 : Nat) : Int) = 12 := rfl
  have n11 : ((zln 3561 : Nat) : Int) = 81 := rfl
  have n12 : ((zln 3562 : Nat) : Int) = 120 := rfl
  have n13 : ((zln 3563 : Nat) : Int) = 124 := rfl
  simp (disch := first | assumption | exact p_c2i | exact p_c2r | exact p_c2n | omega | ((repeat (first | refine p_a1i.trans ?_ | refine p_a1r.trans ?_)); exact p_a10) | ((repeat (first | refine p_wI ?_ | refine p_wR ?_)); exact p_w0) | decide) only [reduceIte, Int.reduceLT, Int.reduceLE, Int.reduceEq, Int.reduceToNat, Int.reduceAdd, Int.reduceSub, Int.reduceMul, Int.reduceNeg, e142_0, e142_1, e142_4, e142_5, e142_8, e142_10, e142_13, e142_14, e142_16, e142_18, e142_21, e142_22, e142_25, e142_27, e142_30, e142_31, e142_34, e142_36, e142_39, e142_40, e142_43, e142_45, e142_48, e142_49, e142_51, e142_53, e142_56, e142_57, e142_58, e142_61, e142_62, e142_64, e142_66, e142_69, e142_70, e142_72, e142_74, e142_77, e142_78, e142_80, e142_82, e142_85, e142_86, e142_88, e142_90, e142_93, e142_94, e142_97, e142_98, e142_99, e142_100, e142_101, e142_104, e142_106, e142_107, e142_108, e142_109, e142_112, e142_114, e142_115, e142_116, p_al0, o_oini, p_push, p_putR, p_putI, p_getR, p_iast, p_vret, WN_nx, WN_nrt, WN_ite, p_newa, Nat.reduceAdd, zupR_s, zupR_j, zclrR_o]
  refine K _ _ (fun a h1 h2 => ?_) (fun a ha => ?_) ?_ ?_ (fun k hk => ?_) (fun a ha => ?_)
  · funext k
    rcases (show a = 3553 ∨ a = 3554 ∨ a = 3555 ∨ a = 3556 ∨ a = 3557 ∨ a = 3558 ∨ a = 3559 ∨ a = 3560 ∨ a = 3561 ∨ a = 3562 ∨ a = 3563 by omega) with e | e | e | e | e | e | e | e | e | e | e
    · subst e
      rw [zrho_3553]
      by_cases q0 : k = 0
      · subst q0; simp (disch := omega) only [zupR_s, zupR_j, zclrR_o]; rfl
      by_cases q1 : k = 1
      · subst q1; simp (disch := omega) only [zupR_s, zupR_j, zclrR_o]; rfl
      by_cases q2 : k = 2
      · subst q2; simp (disch := omega) only [zupR_s, zupR_j, zclrR_o]; rfl
      by_cases q3 : k = 3
      · subst q3; simp (disch := omega) only [zupR_s, zupR_j, zclrR_o]; rfl
      by_cases q4 : k = 4
      · subst q4; simp (disch := omega) only [zupR_s, zupR_j, zclrR_o]; rfl
      by_cases q11 : k = 11
      · subst q11; simp (disch := omega) only [zupR_s, zupR_j, zclrR_o]; rfl
      by_cases q14 : k = 14
      · subst q14; simp (disch := omega) only [zupR_s, zupR_j, zclrR_o]; rfl
      by_cases q16 : k = 16
      · subst q16; simp (disch := omega) only [zupR_s, zupR_j, zclrR_o]; rfl
      by_cases q17 : k = 17
      · subst q17; simp (disch := omega) only [zupR_s, zupR_j, zclrR_o]; rfl
      by_cases q19 : k = 19
      · subst q19; simp (disch := omega) only [zupR_s, zupR_j, zclrR_o]; rfl
      rw [if_neg (by omega), if_neg q11, if_neg q14, if_neg q16, if_neg q17, if_neg q19]
      simp (disch := omega) only [zupR_j, zclrR_o]
      exact hρ k
    all_goals
      subst e
      rw [zrho_z (by decide)]
      simp (disch := omega) only [zupR_o, zclrR_o, zclrR_s]
  · simp (disch := omega) only [zupR_f, zclrR_f]
  · funext j
    unfold zw0
    by_cases q7 : j = 7
    · subst q7; rw [zup_s]; rfl
    · rw [zup_j q7]
      by_cases q6 : j = 6
      · subst q6; rw [zup_s]; rfl
      · rw [zup_j q6]
        by_cases q1 : j = 1
        · subst q1; rw [zup_s]; rfl
        · rw [zup_j q1, if_neg q1, if_neg q6, if_neg q7]
          simp (disch := omega) only [zup_o, zclr_o, zclr_s]
  · simp (disch := omega) only [zup_s, zup_o, zclr_o]
  · simp (disch := omega) only [zup_j, zup_o, zclr_o]
    exact hσ k
  · simp (disch := omega) only [zup_f, zclr_f]
theorem zok_w0 : zok 0 zw0 := by
  refine ⟨⟨by decide, by decide⟩, ⟨by decide, by decide⟩, ⟨by decide, by decide⟩, ⟨by decide, by decide⟩, ⟨by decide, by decide⟩, ⟨by decide, by decide⟩, fun t ht => ?_, fun c hc => ?_, fun c hc => ?_, fun h hh => absurd hh (by show ¬ ((h : Int) < 0); omega), fun k hk => absurd hk (by show ¬ ((k : Int) < 0); omega)⟩
  · rcases (show t = 0 ∨ t = 1 ∨ t = 2 ∨ t = 3 by omega) with q | q | q | q
    all_goals
      subst q
      exact ⟨by decide, by decide⟩
  · have e : zw0 (10 + c) = 0 := by unfold zw0; rw [if_neg (by omega), if_neg (by omega), if_neg (by omega)]
    rw [e]; exact ⟨by decide, by decide⟩
  · have e : zw0 (91 + c) = 0 := by unfold zw0; rw [if_neg (by omega), if_neg (by omega), if_neg (by omega)]
    rw [e]; exact ⟨by decide, by decide⟩
theorem zSok_w0 : zSok 0 zw0 := zSok_0 zok_w0 rfl ⟨by decide, by decide⟩
theorem zsum_e : zsum 3565 ≤ zsum 100 + 7280000 := by decide +kernel
end
