/-! THE MAKING: a story -/
section
variable {S : Nat} {ρ : ZR} {σ : ZI} {Q : ZO → ZT → ZI → Prop} {x n : Nat}
theorem zrho_S {k : Nat} (hS : zst S) (hk : 2 ≤ k) : zrho S k = none := by
  have h3 := zs_k3 hS
  unfold zrho
  rw [if_neg (by omega), if_pos h3, if_neg (by omega), if_neg (by omega)]
theorem zrho_P {k : Nat} (hS : zst S) (hk : 30 ≤ k) : zrho (S + 11) k = none := by
  have h3 := zs_k15 hS
  unfold zrho
  rw [if_neg (by omega), if_neg (by omega), if_pos h3, if_neg (by omega)]
def zSi (S i : Nat) (ρ ρ1 : ZR) (σ σ1 : ZI) : Prop := ρ1 S 0 = some (S + 1) ∧ ρ1 S 1 = some (S + 11) ∧ (∀ k, 2 ≤ k → ρ1 S k = none) ∧ (∀ a, S + 1 ≤ a → a < S + 11 → ρ1 a = zrho a) ∧ (∀ k, k < i → ρ1 (S + 11) k = some (S + 12 + 10 * k)) ∧ (∀ k, i ≤ k → ρ1 (S + 11) k = none) ∧ (∀ a, S + 12 ≤ a → a < S + 12 + 10 * i → ρ1 a = zrho a) ∧ (∀ a, a < S ∨ S + 12 + 10 * i ≤ a → ρ1 a = ρ a) ∧ zLr σ1 (S + 1) zw0 ∧ (∀ k, σ1 S k = 0) ∧ ∀ a, a < S ∨ S + 312 ≤ a → σ1 a = σ a
theorem l_storyI (hS : zst S) (K : ∀ ρ' σ', (∀ a, S ≤ a → a < S + 312 → ρ' a = zrho a) → (∀ a, a < S ∨ S + 312 ≤ a → ρ' a = ρ a) → zSr σ' S zw0 → zfS σ σ' S → Q (.inl none) (S + 312, x, ρ') σ') : ∀ (n i : Nat) (ρ1 : ZR) (σ1 : ZI), i + n = 30 → zSi S i ρ ρ1 σ σ1 → Wp 48 26 [some (.inr (.inl (some S))), some (.inl ((i : Int)))] [] (S + 12 + 10 * i, x, ρ1) σ1 Q := by
  have k3 := zs_k3 hS
  have k15 := zs_k15 hS
  have n30 := zs_n11 hS
  intro n
  induction n with
  | zero =>
    intro i ρ1 σ1 hi h
    have e : i = 30 := by omega
    subst e
    obtain ⟨h1, h2, h3, h4, h5, h6, h7, h8, h9, h10, h11⟩ := h
    have c : (((30 : Nat) : Int) < ((30 : Nat) : Int)) = False := eq_false (by omega)
    simp (disch := first | assumption | exact p_c2i | exact p_c2r | exact p_c2n | omega | ((repeat (first | refine p_a1i.trans ?_ | refine p_a1r.trans ?_)); exact p_a10) | ((repeat (first | refine p_wI ?_ | refine p_wR ?_)); exact p_w0) | decide) only [reduceIte, Int.reduceLT, Int.reduceLE, Int.reduceEq, Int.reduceToNat, Int.reduceAdd, Int.reduceSub, Int.reduceMul, Int.reduceNeg, e48_26, e48_27, e48_28, e48_31, e48_32, e48_54, p_il1, p_al0, p_getR, p_alen, p_alenS, p_alen22, p_cge, p_vret, WN_nx, WN_nrt, WN_ite, h2, n30, c]
    refine K ρ1 σ1 (fun a a1 a2 => ?_) (fun a ha => h8 a (by omega)) ⟨0, by omega, h10 2, h10 3, h10 4, h9, fun k hk => absurd hk (by show ¬ ((k : Int) < 0); omega)⟩ h11
    by_cases e0 : a = S
    · subst e0
      funext k
      by_cases q0 : k = 0
      · subst q0; rw [h1, zs_r0 hS]
      · by_cases q1 : k = 1
        · subst q1; rw [h2, zs_r1 hS]
        · rw [h3 k (by omega), zrho_S hS (by omega)]
    · by_cases e1 : a < S + 11
      · exact h4 a (by omega) e1
      · by_cases e2 : a = S + 11
        · subst e2
          funext k
          by_cases q : k < 30
          · rw [h5 k q, zs_rp hS q]
          · rw [h6 k (by omega), zrho_P hS (by omega)]
        · exact h7 a (by omega) (by omega)
  | succ n ih =>
    intro i ρ1 σ1 hi h
    obtain ⟨h1, h2, h3, h4, h5, h6, h7, h8, h9, h10, h11⟩ := h
    have c : ((i : Int) < ((30 : Nat) : Int)) = True := eq_true (by omega)
    have kp := zs_kp (m := i) hS (by omega)
    have e1 : (i : Int) + 1 = ((i + 1 : Nat) : Int) := by omega
    have e10 : S + 12 + 10 * i + 10 = S + 12 + 10 * (i + 1) := by omega
    rw [e48_26]
    simp (disch := first | assumption | exact p_c2i | exact p_c2r | exact p_c2n | omega | ((repeat (first | refine p_a1i.trans ?_ | refine p_a1r.trans ?_)); exact p_a10) | ((repeat (first | refine p_wI ?_ | refine p_wR ?_)); exact p_w0) | decide) only [reduceIte, Int.reduceLT, Int.reduceLE, Int.reduceEq, Int.reduceToNat, Int.reduceAdd, Int.reduceSub, Int.reduceMul, Int.reduceNeg, e48_27, e48_28, e48_31, e48_32, e48_35, e48_36, e48_39, e48_40, e48_43, e48_44, p_il1, p_al0, p_getR, p_alen, p_alenS, p_alen22, p_cge, p_dupi, p_dupr, zK_0, WN_ncl, WN_nx, WN_nrt, WN_ite, h2, n30, c, p_newo, p_ci3]
    refine t_lawnI (L := S + 12 + 10 * i) kp (fun k => zclrR_s) (fun k => zclr_s) (fun ρ2 σ2 r1 r2 hl hf => ?_)
    rw [zK_0]
    simp (disch := first | assumption | exact p_c2i | exact p_c2r | exact p_c2n | omega | ((repeat (first | refine p_a1i.trans ?_ | refine p_a1r.trans ?_)); exact p_a10) | ((repeat (first | refine p_wI ?_ | refine p_wR ?_)); exact p_w0) | decide) only [reduceIte, Int.reduceLT, Int.reduceLE, Int.reduceEq, Int.reduceToNat, Int.reduceAdd, Int.reduceSub, Int.reduceMul, Int.reduceNeg, e48_47, e48_48, e48_51, p_ii1, p_goto, WN_nx, WN_nrt, WN_ite, p_aa15, Int.toNat_natCast, e1, e10]
    have g : ∀ a, a < S + 12 + 10 * i ∨ S + 12 + 10 * i + 10 ≤ a → ρ2 a = ρ1 a := fun a ha => (r2 a ha).trans (zclrR_f (by omega))
    have s : ∀ a, a < S + 12 + 10 * i ∨ S + 12 + 10 * i + 10 ≤ a → σ2 a = σ1 a := fun a ha => (hf a ha).trans (zclr_f (by omega))
    refine ih (i + 1) _ σ2 (by omega) ⟨?_, ?_, fun k hk => ?_, fun a a1 a2 => ?_, fun k hk => ?_, fun k hk => ?_, fun a a1 a2 => ?_, fun a ha => ?_, ?_, fun k => ?_, fun a ha => ?_⟩
    · rw [zupR_o (by omega), g S (by omega)]; exact h1
    · rw [zupR_o (by omega), g S (by omega)]; exact h2
    · rw [zupR_o (by omega), g S (by omega)]; exact h3 k hk
    · rw [zupR_f (by omega), g a (by omega)]; exact h4 a a1 a2
    · by_cases q : k = i
      · subst q; exact zupR_s
      · rw [zupR_j q, g (S + 11) (by omega)]; exact h5 k (by omega)
    · rw [zupR_j (by omega), g (S + 11) (by omega)]; exact h6 k (by omega)
    · rw [zupR_f (by omega)]
      by_cases q : a < S + 12 + 10 * i
      · rw [g a (by omega)]; exact h7 a a1 q
      · exact r1 a (by omega) (by omega)
    · rw [zupR_f (by omega), g a (by omega)]; exact h8 a (by omega)
    · exact h9.frame (fun a _ _ => s a (by omega))
    · rw [s S (by omega)]; exact h10 k
    · rw [s a (by omega)]; exact h11 a ha
theorem t_storyI (hS : zst S) (hρ : ∀ k, ρ S k = none) (hσ : ∀ k, σ S k = 0) (K : ∀ ρ' σ', (∀ a, S ≤ a → a < S + 312 → ρ' a = zrho a) → (∀ a, a < S ∨ S + 312 ≤ a → ρ' a = ρ a) → zSr σ' S zw0 → zfS σ σ' S → Q (.inl none) (S + 312, x, ρ') σ') : WM 48 [.inr (.inl (some S))] (S + 1, x, ρ) σ Q := by
  show Wp 48 0 [some (.inr (.inl (some S))), none] [] _ _ Q
  have k3 := zs_k3 hS
  have k2 := zs_k2 hS
  have k15 := zs_k15 hS
  have n30 := zs_n11 hS
  have n30b : ((zln (S + 11) : Nat) : Int) = 30 := by omega
  simp (disch := first | assumption | exact p_c2i | exact p_c2r | exact p_c2n | omega | ((repeat (first | refine p_a1i.trans ?_ | refine p_a1r.trans ?_)); exact p_a10) | ((repeat (first | refine p_wI ?_ | refine p_wR ?_)); exact p_w0) | decide) only [reduceIte, Int.reduceLT, Int.reduceLE, Int.reduceEq, Int.reduceToNat, Int.reduceAdd, Int.reduceSub, Int.reduceMul, Int.reduceNeg, e48_0, e48_1, e48_4, e48_5, e48_8, e48_9, p_al0, o_oini, p_dupi, p_dupr, zK_0, WN_ncl, WN_nx, WN_nrt, WN_ite, p_newo, p_ci2]
  refine t_lawnI (L := S + 1) k2 (fun k => zclrR_s) (fun k => zclr_s) (fun ρ2 σ2 r1 r2 hl hf => ?_)
  rw [zK_0]
  have a1 : S + 1 + 10 = S + 11 := rfl
  have a2 : S + 11 + 1 = S + 12 := rfl
  simp (disch := first | assumption | exact p_c2i | exact p_c2r | exact p_c2n | omega | ((repeat (first | refine p_a1i.trans ?_ | refine p_a1r.trans ?_)); exact p_a10) | ((repeat (first | refine p_wI ?_ | refine p_wR ?_)); exact p_w0) | decide) only [reduceIte, Int.reduceLT, Int.reduceLE, Int.reduceEq, Int.reduceToNat, Int.reduceAdd, Int.reduceSub, Int.reduceMul, Int.reduceNeg, e48_12, e48_15, e48_16, e48_18, e48_21, e48_24, e48_25, p_putR, p_al0, p_push, p_is1, p_c2n, p_c2i, p_c2r, WN_nx, WN_nrt, WN_ite, a1, a2, p_newa]
  have g : ∀ a, a < S + 1 ∨ S + 11 ≤ a → ρ2 a = ρ a ∨ a = S + 1 := fun a ha => Or.inl ((r2 a (by omega)).trans (zclrR_f (by omega)))
  have g' : ∀ a, a < S + 1 ∨ S + 11 ≤ a → ρ2 a = ρ a := fun a ha => (r2 a (by omega)).trans (zclrR_f (by omega))
  have s : ∀ a, a < S + 1 ∨ S + 11 ≤ a → σ2 a = σ a := fun a ha => (hf a (by omega)).trans (zclr_f (by omega))
  refine l_storyI (ρ := ρ) (σ := σ) hS K 30 0 _ _ rfl ⟨?_, ?_, fun k hk => ?_, fun a b1 b2 => ?_, fun k hk => absurd hk (Nat.not_lt_zero k), fun k hk => ?_, fun a b1 b2 => absurd b2 (by omega), fun a ha => ?_, ?_, fun k => ?_, fun a ha => ?_⟩
  · rw [zupR_j (by omega), zclrR_o (by omega), zupR_s]
  · exact zupR_s
  · rw [zupR_j (by omega), zclrR_o (by omega), zupR_j (by omega), g' S (by omega)]; exact hρ k
  · rw [zupR_f (by omega), zclrR_f (by omega), zupR_f (by omega)]; exact r1 a b1 (by omega)
  · rw [zupR_o (by omega), zclrR_s]
  · rw [zupR_f (by omega), zclrR_f (by omega), zupR_f (by omega)]; exact g' a (by omega)
  · exact hl.frame (fun a _ _ => zclr_f (by omega))
  · rw [zclr_o (by omega), s S (by omega)]; exact hσ k
  · rw [zclr_f (by omega)]; exact s a (by omega)
end
