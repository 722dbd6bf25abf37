/-! THE MAKING: the changes, the finder, the text, the class -/
section
variable {ρ : ZR} {σ : ZI} {Q : ZO → ZT → ZI → Prop} {x n : Nat}
theorem zrho_1037 {k : Nat} (h : k ≠ 0) : zrho 1037 k = none := by
  unfold zrho
  rw [if_neg (by decide), if_neg (by decide), if_neg (by decide), if_neg (by decide), if_pos rfl, if_neg h]
theorem zrho_1038 {k : Nat} (h : 8 ≤ k) : zrho 1038 k = none := by
  unfold zrho
  rw [if_neg (by decide), if_neg (by decide), if_neg (by decide), if_pos (by decide), if_neg (by omega)]
def zCi (i : Nat) (ρ ρ1 : ZR) (σ σ1 : ZI) : Prop := ρ1 1037 0 = some 1038 ∧ (∀ k, k ≠ 0 → ρ1 1037 k = none) ∧ (∀ k, k < i → ρ1 1038 k = some (1039 + 312 * k)) ∧ (∀ k, i ≤ k → ρ1 1038 k = none) ∧ (∀ a, 1039 ≤ a → a < 1039 + 312 * i → ρ1 a = zrho a) ∧ (∀ a, a < 1037 ∨ 1039 + 312 * i ≤ a → ρ1 a = ρ a) ∧ (∀ k, σ1 1037 k = 0) ∧ ∀ a, a < 1037 ∨ 3535 ≤ a → σ1 a = σ a
theorem l_chI (K : ∀ ρ' σ', (∀ a, 1037 ≤ a → a < 3535 → ρ' a = zrho a) → (∀ a, a < 1037 ∨ 3535 ≤ a → ρ' a = ρ a) → (∀ k, σ' 1037 k = 0) → (∀ a, a < 1037 ∨ 3535 ≤ a → σ' a = σ a) → Q (.inl none) (3535, x, ρ') σ') : ∀ (n i : Nat) (ρ1 : ZR) (σ1 : ZI), i + n = 8 → zCi i ρ ρ1 σ σ1 → Wp 0 15 [some (.inr (.inl (some 1037))), some (.inl ((i : Int)))] [] (1039 + 312 * i, x, ρ1) σ1 Q := by
  have k0 : zkd 1037 = 0 := rfl
  have k14 : zkd 1038 = 14 := rfl
  have n8 : zln 1038 = 8 := rfl
  intro n
  induction n with
  | zero =>
    intro i ρ1 σ1 hi h
    have e : i = 8 := by omega
    subst e
    obtain ⟨h1, h2, h3, h4, h5, h6, h7, h8⟩ := h
    have c : (((8 : Nat) : Int) < ((8 : Nat) : Int)) = False := eq_false (by omega)
    simp (disch := first | assumption | exact p_c2i | exact p_c2r | exact p_c2n | omega | ((repeat (first | refine p_a1i.trans ?_ | refine p_a1r.trans ?_)); exact p_a10) | ((repeat (first | refine p_wI ?_ | refine p_wR ?_)); exact p_w0) | decide) only [reduceIte, Int.reduceLT, Int.reduceLE, Int.reduceEq, Int.reduceToNat, Int.reduceAdd, Int.reduceSub, Int.reduceMul, Int.reduceNeg, e0_15, e0_16, e0_17, e0_20, e0_21, e0_43, p_il1, p_al0, p_getR, p_alen, p_alenS, p_alen22, p_cge, p_vret, WN_nx, WN_nrt, WN_ite, h1, n8, c]
    refine K ρ1 σ1 (fun a a1 a2 => ?_) (fun a ha => h6 a (by omega)) h7 h8
    by_cases e0 : a = 1037
    · subst e0
      funext k
      by_cases q0 : k = 0
      · subst q0; rw [h1]; rfl
      · rw [h2 k q0, zrho_1037 q0]
    · by_cases e1 : a = 1038
      · subst e1
        funext k
        by_cases q : k < 8
        · rw [h3 k q, zch_r q]
        · rw [h4 k (by omega), zrho_1038 (by omega)]
      · exact h5 a (by omega) (by omega)
  | succ n ih =>
    intro i ρ1 σ1 hi h
    obtain ⟨h1, h2, h3, h4, h5, h6, h7, h8⟩ := h
    have c : ((i : Int) < ((8 : Nat) : Int)) = True := eq_true (by omega)
    have hS := zch_st (m := i) (by omega)
    have k3 := zs_k3 hS
    have e1 : (i : Int) + 1 = ((i + 1 : Nat) : Int) := by omega
    have e10 : 1039 + 312 * i + 312 = 1039 + 312 * (i + 1) := by omega
    rw [e0_15]
    simp (disch := first | assumption | exact p_c2i | exact p_c2r | exact p_c2n | omega | ((repeat (first | refine p_a1i.trans ?_ | refine p_a1r.trans ?_)); exact p_a10) | ((repeat (first | refine p_wI ?_ | refine p_wR ?_)); exact p_w0) | decide) only [reduceIte, Int.reduceLT, Int.reduceLE, Int.reduceEq, Int.reduceToNat, Int.reduceAdd, Int.reduceSub, Int.reduceMul, Int.reduceNeg, e0_16, e0_17, e0_20, e0_21, e0_24, e0_25, e0_28, e0_29, e0_32, e0_33, p_il1, p_al0, p_getR, p_alen, p_alenS, p_alen22, p_cge, p_dupi, p_dupr, zK_0, WN_ncl, WN_nx, WN_nrt, WN_ite, h1, n8, c, p_newo, p_ci3]
    refine t_storyI (S := 1039 + 312 * i) hS (fun k => zclrR_s) (fun k => zclr_s) (fun ρ2 σ2 r1 r2 hl hf => ?_)
    rw [zK_0]
    simp (disch := first | assumption | exact p_c2i | exact p_c2r | exact p_c2n | omega | ((repeat (first | refine p_a1i.trans ?_ | refine p_a1r.trans ?_)); exact p_a10) | ((repeat (first | refine p_wI ?_ | refine p_wR ?_)); exact p_w0) | decide) only [reduceIte, Int.reduceLT, Int.reduceLE, Int.reduceEq, Int.reduceToNat, Int.reduceAdd, Int.reduceSub, Int.reduceMul, Int.reduceNeg, e0_36, e0_37, e0_40, p_ii1, p_goto, WN_nx, WN_nrt, WN_ite, p_aa14, Int.toNat_natCast, e1, e10]
    have g : ∀ a, a < 1039 + 312 * i ∨ 1039 + 312 * i + 312 ≤ a → ρ2 a = ρ1 a := fun a ha => (r2 a ha).trans (zclrR_f (by omega))
    have s : ∀ a, a < 1039 + 312 * i ∨ 1039 + 312 * i + 312 ≤ a → σ2 a = σ1 a := fun a ha => (hf a ha).trans (zclr_f (by omega))
    refine ih (i + 1) _ σ2 (by omega) ⟨?_, fun k hk => ?_, fun k hk => ?_, fun k hk => ?_, fun a a1 a2 => ?_, fun a ha => ?_, fun k => ?_, fun a ha => ?_⟩
    · rw [zupR_o (by omega), g 1037 (by omega)]; exact h1
    · rw [zupR_o (by omega), g 1037 (by omega)]; exact h2 k hk
    · by_cases q : k = i
      · subst q; exact zupR_s
      · rw [zupR_j q, g 1038 (by omega)]; exact h3 k (by omega)
    · rw [zupR_j (by omega), g 1038 (by omega)]; exact h4 k (by omega)
    · rw [zupR_f (by omega)]
      by_cases q : a < 1039 + 312 * i
      · rw [g a (by omega)]; exact h5 a a1 q
      · exact r1 a (Nat.le_of_not_lt q) (by rw [e10]; exact a2)
    · rw [zupR_f (by omega), g a (by omega)]; exact h6 a (by omega)
    · rw [s 1037 (by omega)]; exact h7 k
    · rw [s a (by omega)]; exact h8 a ha
theorem t_chI (hρ : ∀ k, ρ 1037 k = none) (hσ : ∀ k, σ 1037 k = 0) (K : ∀ ρ' σ', (∀ a, 1037 ≤ a → a < 3535 → ρ' a = zrho a) → (∀ a, a < 1037 ∨ 3535 ≤ a → ρ' a = ρ a) → (∀ k, σ' 1037 k = 0) → (∀ a, a < 1037 ∨ 3535 ≤ a → σ' a = σ a) → Q (.inl none) (3535, x, ρ') σ') : WM 0 [.inr (.inl (some 1037))] (1038, x, ρ) σ Q := by
  show Wp 0 0 [some (.inr (.inl (some 1037))), none] [] _ _ Q
  have k0 : zkd 1037 = 0 := rfl
  have k14 : zkd 1038 = 14 := rfl
  have n8 : ((zln 1038 : Nat) : Int) = 8 := rfl
  simp (disch := first | assumption | exact p_c2i | exact p_c2r | exact p_c2n | omega | ((repeat (first | refine p_a1i.trans ?_ | refine p_a1r.trans ?_)); exact p_a10) | ((repeat (first | refine p_wI ?_ | refine p_wR ?_)); exact p_w0) | decide) only [reduceIte, Int.reduceLT, Int.reduceLE, Int.reduceEq, Int.reduceToNat, Int.reduceAdd, Int.reduceSub, Int.reduceMul, Int.reduceNeg, e0_0, e0_1, e0_4, e0_5, e0_7, e0_10, e0_13, e0_14, p_al0, o_oini, p_push, p_putR, p_is1, p_c2n, p_c2i, p_c2r, WN_nx, WN_nrt, WN_ite, p_newa, Nat.reduceAdd]
  refine l_chI (ρ := ρ) (σ := σ) K 8 0 _ _ rfl ⟨zupR_s, fun k hk => ?_, fun k hk => absurd hk (Nat.not_lt_zero k), fun k hk => ?_, fun a b1 b2 => absurd b2 (by omega), fun a ha => ?_, fun k => ?_, fun a ha => ?_⟩
  · rw [zupR_j hk, zclrR_o (by omega)]; exact hρ k
  · rw [zupR_o (by omega), zclrR_s]
  · rw [zupR_f (by omega), zclrR_f (by omega)]
  · rw [zclr_o (by omega)]; exact hσ k
  · rw [zclr_f (by omega)]
theorem t_findI (hρ : ∀ k, ρ 3545 k = none) (K : ∀ ρ' σ', (∀ a, 3545 ≤ a → a < 3549 → ρ' a = zrho a) → (∀ a, a < 3545 ∨ 3549 ≤ a → ρ' a = ρ a) → (∀ a, a < 3545 ∨ 3549 ≤ a → σ' a = σ a) → Q (.inl none) (3549, x, ρ') σ') : WM 5 [.inr (.inl (some 3545))] (3546, x, ρ) σ Q := by
  show Wp 5 0 [some (.inr (.inl (some 3545)))] [] _ _ Q
  have k1 : zkd 3545 = 1 := rfl
  have k6 : zkd 3546 = 11 := rfl
  have k7 : zkd 3547 = 10 := rfl
  have k8 : zkd 3548 = 10 := rfl
  have n6 : ((zln 3546 : Nat) : Int) = 81 := rfl
  have n7 : ((zln 3547 : Nat) : Int) = 81 := rfl
  have n8 : ((zln 3548 : Nat) : Int) = 81 := rfl
  simp (disch := first | assumption | exact p_c2i | exact p_c2r | exact p_c2n | omega | ((repeat (first | refine p_a1i.trans ?_ | refine p_a1r.trans ?_)); exact p_a10) | ((repeat (first | refine p_wI ?_ | refine p_wR ?_)); exact p_w0) | decide) only [reduceIte, Int.reduceLT, Int.reduceLE, Int.reduceEq, Int.reduceToNat, Int.reduceAdd, Int.reduceSub, Int.reduceMul, Int.reduceNeg, e5_0, e5_1, e5_4, e5_5, e5_7, e5_9, e5_12, e5_13, e5_15, e5_17, e5_20, e5_21, e5_23, e5_25, e5_28, p_al0, o_oini, p_push, p_putR, p_vret, WN_nx, WN_nrt, WN_ite, p_newa, Nat.reduceAdd]
  refine K _ _ (fun a h1 h2 => ?_) (fun a ha => ?_) (fun a ha => ?_)
  · funext k
    rcases (show a = 3545 ∨ a = 3546 ∨ a = 3547 ∨ a = 3548 by omega) with e | e | e | e
    · subst e
      by_cases q0 : k = 0
      · subst q0; simp (disch := omega) only [zupR_s, zupR_j, zclrR_o]; rfl
      · by_cases q1 : k = 1
        · subst q1; simp (disch := omega) only [zupR_s, zupR_j, zclrR_o]; rfl
        · by_cases q3 : k = 3
          · subst q3; simp (disch := omega) only [zupR_s, zupR_j, zclrR_o]; rfl
          · simp (disch := omega) only [zupR_s, zupR_j, zclrR_o]
            rw [hρ k]
            unfold zrho
            rw [if_neg (by decide), if_neg (by decide), if_neg (by decide), if_neg (by decide), if_neg (by decide), if_pos rfl, if_neg q0, if_neg q1, if_neg q3]
    · subst e
      rw [zrho_z (by decide)]
      simp (disch := omega) only [zupR_o, zclrR_o, zclrR_s]
    · subst e
      rw [zrho_z (by decide)]
      simp (disch := omega) only [zupR_o, zclrR_o, zclrR_s]
    · subst e
      rw [zrho_z (by decide)]
      simp (disch := omega) only [zupR_o, zclrR_o, zclrR_s]
  · simp (disch := omega) only [zupR_f, zclrR_f]
  · simp (disch := omega) only [zup_f, zclr_f]
theorem t_textI (hρ : ∀ k, ρ 3550 k = none) (hσ : ∀ k, σ 3550 k = 0) (K : ∀ ρ' σ', (∀ a, 3550 ≤ a → a < 3552 → ρ' a = zrho a) → (∀ a, a < 3550 ∨ 3552 ≤ a → ρ' a = ρ a) → σ' 3550 1 = 0 → (∀ a, a < 3550 ∨ 3552 ≤ a → σ' a = σ a) → Q (.inl none) (3552, x, ρ') σ') : WM 55 [.inr (.inl (some 3550))] (3551, x, ρ) σ Q := by
  show Wp 55 0 [some (.inr (.inl (some 3550)))] [] _ _ Q
  have k1 : zkd 3550 = 4 := rfl
  have k6 : zkd 3551 = 12 := rfl
  have n6 : ((zln 3551 : Nat) : Int) = 60 := rfl
  simp (disch := first | assumption | exact p_c2i | exact p_c2r | exact p_c2n | omega | ((repeat (first | refine p_a1i.trans ?_ | refine p_a1r.trans ?_)); exact p_a10) | ((repeat (first | refine p_wI ?_ | refine p_wR ?_)); exact p_w0) | decide) only [reduceIte, Int.reduceLT, Int.reduceLE, Int.reduceEq, Int.reduceToNat, Int.reduceAdd, Int.reduceSub, Int.reduceMul, Int.reduceNeg, e55_0, e55_1, e55_4, e55_5, e55_7, e55_9, e55_12, e55_13, e55_14, e55_17, e55_18, e55_19, e55_22, e55_23, e55_24, e55_27, e55_28, e55_29, e55_32, p_al0, o_oini, p_push, p_putR, p_putI, p_vret, WN_nx, WN_nrt, WN_ite, p_newa, Nat.reduceAdd]
  refine K _ _ (fun a h1 h2 => ?_) (fun a ha => ?_) ?_ (fun a ha => ?_)
  · funext k
    rcases (show a = 3550 ∨ a = 3551 by omega) with e | e
    · subst e
      by_cases q0 : k = 0
      · subst q0; simp (disch := omega) only [zupR_s, zupR_j, zclrR_o]; rfl
      · simp (disch := omega) only [zupR_s, zupR_j, zclrR_o]
        rw [hρ k]
        unfold zrho
        rw [if_neg (by decide), if_neg (by decide), if_neg (by decide), if_neg (by decide), if_neg (by decide), if_neg (by decide), if_pos rfl, if_neg q0]
    · subst e
      rw [zrho_z (by decide)]
      simp (disch := omega) only [zupR_o, zclrR_o, zclrR_s]
  · simp (disch := omega) only [zupR_f, zclrR_f]
  · simp (disch := omega) only [zup_j, zclr_o]
    exact hσ 1
  · simp (disch := omega) only [zup_f, zclr_f]
theorem mk_step {ρ1 ρ2 : ZR} {n m k : Nat} {v : Option Nat} (hn : 101 ≤ n) (P : ∀ a, 101 ≤ a → a < n → ρ1 a = zrho a) (U : ∀ a, a < 100 ∨ n ≤ a → ρ1 a = ρ a) (r1 : ∀ a, n ≤ a → a < m → ρ2 a = zrho a) (r2 : ∀ a, a < n ∨ m ≤ a → ρ2 a = zclrR (zupR ρ1 100 k v) n a) (hm : n < m) : (∀ a, 101 ≤ a → a < m → ρ2 a = zrho a) ∧ (∀ a, a < 100 ∨ m ≤ a → ρ2 a = ρ a) ∧ ∀ j, ρ2 100 j = if j = k then v else ρ1 100 j := by
  refine ⟨fun a h1 h2 => ?_, fun a ha => ?_, fun j => ?_⟩
  · by_cases e : n ≤ a
    · exact r1 a e h2
    · rw [r2 a (by omega), zclrR_f (by omega), zupR_f (by omega)]; exact P a h1 (by omega)
  · rw [r2 a (by omega), zclrR_f (by omega), zupR_f (by omega)]; exact U a (by omega)
  · rw [r2 100 (by omega), zclrR_o (by omega)]
    by_cases e : j = k
    · subst e; rw [zupR_s, if_pos rfl]
    · rw [zupR_j e, if_neg e]
theorem zrho_100 {k : Nat} : zrho 100 k = if k = 0 then some 101 else if k = 1 then some 413 else if k = 2 then some 725 else if k = 4 then some 1037 else if k = 5 then some 3535 else if k = 6 then some 3545 else if k = 7 then some 3549 else if k = 8 then some 3550 else if k = 10 then some 3552 else none := by
  unfold zrho
  rw [if_neg (show ¬ zkd 100 = 2 by decide), if_neg (show ¬ zkd 100 = 3 by decide), if_neg (show ¬ zkd 100 = 15 by decide), if_neg (show ¬ zkd 100 = 14 by decide), if_neg (show ¬ (100 : Nat) = 1037 by decide), if_neg (show ¬ (100 : Nat) = 3545 by decide), if_neg (show ¬ (100 : Nat) = 3550 by decide), if_pos rfl]
theorem t_gardI (hρ : ∀ k, ρ 100 k = none) (hσ : ∀ k, σ 100 k = 0) (K : ∀ ρ' σ', (∀ a, 100 ≤ a → a < 3553 → ρ' a = zrho a) → (∀ a, a < 100 ∨ 3553 ≤ a → ρ' a = ρ a) → zSr σ' 101 zw0 → (∀ k, σ' 1037 k = 0) → σ' 3550 1 = 0 → σ' 100 9 = -1 → (∀ k, k ≠ 9 → σ' 100 k = 0) → (∀ a, a < 100 ∨ 3553 ≤ a → σ' a = σ a) → Q (.inl none) (3553, x, ρ') σ') : WM 65 [.inr (.inl (some 100))] (101, x, ρ) σ Q := by
  show Wp 65 0 [some (.inr (.inl (some 100)))] [] _ _ Q
  have k100 : zkd 100 = 5 := rfl
  have k1 : zkd 101 = 3 := rfl
  have k2 : zkd 413 = 3 := rfl
  have k3 : zkd 725 = 3 := rfl
  have k4 : zkd 1037 = 0 := rfl
  have k5 : zkd 3535 = 2 := rfl
  have k6 : zkd 3545 = 1 := rfl
  have k7 : zkd 3549 = 10 := rfl
  have n7 : ((zln 3549 : Nat) : Int) = 120 := rfl
  have k8 : zkd 3550 = 4 := rfl
  have k9 : zkd 3552 = 12 := rfl
  have n9 : ((zln 3552 : Nat) : Int) = 9 := rfl
  simp (disch := first | assumption | exact p_c2i | exact p_c2r | exact p_c2n | omega | ((repeat (first | refine p_a1i.trans ?_ | refine p_a1r.trans ?_)); exact p_a10) | ((repeat (first | refine p_wI ?_ | refine p_wR ?_)); exact p_w0) | decide) only [reduceIte, Int.reduceLT, Int.reduceLE, Int.reduceEq, Int.reduceToNat, Int.reduceAdd, Int.reduceSub, Int.reduceMul, Int.reduceNeg, e65_0, e65_1, e65_4, e65_5, e65_8, e65_9, p_al0, o_oini, p_dupi, p_dupr, zK_0, WN_ncl, WN_nx, WN_nrt, WN_ite, p_newo, p_ci2, Nat.reduceAdd]
  refine t_storyI (S := 101) (Or.inl rfl) (fun k => zclrR_s) (fun k => zclr_s) (fun ρ1 σ1 r1 u1 h1 s1 => ?_)
  rw [zK_0]
  have P1 : ∀ a, 101 ≤ a → a < 413 → ρ1 a = zrho a := fun a b1 b2 => r1 a b1 (by omega)
  have U1 : ∀ a, a < 100 ∨ 413 ≤ a → ρ1 a = ρ a := fun a ha => (u1 a (by omega)).trans (zclrR_f (by omega))
  have C1 : ∀ j, ρ1 100 j = none := fun j => by rw [u1 100 (by omega), zclrR_f (by omega)]; exact hρ j
  simp (disch := first | assumption | exact p_c2i | exact p_c2r | exact p_c2n | omega | ((repeat (first | refine p_a1i.trans ?_ | refine p_a1r.trans ?_)); exact p_a10) | ((repeat (first | refine p_wI ?_ | refine p_wR ?_)); exact p_w0) | decide) only [reduceIte, Int.reduceLT, Int.reduceLE, Int.reduceEq, Int.reduceToNat, Int.reduceAdd, Int.reduceSub, Int.reduceMul, Int.reduceNeg, e65_12, e65_15, e65_16, e65_19, e65_20, p_putR, p_al0, p_dupi, p_dupr, zK_0, WN_ncl, WN_nx, WN_nrt, WN_ite, p_newo, p_ci2, Nat.reduceAdd]
  refine t_storyI (S := 413) (Or.inr (Or.inl rfl)) (fun k => zclrR_s) (fun k => zclr_s) (fun ρ2 σ2 r2 u2 h2 s2 => ?_)
  rw [zK_0]
  obtain ⟨P2, U2, C2⟩ := mk_step (ρ := ρ) (m := 725) (by omega) P1 U1 r2 u2 (by omega)
  simp (disch := first | assumption | exact p_c2i | exact p_c2r | exact p_c2n | omega | ((repeat (first | refine p_a1i.trans ?_ | refine p_a1r.trans ?_)); exact p_a10) | ((repeat (first | refine p_wI ?_ | refine p_wR ?_)); exact p_w0) | decide) only [reduceIte, Int.reduceLT, Int.reduceLE, Int.reduceEq, Int.reduceToNat, Int.reduceAdd, Int.reduceSub, Int.reduceMul, Int.reduceNeg, e65_23, e65_26, e65_27, e65_30, e65_31, p_putR, p_al0, p_dupi, p_dupr, zK_0, WN_ncl, WN_nx, WN_nrt, WN_ite, p_newo, p_ci2, Nat.reduceAdd]
  refine t_storyI (S := 725) (Or.inr (Or.inr (Or.inl rfl))) (fun k => zclrR_s) (fun k => zclr_s) (fun ρ3 σ3 r3 u3 h3 s3 => ?_)
  rw [zK_0]
  obtain ⟨P3, U3, C3⟩ := mk_step (ρ := ρ) (m := 1037) (by omega) P2 U2 r3 u3 (by omega)
  simp (disch := first | assumption | exact p_c2i | exact p_c2r | exact p_c2n | omega | ((repeat (first | refine p_a1i.trans ?_ | refine p_a1r.trans ?_)); exact p_a10) | ((repeat (first | refine p_wI ?_ | refine p_wR ?_)); exact p_w0) | decide) only [reduceIte, Int.reduceLT, Int.reduceLE, Int.reduceEq, Int.reduceToNat, Int.reduceAdd, Int.reduceSub, Int.reduceMul, Int.reduceNeg, e65_34, e65_37, e65_38, e65_41, e65_42, p_putR, p_al0, p_dupi, p_dupr, zK_0, WN_ncl, WN_nx, WN_nrt, WN_ite, p_newo, p_ci2, Nat.reduceAdd]
  refine t_chI (fun k => zclrR_s) (fun k => zclr_s) (fun ρ4 σ4 r4 u4 h4 s4 => ?_)
  rw [zK_0]
  obtain ⟨P4, U4, C4⟩ := mk_step (ρ := ρ) (m := 3535) (by omega) P3 U3 r4 u4 (by omega)
  simp (disch := first | assumption | exact p_c2i | exact p_c2r | exact p_c2n | omega | ((repeat (first | refine p_a1i.trans ?_ | refine p_a1r.trans ?_)); exact p_a10) | ((repeat (first | refine p_wI ?_ | refine p_wR ?_)); exact p_w0) | decide) only [reduceIte, Int.reduceLT, Int.reduceLE, Int.reduceEq, Int.reduceToNat, Int.reduceAdd, Int.reduceSub, Int.reduceMul, Int.reduceNeg, e65_45, e65_48, e65_49, e65_52, e65_53, p_putR, p_al0, p_dupi, p_dupr, zK_0, WN_ncl, WN_nx, WN_nrt, WN_ite, p_newo, p_ci2, Nat.reduceAdd]
  refine t_lawnI (L := 3535) rfl (fun k => zclrR_s) (fun k => zclr_s) (fun ρ5 σ5 r5 u5 h5 s5 => ?_)
  rw [zK_0]
  obtain ⟨P5, U5, C5⟩ := mk_step (ρ := ρ) (m := 3545) (by omega) P4 U4 r5 u5 (by omega)
  simp (disch := first | assumption | exact p_c2i | exact p_c2r | exact p_c2n | omega | ((repeat (first | refine p_a1i.trans ?_ | refine p_a1r.trans ?_)); exact p_a10) | ((repeat (first | refine p_wI ?_ | refine p_wR ?_)); exact p_w0) | decide) only [reduceIte, Int.reduceLT, Int.reduceLE, Int.reduceEq, Int.reduceToNat, Int.reduceAdd, Int.reduceSub, Int.reduceMul, Int.reduceNeg, e65_56, e65_59, e65_60, e65_63, e65_64, p_putR, p_al0, p_dupi, p_dupr, zK_0, WN_ncl, WN_nx, WN_nrt, WN_ite, p_newo, p_ci2, Nat.reduceAdd]
  refine t_findI (fun k => zclrR_s) (fun ρ6 σ6 r6 u6 s6 => ?_)
  rw [zK_0]
  obtain ⟨P6, U6, C6⟩ := mk_step (ρ := ρ) (m := 3549) (by omega) P5 U5 r6 u6 (by omega)
  simp (disch := first | assumption | exact p_c2i | exact p_c2r | exact p_c2n | omega | ((repeat (first | refine p_a1i.trans ?_ | refine p_a1r.trans ?_)); exact p_a10) | ((repeat (first | refine p_wI ?_ | refine p_wR ?_)); exact p_w0) | decide) only [reduceIte, Int.reduceLT, Int.reduceLE, Int.reduceEq, Int.reduceToNat, Int.reduceAdd, Int.reduceSub, Int.reduceMul, Int.reduceNeg, e65_67, e65_70, e65_71, e65_73, e65_75, e65_78, e65_79, e65_82, e65_83, p_putR, p_al0, p_push, p_dupi, p_dupr, zK_0, WN_ncl, WN_nx, WN_nrt, WN_ite, p_newo, p_newa, p_ci2, Nat.reduceAdd]
  refine t_textI (fun k => zclrR_s) (fun k => zclr_s) (fun ρ8 σ8 r8 u8 h8 s8 => ?_)
  rw [zK_0]
  obtain ⟨P7, U7, C7⟩ := mk_step (ρ := ρ) (ρ1 := ρ6) (ρ2 := zclrR (zupR ρ6 100 6 (some 3545)) 3549) (n := 3549) (m := 3550) (k := 6) (v := some 3545) (by omega) P6 U6 (fun a b1 b2 => by rw [show a = 3549 by omega]; funext k; rw [zclrR_s, zrho_10 rfl]) (fun a ha => rfl) (by omega)
  obtain ⟨P8, U8, C8⟩ := mk_step (ρ := ρ) (m := 3552) (by omega) P7 U7 r8 u8 (by omega)
  simp (disch := first | assumption | exact p_c2i | exact p_c2r | exact p_c2n | omega | ((repeat (first | refine p_a1i.trans ?_ | refine p_a1r.trans ?_)); exact p_a10) | ((repeat (first | refine p_wI ?_ | refine p_wR ?_)); exact p_w0) | decide) only [reduceIte, Int.reduceLT, Int.reduceLE, Int.reduceEq, Int.reduceToNat, Int.reduceAdd, Int.reduceSub, Int.reduceMul, Int.reduceNeg, e65_86, e65_89, e65_90, e65_91, e65_94, e65_95, e65_97, e65_99, e65_102, p_putR, p_al0, p_push, p_putI, p_vret, WN_nx, WN_nrt, WN_ite, p_newa, Nat.reduceAdd]
  have g1 : ∀ a, a < 101 ∨ 413 ≤ a → σ1 a = σ a := fun a ha => (s1 a (by omega)).trans (zclr_f (by omega))
  have g2 : ∀ a, a < 413 ∨ 725 ≤ a → σ2 a = σ1 a := fun a ha => (s2 a (by omega)).trans (zclr_f (by omega))
  have g3 : ∀ a, a < 725 ∨ 1037 ≤ a → σ3 a = σ2 a := fun a ha => (s3 a (by omega)).trans (zclr_f (by omega))
  have g4 : ∀ a, a < 1037 ∨ 3535 ≤ a → σ4 a = σ3 a := fun a ha => (s4 a (by omega)).trans (zclr_f (by omega))
  have g5 : ∀ a, a < 3535 ∨ 3545 ≤ a → σ5 a = σ4 a := fun a ha => (s5 a (by omega)).trans (zclr_f (by omega))
  have g6 : ∀ a, a < 3545 ∨ 3549 ≤ a → σ6 a = σ5 a := fun a ha => (s6 a (by omega)).trans (zclr_f (by omega))
  have g8 : ∀ a, a < 3549 ∨ 3552 ≤ a → σ8 a = σ6 a := fun a ha => (s8 a (by omega)).trans ((zclr_f (by omega)).trans (zclr_f (by omega)))
  refine K _ _ (fun a b1 b2 => ?_) (fun a ha => ?_) ?_ (fun k => ?_) ?_ ?_ (fun k hk => ?_) (fun a ha => ?_)
  · by_cases e : a = 100
    · subst e
      funext k
      have c8 : ∀ j, (zupR (zclrR (zupR ρ8 100 8 (some 3550)) 3552) 100 10 (some 3552)) 100 j = if j = 10 then some 3552 else if j = 8 then some 3550 else ρ8 100 j := by
        intro j
        by_cases q : j = 10
        · subst q; rw [zupR_s, if_pos rfl]
        · rw [zupR_j q, if_neg q, zclrR_o (by omega)]
          by_cases q2 : j = 8
          · subst q2; rw [zupR_s, if_pos rfl]
          · rw [zupR_j q2, if_neg q2]
      rw [c8, C8, C7, C6, C5, C4, C3, C2, C1, zrho_100]
      by_cases q0 : k = 0
      · subst q0; rfl
      by_cases q1 : k = 1
      · subst q1; rfl
      by_cases q2 : k = 2
      · subst q2; rfl
      by_cases q4 : k = 4
      · subst q4; rfl
      by_cases q5 : k = 5
      · subst q5; rfl
      by_cases q6 : k = 6
      · subst q6; rfl
      by_cases q7 : k = 7
      · subst q7; rfl
      by_cases q8 : k = 8
      · subst q8; rfl
      by_cases q10 : k = 10
      · subst q10; rfl
      rw [if_neg q10, if_neg q8, if_neg q7, if_neg q6, if_neg q5, if_neg q4, if_neg q2, if_neg q1, if_neg q0, if_neg q0, if_neg q1, if_neg q2, if_neg q4, if_neg q5, if_neg q6, if_neg q7, if_neg q8, if_neg q10]
    · rw [zupR_f e]
      by_cases e2 : a = 3552
      · subst e2
        funext k
        rw [zclrR_s, zrho_z (by decide)]
      · rw [zclrR_f e2, zupR_f e]; exact P8 a (by omega) (by omega)
  · rw [zupR_f (by omega), zclrR_f (by omega), zupR_f (by omega)]; exact U8 a (by omega)
  · refine h1.frame (fun a b1 b2 => ?_)
    rw [zclr_f (by omega), zup_f (by omega), g8 a (by omega), g6 a (by omega), g5 a (by omega), g4 a (by omega), g3 a (by omega), g2 a (by omega)]
  · rw [zclr_f (by omega), zup_f (by omega), g8 1037 (by omega), g6 1037 (by omega), g5 1037 (by omega)]; exact h4 k
  · rw [zclr_f (by omega), zup_f (by omega)]; exact h8
  · rw [zclr_f (by omega), zup_s]
  · rw [zclr_f (by omega), zup_j hk, g8 100 (by omega), g6 100 (by omega), g5 100 (by omega), g4 100 (by omega), g3 100 (by omega), g2 100 (by omega), g1 100 (by omega)]; exact hσ k
  · rw [zclr_f (by omega), zup_f (by omega), g8 a (by omega), g6 a (by omega), g5 a (by omega), g4 a (by omega), g3 a (by omega), g2 a (by omega), g1 a (by omega)]
end
