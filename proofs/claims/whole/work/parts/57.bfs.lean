/-! THE CLASS: a field gone through -/
theorem zct_or {s p q : Nat → Bool} : ∀ n, (∀ c, c < n → (s c = true ↔ (p c = true ∨ q c = true)) ∧ ¬ (p c = true ∧ q c = true)) → zct s n = zct p n + zct q n := by
  intro n
  induction n with
  | zero => intro _; rfl
  | succ n ih =>
    intro h
    have h1 := ih (fun c hc => h c (by omega))
    obtain ⟨h2, h3⟩ := h n (by omega)
    rw [zct_s, zct_s, zct_s, h1]
    by_cases a : p n = true
    · have b : ¬ q n = true := fun b => h3 ⟨a, b⟩
      rw [if_pos (h2.mpr (Or.inl a)), if_pos a, if_neg b]
      omega
    · by_cases b : q n = true
      · rw [if_pos (h2.mpr (Or.inr b)), if_neg a, if_pos b]
        omega
      · rw [if_neg (fun z => (h2.mp z).elim a b), if_neg a, if_neg b]
        omega
theorem zct_one {c : Nat} : ∀ n, c < n → zct (fun k => decide (k = c)) n = 1 := by
  have z : ∀ n, n ≤ c → zct (fun k => decide (k = c)) n = 0 := by
    intro n
    induction n with
    | zero => intro _; rfl
    | succ n ih => intro h; rw [zct_s, ih (by omega), if_neg (by rw [decide_eq_true_iff]; omega)]; rfl
  intro n
  induction n with
  | zero => intro h; omega
  | succ n ih =>
    intro h
    rw [zct_s]
    by_cases e : n = c
    · subst e; rw [z n (Nat.le_refl _), if_pos (decide_eq_true rfl)]; rfl
    · rw [ih (by omega), if_neg (by rw [decide_eq_true_iff]; exact e)]; rfl
theorem lup_s {l : Nat → Nat} {c v : Nat} : lup l c v c = v := if_pos rfl
theorem lup_o {l : Nat → Nat} {c v k : Nat} (h : k ≠ c) : lup l c v k = l k := if_neg h
/-- what is seen, what was found -/
def zBf (col : Nat → Int) (a : Nat) (s0 s : Nat → Bool) (fd : Nat → Nat) (n : Nat) : Prop := (∀ c, c < 81 → (s c = true ↔ s0 c = true ∨ ∃ i, i < n ∧ fd i = c)) ∧ (∀ i, i < n → fd i < 81 ∧ zcm col a (fd i) = true) ∧ zct s 81 = zct s0 81 + n ∧ s a = true
def zBs (σ0 σ : ZI) (s : Nat → Bool) (fd : Nat → Nat) (n : Nat) : Prop := (∀ c, c < 81 → σ 3546 c = if s c = true then 1 else 0) ∧ (∀ i, i < n → σ 3547 i = (fd i : Int)) ∧ σ 3545 2 = (n : Int) ∧ ∀ a, a ≠ 3545 → a ≠ 3546 → a ≠ 3547 → σ a = σ0 a
def sup (s : Nat → Bool) (c : Nat) : Nat → Bool := fun k => s k || decide (k = c)
theorem sup_iff {s : Nat → Bool} {c k : Nat} : sup s c k = true ↔ s k = true ∨ k = c := by
  unfold sup
  rw [Bool.or_eq_true, decide_eq_true_iff]
theorem sup_ct {s : Nat → Bool} {c : Nat} (hc : c < 81) (h : ¬ s c = true) : zct (sup s c) 81 = zct s 81 + 1 := by
  rw [zct_or (s := sup s c) (p := s) (q := fun k => decide (k = c)) 81 (fun k _ => ⟨by rw [sup_iff, decide_eq_true_iff], fun z => h (of_decide_eq_true z.2 ▸ z.1)⟩), zct_one 81 hc]
section
variable {σ σ0 : ZI} {Q : ZO → ZT → ZI → Prop} {x n a : Nat} {w : zW} {N : Int} {s s0 : Nat → Bool} {fd : Nat → Nat}
theorem zf_k : zkd 3545 = 1 := rfl
theorem zf_6 : zkd 3546 = 11 := rfl
theorem zf_7 : zkd 3547 = 10 := rfl
theorem zf_8 : zkd 3548 = 10 := rfl
theorem zf_n6 : zln 3546 = 81 := rfl
theorem zf_n7 : zln 3547 = 81 := rfl
theorem zf_n8 : zln 3548 = 81 := rfl
theorem zf_r0 : zrho 3545 0 = some 3546 := rfl
theorem zf_r1 : zrho 3545 1 = some 3547 := rfl
theorem zf_r3 : zrho 3545 3 = some 3548 := rfl
theorem t_findY {c : Nat} (hc : c < 81) (hn : n ≤ 81) (h2 : σ 3545 2 = (n : Int)) (h6 : σ 3546 c = 1) : WM 11 [.inr (.inl (some 3545)), .inl ((c : Int))] (3565, x, zrho) σ Q = Q (.inl none) (3565, x, zrho) σ := by
  show Wp 11 0 [some (.inr (.inl (some 3545))), some (.inl ((c : Int)))] [] _ _ Q = _
  have k := zf_k
  have k6 := zf_6
  have n6 := zf_n6
  have c1 : ((c : Int) < 0) = False := eq_false (by omega)
  have c2 : ((c : Int) < 81) = True := eq_true (by omega)
  have c3 : ((n : Int) < 0) = False := eq_false (by omega)
  by_cases h : n < 81
  · have c4 : ((n : Int) < 81) = True := eq_true (by omega)
    simp (disch := first | assumption | exact p_c2i | exact p_c2r | exact p_c2n | omega | ((repeat (first | refine p_a1i.trans ?_ | refine p_a1r.trans ?_)); exact p_a10) | ((repeat (first | refine p_wI ?_ | refine p_wR ?_)); exact p_w0) | decide) only [reduceIte, Int.reduceLT, Int.reduceLE, Int.reduceEq, Int.reduceToNat, Int.reduceAdd, Int.reduceSub, Int.reduceMul, Int.reduceNeg, e11_0, e11_1, e11_4, e11_5, e11_7, e11_10, e11_11, e11_14, e11_17, e11_18, e11_21, e11_23, e11_26, e11_27, e11_30, e11_31, e11_32, e11_35, e11_36, e11_37, e11_40, e11_41, e11_42, e11_43, e11_44, e11_47, e11_48, e11_51, e11_52, e11_53, e11_54, e11_55, e11_58, e11_59, e11_60, e11_63, p_il1, p_iflt, p_push, p_cge, p_al0, p_getI, p_getR, p_bald, p_bytld, p_ifeq, p_vret, p_bast, p_iast, p_dupi, p_dupr, p_bin, p_putI, WN_nx, WN_nrt, WN_ite, c1, c2, h2, c3, c4, zf_r0, h6, Int.toNat_natCast]
  · have c4 : ((n : Int) < 81) = False := eq_false (by omega)
    simp (disch := first | assumption | exact p_c2i | exact p_c2r | exact p_c2n | omega | ((repeat (first | refine p_a1i.trans ?_ | refine p_a1r.trans ?_)); exact p_a10) | ((repeat (first | refine p_wI ?_ | refine p_wR ?_)); exact p_w0) | decide) only [reduceIte, Int.reduceLT, Int.reduceLE, Int.reduceEq, Int.reduceToNat, Int.reduceAdd, Int.reduceSub, Int.reduceMul, Int.reduceNeg, e11_0, e11_1, e11_4, e11_5, e11_7, e11_10, e11_11, e11_14, e11_17, e11_18, e11_21, e11_23, e11_26, e11_27, e11_30, e11_31, e11_32, e11_35, e11_36, e11_37, e11_40, e11_41, e11_42, e11_43, e11_44, e11_47, e11_48, e11_51, e11_52, e11_53, e11_54, e11_55, e11_58, e11_59, e11_60, e11_63, p_il1, p_iflt, p_push, p_cge, p_al0, p_getI, p_getR, p_bald, p_bytld, p_ifeq, p_vret, p_bast, p_iast, p_dupi, p_dupr, p_bin, p_putI, WN_nx, WN_nrt, WN_ite, c1, c2, h2, c3, c4]
theorem t_findN {c : Nat} (hc : c < 81) (hn : n < 81) (h2 : σ 3545 2 = (n : Int)) (h6 : σ 3546 c = 0) : WM 11 [.inr (.inl (some 3545)), .inl ((c : Int))] (3565, x, zrho) σ Q = Q (.inl none) (3565, x, zrho) (zup (zup (zup σ 3546 c 1) 3547 n (c : Int)) 3545 2 ((n : Int) + 1)) := by
  show Wp 11 0 [some (.inr (.inl (some 3545))), some (.inl ((c : Int)))] [] _ _ Q = _
  have k := zf_k
  have k6 := zf_6
  have n6 := zf_n6
  have k7 := zf_7
  have n7 := zf_n7
  have c1 : ((c : Int) < 0) = False := eq_false (by omega)
  have c2 : ((c : Int) < 81) = True := eq_true (by omega)
  have c3 : ((n : Int) < 0) = False := eq_false (by omega)
  have c4 : ((n : Int) < 81) = True := eq_true (by omega)
  have u1 : zup σ 3546 c 1 3545 2 = (n : Int) := by rw [zup_o (by omega)]; exact h2
  have u2 : zup (zup σ 3546 c 1) 3547 n (c : Int) 3545 2 = (n : Int) := by rw [zup_o (by omega)]; exact u1
  simp (disch := first | assumption | exact p_c2i | exact p_c2r | exact p_c2n | omega | ((repeat (first | refine p_a1i.trans ?_ | refine p_a1r.trans ?_)); exact p_a10) | ((repeat (first | refine p_wI ?_ | refine p_wR ?_)); exact p_w0) | decide) only [reduceIte, Int.reduceLT, Int.reduceLE, Int.reduceEq, Int.reduceToNat, Int.reduceAdd, Int.reduceSub, Int.reduceMul, Int.reduceNeg, e11_0, e11_1, e11_4, e11_5, e11_7, e11_10, e11_11, e11_14, e11_17, e11_18, e11_21, e11_23, e11_26, e11_27, e11_30, e11_31, e11_32, e11_35, e11_36, e11_37, e11_40, e11_41, e11_42, e11_43, e11_44, e11_47, e11_48, e11_51, e11_52, e11_53, e11_54, e11_55, e11_58, e11_59, e11_60, e11_63, p_il1, p_iflt, p_push, p_cge, p_al0, p_getI, p_getR, p_bald, p_bytld, p_ifeq, p_vret, p_bast, p_iast, p_dupi, p_dupr, p_bin, p_putI, WN_nx, WN_nrt, WN_ite, c1, c2, h2, c3, c4, zf_r0, zf_r1, h6, u1, u2, Int.toNat_natCast]
/-- a cell of the field is found, or was seen -/
theorem t_find {c : Nat} {col : Nat → Int} (hc : c < 81) (hm : zcm col a c = true) (hb : zBf col a s0 s fd n) (hs : zBs σ0 σ s fd n) (K : ∀ (σ' : ZI) (s' : Nat → Bool) (fd' : Nat → Nat) (n' : Nat), zBf col a s0 s' fd' n' → zBs σ0 σ' s' fd' n' → n ≤ n' → (∀ i, i < n → fd' i = fd i) → s' c = true → (∀ k, s k = true → s' k = true) → Q (.inl none) (3565, x, zrho) σ') : WM 11 [.inr (.inl (some 3545)), .inl ((c : Int))] (3565, x, zrho) σ Q := by
  obtain ⟨b1, b2, b3, b4⟩ := hb
  obtain ⟨d1, d2, d3, d4⟩ := hs
  have z1 := zct_in (p := s) 81
  have z0 := zct_in (p := s0) 81
  by_cases h : s c = true
  · have h6 := d1 c hc
    rw [if_pos h] at h6
    rw [t_findY hc (by omega) d3 h6]
    exact K σ s fd n ⟨b1, b2, b3, b4⟩ ⟨d1, d2, d3, d4⟩ (Nat.le_refl _) (fun _ _ => rfl) h (fun _ z => z)
  · have h6 := d1 c hc
    rw [if_neg h] at h6
    have ct := sup_ct hc h
    have z2 := zct_in (p := sup s c) 81
    have hn : n < 81 := by omega
    rw [t_findN hc hn d3 h6]
    refine K _ (sup s c) (lup fd n c) (n + 1) ⟨fun k hk => ?_, fun i hi => ?_, by omega, sup_iff.mpr (Or.inl b4)⟩ ⟨fun k hk => ?_, fun i hi => ?_, by rw [zup_s]; omega, fun a' h1 h2 h3 => by rw [zup_f h1, zup_f h3, zup_f h2]; exact d4 a' h1 h2 h3⟩ (Nat.le_succ _) (fun i hi => lup_o (by omega)) (sup_iff.mpr (Or.inr rfl)) (fun k z => sup_iff.mpr (Or.inl z))
    · rw [sup_iff, b1 k hk]
      constructor
      · rintro ((z | ⟨i, hi, e⟩) | z)
        · exact Or.inl z
        · exact Or.inr ⟨i, by omega, (lup_o (by omega)).trans e⟩
        · exact Or.inr ⟨n, by omega, lup_s.trans z.symm⟩
      · rintro (z | ⟨i, hi, e⟩)
        · exact Or.inl (Or.inl z)
        · by_cases q : i = n
          · rw [q, lup_s] at e; exact Or.inr e.symm
          · rw [lup_o q] at e; exact Or.inl (Or.inr ⟨i, by omega, e⟩)
    · by_cases q : i = n
      · rw [q, lup_s]; exact ⟨hc, hm⟩
      · rw [lup_o q]; exact b2 i (by omega)
    · rw [zup_o (by omega), zup_o (by omega)]
      by_cases q : k = c
      · subst q; rw [zup_s, if_pos (sup_iff.mpr (Or.inr rfl))]
      · rw [zup_j q, d1 k hk]
        by_cases y : s k = true
        · rw [if_pos y, if_pos (sup_iff.mpr (Or.inl y))]
        · rw [if_neg y, if_neg (fun z => (sup_iff.mp z).elim y q)]
    · rw [zup_o (by omega)]
      by_cases q : i = n
      · rw [q, zup_s, lup_s]
      · rw [zup_j q, lup_o q, zup_o (by omega)]; exact d2 i (by omega)
end
