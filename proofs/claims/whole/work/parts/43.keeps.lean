/-! THE MODEL: changes kept, steps, a step taken back -/
def zKr (τ : ZI) (kp : Nat → zW) (n : Nat) : Prop := τ 3553 6 = (n : Int) ∧ ∀ k, k < n → ∀ j, j < 6202 → τ 3555 (6202 * k + j) = kp k j
/-- what keeping the row u does -/
def zKp (τ τ' : ZI) (u : zW) : Prop := τ' 3553 8 = 0 ∧ (∀ k, k ≠ 6 → k ≠ 8 → τ' 3553 k = τ 3553 k) ∧ (∀ a, a ≠ 3553 → a ≠ 3555 → τ' a = τ a) ∧ (τ 3553 7 ≠ 0 → τ' 3553 6 = τ 3553 6 ∧ τ' 3555 = τ 3555) ∧ (τ 3553 7 = 0 → ∀ kp n, zKr τ kp n → zKr τ' (aPushK kp n u) (aPushN n))
def wcp (w : zW) (p q m : Nat) : zW := fun j => if q ≤ j ∧ j < q + m then w (p + (j - q)) else w j
theorem zg_cp {τ : ZI} {w : zW} {p q m : Nat} : zcpy (zg τ w) 3554 p 3554 q m = zg τ (wcp w p q m) := by
  funext a j
  unfold zcpy zg wcp
  by_cases h : a = 3554
  · by_cases h2 : q ≤ j ∧ j < q + m
    · rw [if_pos ⟨h, h2⟩, if_pos rfl, if_pos h, if_pos h2]
    · rw [if_neg (fun z => h2 z.2), if_pos h, if_pos h, if_neg h2]
  · rw [if_neg (fun z => h z.1), if_neg h, if_neg h]
theorem zKp.isg {τ τ' : ZI} {w u : zW} (h : zKp (zg τ w) τ' u) : τ' = zg τ' w := by
  have e := h.2.2.1 3554 (by omega) (by omega)
  rw [zg_s] at e
  rw [← e, zg_r]
theorem zm_5 : zkd 3555 = 10 := rfl
theorem zm_n5 : zln 3555 = 49616 := rfl
def aStN : Nat → zW → zW
  | 0, g => g
  | k + 1, g => aStep (aKeep (aStN k g))
def aGS (g : zW) : Nat → Int
  | 0 => 0
  | k + 1 => aGS g k + aGN (aKeep (aStN k g)) (g 0).toNat
theorem aStN_ok {g : zW} {N : Int} (ok : zSok N g) (k : Nat) : zSok (N + 13 * k) (aStN k g) ∧ aStN k g 0 = g 0 := by
  induction k with
  | zero => exact ⟨zSok_mono ok (by omega), rfl⟩
  | succ k ih =>
    have h := zSok_keep ih.1
    have h2 := zSok_step h
    refine ⟨zSok_mono h2 (by omega), ?_⟩
    show aStep (aKeep (aStN k g)) 0 = g 0
    rw [aStep_k h.2.2.1 (by omega), ← ih.2]
    unfold aKeep
    split
    · rw [if_neg (by omega), if_neg (by omega)]
    · rw [if_neg (by omega), if_neg (by omega)]
section
variable {τ σ : ZI} {Q : ZO → ZT → ZI → Prop} {x : Nat} {w : zW} {N : Int} {θ : ZT}
theorem t_keeps {r n : Nat} (kr : zkd r = 10) (nr : zln r = 6202) (hr : r ≠ 3555) (hn : σ 3553 6 = (n : Int)) (hn8 : n ≤ 8) (h7 : σ 3553 7 = 0 ∨ σ 3553 7 = 1) (K : ∀ σ', zKp σ σ' (σ r) → Q (.inl none) (3565, x, zrho) σ') : WM 148 [.inr (.inl (some 3553)), .inr (.inl (some r))] (3565, x, zrho) σ Q := by
  show Wp 148 0 [some (.inr (.inl (some 3553))), some (.inr (.inl (some r)))] [] _ σ Q
  have k := zm_k
  have k5 := zm_5
  have n5 := zm_n5
  have hr3 : r ≠ 3553 := fun e => by rw [e, zm_k] at kr; omega
  rcases h7 with h7 | h7
  · have u7 : zup σ 3553 8 0 3553 7 = 0 := by rw [zup_j (by omega)]; exact h7
    have u6 : zup σ 3553 8 0 3553 6 = (n : Int) := by rw [zup_j (by omega)]; exact hn
    by_cases h8 : n = 8
    · subst h8
      rw [show ((8 : Nat) : Int) = 8 from rfl] at u6
      have t1 := fun (Q : ZO → ZT → ZI → Prop) (σ : ZI) => t_copies (Q := Q) (σ := σ) (x := x) (a := 3555) (b := 3555) (p := 6202) (q := 0) (m := 43414) k5 k5 (by omega) (by omega) (by omega) (by rw [n5]; omega) (by rw [n5]; omega) (by omega) (by omega) (Or.inr (by omega))
      have t2 := fun (Q : ZO → ZT → ZI → Prop) (σ : ZI) => t_copies (Q := Q) (σ := σ) (x := x) (a := r) (b := 3555) (p := 0) (q := 43414) (m := 6202) kr k5 (by omega) (by omega) (by omega) (by rw [nr]; omega) (by rw [n5]; omega) (by omega) (by omega) (Or.inl hr)
      have v6 : zcpy (zup σ 3553 8 0) 3555 6202 3555 0 43414 3553 6 = 8 := by rw [zcp_o (by omega)]; exact u6
      rw [show (6202 : Int).toNat = 6202 from rfl, show (0 : Int).toNat = 0 from rfl, show (43414 : Int).toNat = 43414 from rfl] at t1
      rw [show (6202 : Int).toNat = 6202 from rfl, show (0 : Int).toNat = 0 from rfl, show (43414 : Int).toNat = 43414 from rfl] at t2
      have v7 : zcpy (zup (zcpy (zup σ 3553 8 0) 3555 6202 3555 0 43414) 3553 6 7) r 0 3555 43414 6202 3553 6 = 7 := by rw [zcp_o (by omega), zup_s]
      simp (disch := first | assumption | exact p_c2i | exact p_c2r | exact p_c2n | omega | ((repeat (first | refine p_a1i.trans ?_ | refine p_a1r.trans ?_)); exact p_a10) | ((repeat (first | refine p_wI ?_ | refine p_wR ?_)); exact p_w0) | decide) only [reduceIte, Int.reduceLT, Int.reduceLE, Int.reduceEq, Int.reduceToNat, Int.reduceAdd, Int.reduceSub, Int.reduceMul, Int.reduceNeg, e148_0, e148_1, e148_2, e148_5, e148_6, e148_9, e148_12, e148_13, e148_14, e148_17, e148_19, e148_22, e148_23, e148_26, e148_29, e148_30, e148_33, e148_34, e148_36, e148_39, e148_40, e148_41, e148_44, e148_45, e148_46, e148_49, e148_50, e148_51, e148_52, e148_55, e148_58, e148_59, e148_62, e148_63, e148_66, e148_69, e148_70, e148_71, e148_74, e148_75, e148_76, e148_79, p_al0, p_push, p_putI, p_getI, p_ifeq, p_vret, p_cne, p_getR, p_cs5_0, p_cs5_1, p_cs5_2, p_cs5_3, p_cs5_4, zK_v, zK_0, WN_ncl, p_dupi, p_dupr, p_bin, p_al1, WN_nx, WN_nrt, WN_ite, u7, u6, zm_r1, t1, v6, zup_s, t2, v7]
      have fr : ∀ a, a ≠ 3553 → a ≠ 3555 → zup (zcpy (zup (zcpy (zup σ 3553 8 0) 3555 6202 3555 0 43414) 3553 6 7) r 0 3555 43414 6202) 3553 6 8 a = σ a := fun a h1 h2 => by
        funext j
        rw [zup_o h1, zcp_o h2, zup_o h1, zcp_o h2, zup_o h1]
      have f3 : ∀ k, k ≠ 6 → zup (zcpy (zup (zcpy (zup σ 3553 8 0) 3555 6202 3555 0 43414) 3553 6 7) r 0 3555 43414 6202) 3553 6 8 3553 k = zup σ 3553 8 0 3553 k := fun k h1 => by
        rw [zup_j h1, zcp_o (by omega), zup_j h1, zcp_o (by omega)]
      refine K _ ⟨by rw [f3 8 (by omega), zup_s], fun k h1 h2 => by rw [f3 k h1, zup_j h2], fr, fun h => absurd h7 h, fun _ kp n' hK => ?_⟩
      obtain ⟨e1, e2⟩ := hK
      have en : n' = 8 := by omega
      subst en
      refine ⟨by rw [zup_s]; rfl, fun k hk j hj => ?_⟩
      have hk8 : k < 8 := hk
      unfold aPushK
      rw [if_pos rfl, zup_o (by omega)]
      by_cases h : k < 7
      · have n1 : ¬ ((3555 : Nat) = 3555 ∧ 43414 ≤ 6202 * k + j ∧ 6202 * k + j < 43414 + 6202) := fun z => by omega
        have n2 : ((3555 : Nat) = 3555 ∧ 0 ≤ 6202 * k + j ∧ 6202 * k + j < 0 + 43414) := ⟨rfl, by omega, by omega⟩
        rw [if_pos h, ← e2 (k + 1) (by omega) j hj]
        show (if _ then _ else _) = _
        rw [if_neg n1, zup_o (by omega)]
        show (if _ then _ else _) = _
        rw [if_pos n2, zup_o (by omega)]
        exact congrArg (σ 3555) (show 6202 + (6202 * k + j - 0) = 6202 * (k + 1) + j by omega)
      · have n1 : ((3555 : Nat) = 3555 ∧ 43414 ≤ 6202 * k + j ∧ 6202 * k + j < 43414 + 6202) := ⟨rfl, by omega, by omega⟩
        rw [if_neg h]
        show (if _ then _ else _) = _
        rw [if_pos n1, zup_o hr3, zcp_o hr, zup_o hr3]
        exact congrArg (σ r) (show 0 + (6202 * k + j - 43414) = j by omega)
    · have t2 := fun (Q : ZO → ZT → ZI → Prop) (σ : ZI) => t_copies (Q := Q) (σ := σ) (x := x) (a := r) (b := 3555) (p := 0) (q := 6202 * (n : Int)) (m := 6202) kr k5 (by omega) (by omega) (by omega) (by rw [nr]; omega) (by rw [n5]; omega) (by omega) (by omega) (Or.inl hr)
      have eq : (6202 * (n : Int)).toNat = 6202 * n := by omega
      rw [show (6202 : Int).toNat = 6202 from rfl, show (0 : Int).toNat = 0 from rfl, eq] at t2
      have c8 : ((n : Int) = 8) = False := eq_false (by omega)
      have v7 : zcpy (zup σ 3553 8 0) r 0 3555 (6202 * n) 6202 3553 6 = (n : Int) := by rw [zcp_o (by omega)]; exact u6
      simp (disch := first | assumption | exact p_c2i | exact p_c2r | exact p_c2n | omega | ((repeat (first | refine p_a1i.trans ?_ | refine p_a1r.trans ?_)); exact p_a10) | ((repeat (first | refine p_wI ?_ | refine p_wR ?_)); exact p_w0) | decide) only [reduceIte, Int.reduceLT, Int.reduceLE, Int.reduceEq, Int.reduceToNat, Int.reduceAdd, Int.reduceSub, Int.reduceMul, Int.reduceNeg, e148_0, e148_1, e148_2, e148_5, e148_6, e148_9, e148_12, e148_13, e148_14, e148_17, e148_19, e148_22, e148_23, e148_26, e148_29, e148_30, e148_33, e148_34, e148_36, e148_39, e148_40, e148_41, e148_44, e148_45, e148_46, e148_49, e148_50, e148_51, e148_52, e148_55, e148_58, e148_59, e148_62, e148_63, e148_66, e148_69, e148_70, e148_71, e148_74, e148_75, e148_76, e148_79, p_al0, p_push, p_putI, p_getI, p_ifeq, p_vret, p_cne, p_getR, p_cs5_0, p_cs5_1, p_cs5_2, p_cs5_3, p_cs5_4, zK_v, zK_0, WN_ncl, p_dupi, p_dupr, p_bin, p_al1, WN_nx, WN_nrt, WN_ite, u7, u6, zm_r1, c8, t2, v7]
      have fr : ∀ a, a ≠ 3553 → a ≠ 3555 → zup (zcpy (zup σ 3553 8 0) r 0 3555 (6202 * n) 6202) 3553 6 ((n : Int) + 1) a = σ a := fun a h1 h2 => by
        funext j
        rw [zup_o h1, zcp_o h2, zup_o h1]
      have f3 : ∀ k, k ≠ 6 → zup (zcpy (zup σ 3553 8 0) r 0 3555 (6202 * n) 6202) 3553 6 ((n : Int) + 1) 3553 k = zup σ 3553 8 0 3553 k := fun k h1 => by
        rw [zup_j h1, zcp_o (by omega)]
      refine K _ ⟨by rw [f3 8 (by omega), zup_s], fun k h1 h2 => by rw [f3 k h1, zup_j h2], fr, fun h => absurd h7 h, fun _ kp n' hK => ?_⟩
      obtain ⟨e1, e2⟩ := hK
      have en : n' = n := by omega
      subst en
      have ea : aPushN n' = n' + 1 := by unfold aPushN; rw [if_neg h8]
      refine ⟨by rw [zup_s, ea]; omega, fun k hk j hj => ?_⟩
      rw [ea] at hk
      unfold aPushK
      rw [if_neg h8, zup_o (by omega)]
      by_cases h : k = n'
      · subst h
        have n1 : ((3555 : Nat) = 3555 ∧ 6202 * k ≤ 6202 * k + j ∧ 6202 * k + j < 6202 * k + 6202) := ⟨rfl, by omega, by omega⟩
        rw [if_pos rfl]
        show (if _ then _ else _) = _
        rw [if_pos n1, zup_o hr3]
        exact congrArg (σ r) (show 0 + (6202 * k + j - 6202 * k) = j by omega)
      · have n1 : ¬ ((3555 : Nat) = 3555 ∧ 6202 * n' ≤ 6202 * k + j ∧ 6202 * k + j < 6202 * n' + 6202) := fun z => by omega
        rw [if_neg h, ← e2 k (by omega) j hj]
        show (if _ then _ else _) = _
        rw [if_neg n1, zup_o (by omega)]
  · have u7 : zup σ 3553 8 0 3553 7 = 1 := by rw [zup_j (by omega)]; exact h7
    simp (disch := first | assumption | exact p_c2i | exact p_c2r | exact p_c2n | omega | ((repeat (first | refine p_a1i.trans ?_ | refine p_a1r.trans ?_)); exact p_a10) | ((repeat (first | refine p_wI ?_ | refine p_wR ?_)); exact p_w0) | decide) only [reduceIte, Int.reduceLT, Int.reduceLE, Int.reduceEq, Int.reduceToNat, Int.reduceAdd, Int.reduceSub, Int.reduceMul, Int.reduceNeg, e148_0, e148_1, e148_2, e148_5, e148_6, e148_9, e148_12, e148_13, e148_14, e148_17, e148_19, e148_22, e148_23, e148_26, e148_29, e148_30, e148_33, e148_34, e148_36, e148_39, e148_40, e148_41, e148_44, e148_45, e148_46, e148_49, e148_50, e148_51, e148_52, e148_55, e148_58, e148_59, e148_62, e148_63, e148_66, e148_69, e148_70, e148_71, e148_74, e148_75, e148_76, e148_79, p_al0, p_push, p_putI, p_getI, p_ifeq, p_vret, p_cne, p_getR, p_cs5_0, p_cs5_1, p_cs5_2, p_cs5_3, p_cs5_4, zK_v, zK_0, WN_ncl, p_dupi, p_dupr, p_bin, p_al1, WN_nx, WN_nrt, WN_ite, u7]
    refine K _ ⟨zup_s, fun k h1 h2 => zup_j h2, fun a h1 h2 => zup_f h1, fun _ => ⟨zup_j (by omega), zup_f (by omega)⟩, fun h => by omega⟩
theorem t_keepsF {n : Nat} (hn : τ 3553 6 = (n : Int)) (hn8 : n ≤ 8) (h7 : τ 3553 7 = 0 ∨ τ 3553 7 = 1) (K : ∀ τ', zKp (zg τ w) τ' w → Q (.inl none) (3565, x, zrho) (zg τ' (wu w 201 0))) : WM 149 [.inr (.inl (some 3553))] (3565, x, zrho) (zg τ w) Q := by
  show Wp 149 0 [some (.inr (.inl (some 3553)))] [] _ _ Q
  have k := zm_k
  have k4 := zm_4
  have n4 := zm_n4
  simp (disch := first | assumption | exact p_c2i | exact p_c2r | exact p_c2n | omega | ((repeat (first | refine p_a1i.trans ?_ | refine p_a1r.trans ?_)); exact p_a10) | ((repeat (first | refine p_wI ?_ | refine p_wR ?_)); exact p_w0) | decide) only [reduceIte, Int.reduceLT, Int.reduceLE, Int.reduceEq, Int.reduceToNat, Int.reduceAdd, Int.reduceSub, Int.reduceMul, Int.reduceNeg, e149_0, e149_1, e149_2, e149_5, p_al0, p_getR, p_cv1_0, p_cv1_1, p_cv1_2, p_cv1_3, p_cv1_4, zK_v, zK_0, WN_ncl, WN_nx, WN_nrt, WN_ite, zm_r0]
  refine t_keeps k4 n4 (by omega) (n := n) (by rw [zg_o3]; exact hn) hn8 (by rw [zg_o3]; exact h7) (fun σ' hk => ?_)
  rw [zg_s] at hk
  rw [zK_0, hk.isg]
  simp (disch := first | assumption | exact p_c2i | exact p_c2r | exact p_c2n | omega | ((repeat (first | refine p_a1i.trans ?_ | refine p_a1r.trans ?_)); exact p_a10) | ((repeat (first | refine p_wI ?_ | refine p_wR ?_)); exact p_w0) | decide) only [reduceIte, Int.reduceLT, Int.reduceLE, Int.reduceEq, Int.reduceToNat, Int.reduceAdd, Int.reduceSub, Int.reduceMul, Int.reduceNeg, e149_8, e149_9, e149_12, e149_15, e149_16, e149_17, p_al0, p_getR, p_push, p_iast, p_vret, WN_nx, WN_nrt, WN_ite, zm_r0, zg_u]
  exact K σ' hk
end
