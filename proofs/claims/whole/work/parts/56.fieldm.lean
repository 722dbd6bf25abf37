/-! THE MODEL: fields counted -/
theorem aFst_sp {p : Nat → Bool} : ∀ f i j : Nat, i ≤ j → j < i + f → p j = true → p (aFst p i f) = true ∧ aFst p i f ≤ j ∧ i ≤ aFst p i f ∧ ∀ k, i ≤ k → k < aFst p i f → ¬ p k = true := by
  intro f
  induction f with
  | zero => intro i j h1 h2; omega
  | succ f ih =>
    intro i j h1 h2 hp
    rw [aFst_s]
    by_cases h : p i = true
    · rw [if_pos h]
      exact ⟨h, h1, Nat.le_refl _, fun k k1 k2 => by omega⟩
    · rw [if_neg h]
      have hij : i ≠ j := fun e => h (e ▸ hp)
      obtain ⟨a1, a2, a3, a4⟩ := ih (i + 1) j (by omega) (by omega) hp
      refine ⟨a1, a2, by omega, fun k k1 k2 => ?_⟩
      by_cases e : k = i
      · exact e ▸ h
      · exact a4 k (by omega) k2
def zlb (col : Nat → Int) (c : Nat) : Nat := aFst (zcm col c) 0 81
theorem zlb_l {col : Nat → Int} : zLab col (zlb col) := by
  intro c hc
  obtain ⟨a1, a2, a3, a4⟩ := aFst_sp (p := zcm col c) 81 0 c (Nat.zero_le _) (by omega) zcm_r
  refine ⟨by unfold zlb; omega, a1, fun b hb h => ?_⟩
  have := aFst_sp (p := zcm col c) 81 0 b (Nat.zero_le _) (by omega) h
  exact this.2.1
def fMany (w : zW) (v : Int) : Int := zct (fun c => decide (w (10 + c) = v ∧ zlb (zco w) c = c)) 81
def fSize (w : zW) (c : Nat) : Int := zct (fun b => zcm (zco w) c b) 81
def fGreat (w : zW) (v : Int) : Nat → Int
  | 0 => 0
  | n + 1 => if w (10 + n) = v ∧ fGreat w v n < fSize w n then fSize w n else fGreat w v n
theorem fGreat_s {w : zW} {v : Int} {n : Nat} : fGreat w v (n + 1) = if w (10 + n) = v ∧ fGreat w v n < fSize w n then fSize w n else fGreat w v n := rfl
theorem fGreat_in {w : zW} {v : Int} (n : Nat) : 0 ≤ fGreat w v n ∧ fGreat w v n ≤ 81 := by
  induction n with
  | zero => exact ⟨Int.le_refl _, show (0 : Int) ≤ 81 by decide⟩
  | succ n ih =>
    have := zct_in (p := fun b => zcm (zco w) n b) 81
    rw [fGreat_s]
    unfold fSize
    split <;> omega
theorem zct_cg {p q : Nat → Bool} : ∀ n, (∀ k, k < n → p k = q k) → zct p n = zct q n := by
  intro n
  induction n with
  | zero => intro _; rfl
  | succ n ih => intro h; rw [zct_s, zct_s, ih (fun k hk => h k (by omega)), h n (by omega)]
section
variable {τ : ZI} {Q : ZO → ZT → ZI → Prop} {x : Nat} {w : zW} {N : Int} {l : Nat → Nat}
theorem l_sizeM {c : Nat} (hc : c < 81) (hl : ∀ k, k < 81 → τ 3561 k = (l k : Int)) (hl81 : ∀ k, k < 81 → l k < 81) : ∀ n i : Nat, i + n = 81 → Wp 185 4 [some (.inr (.inl (some 3553))), some (.inl ((c : Int))), some (.inl (zct (fun b => decide (l b = l c)) i)), some (.inl ((i : Int)))] [] (3565, x, zrho) (zg τ w) Q = Q (.inl (some (.inl (zct (fun b => decide (l b = l c)) 81)))) (3565, x, zrho) (zg τ w) := by
  have hk := zm_k
  have k1 := zm_1
  have n1 := zm_n1
  intro n
  induction n with
  | zero =>
    intro i hi
    have e : i = 81 := by omega
    subst e
    simp (disch := first | assumption | exact p_c2i | exact p_c2r | exact p_c2n | omega | ((repeat (first | refine p_a1i.trans ?_ | refine p_a1r.trans ?_)); exact p_a10) | ((repeat (first | refine p_wI ?_ | refine p_wR ?_)); exact p_w0) | decide) only [reduceIte, Int.reduceLT, Int.reduceLE, Int.reduceEq, Int.reduceToNat, Int.reduceAdd, Int.reduceSub, Int.reduceMul, Int.reduceNeg, e185_0, e185_1, e185_2, e185_3, e185_4, e185_5, e185_7, e185_10, e185_11, e185_12, e185_15, e185_16, e185_17, e185_18, e185_21, e185_22, e185_23, e185_26, e185_27, e185_30, e185_31, e185_32, e185_33, e185_36, e185_39, e185_40, p_push, p_is2, p_c2n, p_c2i, p_c2r, p_is3, p_il3, p_cge, p_il2, p_al0, p_getR, p_iald, p_il1, p_cne, p_goto, p_bin, p_ii3, p_ret0, WN_nx, WN_nrt, WN_ite, show ((81 : Nat) : Int) = 81 from rfl]
  | succ n ih =>
    intro i hi
    have c1 : ((i : Int) < 81) = True := eq_true (by omega)
    have e1 : (i : Int) + 1 = ((i + 1 : Nat) : Int) := by omega
    have g1 : zg τ w 3561 i = (l i : Int) := by rw [zg_o (by omega)]; exact hl i (by omega)
    have g2 : zg τ w 3561 c = (l c : Int) := by rw [zg_o (by omega)]; exact hl c hc
    have b1 := hl81 i (by omega)
    have b2 := hl81 c hc
    have ih2 := ih (i + 1) (by omega)
    by_cases hd : l i = l c
    · have c2 : ((l i : Int) = (l c : Int)) = True := eq_true (by omega)
      rw [e185_4]
      simp (disch := first | assumption | exact p_c2i | exact p_c2r | exact p_c2n | omega | ((repeat (first | refine p_a1i.trans ?_ | refine p_a1r.trans ?_)); exact p_a10) | ((repeat (first | refine p_wI ?_ | refine p_wR ?_)); exact p_w0) | decide) only [reduceIte, Int.reduceLT, Int.reduceLE, Int.reduceEq, Int.reduceToNat, Int.reduceAdd, Int.reduceSub, Int.reduceMul, Int.reduceNeg, e185_5, e185_7, e185_10, e185_11, e185_12, e185_15, e185_16, e185_17, e185_18, e185_21, e185_22, e185_23, e185_26, e185_27, e185_30, e185_31, e185_32, e185_33, e185_36, p_il3, p_push, p_cge, p_il2, p_al0, p_getR, p_iald, p_il1, p_cne, p_goto, p_bin, p_is2, p_c2n, p_c2i, p_c2r, p_ii3, WN_nx, WN_nrt, WN_ite, c1, zm_r16, g1, g2, c2, e1, Int.toNat_natCast]
      rw [← ih2, zct_s, if_pos (decide_eq_true hd)]
    · have c2 : ((l i : Int) = (l c : Int)) = False := eq_false (by omega)
      rw [e185_4]
      simp (disch := first | assumption | exact p_c2i | exact p_c2r | exact p_c2n | omega | ((repeat (first | refine p_a1i.trans ?_ | refine p_a1r.trans ?_)); exact p_a10) | ((repeat (first | refine p_wI ?_ | refine p_wR ?_)); exact p_w0) | decide) only [reduceIte, Int.reduceLT, Int.reduceLE, Int.reduceEq, Int.reduceToNat, Int.reduceAdd, Int.reduceSub, Int.reduceMul, Int.reduceNeg, e185_5, e185_7, e185_10, e185_11, e185_12, e185_15, e185_16, e185_17, e185_18, e185_21, e185_22, e185_23, e185_26, e185_27, e185_30, e185_31, e185_32, e185_33, e185_36, p_il3, p_push, p_cge, p_il2, p_al0, p_getR, p_iald, p_il1, p_cne, p_goto, p_bin, p_is2, p_c2n, p_c2i, p_c2r, p_ii3, WN_nx, WN_nrt, WN_ite, c1, zm_r16, g1, g2, c2, e1, Int.toNat_natCast]
      rw [← ih2, zct_s, if_neg (by rw [decide_eq_true_iff]; exact hd)]
theorem t_sizeM {c : Nat} (hc : c < 81) (hl : ∀ k, k < 81 → τ 3561 k = (l k : Int)) (hL : zLab (zco w) l) : WM 185 [.inr (.inl (some 3553)), .inl ((c : Int))] (3565, x, zrho) (zg τ w) Q = Q (.inl (some (.inl (fSize w c)))) (3565, x, zrho) (zg τ w) := by
  show Wp 185 0 [some (.inr (.inl (some 3553))), some (.inl ((c : Int))), none, none] [] _ _ Q = _
  simp (disch := first | assumption | exact p_c2i | exact p_c2r | exact p_c2n | omega | ((repeat (first | refine p_a1i.trans ?_ | refine p_a1r.trans ?_)); exact p_a10) | ((repeat (first | refine p_wI ?_ | refine p_wR ?_)); exact p_w0) | decide) only [reduceIte, Int.reduceLT, Int.reduceLE, Int.reduceEq, Int.reduceToNat, Int.reduceAdd, Int.reduceSub, Int.reduceMul, Int.reduceNeg, e185_0, e185_1, e185_2, e185_3, p_push, p_is2, p_c2n, p_c2i, p_c2r, p_is3, WN_nx, WN_nrt, WN_ite]
  refine (l_sizeM hc hl (fun k hk => (hL k hk).1) 81 0 rfl).trans ?_
  have e : zct (fun b => decide (l b = l c)) 81 = fSize w c := by
    unfold fSize
    refine zct_cg 81 (fun k hk => ?_)
    have := zLab_e hL hc hk
    by_cases h : l k = l c
    · rw [decide_eq_true h]; exact (this.mpr h.symm).symm
    · rw [decide_eq_false h]
      exact (Bool.eq_false_iff.mpr (fun z => h (this.mp z).symm)).symm
  rw [e]
theorem l_fieldMany {v : Int} (hv : -2147483648 ≤ v ∧ v < 2147483648) (ok : zok N w) (hl : ∀ k, k < 81 → τ 3561 k = (l k : Int)) (hl81 : ∀ k, k < 81 → l k < 81) : ∀ n i : Nat, i + n = 81 → Wp 182 8 [some (.inr (.inl (some 3553))), some (.inl v), some (.inl (zct (fun c => decide (w (10 + c) = v ∧ l c = c)) i)), some (.inl ((i : Int)))] [] (3565, x, zrho) (zg τ w) Q = Q (.inl (some (.inl (zct (fun c => decide (w (10 + c) = v ∧ l c = c)) 81)))) (3565, x, zrho) (zg τ w) := by
  have hk := zm_k
  have k4 := zm_4
  have n4 := zm_n4
  have k1 := zm_1
  have n1 := zm_n1
  have o1 := ok.2.1
  obtain ⟨hv1, hv2⟩ := hv
  intro n
  induction n with
  | zero =>
    intro i hi
    have e : i = 81 := by omega
    subst e
    simp (disch := first | assumption | exact p_c2i | exact p_c2r | exact p_c2n | omega | ((repeat (first | refine p_a1i.trans ?_ | refine p_a1r.trans ?_)); exact p_a10) | ((repeat (first | refine p_wI ?_ | refine p_wR ?_)); exact p_w0) | decide) only [reduceIte, Int.reduceLT, Int.reduceLE, Int.reduceEq, Int.reduceToNat, Int.reduceAdd, Int.reduceSub, Int.reduceMul, Int.reduceNeg, e182_0, e182_1, e182_4, e182_5, e182_6, e182_7, e182_8, e182_9, e182_11, e182_14, e182_15, e182_16, e182_19, e182_21, e182_22, e182_23, e182_24, e182_25, e182_28, e182_29, e182_32, e182_33, e182_34, e182_35, e182_38, e182_39, e182_42, e182_43, e182_44, e182_45, e182_48, e182_51, e182_52, p_al0, p_cv0_0, p_cv0_1, p_cv0_2, p_cv0_3, p_cv0_4, zK_v, zK_0, WN_ncl, p_push, p_is2, p_c2n, p_c2i, p_c2r, p_is3, p_il3, p_cge, p_il2, p_getR, p_bin, p_iald, p_il1, p_cne, p_goto, p_ii3, p_ret0, WN_nx, WN_nrt, WN_ite, show ((81 : Nat) : Int) = 81 from rfl]
  | succ n ih =>
    intro i hi
    have c1 : ((i : Int) < 81) = True := eq_true (by omega)
    have e1 : (i : Int) + 1 = ((i + 1 : Nat) : Int) := by omega
    have ei : (10 + (i : Int)).toNat = 10 + i := by omega
    have g1 : zg τ w 3561 i = (l i : Int) := by rw [zg_o (by omega)]; exact hl i (by omega)
    have b1 := hl81 i (by omega)
    have b2 := ok.2.2.2.2.2.2.2.1 i (by omega)
    have ih2 := ih (i + 1) (by omega)
    by_cases hc : w (10 + i) = v
    · have c2 : (w (10 + i) = v) = True := eq_true hc
      by_cases hd : l i = i
      · have c3 : ((l i : Int) = (i : Int)) = True := eq_true (by omega)
        rw [e182_8]
        simp (disch := first | assumption | exact p_c2i | exact p_c2r | exact p_c2n | omega | ((repeat (first | refine p_a1i.trans ?_ | refine p_a1r.trans ?_)); exact p_a10) | ((repeat (first | refine p_wI ?_ | refine p_wR ?_)); exact p_w0) | decide) only [reduceIte, Int.reduceLT, Int.reduceLE, Int.reduceEq, Int.reduceToNat, Int.reduceAdd, Int.reduceSub, Int.reduceMul, Int.reduceNeg, e182_9, e182_11, e182_14, e182_15, e182_16, e182_19, e182_21, e182_22, e182_23, e182_24, e182_25, e182_28, e182_29, e182_32, e182_33, e182_34, e182_35, e182_38, e182_39, e182_42, e182_43, e182_44, e182_45, e182_48, p_il3, p_push, p_cge, p_il2, p_al0, p_getR, p_bin, p_iald, p_il1, p_cne, p_goto, p_is2, p_c2n, p_c2i, p_c2r, p_ii3, WN_nx, WN_nrt, WN_ite, c1, zm_r0, zg_s, ei, c2, zm_r16, g1, c3, e1, Int.toNat_natCast]
        rw [← ih2, zct_s, if_pos (decide_eq_true ⟨hc, hd⟩)]
      · have c3 : ((l i : Int) = (i : Int)) = False := eq_false (by omega)
        rw [e182_8]
        simp (disch := first | assumption | exact p_c2i | exact p_c2r | exact p_c2n | omega | ((repeat (first | refine p_a1i.trans ?_ | refine p_a1r.trans ?_)); exact p_a10) | ((repeat (first | refine p_wI ?_ | refine p_wR ?_)); exact p_w0) | decide) only [reduceIte, Int.reduceLT, Int.reduceLE, Int.reduceEq, Int.reduceToNat, Int.reduceAdd, Int.reduceSub, Int.reduceMul, Int.reduceNeg, e182_9, e182_11, e182_14, e182_15, e182_16, e182_19, e182_21, e182_22, e182_23, e182_24, e182_25, e182_28, e182_29, e182_32, e182_33, e182_34, e182_35, e182_38, e182_39, e182_42, e182_43, e182_44, e182_45, e182_48, p_il3, p_push, p_cge, p_il2, p_al0, p_getR, p_bin, p_iald, p_il1, p_cne, p_goto, p_is2, p_c2n, p_c2i, p_c2r, p_ii3, WN_nx, WN_nrt, WN_ite, c1, zm_r0, zg_s, ei, c2, zm_r16, g1, c3, e1, Int.toNat_natCast]
        rw [← ih2, zct_s, if_neg (by rw [decide_eq_true_iff]; exact fun z => hd z.2)]
    · rw [e182_8]
      simp (disch := first | assumption | exact p_c2i | exact p_c2r | exact p_c2n | omega | ((repeat (first | refine p_a1i.trans ?_ | refine p_a1r.trans ?_)); exact p_a10) | ((repeat (first | refine p_wI ?_ | refine p_wR ?_)); exact p_w0) | decide) only [reduceIte, Int.reduceLT, Int.reduceLE, Int.reduceEq, Int.reduceToNat, Int.reduceAdd, Int.reduceSub, Int.reduceMul, Int.reduceNeg, e182_9, e182_11, e182_14, e182_15, e182_16, e182_19, e182_21, e182_22, e182_23, e182_24, e182_25, e182_28, e182_29, e182_32, e182_33, e182_34, e182_35, e182_38, e182_39, e182_42, e182_43, e182_44, e182_45, e182_48, p_il3, p_push, p_cge, p_il2, p_al0, p_getR, p_bin, p_iald, p_il1, p_cne, p_goto, p_is2, p_c2n, p_c2i, p_c2r, p_ii3, WN_nx, WN_nrt, WN_ite, c1, zm_r0, zg_s, ei, hc, e1]
      rw [← ih2, zct_s, if_neg (by rw [decide_eq_true_iff]; exact fun z => hc z.1)]
theorem t_fieldManyM {v : Int} (hv : -2147483648 ≤ v ∧ v < 2147483648) (ok : zok N w) (K : ∀ τ' : ZI, (∀ a, a ≠ 3561 → τ' a = τ a) → Q (.inl (some (.inl (fMany w v)))) (3565, x, zrho) (zg τ' w)) : WM 182 [.inr (.inl (some 3553)), .inl v] (3565, x, zrho) (zg τ w) Q := by
  show Wp 182 0 [some (.inr (.inl (some 3553))), some (.inl v), none, none] [] _ _ Q
  have hk := zm_k
  simp (disch := first | assumption | exact p_c2i | exact p_c2r | exact p_c2n | omega | ((repeat (first | refine p_a1i.trans ?_ | refine p_a1r.trans ?_)); exact p_a10) | ((repeat (first | refine p_wI ?_ | refine p_wR ?_)); exact p_w0) | decide) only [reduceIte, Int.reduceLT, Int.reduceLE, Int.reduceEq, Int.reduceToNat, Int.reduceAdd, Int.reduceSub, Int.reduceMul, Int.reduceNeg, e182_0, e182_1, p_al0, p_cv0_0, p_cv0_1, p_cv0_2, p_cv0_3, p_cv0_4, zK_v, zK_0, WN_ncl, WN_nx, WN_nrt, WN_ite]
  refine t_finds ok (fun l τ' hL ha hl => ?_)
  rw [zK_0]
  simp (disch := first | assumption | exact p_c2i | exact p_c2r | exact p_c2n | omega | ((repeat (first | refine p_a1i.trans ?_ | refine p_a1r.trans ?_)); exact p_a10) | ((repeat (first | refine p_wI ?_ | refine p_wR ?_)); exact p_w0) | decide) only [reduceIte, Int.reduceLT, Int.reduceLE, Int.reduceEq, Int.reduceToNat, Int.reduceAdd, Int.reduceSub, Int.reduceMul, Int.reduceNeg, e182_4, e182_5, e182_6, e182_7, p_push, p_is2, p_c2n, p_c2i, p_c2r, p_is3, WN_nx, WN_nrt, WN_ite]
  refine Eq.mpr (l_fieldMany hv ok hl (fun k hk => (hL k hk).1) 81 0 rfl) ?_
  have e : zct (fun c => decide (w (10 + c) = v ∧ l c = c)) 81 = fMany w v := zct_cg 81 (fun k hk => by rw [zLab_u hL zlb_l hk])
  rw [e]
  exact K τ' ha
theorem zQy_1 {τ' : ZI} {p : Int} (h : ∀ a, a ≠ 3561 → τ' a = zup τ 3553 8 p a) : zQy τ τ' p := ⟨by rw [h _ (by omega)]; exact zup_s, fun k hk => by rw [h _ (by omega)]; exact zup_j hk, fun a h1 h2 h3 h4 h5 => by rw [h a h4, zup_f h1]⟩
theorem t_fieldsM {v : Int} (ok : zok N w) (hv : -2147483648 ≤ v ∧ v < 2147483648) (K1 : ¬ (0 ≤ v ∧ v ≤ 3) → ∀ τ' b, zQy τ τ' 1 → Q (.inl (some (.inl b))) (3565, x, zrho) (zg τ' w)) (K0 : (0 ≤ v ∧ v ≤ 3) → ∀ τ', zQy τ τ' 0 → Q (.inl (some (.inl (fMany w v)))) (3565, x, zrho) (zg τ' w)) : WM 183 [.inr (.inl (some 3553)), .inl v] (3565, x, zrho) (zg τ w) Q := by
  show Wp 183 0 [some (.inr (.inl (some 3553))), some (.inl v)] [] _ _ Q
  have k := zm_k
  have ti := fun (Q : ZO → ZT → ZI → Prop) (σ : ZI) (θ : ZT) => t_in (Q := Q) (θ := θ) (σ := σ) (a := v) (b := 0) (c := 3) hv (by omega) (by omega)
  by_cases c1 : 0 ≤ v ∧ v ≤ 3
  · rw [if_pos c1] at ti
    simp (disch := first | assumption | exact p_c2i | exact p_c2r | exact p_c2n | omega | ((repeat (first | refine p_a1i.trans ?_ | refine p_a1r.trans ?_)); exact p_a10) | ((repeat (first | refine p_wI ?_ | refine p_wR ?_)); exact p_w0) | decide) only [reduceIte, Int.reduceLT, Int.reduceLE, Int.reduceEq, Int.reduceToNat, Int.reduceAdd, Int.reduceSub, Int.reduceMul, Int.reduceNeg, e183_0, e183_1, e183_2, e183_3, e183_4, e183_7, e183_10, e183_11, e183_14, e183_15, e183_18, e183_21, e183_22, e183_25, e183_26, e183_27, p_al0, p_il1, p_push, p_cs3_0, p_cs3_1, p_cs3_2, p_cs3_3, p_cs3_4, zK_v, zK_0, WN_ncl, p_ifeq, p_goto, p_cv1_0, p_cv1_1, p_cv1_2, p_cv1_3, p_cv1_4, WN_nx, WN_nrt, WN_ite, ti, tf_0]
    refine t_fieldManyM hv ok (fun τ' ha => ?_)
    rw [zK_v]
    have := zct_in (p := fun c => decide (w (10 + c) = v ∧ zlb (zco w) c = c)) 81
    simp (disch := first | assumption | exact p_c2i | exact p_c2r | exact p_c2n | omega | ((repeat (first | refine p_a1i.trans ?_ | refine p_a1r.trans ?_)); exact p_a10) | ((repeat (first | refine p_wI ?_ | refine p_wR ?_)); exact p_w0) | decide) only [reduceIte, Int.reduceLT, Int.reduceLE, Int.reduceEq, Int.reduceToNat, Int.reduceAdd, Int.reduceSub, Int.reduceMul, Int.reduceNeg, e183_30, p_ret0, WN_nx, WN_nrt, WN_ite]
    exact K0 c1 τ' (zQy_1 ha)
  · rw [if_neg c1] at ti
    simp (disch := first | assumption | exact p_c2i | exact p_c2r | exact p_c2n | omega | ((repeat (first | refine p_a1i.trans ?_ | refine p_a1r.trans ?_)); exact p_a10) | ((repeat (first | refine p_wI ?_ | refine p_wR ?_)); exact p_w0) | decide) only [reduceIte, Int.reduceLT, Int.reduceLE, Int.reduceEq, Int.reduceToNat, Int.reduceAdd, Int.reduceSub, Int.reduceMul, Int.reduceNeg, e183_0, e183_1, e183_2, e183_3, e183_4, e183_7, e183_10, e183_11, e183_14, e183_15, e183_18, e183_21, e183_22, e183_25, e183_26, e183_27, e183_30, p_al0, p_il1, p_push, p_cs3_0, p_cs3_1, p_cs3_2, p_cs3_3, p_cs3_4, zK_v, zK_0, WN_ncl, p_ifeq, p_goto, p_cv1_0, p_cv1_1, p_cv1_2, p_cv1_3, p_cv1_4, p_ret0, WN_nx, WN_nrt, WN_ite, ti, tf_1]
    exact K1 c1 _ _ zQy_f
theorem t_fieldsAgainM {v : Int} (ok : zok N w) (hv : -2147483648 ≤ v ∧ v < 2147483648) (K1 : ¬ (0 ≤ v ∧ v ≤ 3) → ∀ τ' b, zQy τ τ' 1 → Q (.inl (some (.inl b))) (3565, x, zrho) (zg τ' w)) (K0 : (0 ≤ v ∧ v ≤ 3) → ∀ τ', zQy τ τ' 0 → Q (.inl (some (.inl (fMany w v)))) (3565, x, zrho) (zg τ' w)) : WM 184 [.inr (.inl (some 3553)), .inl v] (3565, x, zrho) (zg τ w) Q := by
  show Wp 184 0 [some (.inr (.inl (some 3553))), some (.inl v)] [] _ _ Q
  have k := zm_k
  have ti := fun (Q : ZO → ZT → ZI → Prop) (σ : ZI) (θ : ZT) => t_in (Q := Q) (θ := θ) (σ := σ) (a := v) (b := 0) (c := 3) hv (by omega) (by omega)
  by_cases c1 : 0 ≤ v ∧ v ≤ 3
  · rw [if_pos c1] at ti
    simp (disch := first | assumption | exact p_c2i | exact p_c2r | exact p_c2n | omega | ((repeat (first | refine p_a1i.trans ?_ | refine p_a1r.trans ?_)); exact p_a10) | ((repeat (first | refine p_wI ?_ | refine p_wR ?_)); exact p_w0) | decide) only [reduceIte, Int.reduceLT, Int.reduceLE, Int.reduceEq, Int.reduceToNat, Int.reduceAdd, Int.reduceSub, Int.reduceMul, Int.reduceNeg, e184_0, e184_1, e184_2, e184_3, e184_4, e184_7, e184_10, e184_11, e184_14, e184_15, e184_18, e184_21, e184_22, e184_25, e184_26, e184_27, p_al0, p_il1, p_push, p_cs3_0, p_cs3_1, p_cs3_2, p_cs3_3, p_cs3_4, zK_v, zK_0, WN_ncl, p_ifeq, p_goto, p_cv1_0, p_cv1_1, p_cv1_2, p_cv1_3, p_cv1_4, WN_nx, WN_nrt, WN_ite, ti, tf_0]
    refine t_fieldManyM hv ok (fun τ' ha => ?_)
    rw [zK_v]
    have := zct_in (p := fun c => decide (w (10 + c) = v ∧ zlb (zco w) c = c)) 81
    simp (disch := first | assumption | exact p_c2i | exact p_c2r | exact p_c2n | omega | ((repeat (first | refine p_a1i.trans ?_ | refine p_a1r.trans ?_)); exact p_a10) | ((repeat (first | refine p_wI ?_ | refine p_wR ?_)); exact p_w0) | decide) only [reduceIte, Int.reduceLT, Int.reduceLE, Int.reduceEq, Int.reduceToNat, Int.reduceAdd, Int.reduceSub, Int.reduceMul, Int.reduceNeg, e184_30, p_ret0, WN_nx, WN_nrt, WN_ite]
    exact K0 c1 τ' (zQy_1 ha)
  · rw [if_neg c1] at ti
    simp (disch := first | assumption | exact p_c2i | exact p_c2r | exact p_c2n | omega | ((repeat (first | refine p_a1i.trans ?_ | refine p_a1r.trans ?_)); exact p_a10) | ((repeat (first | refine p_wI ?_ | refine p_wR ?_)); exact p_w0) | decide) only [reduceIte, Int.reduceLT, Int.reduceLE, Int.reduceEq, Int.reduceToNat, Int.reduceAdd, Int.reduceSub, Int.reduceMul, Int.reduceNeg, e184_0, e184_1, e184_2, e184_3, e184_4, e184_7, e184_10, e184_11, e184_14, e184_15, e184_18, e184_21, e184_22, e184_25, e184_26, e184_27, e184_30, p_al0, p_il1, p_push, p_cs3_0, p_cs3_1, p_cs3_2, p_cs3_3, p_cs3_4, zK_v, zK_0, WN_ncl, p_ifeq, p_goto, p_cv1_0, p_cv1_1, p_cv1_2, p_cv1_3, p_cv1_4, p_ret0, WN_nx, WN_nrt, WN_ite, ti, tf_1]
    exact K1 c1 _ _ zQy_f
theorem t_fieldM {r c : Int} (ok : zok N w) (hr : -2147483648 ≤ r ∧ r < 2147483648) (hc : -2147483648 ≤ c ∧ c < 2147483648) (K1 : ¬ ((0 ≤ r ∧ r < 9) ∧ (0 ≤ c ∧ c < 9)) → ∀ τ' b, zQy τ τ' 1 → Q (.inl (some (.inl b))) (3565, x, zrho) (zg τ' w)) (K0 : ((0 ≤ r ∧ r < 9) ∧ (0 ≤ c ∧ c < 9)) → ∀ τ', zQy τ τ' 0 → Q (.inl (some (.inl (fSize w (9 * r + c).toNat)))) (3565, x, zrho) (zg τ' w)) : WM 186 [.inr (.inl (some 3553)), .inl r, .inl c] (3565, x, zrho) (zg τ w) Q := by
  show Wp 186 0 [some (.inr (.inl (some 3553))), some (.inl r), some (.inl c)] [] _ _ Q
  have k := zm_k
  have ti := fun (Q : ZO → ZT → ZI → Prop) (σ : ZI) (θ : ZT) => t_isCellM (Q := Q) (θ := θ) (σ := σ) hr hc
  by_cases c1 : (0 ≤ r ∧ r < 9) ∧ (0 ≤ c ∧ c < 9)
  · rw [if_pos c1] at ti
    simp (disch := first | assumption | exact p_c2i | exact p_c2r | exact p_c2n | omega | ((repeat (first | refine p_a1i.trans ?_ | refine p_a1r.trans ?_)); exact p_a10) | ((repeat (first | refine p_wI ?_ | refine p_wR ?_)); exact p_w0) | decide) only [reduceIte, Int.reduceLT, Int.reduceLE, Int.reduceEq, Int.reduceToNat, Int.reduceAdd, Int.reduceSub, Int.reduceMul, Int.reduceNeg, e186_0, e186_1, e186_2, e186_3, e186_6, e186_9, e186_10, e186_13, e186_14, e186_17, e186_20, e186_21, e186_22, e186_23, p_al0, p_il1, p_il2, p_cs2_0, p_cs2_1, p_cs2_2, p_cs2_3, p_cs2_4, zK_v, zK_0, WN_ncl, p_ifeq, p_push, p_goto, p_cv1_0, p_cv1_1, p_cv1_2, p_cv1_3, p_cv1_4, p_ret0, p_cv0_0, p_cv0_1, p_cv0_2, p_cv0_3, p_cv0_4, WN_nx, WN_nrt, WN_ite, ti, tf_0]
    refine t_finds ok (fun l τ' hL ha hl => ?_)
    rw [zK_0]
    obtain ⟨m, hm⟩ : ∃ m : Nat, 9 * r + c = (m : Int) := ⟨(9 * r + c).toNat, by omega⟩
    have tz := fun (Q : ZO → ZT → ZI → Prop) => t_sizeM (Q := Q) (x := x) (τ := τ') (w := w) (c := m) (by omega) hl hL
    have e := K0 c1 τ' (zQy_1 ha)
    rw [hm, Int.toNat_natCast] at e
    have := zct_in (p := fun b => zcm (zco w) m b) 81
    simp (disch := first | assumption | exact p_c2i | exact p_c2r | exact p_c2n | omega | ((repeat (first | refine p_a1i.trans ?_ | refine p_a1r.trans ?_)); exact p_a10) | ((repeat (first | refine p_wI ?_ | refine p_wR ?_)); exact p_w0) | decide) only [reduceIte, Int.reduceLT, Int.reduceLE, Int.reduceEq, Int.reduceToNat, Int.reduceAdd, Int.reduceSub, Int.reduceMul, Int.reduceNeg, e186_26, e186_27, e186_28, e186_29, e186_32, e186_35, p_al0, p_il1, p_il2, p_cs2_0, p_cs2_1, p_cs2_2, p_cs2_3, p_cs2_4, zK_v, zK_0, WN_ncl, p_cv1_0, p_cv1_1, p_cv1_2, p_cv1_3, p_cv1_4, p_ret0, WN_nx, WN_nrt, WN_ite, t_place, hm, tz]
    exact e
  · rw [if_neg c1] at ti
    simp (disch := first | assumption | exact p_c2i | exact p_c2r | exact p_c2n | omega | ((repeat (first | refine p_a1i.trans ?_ | refine p_a1r.trans ?_)); exact p_a10) | ((repeat (first | refine p_wI ?_ | refine p_wR ?_)); exact p_w0) | decide) only [reduceIte, Int.reduceLT, Int.reduceLE, Int.reduceEq, Int.reduceToNat, Int.reduceAdd, Int.reduceSub, Int.reduceMul, Int.reduceNeg, e186_0, e186_1, e186_2, e186_3, e186_6, e186_9, e186_10, e186_13, e186_14, e186_17, e186_20, e186_21, e186_22, e186_23, e186_26, e186_27, e186_28, e186_29, e186_32, e186_35, p_al0, p_il1, p_il2, p_cs2_0, p_cs2_1, p_cs2_2, p_cs2_3, p_cs2_4, zK_v, zK_0, WN_ncl, p_ifeq, p_push, p_goto, p_cv1_0, p_cv1_1, p_cv1_2, p_cv1_3, p_cv1_4, p_ret0, p_cv0_0, p_cv0_1, p_cv0_2, p_cv0_3, p_cv0_4, WN_nx, WN_nrt, WN_ite, ti, tf_1]
    exact K1 c1 _ _ zQy_f
theorem l_greatM {v : Int} (hv : -2147483648 ≤ v ∧ v < 2147483648) (ok : zok N w) (hl : ∀ k, k < 81 → τ 3561 k = (l k : Int)) (hL : zLab (zco w) l) : ∀ n i : Nat, i + n = 81 → Wp 187 31 [some (.inr (.inl (some 3553))), some (.inl v), some (.inl (fGreat w v i)), some (.inl ((i : Int)))] [] (3565, x, zrho) (zg τ w) Q = Q (.inl (some (.inl (fGreat w v 81)))) (3565, x, zrho) (zg τ w) := by
  have hk := zm_k
  have k4 := zm_4
  have n4 := zm_n4
  have o1 := ok.2.1
  obtain ⟨hv1, hv2⟩ := hv
  intro n
  induction n with
  | zero =>
    intro i hi
    have e : i = 81 := by omega
    subst e
    simp (disch := first | assumption | exact p_c2i | exact p_c2r | exact p_c2n | omega | ((repeat (first | refine p_a1i.trans ?_ | refine p_a1r.trans ?_)); exact p_a10) | ((repeat (first | refine p_wI ?_ | refine p_wR ?_)); exact p_w0) | decide) only [reduceIte, Int.reduceLT, Int.reduceLE, Int.reduceEq, Int.reduceToNat, Int.reduceAdd, Int.reduceSub, Int.reduceMul, Int.reduceNeg, e187_31, e187_32, e187_34, e187_37, e187_38, e187_41, e187_43, e187_44, e187_45, e187_46, e187_47, e187_50, e187_51, e187_52, e187_55, e187_56, e187_59, e187_60, e187_61, e187_64, e187_65, e187_68, e187_71, e187_72, p_il3, p_push, p_cge, p_al0, p_getR, p_bin, p_iald, p_il1, p_cne, p_cv1_0, p_cv1_1, p_cv1_2, p_cv1_3, p_cv1_4, zK_v, zK_0, WN_ncl, p_il2, p_cle, p_is2, p_c2n, p_c2i, p_c2r, p_ii3, p_goto, p_ret0, WN_nx, WN_nrt, WN_ite, show ((81 : Nat) : Int) = 81 from rfl]
  | succ n ih =>
    intro i hi
    have c1 : ((i : Int) < 81) = True := eq_true (by omega)
    have e1 : (i : Int) + 1 = ((i + 1 : Nat) : Int) := by omega
    have ei : (10 + (i : Int)).toNat = 10 + i := by omega
    have b2 := ok.2.2.2.2.2.2.2.1 i (by omega)
    have tz := fun (Q : ZO → ZT → ZI → Prop) => t_sizeM (Q := Q) (x := x) (τ := τ) (w := w) (c := i) (by omega) hl hL
    have zi := zct_in (p := fun b => zcm (zco w) i b) 81
    have zi2 : 0 ≤ fSize w i ∧ fSize w i ≤ 81 := zi
    have gi := fGreat_in (w := w) (v := v) i
    have ih2 := ih (i + 1) (by omega)
    rw [fGreat_s] at ih2
    by_cases hc : w (10 + i) = v
    · have c2 : (w (10 + i) = v) = True := eq_true hc
      by_cases hd : fGreat w v i < fSize w i
      · have c3 : (fGreat w v i < fSize w i) = True := eq_true hd
        rw [if_pos ⟨hc, hd⟩] at ih2
        rw [e187_31]
        simp (disch := first | assumption | exact p_c2i | exact p_c2r | exact p_c2n | omega | ((repeat (first | refine p_a1i.trans ?_ | refine p_a1r.trans ?_)); exact p_a10) | ((repeat (first | refine p_wI ?_ | refine p_wR ?_)); exact p_w0) | decide) only [reduceIte, Int.reduceLT, Int.reduceLE, Int.reduceEq, Int.reduceToNat, Int.reduceAdd, Int.reduceSub, Int.reduceMul, Int.reduceNeg, e187_32, e187_34, e187_37, e187_38, e187_41, e187_43, e187_44, e187_45, e187_46, e187_47, e187_50, e187_51, e187_52, e187_55, e187_56, e187_59, e187_60, e187_61, e187_64, e187_65, e187_68, p_il3, p_push, p_cge, p_al0, p_getR, p_bin, p_iald, p_il1, p_cne, p_cv1_0, p_cv1_1, p_cv1_2, p_cv1_3, p_cv1_4, zK_v, zK_0, WN_ncl, p_il2, p_cle, p_is2, p_c2n, p_c2i, p_c2r, p_ii3, p_goto, WN_nx, WN_nrt, WN_ite, c1, zm_r0, zg_s, ei, c2, tz, c3, e1]
        exact ih2
      · have c3 : (fGreat w v i < fSize w i) = False := eq_false hd
        rw [if_neg (fun z => hd z.2)] at ih2
        rw [e187_31]
        simp (disch := first | assumption | exact p_c2i | exact p_c2r | exact p_c2n | omega | ((repeat (first | refine p_a1i.trans ?_ | refine p_a1r.trans ?_)); exact p_a10) | ((repeat (first | refine p_wI ?_ | refine p_wR ?_)); exact p_w0) | decide) only [reduceIte, Int.reduceLT, Int.reduceLE, Int.reduceEq, Int.reduceToNat, Int.reduceAdd, Int.reduceSub, Int.reduceMul, Int.reduceNeg, e187_32, e187_34, e187_37, e187_38, e187_41, e187_43, e187_44, e187_45, e187_46, e187_47, e187_50, e187_51, e187_52, e187_55, e187_56, e187_59, e187_60, e187_61, e187_64, e187_65, e187_68, p_il3, p_push, p_cge, p_al0, p_getR, p_bin, p_iald, p_il1, p_cne, p_cv1_0, p_cv1_1, p_cv1_2, p_cv1_3, p_cv1_4, zK_v, zK_0, WN_ncl, p_il2, p_cle, p_is2, p_c2n, p_c2i, p_c2r, p_ii3, p_goto, WN_nx, WN_nrt, WN_ite, c1, zm_r0, zg_s, ei, c2, tz, c3, e1]
        exact ih2
    · rw [if_neg (fun z => hc z.1)] at ih2
      rw [e187_31]
      simp (disch := first | assumption | exact p_c2i | exact p_c2r | exact p_c2n | omega | ((repeat (first | refine p_a1i.trans ?_ | refine p_a1r.trans ?_)); exact p_a10) | ((repeat (first | refine p_wI ?_ | refine p_wR ?_)); exact p_w0) | decide) only [reduceIte, Int.reduceLT, Int.reduceLE, Int.reduceEq, Int.reduceToNat, Int.reduceAdd, Int.reduceSub, Int.reduceMul, Int.reduceNeg, e187_32, e187_34, e187_37, e187_38, e187_41, e187_43, e187_44, e187_45, e187_46, e187_47, e187_50, e187_51, e187_52, e187_55, e187_56, e187_59, e187_60, e187_61, e187_64, e187_65, e187_68, p_il3, p_push, p_cge, p_al0, p_getR, p_bin, p_iald, p_il1, p_cne, p_cv1_0, p_cv1_1, p_cv1_2, p_cv1_3, p_cv1_4, zK_v, zK_0, WN_ncl, p_il2, p_cle, p_is2, p_c2n, p_c2i, p_c2r, p_ii3, p_goto, WN_nx, WN_nrt, WN_ite, c1, zm_r0, zg_s, ei, hc, e1]
      exact ih2
theorem t_greatM {v : Int} (ok : zok N w) (hv : -2147483648 ≤ v ∧ v < 2147483648) (K1 : ¬ (0 ≤ v ∧ v ≤ 3) → ∀ τ' b, zQy τ τ' 1 → Q (.inl (some (.inl b))) (3565, x, zrho) (zg τ' w)) (K0 : (0 ≤ v ∧ v ≤ 3) → ∀ τ', zQy τ τ' 0 → Q (.inl (some (.inl (fGreat w v 81)))) (3565, x, zrho) (zg τ' w)) : WM 187 [.inr (.inl (some 3553)), .inl v] (3565, x, zrho) (zg τ w) Q := by
  show Wp 187 0 [some (.inr (.inl (some 3553))), some (.inl v), none, none] [] _ _ Q
  have k := zm_k
  have ti := fun (Q : ZO → ZT → ZI → Prop) (σ : ZI) (θ : ZT) => t_in (Q := Q) (θ := θ) (σ := σ) (a := v) (b := 0) (c := 3) hv (by omega) (by omega)
  by_cases c1 : 0 ≤ v ∧ v ≤ 3
  · rw [if_pos c1] at ti
    simp (disch := first | assumption | exact p_c2i | exact p_c2r | exact p_c2n | omega | ((repeat (first | refine p_a1i.trans ?_ | refine p_a1r.trans ?_)); exact p_a10) | ((repeat (first | refine p_wI ?_ | refine p_wR ?_)); exact p_w0) | decide) only [reduceIte, Int.reduceLT, Int.reduceLE, Int.reduceEq, Int.reduceToNat, Int.reduceAdd, Int.reduceSub, Int.reduceMul, Int.reduceNeg, e187_0, e187_1, e187_2, e187_3, e187_4, e187_7, e187_10, e187_11, e187_14, e187_15, e187_18, e187_21, e187_22, e187_23, e187_24, p_al0, p_il1, p_push, p_cs3_0, p_cs3_1, p_cs3_2, p_cs3_3, p_cs3_4, zK_v, zK_0, WN_ncl, p_ifeq, p_goto, p_cv1_0, p_cv1_1, p_cv1_2, p_cv1_3, p_cv1_4, p_ret0, p_cv0_0, p_cv0_1, p_cv0_2, p_cv0_3, p_cv0_4, WN_nx, WN_nrt, WN_ite, ti, tf_0]
    refine t_finds ok (fun l τ' hL ha hl => ?_)
    rw [zK_0]
    simp (disch := first | assumption | exact p_c2i | exact p_c2r | exact p_c2n | omega | ((repeat (first | refine p_a1i.trans ?_ | refine p_a1r.trans ?_)); exact p_a10) | ((repeat (first | refine p_wI ?_ | refine p_wR ?_)); exact p_w0) | decide) only [reduceIte, Int.reduceLT, Int.reduceLE, Int.reduceEq, Int.reduceToNat, Int.reduceAdd, Int.reduceSub, Int.reduceMul, Int.reduceNeg, e187_27, e187_28, e187_29, e187_30, p_push, p_is2, p_c2n, p_c2i, p_c2r, p_is3, WN_nx, WN_nrt, WN_ite]
    refine Eq.mpr (l_greatM hv ok hl hL 81 0 rfl) ?_
    exact K0 c1 τ' (zQy_1 ha)
  · rw [if_neg c1] at ti
    simp (disch := first | assumption | exact p_c2i | exact p_c2r | exact p_c2n | omega | ((repeat (first | refine p_a1i.trans ?_ | refine p_a1r.trans ?_)); exact p_a10) | ((repeat (first | refine p_wI ?_ | refine p_wR ?_)); exact p_w0) | decide) only [reduceIte, Int.reduceLT, Int.reduceLE, Int.reduceEq, Int.reduceToNat, Int.reduceAdd, Int.reduceSub, Int.reduceMul, Int.reduceNeg, e187_0, e187_1, e187_2, e187_3, e187_4, e187_7, e187_10, e187_11, e187_14, e187_15, e187_18, e187_21, e187_22, e187_23, e187_24, e187_27, e187_28, e187_29, e187_30, e187_31, e187_32, e187_34, e187_37, e187_38, e187_41, e187_43, e187_44, e187_45, e187_46, e187_47, e187_50, e187_51, e187_52, e187_55, e187_56, e187_59, e187_60, e187_61, e187_64, e187_65, e187_68, e187_71, e187_72, p_al0, p_il1, p_push, p_cs3_0, p_cs3_1, p_cs3_2, p_cs3_3, p_cs3_4, zK_v, zK_0, WN_ncl, p_ifeq, p_goto, p_cv1_0, p_cv1_1, p_cv1_2, p_cv1_3, p_cv1_4, p_ret0, p_cv0_0, p_cv0_1, p_cv0_2, p_cv0_3, p_cv0_4, p_is2, p_c2n, p_c2i, p_c2r, p_is3, p_il3, p_cge, p_getR, p_bin, p_iald, p_cne, p_il2, p_cle, p_ii3, WN_nx, WN_nrt, WN_ite, ti, tf_1]
    exact K1 c1 _ _ zQy_f
end
