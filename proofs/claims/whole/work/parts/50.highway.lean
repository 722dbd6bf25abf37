/-! THE CLASS: the highway; the inverse of the latest step -/
section
variable {σ : ZI} {Q : ZO → ZT → ZI → Prop} {x n : Nat} {w : zW} {N : Int} {t : Nat → Int}
theorem l_isPeriod {p : Nat} (hp : 1 ≤ p ∧ p ≤ 40) (ht : ∀ k, k < 120 → σ 3549 k = t k ∧ 0 ≤ t k ∧ t k < 4) : ∀ (n i : Nat) (l3 : Option ZV), i + n = 2 * p → Wp 139 2 [some (.inr (.inl (some 100))), some (.inl ((p : Int))), some (.inl ((i : Int))), l3] [] (3565, x, zrho) σ Q = Q (.inl (some (.inl (if zfa (fun k => decide (t k = t (k + p))) i n = true then 1 else 0)))) (3565, x, zrho) σ := by
  have k := zx_k
  have k9 : zkd 3549 = 10 := rfl
  have n9 : zln 3549 = 120 := rfl
  obtain ⟨hp1, hp2⟩ := hp
  intro n
  induction n with
  | zero =>
    intro i l3 hi
    have c1 : ((i : Int) < 2 * (p : Int)) = False := eq_false (by omega)
    simp (disch := first | assumption | exact p_c2i | exact p_c2r | exact p_c2n | omega | ((repeat (first | refine p_a1i.trans ?_ | refine p_a1r.trans ?_)); exact p_a10) | ((repeat (first | refine p_wI ?_ | refine p_wR ?_)); exact p_w0) | decide) only [reduceIte, Int.reduceLT, Int.reduceLE, Int.reduceEq, Int.reduceToNat, Int.reduceAdd, Int.reduceSub, Int.reduceMul, Int.reduceNeg, e139_2, e139_3, e139_4, e139_5, e139_6, e139_60, e139_61, p_il2, p_push, p_il1, p_bin, p_cge, p_ret1, WN_nx, WN_nrt, WN_ite, c1]
    rw [if_pos (show zfa _ i 0 = true from rfl)]
  | succ n ih =>
    intro i l3 hi
    have c1 : ((i : Int) < 2 * (p : Int)) = True := eq_true (by omega)
    have c2 : ((i : Int) < ((120 : Nat) : Int)) = True := eq_true (by omega)
    have c3 : ((i : Int) + (p : Int) < 0) = False := eq_false (by omega)
    have c4 : ((i : Int) + (p : Int) < ((120 : Nat) : Int)) = True := eq_true (by omega)
    have e1 : (i : Int) + 1 = ((i + 1 : Nat) : Int) := by omega
    have e2 : ((i : Int) + (p : Int)).toNat = i + p := by omega
    have t1 := ht i (by omega)
    have t2 := ht (i + p) (by omega)
    have g1 := t1.1
    have g2 := t2.1
    have ih2 := ih (i + 1) (some (.inl ((i : Int) + (p : Int)))) (by omega)
    rw [zfa_s]
    by_cases hd : t i = t (i + p)
    · rw [if_pos (decide_eq_true hd)]
      have c5 : (t i = t (i + p)) = True := eq_true hd
      rw [e139_2]
      simp (disch := first | assumption | exact p_c2i | exact p_c2r | exact p_c2n | omega | ((repeat (first | refine p_a1i.trans ?_ | refine p_a1r.trans ?_)); exact p_a10) | ((repeat (first | refine p_wI ?_ | refine p_wR ?_)); exact p_w0) | decide) only [reduceIte, Int.reduceLT, Int.reduceLE, Int.reduceEq, Int.reduceToNat, Int.reduceAdd, Int.reduceSub, Int.reduceMul, Int.reduceNeg, e139_3, e139_4, e139_5, e139_6, e139_9, e139_10, e139_11, e139_12, e139_13, e139_14, e139_15, e139_18, e139_19, e139_22, e139_23, e139_26, e139_27, e139_28, e139_31, e139_32, e139_35, e139_36, e139_37, e139_38, e139_41, e139_42, e139_43, e139_44, e139_47, e139_48, e139_49, e139_52, e139_53, e139_54, e139_57, p_il2, p_push, p_il1, p_bin, p_cge, p_is3, p_c2n, p_c2i, p_c2r, p_al0, p_getR, p_alen, p_alenS, p_alen22, p_il3, p_iflt, p_clt, p_ret1, p_iald, p_ceq, p_ii2, p_goto, WN_nx, WN_nrt, WN_ite, zx_r7, n9, c1, c2, c3, c4, e2, g1, g2, c5, Int.toNat_natCast, e1]
      exact ih2
    · rw [if_neg (show ¬ decide (t i = t (i + p)) = true by rw [decide_eq_true_iff]; exact hd), if_neg (by decide)]
      rw [e139_2]
      simp (disch := first | assumption | exact p_c2i | exact p_c2r | exact p_c2n | omega | ((repeat (first | refine p_a1i.trans ?_ | refine p_a1r.trans ?_)); exact p_a10) | ((repeat (first | refine p_wI ?_ | refine p_wR ?_)); exact p_w0) | decide) only [reduceIte, Int.reduceLT, Int.reduceLE, Int.reduceEq, Int.reduceToNat, Int.reduceAdd, Int.reduceSub, Int.reduceMul, Int.reduceNeg, e139_3, e139_4, e139_5, e139_6, e139_9, e139_10, e139_11, e139_12, e139_13, e139_14, e139_15, e139_18, e139_19, e139_22, e139_23, e139_26, e139_27, e139_28, e139_31, e139_32, e139_35, e139_36, e139_37, e139_38, e139_41, e139_42, e139_43, e139_44, e139_47, e139_48, e139_49, e139_52, e139_53, e139_54, e139_57, p_il2, p_push, p_il1, p_bin, p_cge, p_is3, p_c2n, p_c2i, p_c2r, p_al0, p_getR, p_alen, p_alenS, p_alen22, p_il3, p_iflt, p_clt, p_ret1, p_iald, p_ceq, p_ii2, p_goto, WN_nx, WN_nrt, WN_ite, zx_r7, n9, c1, c2, c3, c4, e2, g1, g2, hd, Int.toNat_natCast]
theorem t_isPeriod {p : Nat} (hp : 1 ≤ p ∧ p ≤ 40) (ht : ∀ k, k < 120 → σ 3549 k = t k ∧ 0 ≤ t k ∧ t k < 4) : WM 139 [.inr (.inl (some 100)), .inl ((p : Int))] (3565, x, zrho) σ Q = Q (.inl (some (.inl (if aPer t p = true then 1 else 0)))) (3565, x, zrho) σ := by
  show Wp 139 0 [some (.inr (.inl (some 100))), some (.inl ((p : Int))), none, none] [] _ _ Q = _
  simp (disch := first | assumption | exact p_c2i | exact p_c2r | exact p_c2n | omega | ((repeat (first | refine p_a1i.trans ?_ | refine p_a1r.trans ?_)); exact p_a10) | ((repeat (first | refine p_wI ?_ | refine p_wR ?_)); exact p_w0) | decide) only [reduceIte, Int.reduceLT, Int.reduceLE, Int.reduceEq, Int.reduceToNat, Int.reduceAdd, Int.reduceSub, Int.reduceMul, Int.reduceNeg, e139_0, e139_1, p_push, p_is2, p_c2n, p_c2i, p_c2r, WN_nx, WN_nrt, WN_ite]
  exact l_isPeriod hp ht (2 * p) 0 none (by omega)
theorem l_periods {h : Int} (ht : ∀ k, k < 120 → σ 3549 k = t k ∧ 0 ≤ t k ∧ t k < 4) : ∀ (n p : Nat), p + n = 41 → 1 ≤ p → Wp 138 54 [some (.inr (.inl (some 100))), some (.inl h), some (.inl ((p : Int)))] [] (3565, x, zrho) σ Q = Q (.inl (some (.inl ((aFst (aPer t) p n : Nat) : Int)))) (3565, x, zrho) σ := by
  have k := zx_k
  intro n
  induction n with
  | zero =>
    intro p hp h1
    have c1 : ((40 : Int) < (p : Int)) = True := eq_true (by omega)
    simp (disch := first | assumption | exact p_c2i | exact p_c2r | exact p_c2n | omega | ((repeat (first | refine p_a1i.trans ?_ | refine p_a1r.trans ?_)); exact p_a10) | ((repeat (first | refine p_wI ?_ | refine p_wR ?_)); exact p_w0) | decide) only [reduceIte, Int.reduceLT, Int.reduceLE, Int.reduceEq, Int.reduceToNat, Int.reduceAdd, Int.reduceSub, Int.reduceMul, Int.reduceNeg, e138_54, e138_55, e138_57, e138_76, e138_77, p_il2, p_push, p_cgt, p_ret0, WN_nx, WN_nrt, WN_ite, c1]
    rfl
  | succ n ih =>
    intro p hp h1
    have c1 : ((40 : Int) < (p : Int)) = False := eq_false (by omega)
    have e1 : (p : Int) + 1 = ((p + 1 : Nat) : Int) := by omega
    have ih2 := ih (p + 1) (by omega) (by omega)
    have tp := fun (Q : ZO → ZT → ZI → Prop) => t_isPeriod (Q := Q) (x := x) (σ := σ) (t := t) (p := p) (by omega) ht
    rw [aFst_s]
    by_cases hd : aPer t p = true
    · rw [if_pos hd] at tp
      rw [if_pos hd]
      rw [e138_54]
      simp (disch := first | assumption | exact p_c2i | exact p_c2r | exact p_c2n | omega | ((repeat (first | refine p_a1i.trans ?_ | refine p_a1r.trans ?_)); exact p_a10) | ((repeat (first | refine p_wI ?_ | refine p_wR ?_)); exact p_w0) | decide) only [reduceIte, Int.reduceLT, Int.reduceLE, Int.reduceEq, Int.reduceToNat, Int.reduceAdd, Int.reduceSub, Int.reduceMul, Int.reduceNeg, e138_55, e138_57, e138_60, e138_61, e138_62, e138_65, e138_68, e138_69, e138_70, e138_73, p_il2, p_push, p_cgt, p_al0, p_cv1_0, p_cv1_1, p_cv1_2, p_cv1_3, p_cv1_4, zK_v, zK_0, WN_ncl, p_ifeq, p_ret0, p_ii2, p_goto, WN_nx, WN_nrt, WN_ite, c1, tp]
    · rw [if_neg hd] at tp
      rw [if_neg hd]
      rw [e138_54]
      simp (disch := first | assumption | exact p_c2i | exact p_c2r | exact p_c2n | omega | ((repeat (first | refine p_a1i.trans ?_ | refine p_a1r.trans ?_)); exact p_a10) | ((repeat (first | refine p_wI ?_ | refine p_wR ?_)); exact p_w0) | decide) only [reduceIte, Int.reduceLT, Int.reduceLE, Int.reduceEq, Int.reduceToNat, Int.reduceAdd, Int.reduceSub, Int.reduceMul, Int.reduceNeg, e138_55, e138_57, e138_60, e138_61, e138_62, e138_65, e138_68, e138_69, e138_70, e138_73, p_il2, p_push, p_cgt, p_al0, p_cv1_0, p_cv1_1, p_cv1_2, p_cv1_3, p_cv1_4, zK_v, zK_0, WN_ncl, p_ifeq, p_ret0, p_ii2, p_goto, WN_nx, WN_nrt, WN_ite, c1, tp, e1]
      exact ih2
theorem l_turnsAhead {h : Nat} (ok : zok N w) (hh : (h : Int) < w 0) (hN : N ≤ 80000000) (K : ∀ σ', (∀ a, a ≠ 3549 → (a < 3535 ∨ 3545 ≤ a) → σ' a = σ a) → Q (.inl (some (.inl ((aFst (aPer (aTr w h)) 1 40 : Nat) : Int)))) (3565, x, zrho) σ') : ∀ (n i : Nat) (σ1 : ZI), i + n = 120 → zLr σ1 3535 (aIt i w) → (∀ a, a ≠ 3549 → (a < 3535 ∨ 3545 ≤ a) → σ1 a = σ a) → (∀ k, k < i → σ1 3549 k = aTr w h k) → Wp 138 16 [some (.inr (.inl (some 100))), some (.inl ((h : Int))), some (.inl ((i : Int)))] [] (3565, x, zrho) σ1 Q := by
  have k := zx_k
  have kd := zd_k
  have k9 : zkd 3549 = 10 := rfl
  have n9 : zln 3549 = 120 := rfl
  have o0 := ok.1
  intro n
  induction n with
  | zero =>
    intro i σ1 hi hR hf ht
    have c1 : ((i : Int) < ((120 : Nat) : Int)) = False := eq_false (by omega)
    simp (disch := first | assumption | exact p_c2i | exact p_c2r | exact p_c2n | omega | ((repeat (first | refine p_a1i.trans ?_ | refine p_a1r.trans ?_)); exact p_a10) | ((repeat (first | refine p_wI ?_ | refine p_wR ?_)); exact p_w0) | decide) only [reduceIte, Int.reduceLT, Int.reduceLE, Int.reduceEq, Int.reduceToNat, Int.reduceAdd, Int.reduceSub, Int.reduceMul, Int.reduceNeg, e138_16, e138_17, e138_18, e138_21, e138_22, e138_25, e138_26, e138_29, e138_32, e138_33, e138_36, e138_37, e138_38, e138_41, e138_42, e138_45, e138_46, e138_49, e138_52, e138_53, p_il2, p_al0, p_getR, p_alen, p_alenS, p_alen22, p_cge, p_cv0_0, p_cv0_1, p_cv0_2, p_cv0_3, p_cv0_4, zK_v, zK_0, WN_ncl, p_il1, p_cv1_0, p_cv1_1, p_cv1_2, p_cv1_3, p_cv1_4, p_iast, p_ii2, p_goto, p_push, p_is2, p_c2n, p_c2i, p_c2r, WN_nx, WN_nrt, WN_ite, zx_r7, n9, c1]
    refine Eq.mpr (l_periods (σ := σ1) (Q := Q) (x := x) (t := aTr w h) (fun k hk => ⟨ht k (by omega), aTr_in ok hh⟩) 40 1 rfl (Nat.le_refl _)) ?_
    exact K σ1 hf
  | succ n ih =>
    intro i σ1 hi hR hf ht
    obtain ⟨h1, h2, h3⟩ := aIt_ok ok i
    obtain ⟨g1, g2, g3⟩ := aIt_ok ok (i + 1)
    have c1 : ((i : Int) < ((120 : Nat) : Int)) = True := eq_true (by omega)
    have e1 : (i : Int) + 1 = ((i + 1 : Nat) : Int) := by omega
    rw [e138_16]
    simp (disch := first | assumption | exact p_c2i | exact p_c2r | exact p_c2n | omega | ((repeat (first | refine p_a1i.trans ?_ | refine p_a1r.trans ?_)); exact p_a10) | ((repeat (first | refine p_wI ?_ | refine p_wR ?_)); exact p_w0) | decide) only [reduceIte, Int.reduceLT, Int.reduceLE, Int.reduceEq, Int.reduceToNat, Int.reduceAdd, Int.reduceSub, Int.reduceMul, Int.reduceNeg, e138_17, e138_18, e138_21, e138_22, e138_25, e138_26, e138_29, p_il2, p_al0, p_getR, p_alen, p_alenS, p_alen22, p_cge, p_cv0_0, p_cv0_1, p_cv0_2, p_cv0_3, p_cv0_4, zK_v, zK_0, WN_ncl, WN_nx, WN_nrt, WN_ite, zx_r7, n9, c1, zx_r5]
    refine t_moveAll (L := 3535) kd hR h1 (by omega) (fun σ3 hR3 hf3 hl3 => ?_)
    rw [zK_0]
    have h0 := hR3.h0
    have gg : aStep (aIt i w) 0 = w 0 := g2
    rw [gg] at h0
    have hl := hl3 h (by rw [h2]; exact hh)
    have tm := fun (Q : ZO → ZT → ZI → Prop) => t_latestTurnOfHoe (L := 3535) (Q := Q) (x := x) (σ := σ3) (h := (h : Int)) kd (by omega) (by omega) (by omega)
    rw [Int.toNat_natCast, hl] at tm
    simp (disch := first | assumption | exact p_c2i | exact p_c2r | exact p_c2n | omega | ((repeat (first | refine p_a1i.trans ?_ | refine p_a1r.trans ?_)); exact p_a10) | ((repeat (first | refine p_wI ?_ | refine p_wR ?_)); exact p_w0) | decide) only [reduceIte, Int.reduceLT, Int.reduceLE, Int.reduceEq, Int.reduceToNat, Int.reduceAdd, Int.reduceSub, Int.reduceMul, Int.reduceNeg, e138_32, e138_33, e138_36, e138_37, e138_38, e138_41, e138_42, e138_45, e138_46, e138_49, p_al0, p_getR, p_il2, p_il1, p_cv1_0, p_cv1_1, p_cv1_2, p_cv1_3, p_cv1_4, zK_v, zK_0, WN_ncl, p_iast, p_ii2, p_goto, WN_nx, WN_nrt, WN_ite, zx_r5, zx_r7, tm, Int.toNat_natCast, e1]
    refine ih (i + 1) _ (by omega) (hR3.frame (fun a _ _ => zup_f (by omega))) (fun a h1 h2 => ?_) (fun k hk => ?_)
    · rw [zup_f h1, hf3 a (by omega)]
      exact hf a h1 h2
    · by_cases e : k = i
      · subst e; rw [zup_s]; rfl
      · rw [zup_j e, hf3 3549 (by omega)]
        exact ht k (by omega)
theorem t_periodAhead {h : Nat} (hR : zLr σ 102 w) (ok : zok N w) (hh : (h : Int) < w 0) (hN : N ≤ 80000000) (K : ∀ σ', (∀ a, a ≠ 3549 → (a < 3535 ∨ 3545 ≤ a) → σ' a = σ a) → Q (.inl (some (.inl ((aFst (aPer (aTr w h)) 1 40 : Nat) : Int)))) (3565, x, zrho) σ') : WM 138 [.inr (.inl (some 100)), .inl ((h : Int))] (3565, x, zrho) σ Q := by
  show Wp 138 0 [some (.inr (.inl (some 100))), some (.inl ((h : Int))), none] [] _ _ Q
  have k := zx_k
  have k1 := zx_k1
  have k2 := zx_k2
  have kd := zd_k
  simp (disch := first | assumption | exact p_c2i | exact p_c2r | exact p_c2n | omega | ((repeat (first | refine p_a1i.trans ?_ | refine p_a1r.trans ?_)); exact p_a10) | ((repeat (first | refine p_wI ?_ | refine p_wR ?_)); exact p_w0) | decide) only [reduceIte, Int.reduceLT, Int.reduceLE, Int.reduceEq, Int.reduceToNat, Int.reduceAdd, Int.reduceSub, Int.reduceMul, Int.reduceNeg, e138_0, e138_1, e138_4, e138_5, e138_8, e138_11, p_al0, p_getR, p_cv1_0, p_cv1_1, p_cv1_2, p_cv1_3, p_cv1_4, zK_v, zK_0, WN_ncl, WN_nx, WN_nrt, WN_ite, zx_r0, zx_l, zx_r5]
  refine t_copyLawn (L := 3535) (M := 102) kd k2 (by omega) (fun σ2 hc hf => ?_)
  rw [zK_0]
  simp (disch := first | assumption | exact p_c2i | exact p_c2r | exact p_c2n | omega | ((repeat (first | refine p_a1i.trans ?_ | refine p_a1r.trans ?_)); exact p_a10) | ((repeat (first | refine p_wI ?_ | refine p_wR ?_)); exact p_w0) | decide) only [reduceIte, Int.reduceLT, Int.reduceLE, Int.reduceEq, Int.reduceToNat, Int.reduceAdd, Int.reduceSub, Int.reduceMul, Int.reduceNeg, e138_14, e138_15, p_push, p_is2, p_c2n, p_c2i, p_c2r, WN_nx, WN_nrt, WN_ite]
  exact l_turnsAhead ok hh hN K 120 0 σ2 (by omega) (hc w ok.b.1 ok.b.2 hR) (fun a _ ha => hf a (by omega)) (fun k hk => absurd hk (Nat.not_lt_zero _))
theorem t_inverseFits (hR : zSr σ 101 w) (ok : zSok N w) (h0 : 0 < w 201) (K : ∀ σ', zfr σ σ' 3535 → Q (.inl (some (.inl (aLook (aInvN (w 0).toNat w) (zgl (w 201 - 1).toNat w))))) (3565, x, zrho) σ') : WM 134 [.inr (.inl (some 100))] (3565, x, zrho) σ Q := by
  show Wp 134 0 [some (.inr (.inl (some 100))), none] [] _ _ Q
  have k := zx_k
  have k1 := zx_k1
  have k2 := zx_k2
  have kd := zd_k
  have hR0 := hR
  obtain ⟨o, ho, h1, h2, h3, h4, h5⟩ := hR
  have o1 := ok.1
  obtain ⟨n, hn⟩ : ∃ n : Nat, w 201 = (n : Int) + 1 := ⟨(w 201 - 1).toNat, by omega⟩
  have h2n : σ 101 3 = ((n + 1 : Nat) : Int) := by rw [h2, hn]; omega
  have ta := fun (Q : ZO → ZT → ZI → Prop) => t_aheadOfLatest (S := 101) (Q := Q) (x := x) (σ := σ) (n := n + 1) zx_s ho h1 h2n (by omega)
  rw [if_pos (by omega), show n + 1 - 1 = n by omega] at ta
  obtain ⟨m, hm⟩ : ∃ m : Nat, (o + n) % 30 = m := ⟨_, rfl⟩
  have hm30 : m < 30 := by omega
  rw [hm] at ta
  have kp1 := zs_kp (S := 101) (m := m) zx_s hm30
  have en : (w 201 - 1).toNat = n := by omega
  rw [en] at K
  have hz := h5 n (by omega)
  rw [hm] at hz
  have okn := (ok.2.2.2 n (by omega)).1
  generalize hM : 101 + 12 + 10 * m = M at kp1 ta hz
  simp (disch := first | assumption | exact p_c2i | exact p_c2r | exact p_c2n | omega | ((repeat (first | refine p_a1i.trans ?_ | refine p_a1r.trans ?_)); exact p_a10) | ((repeat (first | refine p_wI ?_ | refine p_wR ?_)); exact p_w0) | decide) only [reduceIte, Int.reduceLT, Int.reduceLE, Int.reduceEq, Int.reduceToNat, Int.reduceAdd, Int.reduceSub, Int.reduceMul, Int.reduceNeg, e134_0, e134_1, e134_4, e134_7, e134_8, e134_9, e134_12, e134_13, e134_14, e134_15, e134_18, e134_19, e134_22, e134_25, p_al0, p_getR, p_cv0_0, p_cv0_1, p_cv0_2, p_cv0_3, p_cv0_4, zK_v, zK_0, WN_ncl, p_as1, p_c2n, p_c2i, p_c2r, p_al1, p_nn0, p_nn1, p_push, p_ret1, p_cv1_0, p_cv1_1, p_cv1_2, p_cv1_3, p_cv1_4, WN_nx, WN_nrt, WN_ite, zx_r0, zx_l, zx_r5, ta]
  refine t_copyLawn (L := 3535) (M := 102) kd k2 (by omega) (fun σ2 hc hf => ?_)
  rw [zK_0]
  simp (disch := first | assumption | exact p_c2i | exact p_c2r | exact p_c2n | omega | ((repeat (first | refine p_a1i.trans ?_ | refine p_a1r.trans ?_)); exact p_a10) | ((repeat (first | refine p_wI ?_ | refine p_wR ?_)); exact p_w0) | decide) only [reduceIte, Int.reduceLT, Int.reduceLE, Int.reduceEq, Int.reduceToNat, Int.reduceAdd, Int.reduceSub, Int.reduceMul, Int.reduceNeg, e134_28, e134_29, e134_32, p_al0, p_getR, p_cv0_0, p_cv0_1, p_cv0_2, p_cv0_3, p_cv0_4, zK_v, zK_0, WN_ncl, WN_nx, WN_nrt, WN_ite, zx_r5]
  refine t_makeInverse (L := 3535) kd (hc w ok.2.2.1.b.1 ok.2.2.1.b.2 h4) ok.2.2.1 (fun σ3 hR3 hf3 => ?_)
  rw [zK_0]
  have o0 := ok.2.2.1.1
  have okI := (aInvN_ok (w 0).toNat ok.2.2.1 (by omega)).1
  have hz3 : zLr σ3 M (zgl n w) := hz.frame (fun a _ _ => by rw [hf3 a (by omega), hf a (by omega)])
  have tl := fun (Q : ZO → ZT → ZI → Prop) => t_looksLike (L := 3535) (M := M) (Q := Q) (x := x) kd kp1 hR3 hz3 okI okn
  have hl : aLook (aInvN (w 0).toNat w) (zgl n w) = 0 ∨ aLook (aInvN (w 0).toNat w) (zgl n w) = 1 := by
    unfold aLook
    split
    · split
      · split
        · exact Or.inr rfl
        · exact Or.inl rfl
      · exact Or.inl rfl
    · exact Or.inl rfl
  have e := K σ3 (zfr_t hf hf3)
  rcases hl with hl | hl
  · rw [hl] at tl e
    simp (disch := first | assumption | exact p_c2i | exact p_c2r | exact p_c2n | omega | ((repeat (first | refine p_a1i.trans ?_ | refine p_a1r.trans ?_)); exact p_a10) | ((repeat (first | refine p_wI ?_ | refine p_wR ?_)); exact p_w0) | decide) only [reduceIte, Int.reduceLT, Int.reduceLE, Int.reduceEq, Int.reduceToNat, Int.reduceAdd, Int.reduceSub, Int.reduceMul, Int.reduceNeg, e134_35, e134_36, e134_39, e134_40, e134_43, p_al0, p_getR, p_al1, p_cv1_0, p_cv1_1, p_cv1_2, p_cv1_3, p_cv1_4, zK_v, zK_0, WN_ncl, p_ret1, WN_nx, WN_nrt, WN_ite, zx_r5, tl]
    exact e
  · rw [hl] at tl e
    simp (disch := first | assumption | exact p_c2i | exact p_c2r | exact p_c2n | omega | ((repeat (first | refine p_a1i.trans ?_ | refine p_a1r.trans ?_)); exact p_a10) | ((repeat (first | refine p_wI ?_ | refine p_wR ?_)); exact p_w0) | decide) only [reduceIte, Int.reduceLT, Int.reduceLE, Int.reduceEq, Int.reduceToNat, Int.reduceAdd, Int.reduceSub, Int.reduceMul, Int.reduceNeg, e134_35, e134_36, e134_39, e134_40, e134_43, p_al0, p_getR, p_al1, p_cv1_0, p_cv1_1, p_cv1_2, p_cv1_3, p_cv1_4, zK_v, zK_0, WN_ncl, p_ret1, WN_nx, WN_nrt, WN_ite, zx_r5, tl]
    exact e
end
