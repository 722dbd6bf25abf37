/-! TEXTS as objects; LINES: rowLine, turnLine, character of both sides -/
theorem zand255 : ∀ n : Nat, n < 128 → z_and (n : Int) 255 = (n : Int) := by decide +kernel
theorem zshr0 : ∀ n : Nat, n < 16 → z_shr (n : Int) 0 = (n : Int) := by decide +kernel
theorem p_chk {n : Nat} {ls : ZL} {st : List ZV} {θ : ZT} {σ : ZI} {x y : Int} (h1 : zinR x) (h2 : zinR y) (h3 : 0 ≤ x) (h4 : x < y) (h5 : (st.map z_w).sum ≤ 8) : o_chk n ls (.inl y :: .inl x :: st) θ σ = nx n ls st θ σ := if_pos ⟨⟨h1, h2⟩, ⟨h3, h4⟩, h5⟩
theorem p_sval {n a : Nat} {ls : ZL} {st : List ZV} {θ : ZT} {σ : ZI} (h : zkd a = 21) : o_sval n ls (.inr (.inl (some a)) :: st) θ σ = nx n ls (.inr (.inl (some (a + 11))) :: st) θ σ := if_pos h
theorem p_scod {n a : Nat} {ls : ZL} {st : List ZV} {θ : ZT} {σ : ZI} (h : zkd a = 21) : o_scod n ls (.inr (.inl (some a)) :: st) θ σ = nx n ls (.inl 0 :: st) θ σ := if_pos h
section
variable {σ τ : ZI} {θ : ZT} {Q : ZO → ZT → ZI → Prop} {x n : Nat} {w : zW} {N : Int}
theorem t_isLat {a : Nat} (h : zkd a = 21) : WM 227 [.inr (.inl (some a))] θ σ Q = Q (.inl (some (.inl 1))) θ σ := by
  show Wp 227 0 [some (.inr (.inl (some a)))] [] _ _ Q = _
  have d : ((1 : Int) = 0) = False := eq_false (by omega)
  simp (disch := first | assumption | exact p_c2i | exact p_c2r | exact p_c2n | omega | ((repeat (first | refine p_a1i.trans ?_ | refine p_a1r.trans ?_)); exact p_a10) | ((repeat (first | refine p_wI ?_ | refine p_wR ?_)); exact p_w0) | decide) only [reduceIte, Int.reduceLT, Int.reduceLE, Int.reduceEq, Int.reduceToNat, Int.reduceAdd, Int.reduceSub, Int.reduceMul, Int.reduceNeg, e227_0, e227_3, e227_6, e227_7, e227_10, e227_13, e227_14, e227_17, e227_18, p_push, p_ifeq, p_al0, p_ifne, p_goto, p_ret1, WN_nx, WN_nrt, WN_ite, p_scod h, d]
theorem t_coder {a : Nat} (h : zkd a = 21) : WM 226 [.inr (.inl (some a))] θ σ Q = Q (.inl (some (.inl 0))) θ σ := by
  show Wp 226 0 [some (.inr (.inl (some a)))] [] _ _ Q = _
  have d : ((1 : Int) = 0) = False := eq_false (by omega)
  simp (disch := first | assumption | exact p_c2i | exact p_c2r | exact p_c2n | omega | ((repeat (first | refine p_a1i.trans ?_ | refine p_a1r.trans ?_)); exact p_a10) | ((repeat (first | refine p_wI ?_ | refine p_wR ?_)); exact p_w0) | decide) only [reduceIte, Int.reduceLT, Int.reduceLE, Int.reduceEq, Int.reduceToNat, Int.reduceAdd, Int.reduceSub, Int.reduceMul, Int.reduceNeg, e226_0, e226_3, e226_6, e226_7, e226_10, e226_13, e226_14, p_push, p_ifeq, p_al0, p_goto, p_ret3, WN_nx, WN_nrt, WN_ite, p_scod h, d]
theorem t_len {a m : Nat} (h : zkd a = 21) (h2 : zkd (a + 11) = 22) (hm : zln (a + 11) = m) (h16 : m < 16) : WM 224 [.inr (.inl (some a))] θ σ Q = Q (.inl (some (.inl (m : Int)))) θ σ := by
  show Wp 224 0 [some (.inr (.inl (some a)))] [] _ _ Q = _
  have e := zshr0 m h16
  simp (disch := first | assumption | exact p_c2i | exact p_c2r | exact p_c2n | omega | ((repeat (first | refine p_a1i.trans ?_ | refine p_a1r.trans ?_)); exact p_a10) | ((repeat (first | refine p_wI ?_ | refine p_wR ?_)); exact p_w0) | decide) only [reduceIte, Int.reduceLT, Int.reduceLE, Int.reduceEq, Int.reduceToNat, Int.reduceAdd, Int.reduceSub, Int.reduceMul, Int.reduceNeg, e224_0, e224_1, e224_4, e224_5, e224_6, e224_9, e224_10, p_al0, p_alen, p_alenS, p_alen22, p_cv0_0, p_cv0_1, p_cv0_2, p_cv0_3, p_cv0_4, zK_v, zK_0, WN_ncl, p_bin, p_ret0, WN_nx, WN_nrt, WN_ite, p_sval h, t_coder h, hm, e]
theorem t_chr1 {b i v : Nat} (h2 : zkd b = 22) (hi : i < zln b) (hb : zln b < 16) (hv : σ b i = (v : Int)) (h128 : v < 128) : WM 228 [.inr (.inl (some b)), .inl ((i : Int))] θ σ Q = Q (.inl (some (.inl (v : Int)))) θ σ := by
  show Wp 228 0 [some (.inr (.inl (some b))), some (.inl ((i : Int)))] [] _ _ Q = _
  have e := zand255 v h128
  have hi2 : (i : Int) < ((zln b : Nat) : Int) := by omega
  have r1 : zinR (i : Int) := by unfold zinR; omega
  have r2 : zinR ((zln b : Nat) : Int) := by unfold zinR; omega
  have s8 : (List.map z_w ([] : List ZV)).sum ≤ 8 := by decide
  have e2 : (v : Int) % 65536 = (v : Int) := by omega
  simp (disch := first | assumption | exact p_c2i | exact p_c2r | exact p_c2n | omega | ((repeat (first | refine p_a1i.trans ?_ | refine p_a1r.trans ?_)); exact p_a10) | ((repeat (first | refine p_wI ?_ | refine p_wR ?_)); exact p_w0) | decide) only [reduceIte, Int.reduceLT, Int.reduceLE, Int.reduceEq, Int.reduceToNat, Int.reduceAdd, Int.reduceSub, Int.reduceMul, Int.reduceNeg, e228_0, e228_1, e228_2, e228_3, e228_6, e228_7, e228_8, e228_9, e228_12, e228_13, e228_14, p_il1, p_al0, p_alen, p_alenS, p_alen22, p_bald, p_bytld, p_push, p_bin, p_i2c, p_ret2, WN_nx, WN_nrt, WN_ite, p_chk r1 r2 (Int.natCast_nonneg i) hi2 s8, hv, e, e2, Int.toNat_natCast]
theorem t_chr {a i v : Nat} (h : zkd a = 21) (h2 : zkd (a + 11) = 22) (hi : i < zln (a + 11)) (hb : zln (a + 11) < 16) (hv : σ (a + 11) i = (v : Int)) (h128 : v < 128) : WM 225 [.inr (.inl (some a)), .inl ((i : Int))] θ σ Q = Q (.inl (some (.inl (v : Int)))) θ σ := by
  show Wp 225 0 [some (.inr (.inl (some a))), some (.inl ((i : Int)))] [] _ _ Q = _
  have d : ((1 : Int) = 0) = False := eq_false (by omega)
  have t := fun (Q : ZO → ZT → ZI → Prop) => t_chr1 (θ := θ) (Q := Q) (σ := σ) h2 hi hb hv h128
  simp (disch := first | assumption | exact p_c2i | exact p_c2r | exact p_c2n | omega | ((repeat (first | refine p_a1i.trans ?_ | refine p_a1r.trans ?_)); exact p_a10) | ((repeat (first | refine p_wI ?_ | refine p_wR ?_)); exact p_w0) | decide) only [reduceIte, Int.reduceLT, Int.reduceLE, Int.reduceEq, Int.reduceToNat, Int.reduceAdd, Int.reduceSub, Int.reduceMul, Int.reduceNeg, e225_0, e225_1, e225_4, e225_7, e225_8, e225_11, e225_12, e225_15, e225_16, e225_17, e225_20, e225_24, p_al0, p_cv0_0, p_cv0_1, p_cv0_2, p_cv0_3, p_cv0_4, zK_v, zK_0, WN_ncl, p_ifeq, p_il1, p_cs2_0, p_cs2_1, p_cs2_2, p_cs2_3, p_cs2_4, p_ret2, WN_nx, WN_nrt, WN_ite, t_isLat h, d, p_sval h, t]
end
/-- a turn's letter -/
def aLet (t : Int) : Int := if t = 1 then 82 else if t = 2 then 76 else if t = 3 then 85 else 78
def zLnC (σ σ' : ZI) (n : Nat) (f : Nat → Int) : Prop := σ' 100 11 = (n : Int) ∧ (∀ k, k < n → σ' 3552 k = f k) ∧ (∀ j, j ≠ 11 → σ' 100 j = σ 100 j) ∧ ∀ a, a ≠ 100 → a ≠ 3552 → σ' a = σ a
def zLnM (τ τ' : ZI) (n : Nat) (f : Nat → Int) : Prop := τ' 3553 15 = (n : Int) ∧ (∀ k, k < n → τ' 3560 k = f k) ∧ τ' 3553 8 = 0 ∧ (∀ j, j ≠ 8 → j ≠ 15 → τ' 3553 j = τ 3553 j) ∧ ∀ a, a ≠ 3553 → a ≠ 3560 → τ' a = τ a
section
variable {σ τ : ZI} {θ : ZT} {Q : ZO → ZT → ZI → Prop} {x n : Nat} {w : zW} {N : Int}
theorem t_letter {t : Int} (h1 : 0 ≤ t) (h2 : t < 4) : WM 109 [.inl t] θ σ Q = Q (.inl (some (.inl (aLet t)))) θ σ := by
  show Wp 109 0 [some (.inl t)] [] _ _ Q = _
  rcases (show t = 0 ∨ t = 1 ∨ t = 2 ∨ t = 3 by omega) with z | z | z | z
  · subst z
    simp (disch := first | assumption | exact p_c2i | exact p_c2r | exact p_c2n | omega | ((repeat (first | refine p_a1i.trans ?_ | refine p_a1r.trans ?_)); exact p_a10) | ((repeat (first | refine p_wI ?_ | refine p_wR ?_)); exact p_w0) | decide) only [reduceIte, Int.reduceLT, Int.reduceLE, Int.reduceEq, Int.reduceToNat, Int.reduceAdd, Int.reduceSub, Int.reduceMul, Int.reduceNeg, e109_0, e109_1, e109_28, e109_30, e109_31, e109_33, e109_34, e109_36, e109_37, e109_39, p_il0, p_sw, zsw, p_push, p_ret2, WN_nx, WN_nrt, WN_ite]
    rfl
  · subst z
    simp (disch := first | assumption | exact p_c2i | exact p_c2r | exact p_c2n | omega | ((repeat (first | refine p_a1i.trans ?_ | refine p_a1r.trans ?_)); exact p_a10) | ((repeat (first | refine p_wI ?_ | refine p_wR ?_)); exact p_w0) | decide) only [reduceIte, Int.reduceLT, Int.reduceLE, Int.reduceEq, Int.reduceToNat, Int.reduceAdd, Int.reduceSub, Int.reduceMul, Int.reduceNeg, e109_0, e109_1, e109_28, e109_30, e109_31, e109_33, e109_34, e109_36, e109_37, e109_39, p_il0, p_sw, zsw, p_push, p_ret2, WN_nx, WN_nrt, WN_ite]
    rfl
  · subst z
    simp (disch := first | assumption | exact p_c2i | exact p_c2r | exact p_c2n | omega | ((repeat (first | refine p_a1i.trans ?_ | refine p_a1r.trans ?_)); exact p_a10) | ((repeat (first | refine p_wI ?_ | refine p_wR ?_)); exact p_w0) | decide) only [reduceIte, Int.reduceLT, Int.reduceLE, Int.reduceEq, Int.reduceToNat, Int.reduceAdd, Int.reduceSub, Int.reduceMul, Int.reduceNeg, e109_0, e109_1, e109_28, e109_30, e109_31, e109_33, e109_34, e109_36, e109_37, e109_39, p_il0, p_sw, zsw, p_push, p_ret2, WN_nx, WN_nrt, WN_ite]
    rfl
  · subst z
    simp (disch := first | assumption | exact p_c2i | exact p_c2r | exact p_c2n | omega | ((repeat (first | refine p_a1i.trans ?_ | refine p_a1r.trans ?_)); exact p_a10) | ((repeat (first | refine p_wI ?_ | refine p_wR ?_)); exact p_w0) | decide) only [reduceIte, Int.reduceLT, Int.reduceLE, Int.reduceEq, Int.reduceToNat, Int.reduceAdd, Int.reduceSub, Int.reduceMul, Int.reduceNeg, e109_0, e109_1, e109_28, e109_30, e109_31, e109_33, e109_34, e109_36, e109_37, e109_39, p_il0, p_sw, zsw, p_push, p_ret2, WN_nx, WN_nrt, WN_ite]
    rfl
theorem l_rowC {r : Nat} (hr : r < 9) (hR0 : zSr σ 101 w) (ok : zSok N w) (K : ∀ σ', zLnC σ σ' 9 (fun k => aSign w (9 * r + k)) → Q (.inl (some (.inl 9))) (3565, x, zrho) σ') : ∀ (n i : Nat) (σ1 : ZI), i + n = 9 → σ1 100 11 = 9 → (∀ k, k < i → σ1 3552 k = aSign w (9 * r + k)) → (∀ j, j ≠ 11 → σ1 100 j = σ 100 j) → (∀ a, a ≠ 100 → a ≠ 3552 → σ1 a = σ a) → Wp 91 31 [some (.inr (.inl (some 100))), some (.inl ((r : Int))), some (.inl ((i : Int)))] [] (3565, x, zrho) σ1 Q := by
  have k := zx_k
  have k1 := zx_k1
  have k2 := zx_k2
  have k52 : zkd 3552 = 12 := rfl
  have n52 : zln 3552 = 9 := rfl
  have r10 := zx_r10
  intro n
  induction n with
  | zero =>
    intro i σ1 hi h1 h2 h3 h4
    have e : i = 9 := by omega
    subst e
    simp (disch := first | assumption | exact p_c2i | exact p_c2r | exact p_c2n | omega | ((repeat (first | refine p_a1i.trans ?_ | refine p_a1r.trans ?_)); exact p_a10) | ((repeat (first | refine p_wI ?_ | refine p_wR ?_)); exact p_w0) | decide) only [reduceIte, Int.reduceLT, Int.reduceLE, Int.reduceEq, Int.reduceToNat, Int.reduceAdd, Int.reduceSub, Int.reduceMul, Int.reduceNeg, e91_31, e91_32, e91_33, e91_36, e91_37, e91_67, e91_68, e91_71, p_il2, p_al0, p_getR, p_alen, p_alenS, p_alen22, p_cge, p_getI, p_ret0, WN_nx, WN_nrt, WN_ite, r10, n52, show ((9 : Nat) : Int) = 9 from rfl, h1]
    exact K σ1 ⟨h1, h2, h3, h4⟩
  | succ n ih =>
    intro i σ1 hi h1 h2 h3 h4
    have c1 : ((i : Int) < ((9 : Nat) : Int)) = True := eq_true (by omega)
    have e1 : (i : Int) + 1 = ((i + 1 : Nat) : Int) := by omega
    have e9 : 9 * (r : Int) + (i : Int) = ((9 * r + i : Nat) : Int) := by omega
    have hR := hR0.frame (fun a _ _ => h4 a (by omega) (by omega))
    have ts := fun (Q : ZO → ZT → ZI → Prop) => t_signOf (L := 102) (c := 9 * r + i) (x := x) (σ := σ1) (Q := Q) k2 hR.l ok.2.2.1 (by omega)
    have sb := aSign_in (w := w) (c := 9 * r + i) ok.2.2.1 (by omega)
    rw [e91_31]
    simp (disch := first | assumption | exact p_c2i | exact p_c2r | exact p_c2n | omega | ((repeat (first | refine p_a1i.trans ?_ | refine p_a1r.trans ?_)); exact p_a10) | ((repeat (first | refine p_wI ?_ | refine p_wR ?_)); exact p_w0) | decide) only [reduceIte, Int.reduceLT, Int.reduceLE, Int.reduceEq, Int.reduceToNat, Int.reduceAdd, Int.reduceSub, Int.reduceMul, Int.reduceNeg, e91_32, e91_33, e91_36, e91_37, e91_40, e91_41, e91_44, e91_45, e91_46, e91_49, e91_52, e91_53, e91_54, e91_57, e91_60, e91_61, e91_64, p_il2, p_al0, p_getR, p_alen, p_alenS, p_alen22, p_cge, p_il1, p_cs2_0, p_cs2_1, p_cs2_2, p_cs2_3, p_cs2_4, zK_v, zK_0, WN_ncl, p_cv1_0, p_cv1_1, p_cv1_2, p_cv1_3, p_cv1_4, p_cast, p_ii2, p_goto, WN_nx, WN_nrt, WN_ite, r10, n52, c1, zx_r0, zx_l, t_cellOf, e9, ts, Int.toNat_natCast, e1]
    refine ih (i + 1) _ (by omega) ?_ (fun k hk => ?_) (fun j hj => ?_) (fun a ha hb => ?_)
    · rw [zup_f (by omega)]; exact h1
    · by_cases e : k = i
      · subst e; exact zup_s
      · rw [zup_j e]; exact h2 k (by omega)
    · rw [zup_f (by omega)]; exact h3 j hj
    · rw [zup_f hb]; exact h4 a ha hb
theorem t_rowLineC {r : Int} (hR : zSr σ 101 w) (ok : zSok N w) (hr : -2147483648 ≤ r ∧ r < 2147483648) (K1 : ¬ (0 ≤ r ∧ r ≤ 8) → Q (.inr 0) (3565, x + 1, zrho) σ) (K0 : (0 ≤ r ∧ r ≤ 8) → ∀ σ', zLnC σ σ' 9 (fun k => aSign w (9 * r.toNat + k)) → Q (.inl (some (.inl 9))) (3565, x, zrho) σ') : WM 91 [.inr (.inl (some 100)), .inl r] (3565, x, zrho) σ Q := by
  show Wp 91 0 [some (.inr (.inl (some 100))), some (.inl r), none] [] _ _ Q
  have k := zx_k
  have n52 : zln 3552 = 9 := rfl
  have r10 := zx_r10
  by_cases c1 : 0 ≤ r ∧ r ≤ 8
  · have K0 := K0 c1
    obtain ⟨m, hm⟩ : ∃ m : Nat, r = (m : Int) := ⟨r.toNat, by omega⟩
    subst hm
    have d0 : ((m : Int) < 0) = False := eq_false (by omega)
    have d1 : ((m : Int) < 9) = True := eq_true (by omega)
    simp (disch := first | assumption | exact p_c2i | exact p_c2r | exact p_c2n | omega | ((repeat (first | refine p_a1i.trans ?_ | refine p_a1r.trans ?_)); exact p_a10) | ((repeat (first | refine p_wI ?_ | refine p_wR ?_)); exact p_w0) | decide) only [reduceIte, Int.reduceLT, Int.reduceLE, Int.reduceEq, Int.reduceToNat, Int.reduceAdd, Int.reduceSub, Int.reduceMul, Int.reduceNeg, e91_0, e91_1, e91_4, e91_5, e91_7, e91_10, e91_20, e91_21, e91_22, e91_25, e91_26, e91_29, e91_30, p_il1, p_iflt, p_push, p_clt, o_throw, p_al0, p_getR, p_alen, p_alenS, p_alen22, p_putI, p_is2, p_c2n, p_c2i, p_c2r, WN_nx, WN_nrt, WN_ite, d0, d1, r10, n52]
    have l := l_rowC (σ := σ) (Q := Q) (x := x) (r := m) (by omega) hR ok K0 9 0 (zup σ 100 11 ((9 : Nat) : Int)) rfl zup_s (fun k hk => absurd hk (Nat.not_lt_zero k)) (fun j hj => zup_j hj) (fun a ha hb => zup_f ha)
    rw [show ((0 : Nat) : Int) = 0 from rfl] at l
    exact l
  · by_cases z : r < 0
    · have d0 : (r < 0) = True := eq_true z
      simp (disch := first | assumption | exact p_c2i | exact p_c2r | exact p_c2n | omega | ((repeat (first | refine p_a1i.trans ?_ | refine p_a1r.trans ?_)); exact p_a10) | ((repeat (first | refine p_wI ?_ | refine p_wR ?_)); exact p_w0) | decide) only [reduceIte, Int.reduceLT, Int.reduceLE, Int.reduceEq, Int.reduceToNat, Int.reduceAdd, Int.reduceSub, Int.reduceMul, Int.reduceNeg, e91_0, e91_1, e91_4, e91_5, e91_7, e91_10, p_il1, p_iflt, p_push, p_clt, o_throw, WN_nx, WN_nrt, WN_ite, d0, p_throw]
      exact K1 c1
    · have d0 : (r < 0) = False := eq_false z
      have d1 : (r < 9) = False := eq_false (by omega)
      simp (disch := first | assumption | exact p_c2i | exact p_c2r | exact p_c2n | omega | ((repeat (first | refine p_a1i.trans ?_ | refine p_a1r.trans ?_)); exact p_a10) | ((repeat (first | refine p_wI ?_ | refine p_wR ?_)); exact p_w0) | decide) only [reduceIte, Int.reduceLT, Int.reduceLE, Int.reduceEq, Int.reduceToNat, Int.reduceAdd, Int.reduceSub, Int.reduceMul, Int.reduceNeg, e91_0, e91_1, e91_4, e91_5, e91_7, e91_10, p_il1, p_iflt, p_push, p_clt, o_throw, WN_nx, WN_nrt, WN_ite, d0, d1, p_throw]
      exact K1 c1
theorem aLet_in {t : Int} : 0 ≤ aLet t ∧ aLet t < 128 := by unfold aLet; split; omega; split; omega; split <;> omega
theorem l_turnC {m : Nat} (hm : w 1 = (m : Int)) (hR0 : zSr σ 101 w) (ok : zSok N w) (K : ∀ σ', zLnC σ σ' m (fun k => aLet (w (6 + k))) → Q (.inl (some (.inl (m : Int)))) (3565, x, zrho) σ') : ∀ (n i : Nat) (σ1 : ZI), i + n = m → σ1 100 11 = (m : Int) → (∀ k, k < i → σ1 3552 k = aLet (w (6 + k))) → (∀ j, j ≠ 11 → σ1 100 j = σ 100 j) → (∀ a, a ≠ 100 → a ≠ 3552 → σ1 a = σ a) → Wp 92 24 [some (.inr (.inl (some 100))), some (.inl ((i : Int)))] [] (3565, x, zrho) σ1 Q := by
  have k := zx_k
  have k1 := zx_k1
  have k2 := zx_k2
  have k52 : zkd 3552 = 12 := rfl
  have n52 : zln 3552 = 9 := rfl
  have r10 := zx_r10
  have o1 := ok.2.2.1.2.1
  intro n
  induction n with
  | zero =>
    intro i σ1 hi h1 h2 h3 h4
    have e : i = m := by omega
    subst e
    have c1 : ((i : Int) < (i : Int)) = False := eq_false (by omega)
    simp (disch := first | assumption | exact p_c2i | exact p_c2r | exact p_c2n | omega | ((repeat (first | refine p_a1i.trans ?_ | refine p_a1r.trans ?_)); exact p_a10) | ((repeat (first | refine p_wI ?_ | refine p_wR ?_)); exact p_w0) | decide) only [reduceIte, Int.reduceLT, Int.reduceLE, Int.reduceEq, Int.reduceToNat, Int.reduceAdd, Int.reduceSub, Int.reduceMul, Int.reduceNeg, e92_24, e92_25, e92_26, e92_29, e92_58, e92_59, e92_62, p_il1, p_al0, p_getI, p_cge, p_ret0, WN_nx, WN_nrt, WN_ite, h1, c1]
    exact K σ1 ⟨h1, h2, h3, h4⟩
  | succ n ih =>
    intro i σ1 hi h1 h2 h3 h4
    have c1 : ((i : Int) < (m : Int)) = True := eq_true (by omega)
    have e1 : (i : Int) + 1 = ((i + 1 : Nat) : Int) := by omega
    have hR := hR0.frame (fun a _ _ => h4 a (by omega) (by omega))
    have o6 := ok.2.2.1.2.2.2.2.2.2.1 i (by omega)
    have tt := fun (Q : ZO → ZT → ZI → Prop) => t_turnOf (L := 102) (Q := Q) (x := x) (σ := σ1) (c := (i : Int)) k2 (by omega) (by omega)
    rw [Int.toNat_natCast, hR.l.2.1 i (by omega)] at tt
    have sb := aLet_in (t := w (6 + i))
    have tl := fun (Q : ZO → ZT → ZI → Prop) (θ : ZT) (σ : ZI) => t_letter (Q := Q) (θ := θ) (σ := σ) o6.1 o6.2
    rw [e92_24]
    simp (disch := first | assumption | exact p_c2i | exact p_c2r | exact p_c2n | omega | ((repeat (first | refine p_a1i.trans ?_ | refine p_a1r.trans ?_)); exact p_a10) | ((repeat (first | refine p_wI ?_ | refine p_wR ?_)); exact p_w0) | decide) only [reduceIte, Int.reduceLT, Int.reduceLE, Int.reduceEq, Int.reduceToNat, Int.reduceAdd, Int.reduceSub, Int.reduceMul, Int.reduceNeg, e92_25, e92_26, e92_29, e92_32, e92_33, e92_36, e92_37, e92_38, e92_41, e92_44, e92_45, e92_48, e92_51, e92_52, e92_55, p_il1, p_al0, p_getI, p_cge, p_getR, p_cv1_0, p_cv1_1, p_cv1_2, p_cv1_3, p_cv1_4, zK_v, zK_0, WN_ncl, p_cs1_0, p_cs1_1, p_cs1_2, p_cs1_3, p_cs1_4, p_cast, p_ii1, p_goto, WN_nx, WN_nrt, WN_ite, h1, r10, n52, c1, zx_r0, zx_l, tt, tl, Int.toNat_natCast, e1]
    refine ih (i + 1) _ (by omega) ?_ (fun k hk => ?_) (fun j hj => ?_) (fun a ha hb => ?_)
    · rw [zup_f (by omega)]; exact h1
    · by_cases e : k = i
      · subst e; exact zup_s
      · rw [zup_j e]; exact h2 k (by omega)
    · rw [zup_f (by omega)]; exact h3 j hj
    · rw [zup_f hb]; exact h4 a ha hb
theorem t_turnLineC (hR : zSr σ 101 w) (ok : zSok N w) (K0 : ∀ σ', zLnC σ σ' (w 1).toNat (fun k => aLet (w (6 + k))) → Q (.inl (some (.inl (w 1)))) (3565, x, zrho) σ') : WM 92 [.inr (.inl (some 100))] (3565, x, zrho) σ Q := by
  show Wp 92 0 [some (.inr (.inl (some 100))), none] [] _ _ Q
  have k := zx_k
  have k1 := zx_k1
  have k2 := zx_k2
  have n52 : zln 3552 = 9 := rfl
  have r10 := zx_r10
  have o1 := ok.2.2.1.2.1
  obtain ⟨m, hm⟩ : ∃ m : Nat, w 1 = (m : Int) := ⟨(w 1).toNat, by omega⟩
  have h1 := hR.l.h1
  rw [hm] at h1 K0
  have tm := fun (Q : ZO → ZT → ZI → Prop) (θ : ZT) (σ : ZI) => t_min (Q := Q) (θ := θ) (σ := σ) (a := (m : Int)) (b := ((9 : Nat) : Int)) (by omega) (by omega) (by omega) (by omega)
  rw [show min (m : Int) ((9 : Nat) : Int) = (m : Int) by omega] at tm
  simp (disch := first | assumption | exact p_c2i | exact p_c2r | exact p_c2n | omega | ((repeat (first | refine p_a1i.trans ?_ | refine p_a1r.trans ?_)); exact p_a10) | ((repeat (first | refine p_wI ?_ | refine p_wR ?_)); exact p_w0) | decide) only [reduceIte, Int.reduceLT, Int.reduceLE, Int.reduceEq, Int.reduceToNat, Int.reduceAdd, Int.reduceSub, Int.reduceMul, Int.reduceNeg, e92_0, e92_1, e92_2, e92_5, e92_8, e92_11, e92_12, e92_15, e92_16, e92_19, e92_22, e92_23, p_al0, p_getR, p_getI, p_alen, p_alenS, p_alen22, p_cs2_0, p_cs2_1, p_cs2_2, p_cs2_3, p_cs2_4, zK_v, zK_0, WN_ncl, p_putI, p_push, p_is1, p_c2n, p_c2i, p_c2r, WN_nx, WN_nrt, WN_ite, zx_r0, zx_l, h1, r10, n52, tm]
  have l := l_turnC (σ := σ) (Q := Q) (x := x) (m := m) hm hR ok K0 m 0 (zup σ 100 11 (m : Int)) (by omega) zup_s (fun k hk => absurd hk (Nat.not_lt_zero k)) (fun j hj => zup_j hj) (fun a ha hb => zup_f ha)
  rw [show ((0 : Nat) : Int) = 0 from rfl] at l
  exact l
theorem t_charC {p : Int} {m : Nat} {f : Nat → Int} (hp : -2147483648 ≤ p ∧ p < 2147483648) (hm : m ≤ 9) (h1 : σ 100 11 = (m : Int)) (h2 : ∀ k, k < m → σ 3552 k = f k ∧ 0 ≤ f k ∧ f k < 65536) (K1 : ¬ (0 ≤ p ∧ p < (m : Int)) → Q (.inr 0) (3565, x + 1, zrho) σ) (K0 : (0 ≤ p ∧ p < (m : Int)) → ∀ σ', zfq σ σ' → Q (.inl (some (.inl (f p.toNat)))) (3565, x, zrho) σ') : WM 93 [.inr (.inl (some 100)), .inl p] (3565, x, zrho) σ Q := by
  show Wp 93 0 [some (.inr (.inl (some 100))), some (.inl p)] [] _ _ Q
  have k := zx_k
  have k52 : zkd 3552 = 12 := rfl
  have n52 : zln 3552 = 9 := rfl
  have r10 := zx_r10
  by_cases c1 : 0 ≤ p ∧ p < (m : Int)
  · have K0 := K0 c1 σ zfq_r
    obtain ⟨i, hi⟩ : ∃ i : Nat, p = (i : Int) := ⟨p.toNat, by omega⟩
    subst hi
    rw [Int.toNat_natCast] at K0
    have d0 : ((i : Int) < 0) = False := eq_false (by omega)
    have d1 : ((i : Int) < (m : Int)) = True := eq_true (by omega)
    have d2 : ((i : Int) < ((9 : Nat) : Int)) = True := eq_true (by omega)
    obtain ⟨g1, g2, g3⟩ := h2 i (by omega)
    simp (disch := first | assumption | exact p_c2i | exact p_c2r | exact p_c2n | omega | ((repeat (first | refine p_a1i.trans ?_ | refine p_a1r.trans ?_)); exact p_a10) | ((repeat (first | refine p_wI ?_ | refine p_wR ?_)); exact p_w0) | decide) only [reduceIte, Int.reduceLT, Int.reduceLE, Int.reduceEq, Int.reduceToNat, Int.reduceAdd, Int.reduceSub, Int.reduceMul, Int.reduceNeg, e93_0, e93_1, e93_4, e93_5, e93_6, e93_9, e93_12, e93_13, e93_14, e93_17, e93_18, e93_21, e93_32, e93_33, e93_36, e93_37, e93_38, p_il1, p_iflt, p_al0, p_getI, p_cge, p_getR, p_alen, p_alenS, p_alen22, p_clt, o_throw, p_cald, p_ret2, WN_nx, WN_nrt, WN_ite, d0, d1, d2, h1, r10, n52, g1, Int.toNat_natCast, p_throw]
    exact K0
  · by_cases z : p < 0
    · have d0 : (p < 0) = True := eq_true z
      simp (disch := first | assumption | exact p_c2i | exact p_c2r | exact p_c2n | omega | ((repeat (first | refine p_a1i.trans ?_ | refine p_a1r.trans ?_)); exact p_a10) | ((repeat (first | refine p_wI ?_ | refine p_wR ?_)); exact p_w0) | decide) only [reduceIte, Int.reduceLT, Int.reduceLE, Int.reduceEq, Int.reduceToNat, Int.reduceAdd, Int.reduceSub, Int.reduceMul, Int.reduceNeg, e93_0, e93_1, e93_4, e93_5, e93_6, e93_9, e93_12, e93_13, e93_14, e93_17, e93_18, e93_21, p_il1, p_iflt, p_al0, p_getI, p_cge, p_getR, p_alen, p_alenS, p_alen22, p_clt, o_throw, WN_nx, WN_nrt, WN_ite, d0, p_throw]
      exact K1 c1
    · have d0 : (p < 0) = False := eq_false z
      have d1 : (p < (m : Int)) = False := eq_false (by omega)
      simp (disch := first | assumption | exact p_c2i | exact p_c2r | exact p_c2n | omega | ((repeat (first | refine p_a1i.trans ?_ | refine p_a1r.trans ?_)); exact p_a10) | ((repeat (first | refine p_wI ?_ | refine p_wR ?_)); exact p_w0) | decide) only [reduceIte, Int.reduceLT, Int.reduceLE, Int.reduceEq, Int.reduceToNat, Int.reduceAdd, Int.reduceSub, Int.reduceMul, Int.reduceNeg, e93_0, e93_1, e93_4, e93_5, e93_6, e93_9, e93_12, e93_13, e93_14, e93_17, e93_18, e93_21, p_il1, p_iflt, p_al0, p_getI, p_cge, p_getR, p_alen, p_alenS, p_alen22, p_clt, o_throw, WN_nx, WN_nrt, WN_ite, d0, d1, h1, p_throw]
      exact K1 c1
/-! of the model -/
theorem t_writes {m : Nat} {c : Int} (hm : m < 12) (h : τ 3553 15 = (m : Int)) (hc : 0 ≤ c ∧ c < 65536) : WM 196 [.inr (.inl (some 3553)), .inl c] (3565, x, zrho) (zg τ w) Q = Q (.inl none) (3565, x, zrho) (zg (zup (zup τ 3560 m c) 3553 15 ((m : Int) + 1)) w) := by
  show Wp 196 0 [some (.inr (.inl (some 3553))), some (.inl c)] [] _ _ Q = _
  have k := zm_k
  have k60 : zkd 3560 = 12 := rfl
  have n60 : zln 3560 = 12 := rfl
  have r14 : zrho 3553 14 = some 3560 := rfl
  have e : c % 65536 = c := by omega
  have zc : ∀ v : Int, zup (zg τ w) 3560 m v = zg (zup τ 3560 m v) w := fun v => zg_c (by omega)
  have z15 : ∀ v : Int, zup τ 3560 m v 3553 15 = (m : Int) := fun v => by rw [zup_f (by omega)]; exact h
  simp (disch := first | assumption | exact p_c2i | exact p_c2r | exact p_c2n | omega | ((repeat (first | refine p_a1i.trans ?_ | refine p_a1r.trans ?_)); exact p_a10) | ((repeat (first | refine p_wI ?_ | refine p_wR ?_)); exact p_w0) | decide) only [reduceIte, Int.reduceLT, Int.reduceLE, Int.reduceEq, Int.reduceToNat, Int.reduceAdd, Int.reduceSub, Int.reduceMul, Int.reduceNeg, e196_0, e196_1, e196_4, e196_5, e196_8, e196_9, e196_10, e196_11, e196_12, e196_13, e196_16, e196_17, e196_18, e196_21, p_al0, p_getR, p_getI, p_il1, p_i2c, p_cast, p_dupi, p_dupr, p_push, p_bin, p_putI, p_vret, WN_nx, WN_nrt, WN_ite, zg_o3, h, r14, e, zc, z15, Int.toNat_natCast, zg_c3]
theorem l_rowM {r : Nat} (hr : r < 9) (ok : zok N w) (K : ∀ τ', zLnM τ τ' 9 (fun k => aSign w (9 * r + k)) → Q (.inl (some (.inl 9))) (3565, x, zrho) (zg τ' w)) : ∀ (n i : Nat) (τ1 : ZI) (l3 : Option ZV), i + n = 9 → z_c2 l3 = false → τ1 3553 15 = (i : Int) → (∀ k, k < i → τ1 3560 k = aSign w (9 * r + k)) → τ1 3553 8 = 0 → (∀ j, j ≠ 8 → j ≠ 15 → τ1 3553 j = τ 3553 j) → (∀ a, a ≠ 3553 → a ≠ 3560 → τ1 a = τ a) → Wp 197 31 [some (.inr (.inl (some 3553))), some (.inl ((r : Int))), some (.inl ((i : Int))), l3] [] (3565, x, zrho) (zg τ1 w) Q := by
  have k := zm_k
  have k4 := zm_4
  have n4 := zm_n4
  intro n
  induction n with
  | zero =>
    intro i τ1 l3 hi q3 h1 h2 h5 h3 h4
    have e : i = 9 := by omega
    subst e
    simp (disch := first | assumption | exact p_c2i | exact p_c2r | exact p_c2n | omega | ((repeat (first | refine p_a1i.trans ?_ | refine p_a1r.trans ?_)); exact p_a10) | ((repeat (first | refine p_wI ?_ | refine p_wR ?_)); exact p_w0) | decide) only [reduceIte, Int.reduceLT, Int.reduceLE, Int.reduceEq, Int.reduceToNat, Int.reduceAdd, Int.reduceSub, Int.reduceMul, Int.reduceNeg, e197_31, e197_32, e197_34, e197_84, e197_85, e197_88, p_il2, p_push, p_cge, p_al0, p_getI, p_ret0, WN_nx, WN_nrt, WN_ite, show ((9 : Nat) : Int) = 9 from rfl, zg_o3, h1]
    exact K τ1 ⟨h1, h2, h5, h3, h4⟩
  | succ n ih =>
    intro i τ1 l3 hi q3 h1 h2 h5 h3 h4
    have c1 : ((i : Int) < 9) = True := eq_true (by omega)
    have e1 : (i : Int) + 1 = ((i + 1 : Nat) : Int) := by omega
    have e9 : 9 * (r : Int) + (i : Int) = ((9 * r + i : Nat) : Int) := by omega
    have e10 : (10 + ((9 * r + i : Nat) : Int)).toNat = 10 + (9 * r + i) := by omega
    have tl := fun (Q : ZO → ZT → ZI → Prop) => t_lowestM (Q := Q) (x := x) (τ := τ1) (c := ((9 * r + i : Nat) : Int)) ok (by omega)
    have al := aLowF_in (w := w) (c := ((9 * r + i : Nat) : Int)) 4 0
    have sb := aSign_in (w := w) (c := 9 * r + i) ok (by omega)
    have oc := ok.2.2.2.2.2.2.2.1 (9 * r + i) (by omega)
    have o1 := ok.2.1
    have tw := fun (Q : ZO → ZT → ZI → Prop) => t_writes (Q := Q) (x := x) (τ := τ1) (w := w) (m := i) (c := aSign w (9 * r + i)) (by omega) h1 (by omega)
    have fin : Wp 197 31 [some (.inr (.inl (some 3553))), some (.inl ((r : Int))), some (.inl (((i + 1 : Nat) : Int))), some (.inl (aLow w ((9 * r + i : Nat) : Int)))] [] (3565, x, zrho) (zg (zup (zup τ1 3560 i (aSign w (9 * r + i))) 3553 15 ((i : Int) + 1)) w) Q := by
      refine ih (i + 1) _ _ (by omega) rfl (by rw [zup_s]; omega) (fun k hk => ?_) ?_ (fun j hj hj2 => ?_) (fun a ha hb => ?_)
      · rw [zup_f (by omega)]
        by_cases e : k = i
        · subst e; exact zup_s
        · rw [zup_j e]; exact h2 k (by omega)
      · rw [zup_j (by omega), zup_f (by omega)]; exact h5
      · rw [zup_j hj2, zup_f (by omega)]; exact h3 j hj hj2
      · rw [zup_f ha, zup_f hb]; exact h4 a ha hb
    unfold aSign at tw fin
    unfold aLow at tw fin tl
    by_cases c2 : 0 ≤ aLowF w ((9 * r + i : Nat) : Int) 0 4
    · rw [if_pos c2] at tw fin
      have d2 : (aLowF w ((9 * r + i : Nat) : Int) 0 4 < 0) = False := eq_false (by omega)
      rw [e197_31]
      simp (disch := first | assumption | exact p_c2i | exact p_c2r | exact p_c2n | omega | ((repeat (first | refine p_a1i.trans ?_ | refine p_a1r.trans ?_)); exact p_a10) | ((repeat (first | refine p_wI ?_ | refine p_wR ?_)); exact p_w0) | decide) only [reduceIte, Int.reduceLT, Int.reduceLE, Int.reduceEq, Int.reduceToNat, Int.reduceAdd, Int.reduceSub, Int.reduceMul, Int.reduceNeg, e197_32, e197_34, e197_37, e197_38, e197_39, e197_40, e197_43, e197_46, e197_47, e197_48, e197_49, e197_52, e197_54, e197_55, e197_58, e197_60, e197_61, e197_62, e197_65, e197_66, e197_67, e197_68, e197_71, e197_73, e197_74, e197_75, e197_78, e197_81, p_il2, p_push, p_cge, p_al0, p_il1, p_cs2_0, p_cs2_1, p_cs2_2, p_cs2_3, p_cs2_4, zK_v, zK_0, WN_ncl, p_cv1_0, p_cv1_1, p_cv1_2, p_cv1_3, p_cv1_4, p_is3, p_c2n, p_c2i, p_c2r, p_il3, p_ifge, p_getR, p_bin, p_iald, p_goto, p_ii2, WN_nx, WN_nrt, WN_ite, c1, t_place, e9, tl, d2, tw, e1]
      exact fin
    · rw [if_neg c2] at tw fin
      have d2 : (aLowF w ((9 * r + i : Nat) : Int) 0 4 < 0) = True := eq_true (by omega)
      rw [e197_31]
      simp (disch := first | assumption | exact p_c2i | exact p_c2r | exact p_c2n | omega | ((repeat (first | refine p_a1i.trans ?_ | refine p_a1r.trans ?_)); exact p_a10) | ((repeat (first | refine p_wI ?_ | refine p_wR ?_)); exact p_w0) | decide) only [reduceIte, Int.reduceLT, Int.reduceLE, Int.reduceEq, Int.reduceToNat, Int.reduceAdd, Int.reduceSub, Int.reduceMul, Int.reduceNeg, e197_32, e197_34, e197_37, e197_38, e197_39, e197_40, e197_43, e197_46, e197_47, e197_48, e197_49, e197_52, e197_54, e197_55, e197_58, e197_60, e197_61, e197_62, e197_65, e197_66, e197_67, e197_68, e197_71, e197_73, e197_74, e197_75, e197_78, e197_81, p_il2, p_push, p_cge, p_al0, p_il1, p_cs2_0, p_cs2_1, p_cs2_2, p_cs2_3, p_cs2_4, zK_v, zK_0, WN_ncl, p_cv1_0, p_cv1_1, p_cv1_2, p_cv1_3, p_cv1_4, p_is3, p_c2n, p_c2i, p_c2r, p_il3, p_ifge, p_getR, p_bin, p_iald, p_goto, p_ii2, WN_nx, WN_nrt, WN_ite, c1, t_place, e9, tl, d2, zm_r0, zg_s, e10, tw, e1]
      exact fin
theorem t_rowLineM {r : Int} (ok : zok N w) (hr : -2147483648 ≤ r ∧ r < 2147483648) (K1 : ¬ (0 ≤ r ∧ r ≤ 8) → ∀ τ' b, zQy τ τ' 1 → Q (.inl (some (.inl b))) (3565, x, zrho) (zg τ' w)) (K0 : (0 ≤ r ∧ r ≤ 8) → ∀ τ', zLnM τ τ' 9 (fun k => aSign w (9 * r.toNat + k)) → Q (.inl (some (.inl 9))) (3565, x, zrho) (zg τ' w)) : WM 197 [.inr (.inl (some 3553)), .inl r] (3565, x, zrho) (zg τ w) Q := by
  show Wp 197 0 [some (.inr (.inl (some 3553))), some (.inl r), none, none] [] _ _ Q
  have k := zm_k
  have ti := fun (Q : ZO → ZT → ZI → Prop) (σ : ZI) (θ : ZT) => t_in (Q := Q) (θ := θ) (σ := σ) (a := r) (b := 0) (c := 8) hr (by omega) (by omega)
  by_cases c1 : 0 ≤ r ∧ r ≤ 8
  · rw [if_pos c1] at ti
    have K0 := K0 c1
    obtain ⟨m, hm⟩ : ∃ m : Nat, r = (m : Int) := ⟨r.toNat, by omega⟩
    subst hm
    simp (disch := first | assumption | exact p_c2i | exact p_c2r | exact p_c2n | omega | ((repeat (first | refine p_a1i.trans ?_ | refine p_a1r.trans ?_)); exact p_a10) | ((repeat (first | refine p_wI ?_ | refine p_wR ?_)); exact p_w0) | decide) only [reduceIte, Int.reduceLT, Int.reduceLE, Int.reduceEq, Int.reduceToNat, Int.reduceAdd, Int.reduceSub, Int.reduceMul, Int.reduceNeg, e197_0, e197_1, e197_2, e197_3, e197_5, e197_8, e197_11, e197_12, e197_15, e197_16, e197_19, e197_22, e197_23, e197_24, e197_25, e197_26, e197_29, e197_30, p_al0, p_il1, p_push, p_cs3_0, p_cs3_1, p_cs3_2, p_cs3_3, p_cs3_4, zK_v, zK_0, WN_ncl, p_ifeq, p_goto, p_cv1_0, p_cv1_1, p_cv1_2, p_cv1_3, p_cv1_4, p_ret0, p_putI, p_is2, p_c2n, p_c2i, p_c2r, WN_nx, WN_nrt, WN_ite, ti, tf_0, zg_c3]
    have l := l_rowM (τ := τ) (Q := Q) (x := x) (r := m) (by omega) ok K0 9 0 (zup (zup τ 3553 8 0) 3553 15 0) none rfl rfl zup_s (fun k hk => absurd hk (Nat.not_lt_zero k)) (by rw [zup_j (by omega)]; exact zup_s) (fun j hj hj2 => (zup_j hj2).trans (zup_j hj)) (fun a ha hb => (zup_f ha).trans (zup_f ha))
    rw [show ((0 : Nat) : Int) = 0 from rfl] at l
    exact l
  · rw [if_neg c1] at ti
    simp (disch := first | assumption | exact p_c2i | exact p_c2r | exact p_c2n | omega | ((repeat (first | refine p_a1i.trans ?_ | refine p_a1r.trans ?_)); exact p_a10) | ((repeat (first | refine p_wI ?_ | refine p_wR ?_)); exact p_w0) | decide) only [reduceIte, Int.reduceLT, Int.reduceLE, Int.reduceEq, Int.reduceToNat, Int.reduceAdd, Int.reduceSub, Int.reduceMul, Int.reduceNeg, e197_0, e197_1, e197_2, e197_3, e197_5, e197_8, e197_11, e197_12, e197_15, e197_16, e197_19, e197_22, e197_23, p_al0, p_il1, p_push, p_cs3_0, p_cs3_1, p_cs3_2, p_cs3_3, p_cs3_4, zK_v, zK_0, WN_ncl, p_ifeq, p_goto, p_cv1_0, p_cv1_1, p_cv1_2, p_cv1_3, p_cv1_4, p_ret0, WN_nx, WN_nrt, WN_ite, ti, tf_1]
    exact K1 c1 _ _ zQy_f
theorem l_turnM {m : Nat} (hm : w 1 = (m : Int)) (ok : zok N w) (hb : τ 21 0 = 78 ∧ τ 21 1 = 82 ∧ τ 21 2 = 76 ∧ τ 21 3 = 85) (K : ∀ τ', zLnM τ τ' m (fun k => aLet (w (6 + k))) → Q (.inl (some (.inl (m : Int)))) (3565, x, zrho) (zg τ' w)) : ∀ (n i : Nat) (τ1 : ZI), i + n = m → τ1 3553 15 = (i : Int) → (∀ k, k < i → τ1 3560 k = aLet (w (6 + k))) → τ1 3553 8 = 0 → (∀ j, j ≠ 8 → j ≠ 15 → τ1 3553 j = τ 3553 j) → (∀ a, a ≠ 3553 → a ≠ 3560 → τ1 a = τ a) → Wp 198 12 [some (.inr (.inl (some 3553))), some (.inl ((i : Int)))] [] (3565, x, zrho) (zg τ1 w) Q := by
  have k := zm_k
  have k4 := zm_4
  have n4 := zm_n4
  have o1 := ok.2.1
  intro n
  induction n with
  | zero =>
    intro i τ1 hi h1 h2 h5 h3 h4
    have e : i = m := by omega
    subst e
    have c1 : ((i : Int) < (i : Int)) = False := eq_false (by omega)
    simp (disch := first | assumption | exact p_c2i | exact p_c2r | exact p_c2n | omega | ((repeat (first | refine p_a1i.trans ?_ | refine p_a1r.trans ?_)); exact p_a10) | ((repeat (first | refine p_wI ?_ | refine p_wR ?_)); exact p_w0) | decide) only [reduceIte, Int.reduceLT, Int.reduceLE, Int.reduceEq, Int.reduceToNat, Int.reduceAdd, Int.reduceSub, Int.reduceMul, Int.reduceNeg, e198_12, e198_13, e198_14, e198_17, e198_18, e198_19, e198_46, e198_47, e198_50, p_il1, p_al0, p_getR, p_push, p_iald, p_cge, p_getI, p_ret0, WN_nx, WN_nrt, WN_ite, zm_r0, zg_s, hm, c1, zg_o3, h1]
    exact K τ1 ⟨h1, h2, h5, h3, h4⟩
  | succ n ih =>
    intro i τ1 hi h1 h2 h5 h3 h4
    have c1 : ((i : Int) < (m : Int)) = True := eq_true (by omega)
    have e1 : (i : Int) + 1 = ((i + 1 : Nat) : Int) := by omega
    have o6 := ok.2.2.2.2.2.2.1 i (by omega)
    have e6 : (6 + (i : Int)).toNat = 6 + i := by omega
    have sb := aLet_in (t := w (6 + i))
    have tw := fun (Q : ZO → ZT → ZI → Prop) => t_writes (Q := Q) (x := x) (τ := τ1) (w := w) (m := i) (c := aLet (w (6 + i))) (by omega) h1 (by omega)
    have fin : Wp 198 12 [some (.inr (.inl (some 3553))), some (.inl (((i + 1 : Nat) : Int)))] [] (3565, x, zrho) (zg (zup (zup τ1 3560 i (aLet (w (6 + i)))) 3553 15 ((i : Int) + 1)) w) Q := by
      refine ih (i + 1) _ (by omega) (by rw [zup_s]; omega) (fun k hk => ?_) ?_ (fun j hj hj2 => ?_) (fun a ha hb => ?_)
      · rw [zup_f (by omega)]
        by_cases e : k = i
        · subst e; exact zup_s
        · rw [zup_j e]; exact h2 k (by omega)
      · rw [zup_j (by omega), zup_f (by omega)]; exact h5
      · rw [zup_j hj2, zup_f (by omega)]; exact h3 j hj hj2
      · rw [zup_f ha, zup_f hb]; exact h4 a ha hb
    have e21 : ∀ j, zg τ1 w 21 j = τ 21 j := fun j => by rw [zg_o (by omega), h4 21 (by omega) (by omega)]
    have tc : ∀ (v : Nat) (Q : ZO → ZT → ZI → Prop), v < 128 → τ 21 (w (6 + i)).toNat = (v : Int) → WM 225 [.inr (.inl (some 10)), .inl (w (6 + i))] (3565, x, zrho) (zg τ1 w) Q = Q (.inl (some (.inl (v : Int)))) (3565, x, zrho) (zg τ1 w) := by
      intro v Q hv h
      have t := t_chr (σ := zg τ1 w) (θ := (3565, x, zrho)) (Q := Q) (a := 10) (i := (w (6 + i)).toNat) (v := v) rfl rfl (by show _ < 4; omega) (by show 4 < 16; omega) (by rw [e21]; exact h) hv
      rw [Int.toNat_of_nonneg o6.1] at t
      exact t
    rcases (show w (6 + i) = 0 ∨ w (6 + i) = 1 ∨ w (6 + i) = 2 ∨ w (6 + i) = 3 by omega) with z | z | z | z
    · have tc1 := fun (Q : ZO → ZT → ZI → Prop) => tc 78 Q (by omega) (by rw [z]; exact hb.1)
      rw [z] at tw fin tc1
      have q : aLet 0 = ((78 : Nat) : Int) := rfl
      rw [q] at tw fin
      rw [e198_12]
      simp (disch := first | assumption | exact p_c2i | exact p_c2r | exact p_c2n | omega | ((repeat (first | refine p_a1i.trans ?_ | refine p_a1r.trans ?_)); exact p_a10) | ((repeat (first | refine p_wI ?_ | refine p_wR ?_)); exact p_w0) | decide) only [reduceIte, Int.reduceLT, Int.reduceLE, Int.reduceEq, Int.reduceToNat, Int.reduceAdd, Int.reduceSub, Int.reduceMul, Int.reduceNeg, e198_13, e198_14, e198_17, e198_18, e198_19, e198_22, e198_23, e198_25, e198_26, e198_29, e198_31, e198_32, e198_33, e198_34, e198_37, e198_40, e198_43, p_il1, p_al0, p_getR, p_push, p_iald, p_cge, p_bin, p_cv1_0, p_cv1_1, p_cv1_2, p_cv1_3, p_cv1_4, zK_v, zK_0, WN_ncl, p_ii1, p_goto, WN_nx, WN_nrt, WN_ite, zm_r0, zg_s, hm, c1, e6, z, tc1, tw, e1]
      exact fin
    · have tc1 := fun (Q : ZO → ZT → ZI → Prop) => tc 82 Q (by omega) (by rw [z]; exact hb.2.1)
      rw [z] at tw fin tc1
      have q : aLet 1 = ((82 : Nat) : Int) := rfl
      rw [q] at tw fin
      rw [e198_12]
      simp (disch := first | assumption | exact p_c2i | exact p_c2r | exact p_c2n | omega | ((repeat (first | refine p_a1i.trans ?_ | refine p_a1r.trans ?_)); exact p_a10) | ((repeat (first | refine p_wI ?_ | refine p_wR ?_)); exact p_w0) | decide) only [reduceIte, Int.reduceLT, Int.reduceLE, Int.reduceEq, Int.reduceToNat, Int.reduceAdd, Int.reduceSub, Int.reduceMul, Int.reduceNeg, e198_13, e198_14, e198_17, e198_18, e198_19, e198_22, e198_23, e198_25, e198_26, e198_29, e198_31, e198_32, e198_33, e198_34, e198_37, e198_40, e198_43, p_il1, p_al0, p_getR, p_push, p_iald, p_cge, p_bin, p_cv1_0, p_cv1_1, p_cv1_2, p_cv1_3, p_cv1_4, zK_v, zK_0, WN_ncl, p_ii1, p_goto, WN_nx, WN_nrt, WN_ite, zm_r0, zg_s, hm, c1, e6, z, tc1, tw, e1]
      exact fin
    · have tc1 := fun (Q : ZO → ZT → ZI → Prop) => tc 76 Q (by omega) (by rw [z]; exact hb.2.2.1)
      rw [z] at tw fin tc1
      have q : aLet 2 = ((76 : Nat) : Int) := rfl
      rw [q] at tw fin
      rw [e198_12]
      simp (disch := first | assumption | exact p_c2i | exact p_c2r | exact p_c2n | omega | ((repeat (first | refine p_a1i.trans ?_ | refine p_a1r.trans ?_)); exact p_a10) | ((repeat (first | refine p_wI ?_ | refine p_wR ?_)); exact p_w0) | decide) only [reduceIte, Int.reduceLT, Int.reduceLE, Int.reduceEq, Int.reduceToNat, Int.reduceAdd, Int.reduceSub, Int.reduceMul, Int.reduceNeg, e198_13, e198_14, e198_17, e198_18, e198_19, e198_22, e198_23, e198_25, e198_26, e198_29, e198_31, e198_32, e198_33, e198_34, e198_37, e198_40, e198_43, p_il1, p_al0, p_getR, p_push, p_iald, p_cge, p_bin, p_cv1_0, p_cv1_1, p_cv1_2, p_cv1_3, p_cv1_4, zK_v, zK_0, WN_ncl, p_ii1, p_goto, WN_nx, WN_nrt, WN_ite, zm_r0, zg_s, hm, c1, e6, z, tc1, tw, e1]
      exact fin
    · have tc1 := fun (Q : ZO → ZT → ZI → Prop) => tc 85 Q (by omega) (by rw [z]; exact hb.2.2.2)
      rw [z] at tw fin tc1
      have q : aLet 3 = ((85 : Nat) : Int) := rfl
      rw [q] at tw fin
      rw [e198_12]
      simp (disch := first | assumption | exact p_c2i | exact p_c2r | exact p_c2n | omega | ((repeat (first | refine p_a1i.trans ?_ | refine p_a1r.trans ?_)); exact p_a10) | ((repeat (first | refine p_wI ?_ | refine p_wR ?_)); exact p_w0) | decide) only [reduceIte, Int.reduceLT, Int.reduceLE, Int.reduceEq, Int.reduceToNat, Int.reduceAdd, Int.reduceSub, Int.reduceMul, Int.reduceNeg, e198_13, e198_14, e198_17, e198_18, e198_19, e198_22, e198_23, e198_25, e198_26, e198_29, e198_31, e198_32, e198_33, e198_34, e198_37, e198_40, e198_43, p_il1, p_al0, p_getR, p_push, p_iald, p_cge, p_bin, p_cv1_0, p_cv1_1, p_cv1_2, p_cv1_3, p_cv1_4, zK_v, zK_0, WN_ncl, p_ii1, p_goto, WN_nx, WN_nrt, WN_ite, zm_r0, zg_s, hm, c1, e6, z, tc1, tw, e1]
      exact fin
theorem t_turnLineM (ok : zok N w) (hb : τ 21 0 = 78 ∧ τ 21 1 = 82 ∧ τ 21 2 = 76 ∧ τ 21 3 = 85) (K0 : ∀ τ', zLnM τ τ' (w 1).toNat (fun k => aLet (w (6 + k))) → Q (.inl (some (.inl (w 1)))) (3565, x, zrho) (zg τ' w)) : WM 198 [.inr (.inl (some 3553))] (3565, x, zrho) (zg τ w) Q := by
  show Wp 198 0 [some (.inr (.inl (some 3553))), none] [] _ _ Q
  have k := zm_k
  have o1 := ok.2.1
  obtain ⟨m, hm⟩ : ∃ m : Nat, w 1 = (m : Int) := ⟨(w 1).toNat, by omega⟩
  rw [hm] at K0
  simp (disch := first | assumption | exact p_c2i | exact p_c2r | exact p_c2n | omega | ((repeat (first | refine p_a1i.trans ?_ | refine p_a1r.trans ?_)); exact p_a10) | ((repeat (first | refine p_wI ?_ | refine p_wR ?_)); exact p_w0) | decide) only [reduceIte, Int.reduceLT, Int.reduceLE, Int.reduceEq, Int.reduceToNat, Int.reduceAdd, Int.reduceSub, Int.reduceMul, Int.reduceNeg, e198_0, e198_1, e198_2, e198_5, e198_6, e198_7, e198_10, e198_11, p_al0, p_push, p_putI, p_is1, p_c2n, p_c2i, p_c2r, WN_nx, WN_nrt, WN_ite, zg_c3]
  have l := l_turnM (τ := τ) (Q := Q) (x := x) (m := m) hm ok hb K0 m 0 (zup (zup τ 3553 8 0) 3553 15 0) (by omega) zup_s (fun k hk => absurd hk (Nat.not_lt_zero k)) (by rw [zup_j (by omega)]; exact zup_s) (fun j hj hj2 => (zup_j hj2).trans (zup_j hj)) (fun a ha hb => (zup_f ha).trans (zup_f ha))
  rw [show ((0 : Nat) : Int) = 0 from rfl] at l
  exact l
theorem t_charM {p : Int} {m : Nat} {f : Nat → Int} (hp : -2147483648 ≤ p ∧ p < 2147483648) (hm : m ≤ 12) (h1 : τ 3553 15 = (m : Int)) (h2 : ∀ k, k < m → τ 3560 k = f k ∧ 0 ≤ f k ∧ f k < 65536) (K1 : ¬ (0 ≤ p ∧ p < (m : Int)) → ∀ τ' b, zQy τ τ' 1 → Q (.inl (some (.inl b))) (3565, x, zrho) (zg τ' w)) (K0 : (0 ≤ p ∧ p < (m : Int)) → ∀ τ', zQy τ τ' 0 → Q (.inl (some (.inl (f p.toNat)))) (3565, x, zrho) (zg τ' w)) : WM 199 [.inr (.inl (some 3553)), .inl p] (3565, x, zrho) (zg τ w) Q := by
  show Wp 199 0 [some (.inr (.inl (some 3553))), some (.inl p)] [] _ _ Q
  have k := zm_k
  have k60 : zkd 3560 = 12 := rfl
  have n60 : zln 3560 = 12 := rfl
  have r14 : zrho 3553 14 = some 3560 := rfl
  have ti := fun (Q : ZO → ZT → ZI → Prop) (σ : ZI) (θ : ZT) => t_in (Q := Q) (θ := θ) (σ := σ) (a := p) (b := 0) (c := (m : Int) - 1) hp (by omega) (by omega)
  by_cases c1 : 0 ≤ p ∧ p < (m : Int)
  · rw [if_pos (by omega)] at ti
    have K0 := K0 c1 _ (zQy_f (τ := τ))
    obtain ⟨i, hi⟩ : ∃ i : Nat, p = (i : Int) := ⟨p.toNat, by omega⟩
    subst hi
    rw [Int.toNat_natCast] at K0
    obtain ⟨g1, g2, g3⟩ := h2 i (by omega)
    have e : ∀ v, zg (zup τ 3553 8 v) w 3560 i = f i := fun v => by rw [zg_o (by omega), zup_f (by omega)]; exact g1
    simp (disch := first | assumption | exact p_c2i | exact p_c2r | exact p_c2n | omega | ((repeat (first | refine p_a1i.trans ?_ | refine p_a1r.trans ?_)); exact p_a10) | ((repeat (first | refine p_wI ?_ | refine p_wR ?_)); exact p_w0) | decide) only [reduceIte, Int.reduceLT, Int.reduceLE, Int.reduceEq, Int.reduceToNat, Int.reduceAdd, Int.reduceSub, Int.reduceMul, Int.reduceNeg, e199_0, e199_1, e199_2, e199_3, e199_4, e199_7, e199_8, e199_9, e199_12, e199_15, e199_16, e199_19, e199_20, e199_23, e199_26, e199_28, e199_31, e199_32, e199_35, e199_36, e199_37, p_al0, p_il1, p_push, p_getI, p_bin, p_cs3_0, p_cs3_1, p_cs3_2, p_cs3_3, p_cs3_4, zK_v, zK_0, WN_ncl, p_ifeq, p_goto, p_cv1_0, p_cv1_1, p_cv1_2, p_cv1_3, p_cv1_4, p_getR, p_cald, p_ret2, WN_nx, WN_nrt, WN_ite, zg_o3, h1, ti, tf_0, r14, n60, e, Int.toNat_natCast]
    exact K0
  · rw [if_neg (by omega)] at ti
    simp (disch := first | assumption | exact p_c2i | exact p_c2r | exact p_c2n | omega | ((repeat (first | refine p_a1i.trans ?_ | refine p_a1r.trans ?_)); exact p_a10) | ((repeat (first | refine p_wI ?_ | refine p_wR ?_)); exact p_w0) | decide) only [reduceIte, Int.reduceLT, Int.reduceLE, Int.reduceEq, Int.reduceToNat, Int.reduceAdd, Int.reduceSub, Int.reduceMul, Int.reduceNeg, e199_0, e199_1, e199_2, e199_3, e199_4, e199_7, e199_8, e199_9, e199_12, e199_15, e199_16, e199_19, e199_20, e199_23, e199_26, e199_28, e199_31, e199_32, e199_35, e199_36, e199_37, p_al0, p_il1, p_push, p_getI, p_bin, p_cs3_0, p_cs3_1, p_cs3_2, p_cs3_3, p_cs3_4, zK_v, zK_0, WN_ncl, p_ifeq, p_goto, p_cv1_0, p_cv1_1, p_cv1_2, p_cv1_3, p_cv1_4, p_getR, p_cald, p_ret2, WN_nx, WN_nrt, WN_ite, zg_o3, h1, ti, tf_1]
    exact K1 c1 _ _ zQy_f
end
