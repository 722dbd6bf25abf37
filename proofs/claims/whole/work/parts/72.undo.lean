/-! BOTH: sums as numbers with a point, undo, save, restore -/
theorem fl_d : ∀ n : Nat, n < 244 → FP.ddiv (FP.i2d (Int32.ofInt (n : Int))) 4635400285215260672 &&& 0x7fffffffffffffff ≤ 0x7ff0000000000000 := by decide +kernel
theorem fl_f : ∀ n : Nat, n < 82 → FP.fdiv (FP.i2f (Int32.ofInt (n : Int))) 1117913088 &&& 0x7fffffff ≤ 0x7f800000 := by decide +kernel
theorem fl_p : ∀ n : Nat, n < 82 → FP.f2d (FP.fdiv (FP.i2f (Int32.ofInt (n : Int))) 1117913088) &&& 0x7fffffffffffffff ≤ 0x7ff0000000000000 := by decide +kernel
def qMean (w : zW) : UInt64 := FP.ddiv (FP.i2d (Int32.ofInt (zsm (fun c => w (10 + c)) 81))) 4635400285215260672
def qShare (w : zW) : UInt32 := FP.fdiv (FP.i2f (Int32.ofInt (zct (fun c => decide (0 < w (91 + c))) 81))) 1117913088
theorem qMean_n {w : zW} {N : Int} (ok : zok N w) : qMean w &&& 0x7fffffffffffffff ≤ 0x7ff0000000000000 := by
  have h := zsm_in (f := fun c => w (10 + c)) (M := 3) 81 (fun k hk => by have := ok.2.2.2.2.2.2.2.1 k hk; have := ok.2.1; show 0 ≤ w (10 + k) ∧ w (10 + k) ≤ 3; omega)
  have e := fl_d (zsm (fun c => w (10 + c)) 81).toNat (by omega)
  rw [Int.toNat_of_nonneg h.1] at e
  exact e
theorem qShare_n {w : zW} : qShare w &&& 0x7fffffff ≤ 0x7f800000 := by
  have h := zct_in (p := fun c => decide (0 < w (91 + c))) 81
  have e := fl_f (zct (fun c => decide (0 < w (91 + c))) 81).toNat (by omega)
  rw [Int.toNat_of_nonneg h.1] at e
  exact e
theorem qShare_p {w : zW} : FP.f2d (qShare w) &&& 0x7fffffffffffffff ≤ 0x7ff0000000000000 := by
  have h := zct_in (p := fun c => decide (0 < w (91 + c))) 81
  have e := fl_p (zct (fun c => decide (0 < w (91 + c))) 81).toNat (by omega)
  rw [Int.toNat_of_nonneg h.1] at e
  exact e
theorem p_ddiv {n : Nat} {ls : ZL} {st : List ZV} {θ : ZT} {σ : ZI} {x y : UInt64} (h : FP.ddiv x y &&& 0x7fffffffffffffff ≤ 0x7ff0000000000000) : o_ddiv n ls (.inr (.inr (.inr (.inr y))) :: .inr (.inr (.inr (.inr x))) :: st) θ σ = nx n ls (.inr (.inr (.inr (.inr (FP.ddiv x y)))) :: st) θ σ := if_pos h
theorem p_fdiv {n : Nat} {ls : ZL} {st : List ZV} {θ : ZT} {σ : ZI} {x y : UInt32} (h : FP.fdiv x y &&& 0x7fffffff ≤ 0x7f800000) : o_fdiv n ls (.inr (.inr (.inr (.inl y))) :: .inr (.inr (.inr (.inl x))) :: st) θ σ = nx n ls (.inr (.inr (.inr (.inl (FP.fdiv x y)))) :: st) θ σ := if_pos h
theorem p_f2d {n : Nat} {ls : ZL} {st : List ZV} {θ : ZT} {σ : ZI} {x : UInt32} (h : FP.f2d x &&& 0x7fffffffffffffff ≤ 0x7ff0000000000000) : o_f2d n ls (.inr (.inr (.inr (.inl x))) :: st) θ σ = nx n ls (.inr (.inr (.inr (.inr (FP.f2d x)))) :: st) θ σ := if_pos h
theorem zcp_to {τ : ZI} {w : zW} {a p q m : Nat} (h : a ≠ 3554) : zcpy (zg τ w) a p 3554 q m = zg τ (fun j => if q ≤ j ∧ j < q + m then τ a (p + (j - q)) else w j) := by
  funext b j
  show (if b = 3554 ∧ q ≤ j ∧ j < q + m then zg τ w a (p + (j - q)) else zg τ w b j) = _
  rw [zg_o h]
  unfold zg
  by_cases h1 : b = 3554
  · rw [if_pos h1]
    by_cases h2 : q ≤ j ∧ j < q + m
    · rw [if_pos ⟨h1, h2⟩, if_pos h1]
      show _ = if q ≤ j ∧ j < q + m then _ else _
      rw [if_pos h2]
    · rw [if_neg (fun z => h2 z.2), if_pos h1]
      show _ = if q ≤ j ∧ j < q + m then _ else _
      rw [if_neg h2]
  · rw [if_neg (fun z => h1 z.1), if_neg h1, if_neg h1]
theorem zcp_fr {τ : ZI} {w : zW} {b p q m : Nat} (h : b ≠ 3554) : zcpy (zg τ w) 3554 p b q m = zg (fun a j => if a = b ∧ q ≤ j ∧ j < q + m then w (p + (j - q)) else τ a j) w := by
  funext a j
  show (if a = b ∧ q ≤ j ∧ j < q + m then zg τ w 3554 (p + (j - q)) else zg τ w a j) = _
  rw [zg_s]
  unfold zg
  by_cases h1 : a = 3554
  · rw [if_neg (fun z => h (z.1.symm.trans h1)), if_pos h1, if_pos h1]
  · rw [if_neg h1, if_neg h1]
def zsv (τ : ZI) (w : zW) : ZI := fun a j => if a = 3556 ∧ j < 6202 then w j else τ a j
theorem zsv_f {τ : ZI} {w : zW} {a : Nat} (h : a ≠ 3556) : zsv τ w a = τ a := funext fun j => if_neg (fun z => h z.1)
theorem zsv_w {τ : ZI} {w : zW} {j : Nat} (h : j < 6202) : zsv τ w 3556 j = w j := if_pos ⟨rfl, h⟩
theorem zcp_sv {τ : ZI} {w : zW} : zcpy (zg τ w) 3554 0 3556 0 6202 = zg (zsv τ w) w := by
  rw [zcp_fr (by omega)]
  have e : (fun a j => if a = 3556 ∧ 0 ≤ j ∧ j < 0 + 6202 then w (0 + (j - 0)) else τ a j) = zsv τ w := by
    funext a j
    unfold zsv
    by_cases h : a = 3556 ∧ j < 6202
    · rw [if_pos ⟨h.1, by omega, by omega⟩, if_pos h, show 0 + (j - 0) = j by omega]
    · rw [if_neg (fun z => h ⟨z.1, by omega⟩), if_neg h]
  rw [e]
theorem zm_6 : zkd 3556 = 10 := rfl
theorem zm_n6 : zln 3556 = 6202 := rfl
theorem zm_7 : zkd 3557 = 10 := rfl
theorem zm_n7 : zln 3557 = 6202 := rfl
section
variable {σ τ : ZI} {Q : ZO → ZT → ZI → Prop} {x n : Nat} {w : zW} {N : Int} {kp : Nat → zW}
theorem t_meanC (hR : zSr σ 101 w) (ok : zSok N w) : WM 100 [.inr (.inl (some 100))] (3565, x, zrho) σ Q = Q (.inl (some (.inr (.inr (.inr (.inr (qMean w))))))) (3565, x, zrho) σ := by
  show Wp 100 0 [some (.inr (.inl (some 100)))] [] _ _ Q = _
  have k := zx_k
  have k1 := zx_k1
  have k2 := zx_k2
  have t2 := fun (Q : ZO → ZT → ZI → Prop) => t_sumOfColours (L := 102) (x := x) (σ := σ) (Q := Q) k2 hR.l ok.2.2.1
  have pn := fun (n : Nat) (ls : ZL) (st : List ZV) (θ : ZT) (σ : ZI) => p_ddiv (n := n) (ls := ls) (st := st) (θ := θ) (σ := σ) (qMean_n ok.2.2.1)
  unfold qMean at pn ⊢
  simp (disch := first | assumption | exact p_c2i | exact p_c2r | exact p_c2n | omega | ((repeat (first | refine p_a1i.trans ?_ | refine p_a1r.trans ?_)); exact p_a10) | ((repeat (first | refine p_wI ?_ | refine p_wR ?_)); exact p_w0) | decide) only [reduceIte, Int.reduceLT, Int.reduceLE, Int.reduceEq, Int.reduceToNat, Int.reduceAdd, Int.reduceSub, Int.reduceMul, Int.reduceNeg, e100_0, e100_1, e100_4, e100_7, e100_10, e100_11, e100_14, e100_15, p_al0, p_getR, p_cv0_0, p_cv0_1, p_cv0_2, p_cv0_3, p_cv0_4, zK_v, zK_0, WN_ncl, p_i2d, p_push, p_dret, WN_nx, WN_nrt, WN_ite, zx_r0, zx_l, t2, p_i2d, p_push, pn, p_dret]
theorem t_shareC (hR : zSr σ 101 w) (ok : zSok N w) (hN : N ≤ 100000000) : WM 101 [.inr (.inl (some 100))] (3565, x, zrho) σ Q = Q (.inl (some (.inr (.inr (.inr (.inl (qShare w))))))) (3565, x, zrho) σ := by
  show Wp 101 0 [some (.inr (.inl (some 100)))] [] _ _ Q = _
  have k := zx_k
  have k1 := zx_k1
  have k2 := zx_k2
  have t2 := fun (Q : ZO → ZT → ZI → Prop) => t_cellsPainted (L := 102) (x := x) (σ := σ) (Q := Q) k2 hR.l ok.2.2.1 hN
  have pn := fun (n : Nat) (ls : ZL) (st : List ZV) (θ : ZT) (σ : ZI) => p_fdiv (n := n) (ls := ls) (st := st) (θ := θ) (σ := σ) (qShare_n (w := w))
  unfold qShare at pn ⊢
  simp (disch := first | assumption | exact p_c2i | exact p_c2r | exact p_c2n | omega | ((repeat (first | refine p_a1i.trans ?_ | refine p_a1r.trans ?_)); exact p_a10) | ((repeat (first | refine p_wI ?_ | refine p_wR ?_)); exact p_w0) | decide) only [reduceIte, Int.reduceLT, Int.reduceLE, Int.reduceEq, Int.reduceToNat, Int.reduceAdd, Int.reduceSub, Int.reduceMul, Int.reduceNeg, e101_0, e101_1, e101_4, e101_7, e101_10, e101_11, e101_14, e101_15, p_al0, p_getR, p_cv0_0, p_cv0_1, p_cv0_2, p_cv0_3, p_cv0_4, zK_v, zK_0, WN_ncl, p_i2f, p_push, p_fret, WN_nx, WN_nrt, WN_ite, zx_r0, zx_l, t2, p_i2f, p_push, pn, p_fret]
theorem l_meanM (ok : zok N w) : ∀ n i : Nat, i + n = 81 → Wp 216 9 [some (.inr (.inl (some 3553))), some (.inl (zsm (fun c => w (10 + c)) i)), some (.inl ((i : Int)))] [] (3565, x, zrho) (zg τ w) Q = Q (.inl (some (.inr (.inr (.inr (.inr (qMean w))))))) (3565, x, zrho) (zg τ w) := by
  have k := zm_k
  have k4 := zm_4
  have n4 := zm_n4
  have o1 := ok.2.1
  intro n
  induction n with
  | zero =>
    intro i hi
    have e : i = 81 := by omega
    subst e
    have pn := fun (n : Nat) (ls : ZL) (st : List ZV) (θ : ZT) (σ : ZI) => p_ddiv (n := n) (ls := ls) (st := st) (θ := θ) (σ := σ) (qMean_n ok)
    unfold qMean at pn ⊢
    simp (disch := first | assumption | exact p_c2i | exact p_c2r | exact p_c2n | omega | ((repeat (first | refine p_a1i.trans ?_ | refine p_a1r.trans ?_)); exact p_a10) | ((repeat (first | refine p_wI ?_ | refine p_wR ?_)); exact p_w0) | decide) only [reduceIte, Int.reduceLT, Int.reduceLE, Int.reduceEq, Int.reduceToNat, Int.reduceAdd, Int.reduceSub, Int.reduceMul, Int.reduceNeg, e216_9, e216_10, e216_12, e216_33, e216_34, e216_35, e216_38, e216_39, p_il2, p_push, p_cge, p_il1, p_i2d, p_dret, WN_nx, WN_nrt, WN_ite, show ((81 : Nat) : Int) = 81 from rfl, p_i2d, p_push, pn, p_dret]
  | succ n ih =>
    intro i hi
    have hi8 : ((i : Int) < 81) = True := eq_true (by omega)
    have e1 : (i : Int) + 1 = ((i + 1 : Nat) : Int) := by omega
    have ei : (10 + (i : Int)).toNat = 10 + i := by omega
    have ih2 := ih (i + 1) (by omega)
    have b1 := ok.2.2.2.2.2.2.2.1 i (by omega)
    have ci := zsm_in (f := fun c => w (10 + c)) (M := 3) i (fun k hk => by have := ok.2.2.2.2.2.2.2.1 k (by omega); show 0 ≤ w (10 + k) ∧ w (10 + k) ≤ 3; omega)
    rw [e216_9]
    simp (disch := first | assumption | exact p_c2i | exact p_c2r | exact p_c2n | omega | ((repeat (first | refine p_a1i.trans ?_ | refine p_a1r.trans ?_)); exact p_a10) | ((repeat (first | refine p_wI ?_ | refine p_wR ?_)); exact p_w0) | decide) only [reduceIte, Int.reduceLT, Int.reduceLE, Int.reduceEq, Int.reduceToNat, Int.reduceAdd, Int.reduceSub, Int.reduceMul, Int.reduceNeg, e216_10, e216_12, e216_15, e216_16, e216_17, e216_20, e216_22, e216_23, e216_24, e216_25, e216_26, e216_27, e216_30, p_il2, p_push, p_cge, p_il1, p_al0, p_getR, p_bin, p_iald, p_is1, p_c2n, p_c2i, p_c2r, p_ii2, p_goto, WN_nx, WN_nrt, WN_ite, zm_r0, zg_s, hi8, ei, e1]
    rw [← ih2, zsm_s]
theorem t_meanM (ok : zok N w) : WM 216 [.inr (.inl (some 3553))] (3565, x, zrho) (zg τ w) Q = Q (.inl (some (.inr (.inr (.inr (.inr (qMean w))))))) (3565, x, zrho) (zg (zup τ 3553 8 0) w) := by
  show Wp 216 0 [some (.inr (.inl (some 3553))), none, none] [] _ _ Q = _
  have k := zm_k
  simp (disch := first | assumption | exact p_c2i | exact p_c2r | exact p_c2n | omega | ((repeat (first | refine p_a1i.trans ?_ | refine p_a1r.trans ?_)); exact p_a10) | ((repeat (first | refine p_wI ?_ | refine p_wR ?_)); exact p_w0) | decide) only [reduceIte, Int.reduceLT, Int.reduceLE, Int.reduceEq, Int.reduceToNat, Int.reduceAdd, Int.reduceSub, Int.reduceMul, Int.reduceNeg, e216_0, e216_1, e216_2, e216_5, e216_6, e216_7, e216_8, p_al0, p_push, p_putI, p_is1, p_c2n, p_c2i, p_c2r, p_is2, WN_nx, WN_nrt, WN_ite, zg_c3]
  exact l_meanM ok 81 0 rfl
theorem t_shareM (ok : zok N w) (hN : N ≤ 100000000) : WM 217 [.inr (.inl (some 3553))] (3565, x, zrho) (zg τ w) Q = Q (.inl (some (.inr (.inr (.inr (.inl (qShare w))))))) (3565, x, zrho) (zg (zup τ 3553 8 0) w) := by
  show Wp 217 0 [some (.inr (.inl (some 3553)))] [] _ _ Q = _
  have k := zm_k
  have t2 := fun (Q : ZO → ZT → ZI → Prop) (τ : ZI) => t_paintedManyM (x := x) (τ := τ) (Q := Q) ok hN
  have pn := fun (n : Nat) (ls : ZL) (st : List ZV) (θ : ZT) (σ : ZI) => p_fdiv (n := n) (ls := ls) (st := st) (θ := θ) (σ := σ) (qShare_n (w := w))
  unfold qShare at pn ⊢
  simp (disch := first | assumption | exact p_c2i | exact p_c2r | exact p_c2n | omega | ((repeat (first | refine p_a1i.trans ?_ | refine p_a1r.trans ?_)); exact p_a10) | ((repeat (first | refine p_wI ?_ | refine p_wR ?_)); exact p_w0) | decide) only [reduceIte, Int.reduceLT, Int.reduceLE, Int.reduceEq, Int.reduceToNat, Int.reduceAdd, Int.reduceSub, Int.reduceMul, Int.reduceNeg, e217_0, e217_1, e217_2, e217_5, e217_6, e217_9, e217_10, e217_12, e217_13, p_al0, p_push, p_putI, p_cv0_0, p_cv0_1, p_cv0_2, p_cv0_3, p_cv0_4, zK_v, zK_0, WN_ncl, p_i2f, p_fret, WN_nx, WN_nrt, WN_ite, zg_c3, t2, p_i2f, p_push, pn, p_fret]
theorem t_undoC (ok : ∀ k, k < n → zSok N (kp k)) (hC : zCr σ kp n) (hn : n ≤ 8) (K1 : n = 0 → Q (.inr 4) (3565, x + 1, zrho) σ) (K0 : ∀ m, n = m + 1 → ∀ σ', zSr σ' 101 (kp m) → zCr σ' kp m → (∀ a, (a < 101 ∨ 413 ≤ a) → a ≠ 1037 → σ' a = σ a) → Q (.inl (some (.inl (m : Int)))) (3565, x, zrho) σ') : WM 102 [.inr (.inl (some 100))] (3565, x, zrho) σ Q := by
  show Wp 102 0 [some (.inr (.inl (some 100)))] [] _ _ Q
  have k := zx_k
  have k37 : zkd 1037 = 0 := rfl
  obtain ⟨o, ho, h1, h2, h3⟩ := hC
  cases n with
  | zero =>
    rw [show ((0 : Nat) : Int) = 0 from rfl] at h2
    simp (disch := first | assumption | exact p_c2i | exact p_c2r | exact p_c2n | omega | ((repeat (first | refine p_a1i.trans ?_ | refine p_a1r.trans ?_)); exact p_a10) | ((repeat (first | refine p_wI ?_ | refine p_wR ?_)); exact p_w0) | decide) only [reduceIte, Int.reduceLT, Int.reduceLE, Int.reduceEq, Int.reduceToNat, Int.reduceAdd, Int.reduceSub, Int.reduceMul, Int.reduceNeg, e102_0, e102_1, e102_4, e102_7, e102_10, p_al0, p_getR, p_getI, p_ifne, o_throw, WN_nx, WN_nrt, WN_ite, zx_r4, h2, p_throw]
    exact K1 rfl
  | succ m =>
    have d : (((m + 1 : Nat) : Int) = 0) = False := eq_false (by omega)
    simp (disch := first | assumption | exact p_c2i | exact p_c2r | exact p_c2n | omega | ((repeat (first | refine p_a1i.trans ?_ | refine p_a1r.trans ?_)); exact p_a10) | ((repeat (first | refine p_wI ?_ | refine p_wR ?_)); exact p_w0) | decide) only [reduceIte, Int.reduceLT, Int.reduceLE, Int.reduceEq, Int.reduceToNat, Int.reduceAdd, Int.reduceSub, Int.reduceMul, Int.reduceNeg, e102_0, e102_1, e102_4, e102_7, e102_10, e102_21, e102_22, e102_25, e102_26, e102_29, p_al0, p_getR, p_getI, p_ifne, o_throw, p_cv1_0, p_cv1_1, p_cv1_2, p_cv1_3, p_cv1_4, zK_v, zK_0, WN_ncl, WN_nx, WN_nrt, WN_ite, zx_r4, zx_r0, h2, d]
    refine t_popInto zx_s (by omega) (ok m (by omega)) ⟨o, ho, h1, h2, h3⟩ hn (fun σ' a1 a2 a3 => ?_)
    rw [zK_v]
    simp (disch := first | assumption | exact p_c2i | exact p_c2r | exact p_c2n | omega | ((repeat (first | refine p_a1i.trans ?_ | refine p_a1r.trans ?_)); exact p_a10) | ((repeat (first | refine p_wI ?_ | refine p_wR ?_)); exact p_w0) | decide) only [reduceIte, Int.reduceLT, Int.reduceLE, Int.reduceEq, Int.reduceToNat, Int.reduceAdd, Int.reduceSub, Int.reduceMul, Int.reduceNeg, e102_32, p_ret0, WN_nx, WN_nrt, WN_ite]
    exact K0 m rfl σ' a1 a2 (fun a ha hb => a3 a (by omega) hb)
theorem t_saveC (hR : zSr σ 101 w) (ok : zSok N w) (K0 : ∀ σ', zSr σ' 725 w → zSr σ' 101 w → σ' 100 3 = 1 → (∀ j, j ≠ 3 → σ' 100 j = σ 100 j) → (∀ a, a ≠ 100 → (a < 725 ∨ 1037 ≤ a) → σ' a = σ a) → Q (.inl (some (.inl (w 0)))) (3565, x, zrho) σ') : WM 103 [.inr (.inl (some 100))] (3565, x, zrho) σ Q := by
  show Wp 103 0 [some (.inr (.inl (some 100)))] [] _ _ Q
  have k := zx_k
  have k1 := zx_k1
  have k2 := zx_k2
  have o0 := ok.2.2.1.1
  simp (disch := first | assumption | exact p_c2i | exact p_c2r | exact p_c2n | omega | ((repeat (first | refine p_a1i.trans ?_ | refine p_a1r.trans ?_)); exact p_a10) | ((repeat (first | refine p_wI ?_ | refine p_wR ?_)); exact p_w0) | decide) only [reduceIte, Int.reduceLT, Int.reduceLE, Int.reduceEq, Int.reduceToNat, Int.reduceAdd, Int.reduceSub, Int.reduceMul, Int.reduceNeg, e103_0, e103_1, e103_4, e103_5, e103_8, p_al0, p_getR, p_cv1_0, p_cv1_1, p_cv1_2, p_cv1_3, p_cv1_4, zK_v, zK_0, WN_ncl, WN_nx, WN_nrt, WN_ite, zx_r2, zx_r0]
  refine t_storyCopy (Or.inr (Or.inr (Or.inl rfl))) zx_s (by omega) hR ok (fun σ1 h1 f1 => ?_)
  rw [zK_0]
  have hR1 := hR.frame (fun a _ _ => f1 a (by omega))
  have h0 := hR1.l.h0
  have f : ∀ a, a ≠ 100 → zup σ1 100 3 1 a = σ1 a := fun a ha => zup_f ha
  have z0 : zup σ1 100 3 1 102 10 = w 0 := by rw [f 102 (by omega)]; exact h0
  simp (disch := first | assumption | exact p_c2i | exact p_c2r | exact p_c2n | omega | ((repeat (first | refine p_a1i.trans ?_ | refine p_a1r.trans ?_)); exact p_a10) | ((repeat (first | refine p_wI ?_ | refine p_wR ?_)); exact p_w0) | decide) only [reduceIte, Int.reduceLT, Int.reduceLE, Int.reduceEq, Int.reduceToNat, Int.reduceAdd, Int.reduceSub, Int.reduceMul, Int.reduceNeg, e103_11, e103_12, e103_13, e103_16, e103_17, e103_20, e103_23, e103_26, p_al0, p_push, p_putZ, p_getR, p_getI, p_ret0, WN_nx, WN_nrt, WN_ite, zx_r0, zx_l, z0]
  exact K0 _ (h1.frame (fun a _ _ => f a (by omega))) (hR1.frame (fun a _ _ => f a (by omega))) zup_s (fun j hj => (zup_j hj).trans (congrFun (f1 100 (by omega)) j)) (fun a ha hb => (f a ha).trans (f1 a (by omega)))
theorem t_restoreC {b : Int} (hb : σ 100 3 = b) (hs : b ≠ 0 → zSr σ 725 w ∧ zSok N w) (hb01 : b = 0 ∨ b = 1) (hC : zCr σ kp n) (K1 : b = 0 → Q (.inr 4) (3565, x + 1, zrho) σ) (K0 : b ≠ 0 → ∀ σ', zSr σ' 101 w → zCr σ' kp 0 → (∀ a, (a < 101 ∨ 413 ≤ a) → a ≠ 1037 → σ' a = σ a) → Q (.inl (some (.inl (w 0)))) (3565, x, zrho) σ') : WM 104 [.inr (.inl (some 100))] (3565, x, zrho) σ Q := by
  show Wp 104 0 [some (.inr (.inl (some 100)))] [] _ _ Q
  have k := zx_k
  have k1 := zx_k1
  have k2 := zx_k2
  rcases hb01 with z | z
  · rw [z] at hb
    simp (disch := first | assumption | exact p_c2i | exact p_c2r | exact p_c2n | omega | ((repeat (first | refine p_a1i.trans ?_ | refine p_a1r.trans ?_)); exact p_a10) | ((repeat (first | refine p_wI ?_ | refine p_wR ?_)); exact p_w0) | decide) only [reduceIte, Int.reduceLT, Int.reduceLE, Int.reduceEq, Int.reduceToNat, Int.reduceAdd, Int.reduceSub, Int.reduceMul, Int.reduceNeg, e104_0, e104_1, e104_4, e104_7, p_al0, p_getI, p_ifne, o_throw, WN_nx, WN_nrt, WN_ite, hb, p_throw]
    exact K1 z
  · rw [z] at hb
    obtain ⟨hR, ok⟩ := hs (by omega)
    have d : ((1 : Int) = 0) = False := eq_false (by omega)
    simp (disch := first | assumption | exact p_c2i | exact p_c2r | exact p_c2n | omega | ((repeat (first | refine p_a1i.trans ?_ | refine p_a1r.trans ?_)); exact p_a10) | ((repeat (first | refine p_wI ?_ | refine p_wR ?_)); exact p_w0) | decide) only [reduceIte, Int.reduceLT, Int.reduceLE, Int.reduceEq, Int.reduceToNat, Int.reduceAdd, Int.reduceSub, Int.reduceMul, Int.reduceNeg, e104_0, e104_1, e104_4, e104_7, e104_18, e104_19, e104_22, e104_23, e104_26, p_al0, p_getI, p_ifne, o_throw, p_getR, p_cv1_0, p_cv1_1, p_cv1_2, p_cv1_3, p_cv1_4, zK_v, zK_0, WN_ncl, WN_nx, WN_nrt, WN_ite, hb, d, zx_r2, zx_r0]
    refine t_storyCopy zx_s (Or.inr (Or.inr (Or.inl rfl))) (by omega) hR ok (fun σ1 h1 f1 => ?_)
    rw [zK_0]
    have h0 := h1.lw.h0
    have o0 := ok.2.2.1.1
    have f : ∀ a, a ≠ 1037 → zup σ1 1037 2 0 a = σ1 a := fun a ha => zup_f ha
    have z0 : zup σ1 1037 2 0 102 10 = w 0 := by rw [f 102 (by omega)]; exact h0
    simp (disch := first | assumption | exact p_c2i | exact p_c2r | exact p_c2n | omega | ((repeat (first | refine p_a1i.trans ?_ | refine p_a1r.trans ?_)); exact p_a10) | ((repeat (first | refine p_wI ?_ | refine p_wR ?_)); exact p_w0) | decide) only [reduceIte, Int.reduceLT, Int.reduceLE, Int.reduceEq, Int.reduceToNat, Int.reduceAdd, Int.reduceSub, Int.reduceMul, Int.reduceNeg, e104_29, e104_30, e104_33, e104_36, e104_37, e104_40, e104_43, e104_46, p_al0, p_getR, p_cv0_0, p_cv0_1, p_cv0_2, p_cv0_3, p_cv0_4, zK_v, zK_0, WN_ncl, p_getI, p_ret0, WN_nx, WN_nrt, WN_ite, zx_r4, zx_r0, zx_l, t_forgetCh, z0]
    obtain ⟨o, ho, g1, g2, g3⟩ := hC
    refine K0 (by omega) _ (h1.frame (fun a _ _ => f a (by omega))) ⟨o, ho, ?_, zup_s, fun k hk => absurd hk (Nat.not_lt_zero k)⟩ (fun a ha hb => (f a hb).trans (f1 a ha))
    rw [zup_j (by omega), f1 1037 (by omega)]
    exact g1
theorem t_undoM (hK : zKr τ kp n) (hn : n ≤ 8) (K1 : n = 0 → ∀ τ' b, zQy τ τ' 1 → Q (.inl (some (.inl b))) (3565, x, zrho) (zg τ' w)) (K0 : ∀ m, n = m + 1 → ∀ τ' w', zeq 6202 w' (kp m) → τ' 3553 8 = 0 → τ' 3553 6 = (m : Int) → (∀ k, k ≠ 6 → k ≠ 8 → τ' 3553 k = τ 3553 k) → (∀ a, a ≠ 3553 → τ' a = τ a) → Q (.inl (some (.inl (m : Int)))) (3565, x, zrho) (zg τ' w')) : WM 218 [.inr (.inl (some 3553))] (3565, x, zrho) (zg τ w) Q := by
  show Wp 218 0 [some (.inr (.inl (some 3553)))] [] _ _ Q
  have k := zm_k
  obtain ⟨h6, hr⟩ := hK
  cases n with
  | zero =>
    rw [show ((0 : Nat) : Int) = 0 from rfl] at h6
    simp (disch := first | assumption | exact p_c2i | exact p_c2r | exact p_c2n | omega | ((repeat (first | refine p_a1i.trans ?_ | refine p_a1r.trans ?_)); exact p_a10) | ((repeat (first | refine p_wI ?_ | refine p_wR ?_)); exact p_w0) | decide) only [reduceIte, Int.reduceLT, Int.reduceLE, Int.reduceEq, Int.reduceToNat, Int.reduceAdd, Int.reduceSub, Int.reduceMul, Int.reduceNeg, e218_0, e218_1, e218_2, e218_5, e218_8, e218_9, e218_12, e218_13, e218_16, e218_19, e218_20, p_al0, p_getI, p_ifne, p_push, p_goto, p_cv1_0, p_cv1_1, p_cv1_2, p_cv1_3, p_cv1_4, zK_v, zK_0, WN_ncl, p_ifeq, p_ret0, WN_nx, WN_nrt, WN_ite, zg_o3, h6, tf_1]
    exact K1 rfl _ _ zQy_f
  | succ m =>
    have d : (((m + 1 : Nat) : Int) = 0) = False := eq_false (by omega)
    have z6 : ∀ c, zup τ 3553 8 c 3553 6 = ((m + 1 : Nat) : Int) := fun c => (zup_j (by omega)).trans h6
    have e1 : ((m + 1 : Nat) : Int) - 1 = (m : Int) := by omega
    have e2 : (m : Int) * 6202 = ((6202 * m : Nat) : Int) := by omega
    simp (disch := first | assumption | exact p_c2i | exact p_c2r | exact p_c2n | omega | ((repeat (first | refine p_a1i.trans ?_ | refine p_a1r.trans ?_)); exact p_a10) | ((repeat (first | refine p_wI ?_ | refine p_wR ?_)); exact p_w0) | decide) only [reduceIte, Int.reduceLT, Int.reduceLE, Int.reduceEq, Int.reduceToNat, Int.reduceAdd, Int.reduceSub, Int.reduceMul, Int.reduceNeg, e218_0, e218_1, e218_2, e218_5, e218_8, e218_9, e218_12, e218_13, e218_16, e218_19, e218_20, e218_21, e218_22, e218_23, e218_26, e218_27, e218_28, p_al0, p_getI, p_ifne, p_push, p_goto, p_cv1_0, p_cv1_1, p_cv1_2, p_cv1_3, p_cv1_4, zK_v, zK_0, WN_ncl, p_ifeq, p_ret0, p_dupi, p_dupr, p_bin, p_putI, WN_nx, WN_nrt, WN_ite, zg_o3, h6, d, tf_0, z6, e1, zg_c3]
    simp (disch := first | assumption | exact p_c2i | exact p_c2r | exact p_c2n | omega | ((repeat (first | refine p_a1i.trans ?_ | refine p_a1r.trans ?_)); exact p_a10) | ((repeat (first | refine p_wI ?_ | refine p_wR ?_)); exact p_w0) | decide) only [reduceIte, Int.reduceLT, Int.reduceLE, Int.reduceEq, Int.reduceToNat, Int.reduceAdd, Int.reduceSub, Int.reduceMul, Int.reduceNeg, e218_31, e218_32, e218_35, e218_38, e218_39, e218_42, e218_43, e218_44, e218_47, e218_48, e218_51, p_al0, p_getR, p_push, p_getI, p_bin, p_cs5_0, p_cs5_1, p_cs5_2, p_cs5_3, p_cs5_4, zK_v, zK_0, WN_ncl, WN_nx, WN_nrt, WN_ite, zg_o3, zup_s, zm_r1, zm_r0, e2]
    rw [t_copies (a := 3555) (b := 3554) (p := 6202 * (m : Int)) (q := 0) (m := 6202) zm_5 zm_4 (by omega) (by omega) (by omega) (by rw [zm_n5]; omega) (by rw [zm_n4]; omega) (by omega) (by omega) (Or.inl (by omega)), zK_0, show (6202 * (m : Int)).toNat = 6202 * m by omega, show (0 : Int).toNat = 0 from rfl, show (6202 : Int).toNat = 6202 from rfl, zcp_to (by omega)]
    simp (disch := first | assumption | exact p_c2i | exact p_c2r | exact p_c2n | omega | ((repeat (first | refine p_a1i.trans ?_ | refine p_a1r.trans ?_)); exact p_a10) | ((repeat (first | refine p_wI ?_ | refine p_wR ?_)); exact p_w0) | decide) only [reduceIte, Int.reduceLT, Int.reduceLE, Int.reduceEq, Int.reduceToNat, Int.reduceAdd, Int.reduceSub, Int.reduceMul, Int.reduceNeg, e218_54, e218_55, e218_58, p_al0, p_getI, p_ret0, WN_nx, WN_nrt, WN_ite, zg_o3, zup_s]
    refine K0 m rfl _ _ (fun j hj => ?_) ?_ zup_s (fun k h1 h2 => (zup_j h1).trans (zup_j h2)) (fun a ha => (zup_f ha).trans (zup_f ha))
    · show (if 0 ≤ j ∧ j < 0 + 6202 then _ else _) = _
      rw [if_pos (by omega), zup_f (by omega), zup_f (by omega), show 6202 * m + (j - 0) = 6202 * m + j by omega]
      exact hr m (by omega) j hj
    · rw [zup_j (by omega)]
      exact zup_s
theorem t_saveM (ok : zok N w) (K0 : ∀ τ', (∀ j, j < 6202 → τ' 3556 j = w j) → τ' 3553 8 = 0 → τ' 3553 5 = 1 → (∀ k, k ≠ 5 → k ≠ 8 → τ' 3553 k = τ 3553 k) → (∀ a, a ≠ 3553 → a ≠ 3556 → τ' a = τ a) → Q (.inl (some (.inl (w 0)))) (3565, x, zrho) (zg τ' w)) : WM 219 [.inr (.inl (some 3553))] (3565, x, zrho) (zg τ w) Q := by
  show Wp 219 0 [some (.inr (.inl (some 3553)))] [] _ _ Q
  have k := zm_k
  have k4 := zm_4
  have n4 := zm_n4
  have o0 := ok.1
  simp (disch := first | assumption | exact p_c2i | exact p_c2r | exact p_c2n | omega | ((repeat (first | refine p_a1i.trans ?_ | refine p_a1r.trans ?_)); exact p_a10) | ((repeat (first | refine p_wI ?_ | refine p_wR ?_)); exact p_w0) | decide) only [reduceIte, Int.reduceLT, Int.reduceLE, Int.reduceEq, Int.reduceToNat, Int.reduceAdd, Int.reduceSub, Int.reduceMul, Int.reduceNeg, e219_0, e219_1, e219_2, e219_5, e219_6, e219_7, e219_10, e219_11, e219_14, e219_15, e219_16, e219_19, e219_20, e219_23, p_al0, p_push, p_putI, p_putZ, p_getR, p_cs5_0, p_cs5_1, p_cs5_2, p_cs5_3, p_cs5_4, zK_v, zK_0, WN_ncl, WN_nx, WN_nrt, WN_ite, zg_c3, zm_r0, zm_r2]
  rw [t_copies (a := 3554) (b := 3556) (p := 0) (q := 0) (m := 6202) zm_4 zm_6 (by omega) (by omega) (by omega) (by rw [zm_n4]; omega) (by rw [zm_n6]; omega) (by omega) (by omega) (Or.inl (by omega)), zK_0, show (0 : Int).toNat = 0 from rfl, show (6202 : Int).toNat = 6202 from rfl, zcp_sv]
  simp (disch := first | assumption | exact p_c2i | exact p_c2r | exact p_c2n | omega | ((repeat (first | refine p_a1i.trans ?_ | refine p_a1r.trans ?_)); exact p_a10) | ((repeat (first | refine p_wI ?_ | refine p_wR ?_)); exact p_w0) | decide) only [reduceIte, Int.reduceLT, Int.reduceLE, Int.reduceEq, Int.reduceToNat, Int.reduceAdd, Int.reduceSub, Int.reduceMul, Int.reduceNeg, e219_26, e219_27, e219_30, e219_31, e219_32, p_al0, p_getR, p_push, p_iald, p_ret0, WN_nx, WN_nrt, WN_ite, zm_r0, zg_s]
  refine K0 _ (fun j hj => zsv_w hj) ?_ ?_ (fun k h1 h2 => ?_) (fun a h1 h2 => ?_)
  · rw [zsv_f (by omega), zup_j (by omega)]
    exact zup_s
  · rw [zsv_f (by omega)]
    exact zup_s
  · rw [zsv_f (by omega), zup_j h1, zup_j h2]
  · rw [zsv_f h2, zup_f h1, zup_f h1]
theorem t_restoreM {b : Int} (hb : τ 3553 5 = b) (hb01 : b = 0 ∨ b = 1) (o0 : b ≠ 0 → 0 ≤ τ 3556 0 ∧ τ 3556 0 ≤ 4) (K1 : b = 0 → ∀ τ' b, zQy τ τ' 1 → Q (.inl (some (.inl b))) (3565, x, zrho) (zg τ' w)) (K0 : b ≠ 0 → ∀ τ' w', zeq 6202 w' (τ 3556) → τ' 3553 8 = 0 → τ' 3553 6 = 0 → (∀ k, k ≠ 6 → k ≠ 8 → τ' 3553 k = τ 3553 k) → (∀ a, a ≠ 3553 → τ' a = τ a) → Q (.inl (some (.inl (τ 3556 0)))) (3565, x, zrho) (zg τ' w')) : WM 220 [.inr (.inl (some 3553))] (3565, x, zrho) (zg τ w) Q := by
  show Wp 220 0 [some (.inr (.inl (some 3553)))] [] _ _ Q
  have k := zm_k
  have k4 := zm_4
  have n4 := zm_n4
  rcases hb01 with z | z
  · rw [z] at hb
    simp (disch := first | assumption | exact p_c2i | exact p_c2r | exact p_c2n | omega | ((repeat (first | refine p_a1i.trans ?_ | refine p_a1r.trans ?_)); exact p_a10) | ((repeat (first | refine p_wI ?_ | refine p_wR ?_)); exact p_w0) | decide) only [reduceIte, Int.reduceLT, Int.reduceLE, Int.reduceEq, Int.reduceToNat, Int.reduceAdd, Int.reduceSub, Int.reduceMul, Int.reduceNeg, e220_0, e220_1, e220_2, e220_5, e220_8, e220_9, e220_12, e220_13, e220_16, e220_19, e220_20, p_al0, p_getI, p_ifeq, p_push, p_goto, p_cv1_0, p_cv1_1, p_cv1_2, p_cv1_3, p_cv1_4, zK_v, zK_0, WN_ncl, p_ret0, WN_nx, WN_nrt, WN_ite, zg_o3, hb, tf_1]
    exact K1 z _ _ zQy_f
  · rw [z] at hb
    have o0 := o0 (by omega)
    have d : ((1 : Int) = 0) = False := eq_false (by omega)
    simp (disch := first | assumption | exact p_c2i | exact p_c2r | exact p_c2n | omega | ((repeat (first | refine p_a1i.trans ?_ | refine p_a1r.trans ?_)); exact p_a10) | ((repeat (first | refine p_wI ?_ | refine p_wR ?_)); exact p_w0) | decide) only [reduceIte, Int.reduceLT, Int.reduceLE, Int.reduceEq, Int.reduceToNat, Int.reduceAdd, Int.reduceSub, Int.reduceMul, Int.reduceNeg, e220_0, e220_1, e220_2, e220_5, e220_8, e220_9, e220_12, e220_13, e220_16, e220_19, e220_20, e220_21, e220_22, e220_25, e220_26, e220_27, e220_30, e220_31, e220_34, p_al0, p_getI, p_ifeq, p_push, p_goto, p_cv1_0, p_cv1_1, p_cv1_2, p_cv1_3, p_cv1_4, zK_v, zK_0, WN_ncl, p_ret0, p_getR, p_cs5_0, p_cs5_1, p_cs5_2, p_cs5_3, p_cs5_4, WN_nx, WN_nrt, WN_ite, zg_o3, hb, d, tf_0, zm_r2, zm_r0]
    rw [t_copies (a := 3556) (b := 3554) (p := 0) (q := 0) (m := 6202) zm_6 zm_4 (by omega) (by omega) (by omega) (by rw [zm_n6]; omega) (by rw [zm_n4]; omega) (by omega) (by omega) (Or.inl (by omega)), zK_0, show (0 : Int).toNat = 0 from rfl, show (6202 : Int).toNat = 6202 from rfl, zcp_to (by omega)]
    have h6 : ∀ a j, a ≠ 3553 → zup τ 3553 8 0 a j = τ a j := fun a j ha => congrFun (zup_f ha) j
    have e0 : (fun j => if 0 ≤ j ∧ j < 0 + 6202 then zup τ 3553 8 0 3556 (0 + (j - 0)) else w j) 0 = τ 3556 0 := (if_pos ⟨Nat.le_refl 0, by decide⟩).trans (h6 3556 0 (by omega))
    have fr : ∀ v : zW, v 0 = τ 3556 0 → zeq 6202 v (τ 3556) → Wp 220 37 [some (.inr (.inl (some 3553)))] [] (3565, x, zrho) (zg (zup τ 3553 8 0) v) Q := by
      intro v v0 ve
      simp (disch := first | assumption | exact p_c2i | exact p_c2r | exact p_c2n | omega | ((repeat (first | refine p_a1i.trans ?_ | refine p_a1r.trans ?_)); exact p_a10) | ((repeat (first | refine p_wI ?_ | refine p_wR ?_)); exact p_w0) | decide) only [reduceIte, Int.reduceLT, Int.reduceLE, Int.reduceEq, Int.reduceToNat, Int.reduceAdd, Int.reduceSub, Int.reduceMul, Int.reduceNeg, e220_37, e220_38, e220_39, e220_42, e220_43, e220_46, e220_47, e220_48, p_al0, p_push, p_putI, p_getR, p_iald, p_ret0, WN_nx, WN_nrt, WN_ite, zg_c3, zm_r0, zg_s, v0]
      exact K0 (by omega) _ v ve ((zup_j (by omega)).trans zup_s) zup_s (fun k h1 h2 => (zup_j h1).trans (zup_j h2)) (fun a ha => (zup_f ha).trans (zup_f ha))
    refine fr _ e0 (fun j hj => ?_)
    show (if 0 ≤ j ∧ j < 0 + 6202 then _ else _) = _
    rw [if_pos (by omega), h6 _ _ (by omega), show 0 + (j - 0) = j by omega]
end
