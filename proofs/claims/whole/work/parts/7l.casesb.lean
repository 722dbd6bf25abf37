/-! THE LAW: its other cases -/
section
variable {σ s0 : ZI} {Q : ZO → ZT → ZI → Prop} {x i : Nat} {N : Int} {l5 l6 l7 l8 : Option ZV}
theorem p_dcmp {n : Nat} {ls : ZL} {st : List ZV} {θ : ZT} {σ : ZI} {x y : UInt64} : o_dcmp n ls (.inr (.inr (.inr (.inr y))) :: .inr (.inr (.inr (.inr x))) :: st) θ σ = nx n ls (.inl (Op.cmpValue (FP.dcmp x y) .l).toInt :: st) θ σ := rfl
theorem fF_lt {p : Nat → Bool} : ∀ {n i m : Nat}, fF p i n = m → ∀ {q : Nat}, i ≤ q → q < m → ¬ p q = true := by
  intro n
  induction n with
  | zero =>
    intro i m h q h1 h2
    have h' : i = m := h
    omega
  | succ n ih =>
    intro i m h q h1 h2
    rw [fF_s] at h
    by_cases c : p i = true
    · rw [if_pos c] at h
      omega
    · rw [if_neg c] at h
      by_cases e : q = i
      · subst e; exact c
      · exact ih h (by omega) h2
theorem rA_ok {ts : Nat → Int} {tl M : Nat} {w : zW} (hp : zPar ts tl M) (ok : zSok N w) (hN : 0 ≤ N) : ∀ m, m ≤ M → (∀ q, q < m → ¬ rP ts tl w q = true) → zSok (N + 600 * m) (rA ts tl w m) := by
  intro m
  induction m with
  | zero => intro _ _; exact zSok_mono ok (by omega)
  | succ m ih =>
    intro h1 h2
    have h3 := ih (by omega) (fun q hq => h2 q (by omega))
    obtain ⟨p1, p2, p3, p4⟩ := zPar_e hp (i := m) (by omega)
    have h4 : (qO ts tl (rA ts tl w m) (sO ts tl m)).1 = 0 := Classical.byContradiction (fun z => h2 m (by omega) (decide_eq_true z))
    exact zSok_mono (zSok_W (eO_lt p1) h3 (by omega) h4) (by omega)
theorem t_law1 (hI : zInv s0 N σ) (hN0 : 0 ≤ N) (hN : N ≤ 60000000) (hl : 4 * (i : Int) + 3 < s0 23 0) (hl2 : s0 23 0 ≤ 2048) (hs : ∀ k, zi3 (s0 0 k)) (hz : zTx s0) (K : ∀ (σ' : ZI) (x' : Nat) (l5 l6 l7 l8 : Option ZV), zInv s0 (N + 20000) σ' → x' ≤ x + 1 → Wp 262 2277 [some (.inr (.inl (some 0))), some (.inr (.inl (some 100))), some (.inr (.inl (some 3553))), some (.inr (.inl (some 3564))), some (.inl (4 * (i : Int))), l5, l6, l7, l8] [] (3565, x', zrho) σ' Q) : Wp 262 288 [some (.inr (.inl (some 0))), some (.inr (.inl (some 100))), some (.inr (.inl (some 3553))), some (.inr (.inl (some 3564))), some (.inl (4 * (i : Int))), l5, l6, l7, l8] [] (3565, x, zrho) σ Q := by
  obtain ⟨hA, hB, hC, hD, hE, hF, hG, hH⟩ := id hI
  have hk := hA.2.2.2.1
  have k20 : zkd 0 = 20 := rfl
  have k64 := zo_k
  have n64 := zo_n
  have gp : ∀ k, σ 0 k = s0 0 k := fun k => congrFun (hH.2 0 (by omega)) k
  have c23 : σ 23 0 = s0 23 0 := congrFun (hH.2 23 (by omega)) 0
  have e1 : (4 * (i : Int) + 1).toNat = 4 * i + 1 := by omega
  have e2 : (4 * (i : Int) + 2).toNat = 4 * i + 2 := by omega
  have e3 : (4 * (i : Int) + 3).toNat = 4 * i + 3 := by omega
  have s1 := hs (4 * i + 1)
  have s2 := hs (4 * i + 2)
  have s3 := hs (4 * i + 3)
  obtain ⟨s1a, s1b⟩ := s1
  obtain ⟨s2a, s2b⟩ := s2
  obtain ⟨s3a, s3b⟩ := s3
  obtain ⟨kp, n, hCr, hKr, hn8, hkk⟩ := hB
  simp (disch := first | assumption | exact p_c2i | exact p_c2r | exact p_c2n | omega | ((repeat (first | refine p_a1i.trans ?_ | refine p_a1r.trans ?_)); exact p_a10) | ((repeat (first | refine p_wI ?_ | refine p_wR ?_)); exact p_w0) | decide) only [reduceIte, Int.reduceLT, Int.reduceLE, Int.reduceEq, Int.reduceToNat, Int.reduceAdd, Int.reduceSub, Int.reduceMul, Int.reduceNeg, e262_288, e262_289, e262_290, e262_292, e262_293, e262_294, e262_295, e262_296, p_al1, p_al0, p_il4, p_push, p_bin, p_sald, p_al3, p_cs3_0, p_cs3_1, p_cs3_2, p_cs3_3, p_cs3_4, zK_v, zK_0, WN_ncl, WN_nx, WN_nrt, WN_ite, gp, e1, e2, e3]
  refine t_dropW (hs _) hA.1 hA.2 hCr hn8 (fun _ => b_w01 hk) (fun z1 => ?_) (fun z1 z2 z3 z4 z5 => ?_)
  · rw [zK_v]
    have fz := fun a (ha : a < 100) => hH.2 a ha
    have fz := fun a (_ : a < 100) => (rfl : σ a = σ a)
    have es := lw_es (σ := σ) (σ1 := σ) rfl
    rw [← es]
    have gq := fun k => lw_g0 es fz gp k
    have c23q := lw_23 es fz c23
    simp (disch := first | assumption | exact p_c2i | exact p_c2r | exact p_c2n | omega | ((repeat (first | refine p_a1i.trans ?_ | refine p_a1r.trans ?_)); exact p_a10) | ((repeat (first | refine p_wI ?_ | refine p_wR ?_)); exact p_w0) | decide) only [reduceIte, Int.reduceLT, Int.reduceLE, Int.reduceEq, Int.reduceToNat, Int.reduceAdd, Int.reduceSub, Int.reduceMul, Int.reduceNeg, e262_299, e262_301, e262_302, e262_303, e262_305, e262_306, e262_307, e262_308, p_is5, p_c2n, p_c2i, p_c2r, p_al2, p_al0, p_il4, p_push, p_bin, p_sald, p_cv1_0, p_cv1_1, p_cv1_2, p_cv1_3, p_cv1_4, zK_v, zK_0, WN_ncl, WN_nx, WN_nrt, WN_ite, gq, e1, e2, e3]
    refine t_dropM hk (hs _) hKr.1 hn8 (Or.inl hH.1) (fun y1 y2 y3 => ?_) (fun y1 y2 y3 => ?_)
    · rw [zK_v]
      have e8 := y3.1
      have tt := fun (Q : ZO → ZT → ZI → Prop) (x : Nat) (w : zW) => t_thrownM (τ := y2) (w := w) (x := x) (Q := Q) (by rw [e8]; omega)
      rw [e8] at tt
      simp (disch := first | assumption | exact p_c2i | exact p_c2r | exact p_c2n | omega | ((repeat (first | refine p_a1i.trans ?_ | refine p_a1r.trans ?_)); exact p_a10) | ((repeat (first | refine p_wI ?_ | refine p_wR ?_)); exact p_w0) | decide) only [reduceIte, Int.reduceLT, Int.reduceLE, Int.reduceEq, Int.reduceToNat, Int.reduceAdd, Int.reduceSub, Int.reduceMul, Int.reduceNeg, e262_311, e262_313, e262_314, e262_317, e262_319, e262_322, e262_323, e262_324, e262_326, e262_329, e262_330, e262_331, e262_332, e262_334, e262_335, e262_336, e262_339, e262_340, e262_341, p_is6, p_c2n, p_c2i, p_c2r, p_al2, p_cv0_0, p_cv0_1, p_cv0_2, p_cv0_3, p_cv0_4, zK_v, zK_0, WN_ncl, p_il5, p_ceq, p_push, p_ret1, p_ifne, p_al3, p_lald, p_il6, p_i2l, p_lcmp, p_ifeq, p_goto, WN_nx, WN_nrt, WN_ite, tt]
      exact K _ _ _ _ _ _ (inv_f (o := (1, 0, 0)) hI (by omega) (by decide) ⟨by decide, by decide⟩ ⟨by decide, by decide⟩ (by rw [zref_0]; exact y3)) (by omega)
    · exact absurd y1 z1
  · rw [zK_v]
    have f0 : ∀ a, (a < 101 ∨ (413 ≤ a ∧ a < 1037) ∨ 3535 ≤ a) → a ≠ 3564 → zup z2 3564 0 (σ 3554 0 - 1) a = σ a := fun a ha hb => (zup_f hb).trans (z5 a ha)
    have t6 := (congrFun (f0 3553 (by omega) (by omega)) 6).trans hKr.1
    have t7 := (congrFun (f0 3553 (by omega) (by omega)) 7).trans hH.1
    obtain ⟨bb1, bb2⟩ := b_w01 hk
    have fz := fun a (ha : a < 100) => f0 a (by omega) (by omega)
    have es := lw_es (f0 3554 (by omega) (by omega))
    rw [← es]
    have gq := fun k => lw_g0 es fz gp k
    have c23q := lw_23 es fz c23
    simp (disch := first | assumption | exact p_c2i | exact p_c2r | exact p_c2n | omega | ((repeat (first | refine p_a1i.trans ?_ | refine p_a1r.trans ?_)); exact p_a10) | ((repeat (first | refine p_wI ?_ | refine p_wR ?_)); exact p_w0) | decide) only [reduceIte, Int.reduceLT, Int.reduceLE, Int.reduceEq, Int.reduceToNat, Int.reduceAdd, Int.reduceSub, Int.reduceMul, Int.reduceNeg, e262_299, e262_301, e262_302, e262_303, e262_305, e262_306, e262_307, e262_308, p_is5, p_c2n, p_c2i, p_c2r, p_al2, p_al0, p_il4, p_push, p_bin, p_sald, p_cv1_0, p_cv1_1, p_cv1_2, p_cv1_3, p_cv1_4, zK_v, zK_0, WN_ncl, WN_nx, WN_nrt, WN_ite, gq, e1, e2, e3]
    refine t_dropM hk (hs _) t6 hn8 (Or.inl t7) (fun y1 y2 y3 => ?_) (fun y1 y2 y3 => ?_)
    · exact absurd z1 y1
    · rw [zK_v]
      have e8 := y3.1
      have tt := fun (Q : ZO → ZT → ZI → Prop) (x : Nat) (w : zW) => t_thrownM (τ := y2) (w := w) (x := x) (Q := Q) (by rw [e8]; exact ⟨Int.le_refl 0, by decide⟩)
      rw [e8] at tt
      have o64 := fun u => lw_64 (u := u) (y3.2.2.2.2.1 3564 (by omega) (by omega) (by omega))
      simp (disch := first | assumption | exact p_c2i | exact p_c2r | exact p_c2n | omega | ((repeat (first | refine p_a1i.trans ?_ | refine p_a1r.trans ?_)); exact p_a10) | ((repeat (first | refine p_wI ?_ | refine p_wR ?_)); exact p_w0) | decide) only [reduceIte, Int.reduceLT, Int.reduceLE, Int.reduceEq, Int.reduceToNat, Int.reduceAdd, Int.reduceSub, Int.reduceMul, Int.reduceNeg, e262_311, e262_313, e262_314, e262_317, e262_319, e262_322, e262_323, e262_324, e262_326, e262_329, e262_330, e262_331, e262_332, e262_334, e262_335, e262_336, e262_339, e262_340, e262_341, p_is6, p_c2n, p_c2i, p_c2r, p_al2, p_cv0_0, p_cv0_1, p_cv0_2, p_cv0_3, p_cv0_4, zK_v, zK_0, WN_ncl, p_il5, p_ceq, p_push, p_ret1, p_ifne, p_al3, p_lald, p_il6, p_i2l, p_lcmp, p_ifeq, p_goto, WN_nx, WN_nrt, WN_ite, tt, o64, lw_lt]
      exact K _ _ _ _ _ _ (inv_c hI (by omega) z3 z4 hKr hn8 hkk z5 y3 (zSok_mono (zSok_W (c := 120) (a1 := s0 0 (4 * i + 1)) (a2 := 0) (a3 := 0) (Or.inr (Or.inr (Or.inr (Or.inr (Or.inr (Or.inl rfl)))))) hA.2 hN0 (by show (oDrop _ _).1 = 0; unfold oDrop; rw [if_pos z1])) (by omega))) (by omega)
theorem t_law10 (hI : zInv s0 N σ) (hN0 : 0 ≤ N) (hN : N ≤ 60000000) (hl : 4 * (i : Int) + 3 < s0 23 0) (hl2 : s0 23 0 ≤ 2048) (hs : ∀ k, zi3 (s0 0 k)) (hz : zTx s0) (K : ∀ (σ' : ZI) (x' : Nat) (l5 l6 l7 l8 : Option ZV), zInv s0 (N + 20000) σ' → x' ≤ x + 1 → Wp 262 2277 [some (.inr (.inl (some 0))), some (.inr (.inl (some 100))), some (.inr (.inl (some 3553))), some (.inr (.inl (some 3564))), some (.inl (4 * (i : Int))), l5, l6, l7, l8] [] (3565, x', zrho) σ' Q) : Wp 262 864 [some (.inr (.inl (some 0))), some (.inr (.inl (some 100))), some (.inr (.inl (some 3553))), some (.inr (.inl (some 3564))), some (.inl (4 * (i : Int))), l5, l6, l7, l8] [] (3565, x, zrho) σ Q := by
  obtain ⟨hA, hB, hC, hD, hE, hF, hG, hH⟩ := id hI
  have hk := hA.2.2.2.1
  have k20 : zkd 0 = 20 := rfl
  have k64 := zo_k
  have n64 := zo_n
  have gp : ∀ k, σ 0 k = s0 0 k := fun k => congrFun (hH.2 0 (by omega)) k
  have c23 : σ 23 0 = s0 23 0 := congrFun (hH.2 23 (by omega)) 0
  have e1 : (4 * (i : Int) + 1).toNat = 4 * i + 1 := by omega
  have e2 : (4 * (i : Int) + 2).toNat = 4 * i + 2 := by omega
  have e3 : (4 * (i : Int) + 3).toNat = 4 * i + 3 := by omega
  have s1 := hs (4 * i + 1)
  have s2 := hs (4 * i + 2)
  have s3 := hs (4 * i + 3)
  obtain ⟨s1a, s1b⟩ := s1
  obtain ⟨s2a, s2b⟩ := s2
  obtain ⟨s3a, s3b⟩ := s3
  obtain ⟨kp, n, hCr, hKr, hn8, hkk⟩ := hB
  have ob := oBack_b (w := σ 3554)
  have o201 := hA.2.1
  simp (disch := first | assumption | exact p_c2i | exact p_c2r | exact p_c2n | omega | ((repeat (first | refine p_a1i.trans ?_ | refine p_a1r.trans ?_)); exact p_a10) | ((repeat (first | refine p_wI ?_ | refine p_wR ?_)); exact p_w0) | decide) only [reduceIte, Int.reduceLT, Int.reduceLE, Int.reduceEq, Int.reduceToNat, Int.reduceAdd, Int.reduceSub, Int.reduceMul, Int.reduceNeg, e262_864, e262_865, e262_866, p_al1, p_al3, p_cs2_0, p_cs2_1, p_cs2_2, p_cs2_3, p_cs2_4, zK_v, zK_0, WN_ncl, WN_nx, WN_nrt, WN_ite, gp, e1, e2, e3]
  refine t_backW hA.1 hA.2 (by omega) hCr hn8 (fun _ => b_back hA.2) (fun z1 => ?_) (fun z1 z2 z3 z4 z5 => ?_)
  · rw [zK_v]
    have f0 := fun a (ha : a ≠ 100) => zref_f (σ := σ) (o := oBack (σ 3554)) ha
    have t6 := (congrFun (f0 3553 (by omega)) 6).trans hKr.1
    have t7 := (congrFun (f0 3553 (by omega)) 7).trans hH.1
    have fz := fun a (ha : a < 100) => f0 a (by omega)
    have es := lw_es (f0 3554 (by omega))
    rw [← es]
    have gq := fun k => lw_g0 es fz gp k
    have c23q := lw_23 es fz c23
    simp (disch := first | assumption | exact p_c2i | exact p_c2r | exact p_c2n | omega | ((repeat (first | refine p_a1i.trans ?_ | refine p_a1r.trans ?_)); exact p_a10) | ((repeat (first | refine p_wI ?_ | refine p_wR ?_)); exact p_w0) | decide) only [reduceIte, Int.reduceLT, Int.reduceLE, Int.reduceEq, Int.reduceToNat, Int.reduceAdd, Int.reduceSub, Int.reduceMul, Int.reduceNeg, e262_869, e262_871, e262_872, p_is5, p_c2n, p_c2i, p_c2r, p_al2, p_cv0_0, p_cv0_1, p_cv0_2, p_cv0_3, p_cv0_4, zK_v, zK_0, WN_ncl, WN_nx, WN_nrt, WN_ite, gq, e1, e2, e3]
    refine t_backM hA.2 (by omega) t6 hn8 (Or.inl t7) (fun y1 y2 y3 => ?_) (fun y1 y2 y3 => ?_)
    · rw [zK_v]
      have rr := oBack_r hA.2 (by omega)
      have e8 := (y3.1.trans (show (oBack (σ 3554)).1 = 1 by omega))
      have tt := fun (Q : ZO → ZT → ZI → Prop) (x : Nat) (w : zW) => t_thrownM (τ := y2) (w := w) (x := x) (Q := Q) (by rw [e8]; omega)
      rw [e8] at tt
      simp (disch := first | assumption | exact p_c2i | exact p_c2r | exact p_c2n | omega | ((repeat (first | refine p_a1i.trans ?_ | refine p_a1r.trans ?_)); exact p_a10) | ((repeat (first | refine p_wI ?_ | refine p_wR ?_)); exact p_w0) | decide) only [reduceIte, Int.reduceLT, Int.reduceLE, Int.reduceEq, Int.reduceToNat, Int.reduceAdd, Int.reduceSub, Int.reduceMul, Int.reduceNeg, e262_875, e262_877, e262_878, e262_881, e262_883, e262_886, e262_887, e262_888, e262_890, e262_893, e262_894, e262_895, e262_896, e262_898, e262_899, e262_900, e262_903, e262_904, e262_905, p_is6, p_c2n, p_c2i, p_c2r, p_al2, p_cv0_0, p_cv0_1, p_cv0_2, p_cv0_3, p_cv0_4, zK_v, zK_0, WN_ncl, p_il5, p_ceq, p_push, p_ret1, p_ifne, p_al3, p_lald, p_il6, p_i2l, p_lcmp, p_ifeq, p_goto, WN_nx, WN_nrt, WN_ite, tt]
      exact K _ _ _ _ _ _ (inv_f hI (by omega) y1 rr.1 rr.2 y3) (by omega)
    · exact absurd z1 (oBack_0 y1)
  · rw [zK_v]
    have ez : (oBack (σ 3554)).1 = 0 := by unfold oBack; rw [if_neg (by omega)]
    have f0 : ∀ a, (a < 101 ∨ (413 ≤ a ∧ a < 1037) ∨ 3535 ≤ a) → a ≠ 3564 → zup z2 3564 0 (σ 3554 201 - 1) a = σ a := fun a ha hb => (zup_f hb).trans (z5 a ha)
    have t6 := (congrFun (f0 3553 (by omega) (by omega)) 6).trans hKr.1
    have t7 := (congrFun (f0 3553 (by omega) (by omega)) 7).trans hH.1
    obtain ⟨bb1, bb2⟩ := b_back hA.2
    have fz := fun a (ha : a < 100) => f0 a (by omega) (by omega)
    have es := lw_es (f0 3554 (by omega) (by omega))
    rw [← es]
    have gq := fun k => lw_g0 es fz gp k
    have c23q := lw_23 es fz c23
    simp (disch := first | assumption | exact p_c2i | exact p_c2r | exact p_c2n | omega | ((repeat (first | refine p_a1i.trans ?_ | refine p_a1r.trans ?_)); exact p_a10) | ((repeat (first | refine p_wI ?_ | refine p_wR ?_)); exact p_w0) | decide) only [reduceIte, Int.reduceLT, Int.reduceLE, Int.reduceEq, Int.reduceToNat, Int.reduceAdd, Int.reduceSub, Int.reduceMul, Int.reduceNeg, e262_869, e262_871, e262_872, p_is5, p_c2n, p_c2i, p_c2r, p_al2, p_cv0_0, p_cv0_1, p_cv0_2, p_cv0_3, p_cv0_4, zK_v, zK_0, WN_ncl, WN_nx, WN_nrt, WN_ite, gq, e1, e2, e3]
    refine t_backM hA.2 (by omega) t6 hn8 (Or.inl t7) (fun y1 y2 y3 => ?_) (fun y1 y2 y3 => ?_)
    · exact absurd ez y1
    · rw [zK_v]
      have e8 := y3.1
      have tt := fun (Q : ZO → ZT → ZI → Prop) (x : Nat) (w : zW) => t_thrownM (τ := y2) (w := w) (x := x) (Q := Q) (by rw [e8]; exact ⟨Int.le_refl 0, by decide⟩)
      rw [e8] at tt
      have o64 := fun u => lw_64 (u := u) (y3.2.2.2.2.1 3564 (by omega) (by omega) (by omega))
      simp (disch := first | assumption | exact p_c2i | exact p_c2r | exact p_c2n | omega | ((repeat (first | refine p_a1i.trans ?_ | refine p_a1r.trans ?_)); exact p_a10) | ((repeat (first | refine p_wI ?_ | refine p_wR ?_)); exact p_w0) | decide) only [reduceIte, Int.reduceLT, Int.reduceLE, Int.reduceEq, Int.reduceToNat, Int.reduceAdd, Int.reduceSub, Int.reduceMul, Int.reduceNeg, e262_875, e262_877, e262_878, e262_881, e262_883, e262_886, e262_887, e262_888, e262_890, e262_893, e262_894, e262_895, e262_896, e262_898, e262_899, e262_900, e262_903, e262_904, e262_905, p_is6, p_c2n, p_c2i, p_c2r, p_al2, p_cv0_0, p_cv0_1, p_cv0_2, p_cv0_3, p_cv0_4, zK_v, zK_0, WN_ncl, p_il5, p_ceq, p_push, p_ret1, p_ifne, p_al3, p_lald, p_il6, p_i2l, p_lcmp, p_ifeq, p_goto, WN_nx, WN_nrt, WN_ite, tt, o64, lw_lt]
      exact K _ _ _ _ _ _ (inv_c hI (by omega) z3 z4 hKr hn8 hkk z5 y3 (zSok_mono (zSok_W (c := 98) (a1 := 0) (a2 := 0) (a3 := 0) (Or.inr (Or.inr (Or.inr (Or.inr (Or.inl rfl))))) hA.2 hN0 ez) (by omega))) (by omega)
theorem t_law25 (hI : zInv s0 N σ) (hN0 : 0 ≤ N) (hN : N ≤ 60000000) (hl : 4 * (i : Int) + 3 < s0 23 0) (hl2 : s0 23 0 ≤ 2048) (hs : ∀ k, zi3 (s0 0 k)) (hz : zTx s0) (K : ∀ (σ' : ZI) (x' : Nat) (l5 l6 l7 l8 : Option ZV), zInv s0 (N + 20000) σ' → x' ≤ x + 1 → Wp 262 2277 [some (.inr (.inl (some 0))), some (.inr (.inl (some 100))), some (.inr (.inl (some 3553))), some (.inr (.inl (some 3564))), some (.inl (4 * (i : Int))), l5, l6, l7, l8] [] (3565, x', zrho) σ' Q) : Wp 262 1711 [some (.inr (.inl (some 0))), some (.inr (.inl (some 100))), some (.inr (.inl (some 3553))), some (.inr (.inl (some 3564))), some (.inl (4 * (i : Int))), l5, l6, l7, l8] [] (3565, x, zrho) σ Q := by
  obtain ⟨hA, hB, hC, hD, hE, hF, hG, hH⟩ := id hI
  have hk := hA.2.2.2.1
  have k20 : zkd 0 = 20 := rfl
  have k64 := zo_k
  have n64 := zo_n
  have gp : ∀ k, σ 0 k = s0 0 k := fun k => congrFun (hH.2 0 (by omega)) k
  have c23 : σ 23 0 = s0 23 0 := congrFun (hH.2 23 (by omega)) 0
  have e1 : (4 * (i : Int) + 1).toNat = 4 * i + 1 := by omega
  have e2 : (4 * (i : Int) + 2).toNat = 4 * i + 2 := by omega
  have e3 : (4 * (i : Int) + 3).toNat = 4 * i + 3 := by omega
  have s1 := hs (4 * i + 1)
  have s2 := hs (4 * i + 2)
  have s3 := hs (4 * i + 3)
  obtain ⟨s1a, s1b⟩ := s1
  obtain ⟨s2a, s2b⟩ := s2
  obtain ⟨s3a, s3b⟩ := s3
  simp (disch := first | assumption | exact p_c2i | exact p_c2r | exact p_c2n | omega | ((repeat (first | refine p_a1i.trans ?_ | refine p_a1r.trans ?_)); exact p_a10) | ((repeat (first | refine p_wI ?_ | refine p_wR ?_)); exact p_w0) | decide) only [reduceIte, Int.reduceLT, Int.reduceLE, Int.reduceEq, Int.reduceToNat, Int.reduceAdd, Int.reduceSub, Int.reduceMul, Int.reduceNeg, e262_1711, e262_1712, e262_1713, e262_1715, e262_1716, e262_1717, e262_1718, e262_1719, p_al1, p_al0, p_il4, p_push, p_bin, p_sald, p_al3, p_cs3_0, p_cs3_1, p_cs3_2, p_cs3_3, p_cs3_4, zK_v, zK_0, WN_ncl, WN_nx, WN_nrt, WN_ite, gp, e1, e2, e3]
  refine t_rowLineW hA.1 hA.2 (hs _) (fun _ => ⟨by omega, by omega⟩) (fun z1 => ?_) (fun z1 z2 z3 => ?_)
  · rw [zK_v]
    have f1 : zfx σ σ := zfx_r
    have fz := fun a (ha : a < 100) => f1 a (by omega) (by omega)
    have es := lw_es (f1 3554 (by omega) (by omega))
    rw [← es]
    have gq := fun k => lw_g0 es fz gp k
    have c23q := lw_23 es fz c23
    simp (disch := first | assumption | exact p_c2i | exact p_c2r | exact p_c2n | omega | ((repeat (first | refine p_a1i.trans ?_ | refine p_a1r.trans ?_)); exact p_a10) | ((repeat (first | refine p_wI ?_ | refine p_wR ?_)); exact p_w0) | decide) only [reduceIte, Int.reduceLT, Int.reduceLE, Int.reduceEq, Int.reduceToNat, Int.reduceAdd, Int.reduceSub, Int.reduceMul, Int.reduceNeg, e262_1722, e262_1724, e262_1725, e262_1726, e262_1728, e262_1729, e262_1730, e262_1731, p_is5, p_c2n, p_c2i, p_c2r, p_al2, p_al0, p_il4, p_push, p_bin, p_sald, p_cv1_0, p_cv1_1, p_cv1_2, p_cv1_3, p_cv1_4, zK_v, zK_0, WN_ncl, WN_nx, WN_nrt, WN_ite, gq, e1, e2, e3]
    refine t_rowLineM hk (hs _) (fun y1 y2 y3 y4 => ?_) (fun y1 y2 y3 => ?_)
    · rw [zK_v]
      have e8 := y4.1
      have tt := fun (Q : ZO → ZT → ZI → Prop) (x : Nat) (w : zW) => t_thrownM (τ := y2) (w := w) (x := x) (Q := Q) (by rw [e8]; omega)
      rw [e8] at tt
      simp (disch := first | assumption | exact p_c2i | exact p_c2r | exact p_c2n | omega | ((repeat (first | refine p_a1i.trans ?_ | refine p_a1r.trans ?_)); exact p_a10) | ((repeat (first | refine p_wI ?_ | refine p_wR ?_)); exact p_w0) | decide) only [reduceIte, Int.reduceLT, Int.reduceLE, Int.reduceEq, Int.reduceToNat, Int.reduceAdd, Int.reduceSub, Int.reduceMul, Int.reduceNeg, e262_1734, e262_1736, e262_1737, e262_1740, e262_1742, e262_1745, e262_1746, e262_1747, e262_1749, e262_1752, e262_1753, e262_1754, e262_1755, e262_1757, e262_1758, e262_1759, e262_1762, e262_1763, e262_1764, p_is6, p_c2n, p_c2i, p_c2r, p_al2, p_cv0_0, p_cv0_1, p_cv0_2, p_cv0_3, p_cv0_4, zK_v, zK_0, WN_ncl, p_il5, p_ceq, p_push, p_ret1, p_ifne, p_al3, p_lald, p_il6, p_i2l, p_lcmp, p_ifeq, p_goto, WN_nx, WN_nrt, WN_ite, tt]
      exact K _ _ _ _ _ _ (inv_q hI (by omega) f1 y4) (by omega)
    · exact absurd y1 z1
  · rw [zK_v]
    have f0 : ∀ a, a ≠ 100 → a ≠ 3552 → a ≠ 3564 → zup z2 3564 0 9 a = σ a := fun a h1 h2 h3 => (zup_f h3).trans (z3.2.2.2 a h1 h2)
    have fz := fun a (ha : a < 100) => f0 a (by omega) (by omega) (by omega)
    have es := lw_es (f0 3554 (by omega) (by omega) (by omega))
    rw [← es]
    have gq := fun k => lw_g0 es fz gp k
    have c23q := lw_23 es fz c23
    simp (disch := first | assumption | exact p_c2i | exact p_c2r | exact p_c2n | omega | ((repeat (first | refine p_a1i.trans ?_ | refine p_a1r.trans ?_)); exact p_a10) | ((repeat (first | refine p_wI ?_ | refine p_wR ?_)); exact p_w0) | decide) only [reduceIte, Int.reduceLT, Int.reduceLE, Int.reduceEq, Int.reduceToNat, Int.reduceAdd, Int.reduceSub, Int.reduceMul, Int.reduceNeg, e262_1722, e262_1724, e262_1725, e262_1726, e262_1728, e262_1729, e262_1730, e262_1731, p_is5, p_c2n, p_c2i, p_c2r, p_al2, p_al0, p_il4, p_push, p_bin, p_sald, p_cv1_0, p_cv1_1, p_cv1_2, p_cv1_3, p_cv1_4, zK_v, zK_0, WN_ncl, WN_nx, WN_nrt, WN_ite, gq, e1, e2, e3]
    refine t_rowLineM hk (hs _) (fun y1 y2 y3 y4 => ?_) (fun y1 y2 y3 => ?_)
    · exact absurd z1 y1
    · rw [zK_v]
      have ff : ∀ k, k < 9 → 0 ≤ aSign (σ 3554) (9 * (s0 0 (4 * i + 1)).toNat + k) ∧ aSign (σ 3554) (9 * (s0 0 (4 * i + 1)).toNat + k) < 65536 := fun k hk9 => by have := aSign_in (w := σ 3554) (c := 9 * (s0 0 (4 * i + 1)).toNat + k) hk (by omega); omega
      have e8 := y3.2.2.1
      have tt := fun (Q : ZO → ZT → ZI → Prop) (x : Nat) (w : zW) => t_thrownM (τ := y2) (w := w) (x := x) (Q := Q) (by rw [e8]; exact ⟨Int.le_refl 0, by decide⟩)
      rw [e8] at tt
      have o64 := fun u => lw_64 (u := u) (y3.2.2.2.2 3564 (by omega) (by omega))
      simp (disch := first | assumption | exact p_c2i | exact p_c2r | exact p_c2n | omega | ((repeat (first | refine p_a1i.trans ?_ | refine p_a1r.trans ?_)); exact p_a10) | ((repeat (first | refine p_wI ?_ | refine p_wR ?_)); exact p_w0) | decide) only [reduceIte, Int.reduceLT, Int.reduceLE, Int.reduceEq, Int.reduceToNat, Int.reduceAdd, Int.reduceSub, Int.reduceMul, Int.reduceNeg, e262_1734, e262_1736, e262_1737, e262_1740, e262_1742, e262_1745, e262_1746, e262_1747, e262_1749, e262_1752, e262_1753, e262_1754, e262_1755, e262_1757, e262_1758, e262_1759, e262_1762, e262_1763, e262_1764, p_is6, p_c2n, p_c2i, p_c2r, p_al2, p_cv0_0, p_cv0_1, p_cv0_2, p_cv0_3, p_cv0_4, zK_v, zK_0, WN_ncl, p_il5, p_ceq, p_push, p_ret1, p_ifne, p_al3, p_lald, p_il6, p_i2l, p_lcmp, p_ifeq, p_goto, WN_nx, WN_nrt, WN_ite, tt, o64, lw_lt]
      exact K _ _ _ _ _ _ (inv_l hI (by omega) (Nat.le_refl 9) ff z3 (Or.inr y3)) (by omega)
theorem t_law26 (hI : zInv s0 N σ) (hN0 : 0 ≤ N) (hN : N ≤ 60000000) (hl : 4 * (i : Int) + 3 < s0 23 0) (hl2 : s0 23 0 ≤ 2048) (hs : ∀ k, zi3 (s0 0 k)) (hz : zTx s0) (K : ∀ (σ' : ZI) (x' : Nat) (l5 l6 l7 l8 : Option ZV), zInv s0 (N + 20000) σ' → x' ≤ x + 1 → Wp 262 2277 [some (.inr (.inl (some 0))), some (.inr (.inl (some 100))), some (.inr (.inl (some 3553))), some (.inr (.inl (some 3564))), some (.inl (4 * (i : Int))), l5, l6, l7, l8] [] (3565, x', zrho) σ' Q) : Wp 262 1767 [some (.inr (.inl (some 0))), some (.inr (.inl (some 100))), some (.inr (.inl (some 3553))), some (.inr (.inl (some 3564))), some (.inl (4 * (i : Int))), l5, l6, l7, l8] [] (3565, x, zrho) σ Q := by
  obtain ⟨hA, hB, hC, hD, hE, hF, hG, hH⟩ := id hI
  have hk := hA.2.2.2.1
  have k20 : zkd 0 = 20 := rfl
  have k64 := zo_k
  have n64 := zo_n
  have gp : ∀ k, σ 0 k = s0 0 k := fun k => congrFun (hH.2 0 (by omega)) k
  have c23 : σ 23 0 = s0 23 0 := congrFun (hH.2 23 (by omega)) 0
  have e1 : (4 * (i : Int) + 1).toNat = 4 * i + 1 := by omega
  have e2 : (4 * (i : Int) + 2).toNat = 4 * i + 2 := by omega
  have e3 : (4 * (i : Int) + 3).toNat = 4 * i + 3 := by omega
  have s1 := hs (4 * i + 1)
  have s2 := hs (4 * i + 2)
  have s3 := hs (4 * i + 3)
  obtain ⟨s1a, s1b⟩ := s1
  obtain ⟨s2a, s2b⟩ := s2
  obtain ⟨s3a, s3b⟩ := s3
  simp (disch := first | assumption | exact p_c2i | exact p_c2r | exact p_c2n | omega | ((repeat (first | refine p_a1i.trans ?_ | refine p_a1r.trans ?_)); exact p_a10) | ((repeat (first | refine p_wI ?_ | refine p_wR ?_)); exact p_w0) | decide) only [reduceIte, Int.reduceLT, Int.reduceLE, Int.reduceEq, Int.reduceToNat, Int.reduceAdd, Int.reduceSub, Int.reduceMul, Int.reduceNeg, e262_1767, e262_1768, p_al1, p_cv0_0, p_cv0_1, p_cv0_2, p_cv0_3, p_cv0_4, zK_v, zK_0, WN_ncl, WN_nx, WN_nrt, WN_ite]
  refine t_turnLineC hA.1 hA.2 (fun z2 z3 => ?_)
  rw [zK_v]
  have fz := fun a (ha : a < 100) => z3.2.2.2 a (by omega) (by omega)
  have es := lw_es (z3.2.2.2 3554 (by omega) (by omega))
  rw [← es]
  have gq := fun k => lw_g0 es fz gp k
  have c23q := lw_23 es fz c23
  simp (disch := first | assumption | exact p_c2i | exact p_c2r | exact p_c2n | omega | ((repeat (first | refine p_a1i.trans ?_ | refine p_a1r.trans ?_)); exact p_a10) | ((repeat (first | refine p_wI ?_ | refine p_wR ?_)); exact p_w0) | decide) only [reduceIte, Int.reduceLT, Int.reduceLE, Int.reduceEq, Int.reduceToNat, Int.reduceAdd, Int.reduceSub, Int.reduceMul, Int.reduceNeg, e262_1771, e262_1772, p_al2, p_cv0_0, p_cv0_1, p_cv0_2, p_cv0_3, p_cv0_4, zK_v, zK_0, WN_ncl, WN_nx, WN_nrt, WN_ite, gq, e1, e2, e3]
  have q21 : ∀ k, z2 21 k = (zbyt 10 k : Int) := fun k => by rw [fz 21 (by omega), hH.2 21 (by omega)]; exact hz 21 k (by omega) (by omega)
  have o1 := hk.2.1
  refine t_turnLineM hk ⟨(q21 0).trans (congrArg _ (by decide +kernel : zbyt 10 0 = 78)), (q21 1).trans (congrArg _ (by decide +kernel : zbyt 10 1 = 82)), (q21 2).trans (congrArg _ (by decide +kernel : zbyt 10 2 = 76)), (q21 3).trans (congrArg _ (by decide +kernel : zbyt 10 3 = 85))⟩ (fun y2 y3 => ?_)
  rw [zK_v]
  have ff : ∀ k, k < (σ 3554 1).toNat → 0 ≤ aLet (σ 3554 (6 + k)) ∧ aLet (σ 3554 (6 + k)) < 65536 := fun k _ => by have := aLet_in (t := σ 3554 (6 + k)); omega
  simp (disch := first | assumption | exact p_c2i | exact p_c2r | exact p_c2n | omega | ((repeat (first | refine p_a1i.trans ?_ | refine p_a1r.trans ?_)); exact p_a10) | ((repeat (first | refine p_wI ?_ | refine p_wR ?_)); exact p_w0) | decide) only [reduceIte, Int.reduceLT, Int.reduceLE, Int.reduceEq, Int.reduceToNat, Int.reduceAdd, Int.reduceSub, Int.reduceMul, Int.reduceNeg, e262_1775, e262_1778, e262_1779, p_ceq, p_push, p_ret1, WN_nx, WN_nrt, WN_ite]
  exact K _ _ _ _ _ _ (inv_l (v := 0) hI (by omega) (by omega) ff z3 (Or.inl y3)) (by omega)
theorem t_law27 (hI : zInv s0 N σ) (hN0 : 0 ≤ N) (hN : N ≤ 60000000) (hl : 4 * (i : Int) + 3 < s0 23 0) (hl2 : s0 23 0 ≤ 2048) (hs : ∀ k, zi3 (s0 0 k)) (hz : zTx s0) (K : ∀ (σ' : ZI) (x' : Nat) (l5 l6 l7 l8 : Option ZV), zInv s0 (N + 20000) σ' → x' ≤ x + 1 → Wp 262 2277 [some (.inr (.inl (some 0))), some (.inr (.inl (some 100))), some (.inr (.inl (some 3553))), some (.inr (.inl (some 3564))), some (.inl (4 * (i : Int))), l5, l6, l7, l8] [] (3565, x', zrho) σ' Q) : Wp 262 1780 [some (.inr (.inl (some 0))), some (.inr (.inl (some 100))), some (.inr (.inl (some 3553))), some (.inr (.inl (some 3564))), some (.inl (4 * (i : Int))), l5, l6, l7, l8] [] (3565, x, zrho) σ Q := by
  obtain ⟨hA, hB, hC, hD, hE, hF, hG, hH⟩ := id hI
  have hk := hA.2.2.2.1
  have k20 : zkd 0 = 20 := rfl
  have k64 := zo_k
  have n64 := zo_n
  have gp : ∀ k, σ 0 k = s0 0 k := fun k => congrFun (hH.2 0 (by omega)) k
  have c23 : σ 23 0 = s0 23 0 := congrFun (hH.2 23 (by omega)) 0
  have e1 : (4 * (i : Int) + 1).toNat = 4 * i + 1 := by omega
  have e2 : (4 * (i : Int) + 2).toNat = 4 * i + 2 := by omega
  have e3 : (4 * (i : Int) + 3).toNat = 4 * i + 3 := by omega
  have s1 := hs (4 * i + 1)
  have s2 := hs (4 * i + 2)
  have s3 := hs (4 * i + 3)
  obtain ⟨s1a, s1b⟩ := s1
  obtain ⟨s2a, s2b⟩ := s2
  obtain ⟨s3a, s3b⟩ := s3
  obtain ⟨ll, f, g1, g2, g3, g4⟩ := hG
  have bnd : ∀ p : Int, (0 ≤ p ∧ p < (ll : Int)) → zi3 (f p.toNat) := fun p hp => by have := (g4 p.toNat (by omega)).2.2; exact ⟨by omega, by omega⟩
  simp (disch := first | assumption | exact p_c2i | exact p_c2r | exact p_c2n | omega | ((repeat (first | refine p_a1i.trans ?_ | refine p_a1r.trans ?_)); exact p_a10) | ((repeat (first | refine p_wI ?_ | refine p_wR ?_)); exact p_w0) | decide) only [reduceIte, Int.reduceLT, Int.reduceLE, Int.reduceEq, Int.reduceToNat, Int.reduceAdd, Int.reduceSub, Int.reduceMul, Int.reduceNeg, e262_1780, e262_1781, e262_1782, e262_1784, e262_1785, e262_1786, e262_1787, e262_1788, p_al1, p_al0, p_il4, p_push, p_bin, p_sald, p_al3, p_cs3_0, p_cs3_1, p_cs3_2, p_cs3_3, p_cs3_4, zK_v, zK_0, WN_ncl, WN_nx, WN_nrt, WN_ite, gp, e1, e2, e3]
  refine t_characterW (f := f) (hs _) g1 g2 (fun k hk => ⟨(g4 k hk).1, (g4 k hk).2.2⟩) (fun z => bnd _ z) (fun z1 => ?_) (fun z1 z2 z3 => ?_)
  · rw [zK_v]
    have f1 : zfx σ σ := zfx_r
    have fz := fun a (ha : a < 100) => f1 a (by omega) (by omega)
    have es := lw_es (f1 3554 (by omega) (by omega))
    rw [← es]
    have gq := fun k => lw_g0 es fz gp k
    have c23q := lw_23 es fz c23
    simp (disch := first | assumption | exact p_c2i | exact p_c2r | exact p_c2n | omega | ((repeat (first | refine p_a1i.trans ?_ | refine p_a1r.trans ?_)); exact p_a10) | ((repeat (first | refine p_wI ?_ | refine p_wR ?_)); exact p_w0) | decide) only [reduceIte, Int.reduceLT, Int.reduceLE, Int.reduceEq, Int.reduceToNat, Int.reduceAdd, Int.reduceSub, Int.reduceMul, Int.reduceNeg, e262_1791, e262_1793, e262_1794, e262_1795, e262_1797, e262_1798, e262_1799, e262_1800, p_is5, p_c2n, p_c2i, p_c2r, p_al2, p_al0, p_il4, p_push, p_bin, p_sald, p_cv1_0, p_cv1_1, p_cv1_2, p_cv1_3, p_cv1_4, zK_v, zK_0, WN_ncl, WN_nx, WN_nrt, WN_ite, gq, e1, e2, e3]
    refine t_charM (f := f) (hs _) (by omega) ((congrFun (f1 3553 (by omega) (by omega)) 15).trans g3) (fun k hk => ⟨(congrFun (f1 3560 (by omega) (by omega)) k).trans (g4 k hk).2.1, (g4 k hk).2.2⟩) (fun y1 y2 y3 y4 => ?_) (fun y1 y2 y3 => ?_)
    · rw [zK_v]
      have e8 := y4.1
      have tt := fun (Q : ZO → ZT → ZI → Prop) (x : Nat) (w : zW) => t_thrownM (τ := y2) (w := w) (x := x) (Q := Q) (by rw [e8]; omega)
      rw [e8] at tt
      simp (disch := first | assumption | exact p_c2i | exact p_c2r | exact p_c2n | omega | ((repeat (first | refine p_a1i.trans ?_ | refine p_a1r.trans ?_)); exact p_a10) | ((repeat (first | refine p_wI ?_ | refine p_wR ?_)); exact p_w0) | decide) only [reduceIte, Int.reduceLT, Int.reduceLE, Int.reduceEq, Int.reduceToNat, Int.reduceAdd, Int.reduceSub, Int.reduceMul, Int.reduceNeg, e262_1803, e262_1805, e262_1806, e262_1809, e262_1811, e262_1814, e262_1815, e262_1816, e262_1818, e262_1821, e262_1822, e262_1823, e262_1824, e262_1826, e262_1827, e262_1828, e262_1831, e262_1832, e262_1833, p_is6, p_c2n, p_c2i, p_c2r, p_al2, p_cv0_0, p_cv0_1, p_cv0_2, p_cv0_3, p_cv0_4, zK_v, zK_0, WN_ncl, p_il5, p_ceq, p_push, p_ret1, p_ifne, p_al3, p_lald, p_il6, p_i2l, p_lcmp, p_ifeq, p_goto, WN_nx, WN_nrt, WN_ite, tt]
      exact K _ _ _ _ _ _ (inv_q hI (by omega) f1 y4) (by omega)
    · exact absurd y1 z1
  · rw [zK_v]
    have f1 := zfx_u (v := f (s0 0 (4 * i + 1)).toNat) z3
    obtain ⟨bb1, bb2⟩ := bnd _ z1
    have fz := fun a (ha : a < 100) => f1 a (by omega) (by omega)
    have es := lw_es (f1 3554 (by omega) (by omega))
    rw [← es]
    have gq := fun k => lw_g0 es fz gp k
    have c23q := lw_23 es fz c23
    simp (disch := first | assumption | exact p_c2i | exact p_c2r | exact p_c2n | omega | ((repeat (first | refine p_a1i.trans ?_ | refine p_a1r.trans ?_)); exact p_a10) | ((repeat (first | refine p_wI ?_ | refine p_wR ?_)); exact p_w0) | decide) only [reduceIte, Int.reduceLT, Int.reduceLE, Int.reduceEq, Int.reduceToNat, Int.reduceAdd, Int.reduceSub, Int.reduceMul, Int.reduceNeg, e262_1791, e262_1793, e262_1794, e262_1795, e262_1797, e262_1798, e262_1799, e262_1800, p_is5, p_c2n, p_c2i, p_c2r, p_al2, p_al0, p_il4, p_push, p_bin, p_sald, p_cv1_0, p_cv1_1, p_cv1_2, p_cv1_3, p_cv1_4, zK_v, zK_0, WN_ncl, WN_nx, WN_nrt, WN_ite, gq, e1, e2, e3]
    refine t_charM (f := f) (hs _) (by omega) ((congrFun (f1 3553 (by omega) (by omega)) 15).trans g3) (fun k hk => ⟨(congrFun (f1 3560 (by omega) (by omega)) k).trans (g4 k hk).2.1, (g4 k hk).2.2⟩) (fun y1 y2 y3 y4 => ?_) (fun y1 y2 y3 => ?_)
    · exact absurd z1 y1
    · rw [zK_v]
      have e8 := y3.1
      have tt := fun (Q : ZO → ZT → ZI → Prop) (x : Nat) (w : zW) => t_thrownM (τ := y2) (w := w) (x := x) (Q := Q) (by rw [e8]; exact ⟨Int.le_refl 0, by decide⟩)
      rw [e8] at tt
      have o64 := fun u => lw_64 (u := u) (y3.2.2 3564 (by omega) (by omega) (by omega) (by omega) (by omega))
      simp (disch := first | assumption | exact p_c2i | exact p_c2r | exact p_c2n | omega | ((repeat (first | refine p_a1i.trans ?_ | refine p_a1r.trans ?_)); exact p_a10) | ((repeat (first | refine p_wI ?_ | refine p_wR ?_)); exact p_w0) | decide) only [reduceIte, Int.reduceLT, Int.reduceLE, Int.reduceEq, Int.reduceToNat, Int.reduceAdd, Int.reduceSub, Int.reduceMul, Int.reduceNeg, e262_1803, e262_1805, e262_1806, e262_1809, e262_1811, e262_1814, e262_1815, e262_1816, e262_1818, e262_1821, e262_1822, e262_1823, e262_1824, e262_1826, e262_1827, e262_1828, e262_1831, e262_1832, e262_1833, p_is6, p_c2n, p_c2i, p_c2r, p_al2, p_cv0_0, p_cv0_1, p_cv0_2, p_cv0_3, p_cv0_4, zK_v, zK_0, WN_ncl, p_il5, p_ceq, p_push, p_ret1, p_ifne, p_al3, p_lald, p_il6, p_i2l, p_lcmp, p_ifeq, p_goto, WN_nx, WN_nrt, WN_ite, tt, o64, lw_lt]
      exact K _ _ _ _ _ _ (inv_q hI (by omega) f1 y3) (by omega)
theorem t_law28 (hI : zInv s0 N σ) (hN0 : 0 ≤ N) (hN : N ≤ 60000000) (hl : 4 * (i : Int) + 3 < s0 23 0) (hl2 : s0 23 0 ≤ 2048) (hs : ∀ k, zi3 (s0 0 k)) (hz : zTx s0) (K : ∀ (σ' : ZI) (x' : Nat) (l5 l6 l7 l8 : Option ZV), zInv s0 (N + 20000) σ' → x' ≤ x + 1 → Wp 262 2277 [some (.inr (.inl (some 0))), some (.inr (.inl (some 100))), some (.inr (.inl (some 3553))), some (.inr (.inl (some 3564))), some (.inl (4 * (i : Int))), l5, l6, l7, l8] [] (3565, x', zrho) σ' Q) : Wp 262 1836 [some (.inr (.inl (some 0))), some (.inr (.inl (some 100))), some (.inr (.inl (some 3553))), some (.inr (.inl (some 3564))), some (.inl (4 * (i : Int))), l5, l6, l7, l8] [] (3565, x, zrho) σ Q := by
  obtain ⟨hA, hB, hC, hD, hE, hF, hG, hH⟩ := id hI
  have hk := hA.2.2.2.1
  have k20 : zkd 0 = 20 := rfl
  have k64 := zo_k
  have n64 := zo_n
  have gp : ∀ k, σ 0 k = s0 0 k := fun k => congrFun (hH.2 0 (by omega)) k
  have c23 : σ 23 0 = s0 23 0 := congrFun (hH.2 23 (by omega)) 0
  have e1 : (4 * (i : Int) + 1).toNat = 4 * i + 1 := by omega
  have e2 : (4 * (i : Int) + 2).toNat = 4 * i + 2 := by omega
  have e3 : (4 * (i : Int) + 3).toNat = 4 * i + 3 := by omega
  have s1 := hs (4 * i + 1)
  have s2 := hs (4 * i + 2)
  have s3 := hs (4 * i + 3)
  obtain ⟨s1a, s1b⟩ := s1
  obtain ⟨s2a, s2b⟩ := s2
  obtain ⟨s3a, s3b⟩ := s3
  obtain ⟨ts, tl, hT1, hT2, hT3⟩ := hE
  have h60 := hT1.1
  have cc : 0 ≤ s0 0 (4 * i + 1) % 65536 ∧ s0 0 (4 * i + 1) % 65536 < 65536 := by omega
  simp (disch := first | assumption | exact p_c2i | exact p_c2r | exact p_c2n | omega | ((repeat (first | refine p_a1i.trans ?_ | refine p_a1r.trans ?_)); exact p_a10) | ((repeat (first | refine p_wI ?_ | refine p_wR ?_)); exact p_w0) | decide) only [reduceIte, Int.reduceLT, Int.reduceLE, Int.reduceEq, Int.reduceToNat, Int.reduceAdd, Int.reduceSub, Int.reduceMul, Int.reduceNeg, e262_1836, e262_1837, e262_1838, e262_1840, e262_1841, e262_1842, e262_1843, e262_1844, e262_1845, p_al1, p_al0, p_il4, p_push, p_bin, p_sald, p_i2c, p_al3, p_cs3_0, p_cs3_1, p_cs3_2, p_cs3_3, p_cs3_4, zK_v, zK_0, WN_ncl, WN_nx, WN_nrt, WN_ite, gp, e1, e2, e3]
  refine t_appendW hT1 hT2 cc (fun _ => ⟨by omega, by omega⟩) (fun z1 => ?_) (fun z1 z2 z3 z4 => ?_)
  · rw [zK_v]
    have f1 : zfx σ σ := zfx_r
    have fz := fun a (ha : a < 100) => f1 a (by omega) (by omega)
    have es := lw_es (f1 3554 (by omega) (by omega))
    rw [← es]
    have gq := fun k => lw_g0 es fz gp k
    have c23q := lw_23 es fz c23
    simp (disch := first | assumption | exact p_c2i | exact p_c2r | exact p_c2n | omega | ((repeat (first | refine p_a1i.trans ?_ | refine p_a1r.trans ?_)); exact p_a10) | ((repeat (first | refine p_wI ?_ | refine p_wR ?_)); exact p_w0) | decide) only [reduceIte, Int.reduceLT, Int.reduceLE, Int.reduceEq, Int.reduceToNat, Int.reduceAdd, Int.reduceSub, Int.reduceMul, Int.reduceNeg, e262_1848, e262_1850, e262_1851, e262_1852, e262_1854, e262_1855, e262_1856, e262_1857, e262_1858, p_is5, p_c2n, p_c2i, p_c2r, p_al2, p_al0, p_il4, p_push, p_bin, p_sald, p_i2c, p_cv1_0, p_cv1_1, p_cv1_2, p_cv1_3, p_cv1_4, zK_v, zK_0, WN_ncl, WN_nx, WN_nrt, WN_ite, gq, e1, e2, e3]
    refine t_appendM hT1 hT3 cc (fun y1 y2 y3 y4 => ?_) (fun y1 y2 y3 y4 y5 y6 => ?_)
    · rw [zK_v]
      have e8 := y4.1
      have tt := fun (Q : ZO → ZT → ZI → Prop) (x : Nat) (w : zW) => t_thrownM (τ := y2) (w := w) (x := x) (Q := Q) (by rw [e8]; omega)
      rw [e8] at tt
      simp (disch := first | assumption | exact p_c2i | exact p_c2r | exact p_c2n | omega | ((repeat (first | refine p_a1i.trans ?_ | refine p_a1r.trans ?_)); exact p_a10) | ((repeat (first | refine p_wI ?_ | refine p_wR ?_)); exact p_w0) | decide) only [reduceIte, Int.reduceLT, Int.reduceLE, Int.reduceEq, Int.reduceToNat, Int.reduceAdd, Int.reduceSub, Int.reduceMul, Int.reduceNeg, e262_1861, e262_1863, e262_1864, e262_1867, e262_1869, e262_1872, e262_1873, e262_1874, e262_1876, e262_1879, e262_1880, e262_1881, e262_1882, e262_1884, e262_1885, e262_1886, e262_1889, e262_1890, e262_1891, p_is6, p_c2n, p_c2i, p_c2r, p_al2, p_cv0_0, p_cv0_1, p_cv0_2, p_cv0_3, p_cv0_4, zK_v, zK_0, WN_ncl, p_il5, p_ceq, p_push, p_ret1, p_ifne, p_al3, p_lald, p_il6, p_i2l, p_lcmp, p_ifeq, p_goto, WN_nx, WN_nrt, WN_ite, tt]
      exact K _ _ _ _ _ _ (inv_q hI (by omega) f1 y4) (by omega)
    · exfalso
      omega
  · rw [zK_v]
    have f0 : ∀ a, a ≠ 3550 → a ≠ 3551 → a ≠ 3564 → zup z2 3564 0 ((tl : Int) + 1) a = σ a := fun a h1 h2 h3 => (zup_f h3).trans (z4 a h1 h2)
    have fz := fun a (ha : a < 100) => f0 a (by omega) (by omega) (by omega)
    have es := lw_es (f0 3554 (by omega) (by omega) (by omega))
    rw [← es]
    have gq := fun k => lw_g0 es fz gp k
    have c23q := lw_23 es fz c23
    simp (disch := first | assumption | exact p_c2i | exact p_c2r | exact p_c2n | omega | ((repeat (first | refine p_a1i.trans ?_ | refine p_a1r.trans ?_)); exact p_a10) | ((repeat (first | refine p_wI ?_ | refine p_wR ?_)); exact p_w0) | decide) only [reduceIte, Int.reduceLT, Int.reduceLE, Int.reduceEq, Int.reduceToNat, Int.reduceAdd, Int.reduceSub, Int.reduceMul, Int.reduceNeg, e262_1848, e262_1850, e262_1851, e262_1852, e262_1854, e262_1855, e262_1856, e262_1857, e262_1858, p_is5, p_c2n, p_c2i, p_c2r, p_al2, p_al0, p_il4, p_push, p_bin, p_sald, p_i2c, p_cv1_0, p_cv1_1, p_cv1_2, p_cv1_3, p_cv1_4, zK_v, zK_0, WN_ncl, WN_nx, WN_nrt, WN_ite, gq, e1, e2, e3]
    have hT4 : zTm (zup z2 3564 0 ((tl : Int) + 1)) ts tl := ⟨(congrFun (f0 3553 (by omega) (by omega) (by omega)) 12).trans hT3.1, fun k hk => (congrFun (f0 3559 (by omega) (by omega) (by omega)) k).trans (hT3.2 k hk)⟩
    refine t_appendM hT1 hT4 cc (fun y1 y2 y3 y4 => ?_) (fun y1 y2 y3 y4 y5 y6 => ?_)
    · exfalso
      omega
    · rw [zK_v]
      have e8 := y4
      have tt := fun (Q : ZO → ZT → ZI → Prop) (x : Nat) (w : zW) => t_thrownM (τ := y2) (w := w) (x := x) (Q := Q) (by rw [e8]; exact ⟨Int.le_refl 0, by decide⟩)
      rw [e8] at tt
      have o64 := fun u => lw_64 (u := u) (y6 3564 (by omega) (by omega))
      simp (disch := first | assumption | exact p_c2i | exact p_c2r | exact p_c2n | omega | ((repeat (first | refine p_a1i.trans ?_ | refine p_a1r.trans ?_)); exact p_a10) | ((repeat (first | refine p_wI ?_ | refine p_wR ?_)); exact p_w0) | decide) only [reduceIte, Int.reduceLT, Int.reduceLE, Int.reduceEq, Int.reduceToNat, Int.reduceAdd, Int.reduceSub, Int.reduceMul, Int.reduceNeg, e262_1861, e262_1863, e262_1864, e262_1867, e262_1869, e262_1872, e262_1873, e262_1874, e262_1876, e262_1879, e262_1880, e262_1881, e262_1882, e262_1884, e262_1885, e262_1886, e262_1889, e262_1890, e262_1891, p_is6, p_c2n, p_c2i, p_c2r, p_al2, p_cv0_0, p_cv0_1, p_cv0_2, p_cv0_3, p_cv0_4, zK_v, zK_0, WN_ncl, p_il5, p_ceq, p_push, p_ret1, p_ifne, p_al3, p_lald, p_il6, p_i2l, p_lcmp, p_ifeq, p_goto, WN_nx, WN_nrt, WN_ite, tt, o64, lw_lt]
      exact K _ _ _ _ _ _ (inv_a hI (by omega) (zTt_a hT1 z1 cc) z3 z4 y3 y5 y6) (by omega)
theorem t_law29 (hI : zInv s0 N σ) (hN0 : 0 ≤ N) (hN : N ≤ 60000000) (hl : 4 * (i : Int) + 3 < s0 23 0) (hl2 : s0 23 0 ≤ 2048) (hs : ∀ k, zi3 (s0 0 k)) (hz : zTx s0) (K : ∀ (σ' : ZI) (x' : Nat) (l5 l6 l7 l8 : Option ZV), zInv s0 (N + 20000) σ' → x' ≤ x + 1 → Wp 262 2277 [some (.inr (.inl (some 0))), some (.inr (.inl (some 100))), some (.inr (.inl (some 3553))), some (.inr (.inl (some 3564))), some (.inl (4 * (i : Int))), l5, l6, l7, l8] [] (3565, x', zrho) σ' Q) : Wp 262 1894 [some (.inr (.inl (some 0))), some (.inr (.inl (some 100))), some (.inr (.inl (some 3553))), some (.inr (.inl (some 3564))), some (.inl (4 * (i : Int))), l5, l6, l7, l8] [] (3565, x, zrho) σ Q := by
  obtain ⟨hA, hB, hC, hD, hE, hF, hG, hH⟩ := id hI
  have hk := hA.2.2.2.1
  have k20 : zkd 0 = 20 := rfl
  have k64 := zo_k
  have n64 := zo_n
  have gp : ∀ k, σ 0 k = s0 0 k := fun k => congrFun (hH.2 0 (by omega)) k
  have c23 : σ 23 0 = s0 23 0 := congrFun (hH.2 23 (by omega)) 0
  have e1 : (4 * (i : Int) + 1).toNat = 4 * i + 1 := by omega
  have e2 : (4 * (i : Int) + 2).toNat = 4 * i + 2 := by omega
  have e3 : (4 * (i : Int) + 3).toNat = 4 * i + 3 := by omega
  have s1 := hs (4 * i + 1)
  have s2 := hs (4 * i + 2)
  have s3 := hs (4 * i + 3)
  obtain ⟨s1a, s1b⟩ := s1
  obtain ⟨s2a, s2b⟩ := s2
  obtain ⟨s3a, s3b⟩ := s3
  obtain ⟨kp, n, hCr, hKr, hn8, hkk⟩ := hB
  obtain ⟨ts, tl, hT1, hT2, hT3⟩ := hE
  have hx : zTx σ := fun b k h1 h2 => by rw [hH.2 b (by omega)]; exact hz b k h1 h2
  obtain ⟨fx1, fx2⟩ := fO_x hT1
  simp (disch := first | assumption | exact p_c2i | exact p_c2r | exact p_c2n | omega | ((repeat (first | refine p_a1i.trans ?_ | refine p_a1r.trans ?_)); exact p_a10) | ((repeat (first | refine p_wI ?_ | refine p_wR ?_)); exact p_w0) | decide) only [reduceIte, Int.reduceLT, Int.reduceLE, Int.reduceEq, Int.reduceToNat, Int.reduceAdd, Int.reduceSub, Int.reduceMul, Int.reduceNeg, e262_1894, e262_1895, e262_1896, p_al1, p_al3, p_cs2_0, p_cs2_1, p_cs2_2, p_cs2_3, p_cs2_4, zK_v, zK_0, WN_ncl, WN_nx, WN_nrt, WN_ite]
  refine t_runW hT1 hT2 hx hA.1 hA.2 hN0 (by omega) hCr hn8 fx1 fx2 (fun _ M _ hM _ => ⟨by omega, by omega⟩) (fun z1 => ?_) (fun c M hp hM E m m1 m2 m3 m4 z2 z3 => ?_) (fun c M hp hM m2 z2 z3 z4 z5 z6 z7 z8 => ?_)
  · rw [zK_v]
    have f0 : ∀ a, a ≠ 100 → a ≠ 3550 → zup (zup σ 100 9 (fO ts tl 61 0)) 3550 1 0 a = σ a := fun a h1 h2 => (zup_f h2).trans (zup_f h1)
    have fz := fun a (ha : a < 100) => f0 a (by omega) (by omega)
    have es := lw_es (f0 3554 (by omega) (by omega))
    rw [← es]
    have gq := fun k => lw_g0 es fz gp k
    have c23q := lw_23 es fz c23
    simp (disch := first | assumption | exact p_c2i | exact p_c2r | exact p_c2n | omega | ((repeat (first | refine p_a1i.trans ?_ | refine p_a1r.trans ?_)); exact p_a10) | ((repeat (first | refine p_wI ?_ | refine p_wR ?_)); exact p_w0) | decide) only [reduceIte, Int.reduceLT, Int.reduceLE, Int.reduceEq, Int.reduceToNat, Int.reduceAdd, Int.reduceSub, Int.reduceMul, Int.reduceNeg, e262_1899, e262_1901, e262_1902, p_is5, p_c2n, p_c2i, p_c2r, p_al2, p_cv0_0, p_cv0_1, p_cv0_2, p_cv0_3, p_cv0_4, zK_v, zK_0, WN_ncl, WN_nx, WN_nrt, WN_ite, gq, e1, e2, e3]
    have hT4 : zTm (zup (zup σ 100 9 (fO ts tl 61 0)) 3550 1 0) ts tl := ⟨(congrFun (f0 3553 (by omega) (by omega)) 12).trans hT3.1, fun k hk => (congrFun (f0 3559 (by omega) (by omega)) k).trans (hT3.2 k hk)⟩
    have hx2 : zTx (zup (zup σ 100 9 (fO ts tl 61 0)) 3550 1 0) := fun b k h1 h2 => by rw [f0 b (by omega) (by omega)]; exact hx b k h1 h2
    have hK2 := zKr_fr hKr (congrFun (f0 3553 (by omega) (by omega)) 6) (f0 3555 (by omega) (by omega))
    refine t_runM hT1 hT4 hx2 hA.2 hN0 (by omega) hK2 hn8 ((congrFun (f0 3553 (by omega) (by omega)) 7).trans hH.1) (fun y1 y2 y3 y4 y5 y6 y7 => ?_) (fun c => ?_) (fun c => ?_)
    · rw [zK_v]
      have e8 := y3
      have tt := fun (Q : ZO → ZT → ZI → Prop) (x : Nat) (w : zW) => t_thrownM (τ := y2) (w := w) (x := x) (Q := Q) (by rw [e8]; omega)
      rw [e8] at tt
      simp (disch := first | assumption | exact p_c2i | exact p_c2r | exact p_c2n | omega | ((repeat (first | refine p_a1i.trans ?_ | refine p_a1r.trans ?_)); exact p_a10) | ((repeat (first | refine p_wI ?_ | refine p_wR ?_)); exact p_w0) | decide) only [reduceIte, Int.reduceLT, Int.reduceLE, Int.reduceEq, Int.reduceToNat, Int.reduceAdd, Int.reduceSub, Int.reduceMul, Int.reduceNeg, e262_1905, e262_1907, e262_1908, e262_1911, e262_1913, e262_1916, e262_1917, e262_1918, e262_1920, e262_1923, e262_1924, e262_1925, e262_1926, e262_1928, e262_1929, e262_1930, e262_1933, e262_1934, e262_1935, p_is6, p_c2n, p_c2i, p_c2r, p_al2, p_cv0_0, p_cv0_1, p_cv0_2, p_cv0_3, p_cv0_4, zK_v, zK_0, WN_ncl, p_il5, p_ceq, p_push, p_ret1, p_ifne, p_al3, p_lald, p_il6, p_i2l, p_lcmp, p_ifeq, p_goto, WN_nx, WN_nrt, WN_ite, tt]
      exact K _ _ _ _ _ _ (inv_re hI (by omega) ⟨by omega, by omega⟩ y4 y5 y6 y7) (by omega)
    · exfalso
      omega
    · exfalso
      omega
  · rw [zK_v]
    obtain ⟨v1, v2, v3, v4, v5, v6, v7⟩ := id z3
    have f0 : ∀ a, a ≠ 100 → a ≠ 3550 → (a < 101 ∨ 725 ≤ a) → z2 a = σ a := v7
    have fz := fun a (ha : a < 100) => f0 a (by omega) (by omega) (by omega)
    have es := lw_es (f0 3554 (by omega) (by omega) (by omega))
    rw [← es]
    have gq := fun k => lw_g0 es fz gp k
    have c23q := lw_23 es fz c23
    simp (disch := first | assumption | exact p_c2i | exact p_c2r | exact p_c2n | omega | ((repeat (first | refine p_a1i.trans ?_ | refine p_a1r.trans ?_)); exact p_a10) | ((repeat (first | refine p_wI ?_ | refine p_wR ?_)); exact p_w0) | decide) only [reduceIte, Int.reduceLT, Int.reduceLE, Int.reduceEq, Int.reduceToNat, Int.reduceAdd, Int.reduceSub, Int.reduceMul, Int.reduceNeg, e262_1899, e262_1901, e262_1902, p_is5, p_c2n, p_c2i, p_c2r, p_al2, p_cv0_0, p_cv0_1, p_cv0_2, p_cv0_3, p_cv0_4, zK_v, zK_0, WN_ncl, WN_nx, WN_nrt, WN_ite, gq, e1, e2, e3]
    have hT4 : zTm z2 ts tl := ⟨(congrFun (f0 3553 (by omega) (by omega) (by omega)) 12).trans hT3.1, fun k hk => (congrFun (f0 3559 (by omega) (by omega) (by omega)) k).trans (hT3.2 k hk)⟩
    have hx2 : zTx z2 := fun b k h1 h2 => by rw [f0 b (by omega) (by omega) (by omega)]; exact hx b k h1 h2
    have hK2 := zKr_fr hKr (congrFun (f0 3553 (by omega) (by omega) (by omega)) 6) (f0 3555 (by omega) (by omega) (by omega))
    refine t_runM hT1 hT4 hx2 hA.2 hN0 (by omega) hK2 hn8 ((congrFun (f0 3553 (by omega) (by omega) (by omega)) 7).trans hH.1) (fun y1 => ?_) (fun c2 M2 hp2 hM2 E2 k2 k1 y2 y3 y4 y5 y6 y7 y8 => ?_) (fun c2 M2 hp2 hM2 y2 => ?_)
    · exfalso
      omega
    · rw [zK_v]
      have eM := zPar_u hp hp2
      subst eM
      have ek : k2 = m := by omega
      subst ek
      have eE : E2 = (E : Int) := by rw [y4, m4]; split; rfl; rfl
      have bE : E = 1 ∨ E = 2 := by rw [m4]; split; exact Or.inr rfl; exact Or.inl rfl
      obtain ⟨p1, p2, p3, p4⟩ := zPar_e hp m1
      have hok := rA_ok hp hA.2 hN0 k2 (by omega) (fun q hq => fF_lt m2 (Nat.zero_le q) hq)
      have rr := oO_r (eO_lt p1) hok (by omega) rF_b q2_b q3_b (of_decide_eq_true m3)
      have e8 : y5 3553 8 = (E : Int) := y8.1.trans eE
      have tt := fun (Q : ZO → ZT → ZI → Prop) (x : Nat) (w : zW) => t_thrownM (τ := y5) (w := w) (x := x) (Q := Q) (by rw [e8]; omega)
      rw [e8] at tt
      have dE : ((E : Int) = 0) = False := eq_false (by omega)
      simp (disch := first | assumption | exact p_c2i | exact p_c2r | exact p_c2n | omega | ((repeat (first | refine p_a1i.trans ?_ | refine p_a1r.trans ?_)); exact p_a10) | ((repeat (first | refine p_wI ?_ | refine p_wR ?_)); exact p_w0) | decide) only [reduceIte, Int.reduceLT, Int.reduceLE, Int.reduceEq, Int.reduceToNat, Int.reduceAdd, Int.reduceSub, Int.reduceMul, Int.reduceNeg, e262_1905, e262_1907, e262_1908, e262_1911, e262_1913, e262_1916, e262_1917, e262_1918, e262_1920, e262_1923, e262_1924, e262_1925, e262_1926, e262_1928, e262_1929, e262_1930, e262_1933, e262_1934, e262_1935, p_is6, p_c2n, p_c2i, p_c2r, p_al2, p_cv0_0, p_cv0_1, p_cv0_2, p_cv0_3, p_cv0_4, zK_v, zK_0, WN_ncl, p_il5, p_ceq, p_push, p_ret1, p_ifne, p_al3, p_lald, p_il6, p_i2l, p_lcmp, p_ifeq, p_goto, WN_nx, WN_nrt, WN_ite, tt, dE]
      exact K _ _ _ _ _ _ (inv_rf hI (by omega) rr.1 rr.2 z3 y7 y8) (by omega)
    · exfalso
      have eM := zPar_u hp hp2
      subst eM
      omega
  · rw [zK_v]
    have f0 : ∀ a, a ≠ 100 → a ≠ 3550 → (a < 101 ∨ (725 ≤ a ∧ a < 1037) ∨ 3535 ≤ a) → a ≠ 3564 → zup z2 3564 0 (M : Int) a = σ a := fun a h1 h2 h3 h4 => (zup_f h4).trans (z8 a h1 h2 h3)
    have fz := fun a (ha : a < 100) => f0 a (by omega) (by omega) (by omega) (by omega)
    have es := lw_es (f0 3554 (by omega) (by omega) (by omega) (by omega))
    rw [← es]
    have gq := fun k => lw_g0 es fz gp k
    have c23q := lw_23 es fz c23
    simp (disch := first | assumption | exact p_c2i | exact p_c2r | exact p_c2n | omega | ((repeat (first | refine p_a1i.trans ?_ | refine p_a1r.trans ?_)); exact p_a10) | ((repeat (first | refine p_wI ?_ | refine p_wR ?_)); exact p_w0) | decide) only [reduceIte, Int.reduceLT, Int.reduceLE, Int.reduceEq, Int.reduceToNat, Int.reduceAdd, Int.reduceSub, Int.reduceMul, Int.reduceNeg, e262_1899, e262_1901, e262_1902, p_is5, p_c2n, p_c2i, p_c2r, p_al2, p_cv0_0, p_cv0_1, p_cv0_2, p_cv0_3, p_cv0_4, zK_v, zK_0, WN_ncl, WN_nx, WN_nrt, WN_ite, gq, e1, e2, e3]
    have hT4 : zTm (zup z2 3564 0 (M : Int)) ts tl := ⟨(congrFun (f0 3553 (by omega) (by omega) (by omega) (by omega)) 12).trans hT3.1, fun k hk => (congrFun (f0 3559 (by omega) (by omega) (by omega) (by omega)) k).trans (hT3.2 k hk)⟩
    have hx2 : zTx (zup z2 3564 0 (M : Int)) := fun b k h1 h2 => by rw [f0 b (by omega) (by omega) (by omega) (by omega)]; exact hx b k h1 h2
    have hK2 := zKr_fr hKr (congrFun (f0 3553 (by omega) (by omega) (by omega) (by omega)) 6) (f0 3555 (by omega) (by omega) (by omega) (by omega))
    refine t_runM hT1 hT4 hx2 hA.2 hN0 (by omega) hK2 hn8 ((congrFun (f0 3553 (by omega) (by omega) (by omega) (by omega)) 7).trans hH.1) (fun y1 => ?_) (fun c2 M2 hp2 hM2 E2 k2 k1 y2 => ?_) (fun c2 M2 hp2 hM2 y2 y3 y4 => ?_)
    · exfalso
      omega
    · exfalso
      have eM := zPar_u hp hp2
      subst eM
      omega
    · have eM := zPar_u hp hp2
      subst eM
      rw [zK_v]
      have hok := rA_ok hp hA.2 hN0 M (Nat.le_refl M) (fun q hq => fF_lt m2 (Nat.zero_le q) hq)
      have e8 := y4.1
      have tt := fun (Q : ZO → ZT → ZI → Prop) (x : Nat) (w : zW) => t_thrownM (τ := y3) (w := w) (x := x) (Q := Q) (by rw [e8]; exact ⟨Int.le_refl 0, by decide⟩)
      rw [e8] at tt
      have o64 := fun u => lw_64 (u := u) (y4.2.2.2.2.2.2 3564 (by omega) (by omega) (by omega) (by omega) (by omega))
      simp (disch := first | assumption | exact p_c2i | exact p_c2r | exact p_c2n | omega | ((repeat (first | refine p_a1i.trans ?_ | refine p_a1r.trans ?_)); exact p_a10) | ((repeat (first | refine p_wI ?_ | refine p_wR ?_)); exact p_w0) | decide) only [reduceIte, Int.reduceLT, Int.reduceLE, Int.reduceEq, Int.reduceToNat, Int.reduceAdd, Int.reduceSub, Int.reduceMul, Int.reduceNeg, e262_1905, e262_1907, e262_1908, e262_1911, e262_1913, e262_1916, e262_1917, e262_1918, e262_1920, e262_1923, e262_1924, e262_1925, e262_1926, e262_1928, e262_1929, e262_1930, e262_1933, e262_1934, e262_1935, p_is6, p_c2n, p_c2i, p_c2r, p_al2, p_cv0_0, p_cv0_1, p_cv0_2, p_cv0_3, p_cv0_4, zK_v, zK_0, WN_ncl, p_il5, p_ceq, p_push, p_ret1, p_ifne, p_al3, p_lald, p_il6, p_i2l, p_lcmp, p_ifeq, p_goto, WN_nx, WN_nrt, WN_ite, tt, o64, lw_lt]
      exact K _ _ _ _ _ _ (inv_rg hI (by omega) z3 (zSok_mono hok (by omega)) z4 hn8 hkk z5 z6 z7 z8 y4) (by omega)
theorem t_law30 (hI : zInv s0 N σ) (hN0 : 0 ≤ N) (hN : N ≤ 60000000) (hl : 4 * (i : Int) + 3 < s0 23 0) (hl2 : s0 23 0 ≤ 2048) (hs : ∀ k, zi3 (s0 0 k)) (hz : zTx s0) (K : ∀ (σ' : ZI) (x' : Nat) (l5 l6 l7 l8 : Option ZV), zInv s0 (N + 20000) σ' → x' ≤ x + 1 → Wp 262 2277 [some (.inr (.inl (some 0))), some (.inr (.inl (some 100))), some (.inr (.inl (some 3553))), some (.inr (.inl (some 3564))), some (.inl (4 * (i : Int))), l5, l6, l7, l8] [] (3565, x', zrho) σ' Q) : Wp 262 1938 [some (.inr (.inl (some 0))), some (.inr (.inl (some 100))), some (.inr (.inl (some 3553))), some (.inr (.inl (some 3564))), some (.inl (4 * (i : Int))), l5, l6, l7, l8] [] (3565, x, zrho) σ Q := by
  obtain ⟨hA, hB, hC, hD, hE, hF, hG, hH⟩ := id hI
  have hk := hA.2.2.2.1
  have k20 : zkd 0 = 20 := rfl
  have k64 := zo_k
  have n64 := zo_n
  have gp : ∀ k, σ 0 k = s0 0 k := fun k => congrFun (hH.2 0 (by omega)) k
  have c23 : σ 23 0 = s0 23 0 := congrFun (hH.2 23 (by omega)) 0
  have e1 : (4 * (i : Int) + 1).toNat = 4 * i + 1 := by omega
  have e2 : (4 * (i : Int) + 2).toNat = 4 * i + 2 := by omega
  have e3 : (4 * (i : Int) + 3).toNat = 4 * i + 3 := by omega
  have s1 := hs (4 * i + 1)
  have s2 := hs (4 * i + 2)
  have s3 := hs (4 * i + 3)
  obtain ⟨s1a, s1b⟩ := s1
  obtain ⟨s2a, s2b⟩ := s2
  obtain ⟨s3a, s3b⟩ := s3
  obtain ⟨q1, q2⟩ := hF
  have tc := fun (Q : ZO → ZT → ZI → Prop) => t_errorC (σ := σ) (x := x) (Q := Q) (by rw [q1]; exact q2)
  rw [q1] at tc
  have tm := fun (Q : ZO → ZT → ZI → Prop) => t_errorM (τ := σ) (w := σ 3554) (x := x) (Q := Q) q2
  rw [zg_r] at tm
  obtain ⟨q3, q4⟩ := q2
  simp (disch := first | assumption | exact p_c2i | exact p_c2r | exact p_c2n | omega | ((repeat (first | refine p_a1i.trans ?_ | refine p_a1r.trans ?_)); exact p_a10) | ((repeat (first | refine p_wI ?_ | refine p_wR ?_)); exact p_w0) | decide) only [reduceIte, Int.reduceLT, Int.reduceLE, Int.reduceEq, Int.reduceToNat, Int.reduceAdd, Int.reduceSub, Int.reduceMul, Int.reduceNeg, e262_1938, e262_1939, e262_1942, e262_1943, e262_1946, e262_1949, e262_1950, p_al1, p_cv0_0, p_cv0_1, p_cv0_2, p_cv0_3, p_cv0_4, zK_v, zK_0, WN_ncl, p_al2, p_ceq, p_push, p_ret1, WN_nx, WN_nrt, WN_ite, tc, tm]
  exact K _ _ _ _ _ _ (inv_q hI (by omega) zfx_r zQy_f) (by omega)
theorem t_law31 (hI : zInv s0 N σ) (hN0 : 0 ≤ N) (hN : N ≤ 60000000) (hl : 4 * (i : Int) + 3 < s0 23 0) (hl2 : s0 23 0 ≤ 2048) (hs : ∀ k, zi3 (s0 0 k)) (hz : zTx s0) (K : ∀ (σ' : ZI) (x' : Nat) (l5 l6 l7 l8 : Option ZV), zInv s0 (N + 20000) σ' → x' ≤ x + 1 → Wp 262 2277 [some (.inr (.inl (some 0))), some (.inr (.inl (some 100))), some (.inr (.inl (some 3553))), some (.inr (.inl (some 3564))), some (.inl (4 * (i : Int))), l5, l6, l7, l8] [] (3565, x', zrho) σ' Q) : Wp 262 1951 [some (.inr (.inl (some 0))), some (.inr (.inl (some 100))), some (.inr (.inl (some 3553))), some (.inr (.inl (some 3564))), some (.inl (4 * (i : Int))), l5, l6, l7, l8] [] (3565, x, zrho) σ Q := by
  obtain ⟨hA, hB, hC, hD, hE, hF, hG, hH⟩ := id hI
  have hk := hA.2.2.2.1
  have k20 : zkd 0 = 20 := rfl
  have k64 := zo_k
  have n64 := zo_n
  have gp : ∀ k, σ 0 k = s0 0 k := fun k => congrFun (hH.2 0 (by omega)) k
  have c23 : σ 23 0 = s0 23 0 := congrFun (hH.2 23 (by omega)) 0
  have e1 : (4 * (i : Int) + 1).toNat = 4 * i + 1 := by omega
  have e2 : (4 * (i : Int) + 2).toNat = 4 * i + 2 := by omega
  have e3 : (4 * (i : Int) + 3).toNat = 4 * i + 3 := by omega
  have s1 := hs (4 * i + 1)
  have s2 := hs (4 * i + 2)
  have s3 := hs (4 * i + 3)
  obtain ⟨s1a, s1b⟩ := s1
  obtain ⟨s2a, s2b⟩ := s2
  obtain ⟨s3a, s3b⟩ := s3
  obtain ⟨d1, d2, d3, d4⟩ := hD
  have g12 : -2147483648 ≤ σ 100 12 ∧ σ 100 12 < 2147483648 := by rw [d1]; exact d3
  have g13 : -2147483648 ≤ σ 100 13 ∧ σ 100 13 < 2147483648 := by rw [d2]; exact d4
  have main : ∀ d : Int, d = 0 ∨ d = 1 → (s0 0 (4 * i + 1) = 0 ↔ d = 0) → Wp 262 1951 [some (.inr (.inl (some 0))), some (.inr (.inl (some 100))), some (.inr (.inl (some 3553))), some (.inr (.inl (some 3564))), some (.inl (4 * (i : Int))), l5, l6, l7, l8] [] (3565, x, zrho) σ Q := by
    intro d hd01 hd
    have bnd : zi3 (if d = 1 then σ 100 13 else σ 100 12) := by split; exact g13; exact g12
    have dd : s0 0 (4 * i + 1) = 0 ∧ d = 0 ∨ (s0 0 (4 * i + 1) = 0) = False ∧ d = 1 := by
      rcases hd01 with e | e
      · exact Or.inl ⟨hd.mpr e, e⟩
      · exact Or.inr ⟨eq_false (fun z => by have := hd.mp z; omega), e⟩
    have first : ∀ Q2, WM 258 [.inr (.inl (some 100)), .inl d, .inr (.inl (some 3564))] (3565, x, zrho) σ Q2 → Q2 = zK 262 1967 [some (.inr (.inl (some 0))), some (.inr (.inl (some 100))), some (.inr (.inl (some 3553))), some (.inr (.inl (some 3564))), some (.inl (4 * (i : Int))), l5, l6, l7, l8] 1970 [] Q → Wp 262 1951 [some (.inr (.inl (some 0))), some (.inr (.inl (some 100))), some (.inr (.inl (some 3553))), some (.inr (.inl (some 3564))), some (.inl (4 * (i : Int))), l5, l6, l7, l8] [] (3565, x, zrho) σ Q := by
      intro Q2 h e
      subst e
      rcases dd with ⟨a, b⟩ | ⟨a, b⟩
      · rw [b] at h
        simp (disch := first | assumption | exact p_c2i | exact p_c2r | exact p_c2n | omega | ((repeat (first | refine p_a1i.trans ?_ | refine p_a1r.trans ?_)); exact p_a10) | ((repeat (first | refine p_wI ?_ | refine p_wR ?_)); exact p_w0) | decide) only [reduceIte, Int.reduceLT, Int.reduceLE, Int.reduceEq, Int.reduceToNat, Int.reduceAdd, Int.reduceSub, Int.reduceMul, Int.reduceNeg, e262_1951, e262_1952, e262_1953, e262_1955, e262_1956, e262_1957, e262_1958, e262_1961, e262_1962, e262_1965, e262_1966, e262_1967, p_al1, p_al0, p_il4, p_push, p_bin, p_sald, p_ifeq, p_goto, p_al3, p_cs3_0, p_cs3_1, p_cs3_2, p_cs3_3, p_cs3_4, zK_v, zK_0, WN_ncl, WN_nx, WN_nrt, WN_ite, gp, e1, e2, e3, a]
        exact h
      · rw [b] at h
        simp (disch := first | assumption | exact p_c2i | exact p_c2r | exact p_c2n | omega | ((repeat (first | refine p_a1i.trans ?_ | refine p_a1r.trans ?_)); exact p_a10) | ((repeat (first | refine p_wI ?_ | refine p_wR ?_)); exact p_w0) | decide) only [reduceIte, Int.reduceLT, Int.reduceLE, Int.reduceEq, Int.reduceToNat, Int.reduceAdd, Int.reduceSub, Int.reduceMul, Int.reduceNeg, e262_1951, e262_1952, e262_1953, e262_1955, e262_1956, e262_1957, e262_1958, e262_1961, e262_1962, e262_1965, e262_1966, e262_1967, p_al1, p_al0, p_il4, p_push, p_bin, p_sald, p_ifeq, p_goto, p_al3, p_cs3_0, p_cs3_1, p_cs3_2, p_cs3_3, p_cs3_4, zK_v, zK_0, WN_ncl, WN_nx, WN_nrt, WN_ite, gp, e1, e2, e3, a]
        exact h
    refine first _ ?_ rfl
    have second : ∀ (y : Nat) (k : Int) (S : ZI) (Q2), zg S (σ 3554) = S → (∀ a, a < 100 → S a = σ a) → WM 211 [.inr (.inl (some 3553)), .inl d] (3565, y, zrho) (zg S (σ 3554)) Q2 → Q2 = zK 262 1987 [some (.inr (.inl (some 0))), some (.inr (.inl (some 100))), some (.inr (.inl (some 3553))), some (.inr (.inl (some 3564))), some (.inl (4 * (i : Int))), some (.inl k), l6, l7, l8] 1990 [] Q → Wp 262 1970 [some (.inr (.inl (some 0))), some (.inr (.inl (some 100))), some (.inr (.inl (some 3553))), some (.inr (.inl (some 3564))), some (.inl (4 * (i : Int))), l5, l6, l7, l8] [.inl k] (3565, y, zrho) S Q := by
      intro y k S Q2 es fz h e
      subst e
      have gq := fun k => lw_g0 es fz gp k
      have c23q := lw_23 es fz c23
      rw [← es]
      rcases dd with ⟨a, b⟩ | ⟨a, b⟩
      · rw [b] at h
        simp (disch := first | assumption | exact p_c2i | exact p_c2r | exact p_c2n | omega | ((repeat (first | refine p_a1i.trans ?_ | refine p_a1r.trans ?_)); exact p_a10) | ((repeat (first | refine p_wI ?_ | refine p_wR ?_)); exact p_w0) | decide) only [reduceIte, Int.reduceLT, Int.reduceLE, Int.reduceEq, Int.reduceToNat, Int.reduceAdd, Int.reduceSub, Int.reduceMul, Int.reduceNeg, e262_1970, e262_1972, e262_1973, e262_1974, e262_1976, e262_1977, e262_1978, e262_1979, e262_1982, e262_1983, e262_1986, e262_1987, p_is5, p_c2n, p_c2i, p_c2r, p_al2, p_al0, p_il4, p_push, p_bin, p_sald, p_ifeq, p_goto, p_cv1_0, p_cv1_1, p_cv1_2, p_cv1_3, p_cv1_4, zK_v, zK_0, WN_ncl, WN_nx, WN_nrt, WN_ite, gq, e1, e2, e3, a]
        exact h
      · rw [b] at h
        simp (disch := first | assumption | exact p_c2i | exact p_c2r | exact p_c2n | omega | ((repeat (first | refine p_a1i.trans ?_ | refine p_a1r.trans ?_)); exact p_a10) | ((repeat (first | refine p_wI ?_ | refine p_wR ?_)); exact p_w0) | decide) only [reduceIte, Int.reduceLT, Int.reduceLE, Int.reduceEq, Int.reduceToNat, Int.reduceAdd, Int.reduceSub, Int.reduceMul, Int.reduceNeg, e262_1970, e262_1972, e262_1973, e262_1974, e262_1976, e262_1977, e262_1978, e262_1979, e262_1982, e262_1983, e262_1986, e262_1987, p_is5, p_c2n, p_c2i, p_c2r, p_al2, p_al0, p_il4, p_push, p_bin, p_sald, p_ifeq, p_goto, p_cv1_0, p_cv1_1, p_cv1_2, p_cv1_3, p_cv1_4, zK_v, zK_0, WN_ncl, WN_nx, WN_nrt, WN_ite, gq, e1, e2, e3, a]
        exact h
    refine t_refusalW hd01 g12 g13 (fun _ => bnd) (fun z1 => ?_) (fun z1 z2 z3 => ?_)
    · rw [zK_v]
      have f1 : zfx σ σ := zfx_r
      refine second _ _ σ _ (lw_es rfl) (fun _ _ => rfl) ?_ rfl
      refine t_refusalM hd01 d3 (fun y1 y2 y3 y4 => ?_) (fun y1 y2 y3 => ?_)
      · rw [zK_v]
        have e8 := y4.1
        have tt := fun (Q : ZO → ZT → ZI → Prop) (x : Nat) (w : zW) => t_thrownM (τ := y2) (w := w) (x := x) (Q := Q) (by rw [e8]; omega)
        rw [e8] at tt
        simp (disch := first | assumption | exact p_c2i | exact p_c2r | exact p_c2n | omega | ((repeat (first | refine p_a1i.trans ?_ | refine p_a1r.trans ?_)); exact p_a10) | ((repeat (first | refine p_wI ?_ | refine p_wR ?_)); exact p_w0) | decide) only [reduceIte, Int.reduceLT, Int.reduceLE, Int.reduceEq, Int.reduceToNat, Int.reduceAdd, Int.reduceSub, Int.reduceMul, Int.reduceNeg, e262_1990, e262_1992, e262_1993, e262_1996, e262_1998, e262_2001, e262_2002, e262_2003, e262_2005, e262_2008, e262_2009, e262_2010, e262_2011, e262_2013, e262_2014, e262_2015, e262_2018, e262_2019, e262_2020, p_is6, p_c2n, p_c2i, p_c2r, p_al2, p_cv0_0, p_cv0_1, p_cv0_2, p_cv0_3, p_cv0_4, zK_v, zK_0, WN_ncl, p_il5, p_ceq, p_push, p_ret1, p_ifne, p_al3, p_lald, p_il6, p_i2l, p_lcmp, p_ifeq, p_goto, WN_nx, WN_nrt, WN_ite, tt]
        exact K _ _ _ _ _ _ (inv_q hI (by omega) f1 y4) (by omega)
      · exact absurd (d1.symm.trans z1) y1
    · rw [zK_v]
      have f1 := zfx_u (v := if d = 1 then σ 100 13 else σ 100 12) z3
      have e9 := congrFun (f1 3553 (by omega) (by omega)) 9
      have e10 := congrFun (f1 3553 (by omega) (by omega)) 10
      refine second _ _ _ _ (lw_es (f1 3554 (by omega) (by omega))) (fun a ha => f1 a (by omega) (by omega)) ?_ rfl
      refine t_refusalM hd01 (by rw [e9]; exact d3) (fun y1 y2 y3 y4 => ?_) (fun y1 y2 y3 => ?_)
      · exact absurd (d1.trans (e9.symm.trans y1)) z1
      · rw [zK_v, e9, e10, ← d1, ← d2]
        obtain ⟨bb1, bb2⟩ := bnd
        have o64 := fun u => lw_64 (u := u) (y3.2.2 3564 (by omega) (by omega) (by omega) (by omega) (by omega))
        generalize (if d = 1 then σ 100 13 else σ 100 12) = V at bb1 bb2 o64 ⊢
        have e8 := y3.1
        have tt := fun (Q : ZO → ZT → ZI → Prop) (x : Nat) (w : zW) => t_thrownM (τ := y2) (w := w) (x := x) (Q := Q) (by rw [e8]; exact ⟨Int.le_refl 0, by decide⟩)
        rw [e8] at tt
        simp (disch := first | assumption | exact p_c2i | exact p_c2r | exact p_c2n | omega | ((repeat (first | refine p_a1i.trans ?_ | refine p_a1r.trans ?_)); exact p_a10) | ((repeat (first | refine p_wI ?_ | refine p_wR ?_)); exact p_w0) | decide) only [reduceIte, Int.reduceLT, Int.reduceLE, Int.reduceEq, Int.reduceToNat, Int.reduceAdd, Int.reduceSub, Int.reduceMul, Int.reduceNeg, e262_1990, e262_1992, e262_1993, e262_1996, e262_1998, e262_2001, e262_2002, e262_2003, e262_2005, e262_2008, e262_2009, e262_2010, e262_2011, e262_2013, e262_2014, e262_2015, e262_2018, e262_2019, e262_2020, p_is6, p_c2n, p_c2i, p_c2r, p_al2, p_cv0_0, p_cv0_1, p_cv0_2, p_cv0_3, p_cv0_4, zK_v, zK_0, WN_ncl, p_il5, p_ceq, p_push, p_ret1, p_ifne, p_al3, p_lald, p_il6, p_i2l, p_lcmp, p_ifeq, p_goto, WN_nx, WN_nrt, WN_ite, tt, o64, lw_lt]
        exact K _ _ _ _ _ _ (inv_q hI (by omega) f1 y3) (by omega)
  by_cases c : s0 0 (4 * i + 1) = 0
  · exact main 0 (Or.inl rfl) ⟨fun _ => rfl, fun _ => c⟩
  · exact main 1 (Or.inr rfl) ⟨fun z => absurd z c, fun z => absurd z (by decide)⟩
theorem t_law33 (hI : zInv s0 N σ) (hN0 : 0 ≤ N) (hN : N ≤ 60000000) (hl : 4 * (i : Int) + 3 < s0 23 0) (hl2 : s0 23 0 ≤ 2048) (hs : ∀ k, zi3 (s0 0 k)) (hz : zTx s0) (K : ∀ (σ' : ZI) (x' : Nat) (l5 l6 l7 l8 : Option ZV), zInv s0 (N + 20000) σ' → x' ≤ x + 1 → Wp 262 2277 [some (.inr (.inl (some 0))), some (.inr (.inl (some 100))), some (.inr (.inl (some 3553))), some (.inr (.inl (some 3564))), some (.inl (4 * (i : Int))), l5, l6, l7, l8] [] (3565, x', zrho) σ' Q) : Wp 262 2079 [some (.inr (.inl (some 0))), some (.inr (.inl (some 100))), some (.inr (.inl (some 3553))), some (.inr (.inl (some 3564))), some (.inl (4 * (i : Int))), l5, l6, l7, l8] [] (3565, x, zrho) σ Q := by
  obtain ⟨hA, hB, hC, hD, hE, hF, hG, hH⟩ := id hI
  have hk := hA.2.2.2.1
  have k20 : zkd 0 = 20 := rfl
  have k64 := zo_k
  have n64 := zo_n
  have gp : ∀ k, σ 0 k = s0 0 k := fun k => congrFun (hH.2 0 (by omega)) k
  have c23 : σ 23 0 = s0 23 0 := congrFun (hH.2 23 (by omega)) 0
  have e1 : (4 * (i : Int) + 1).toNat = 4 * i + 1 := by omega
  have e2 : (4 * (i : Int) + 2).toNat = 4 * i + 2 := by omega
  have e3 : (4 * (i : Int) + 3).toNat = 4 * i + 3 := by omega
  have s1 := hs (4 * i + 1)
  have s2 := hs (4 * i + 2)
  have s3 := hs (4 * i + 3)
  obtain ⟨s1a, s1b⟩ := s1
  obtain ⟨s2a, s2b⟩ := s2
  obtain ⟨s3a, s3b⟩ := s3
  simp (disch := first | assumption | exact p_c2i | exact p_c2r | exact p_c2n | omega | ((repeat (first | refine p_a1i.trans ?_ | refine p_a1r.trans ?_)); exact p_a10) | ((repeat (first | refine p_wI ?_ | refine p_wR ?_)); exact p_w0) | decide) only [reduceIte, Int.reduceLT, Int.reduceLE, Int.reduceEq, Int.reduceToNat, Int.reduceAdd, Int.reduceSub, Int.reduceMul, Int.reduceNeg, e262_2079, e262_2080, p_al1, p_cv0_0, p_cv0_1, p_cv0_2, p_cv0_3, p_cv0_4, zK_v, zK_0, WN_ncl, WN_nx, WN_nrt, WN_ite]
  refine t_isWellC hA.1 hA.2 (fun z2 z3 => ?_)
  rw [zK_v]
  have f1 := zfx_q z3
  have fz := fun a (ha : a < 100) => f1 a (by omega) (by omega)
  have es := lw_es (f1 3554 (by omega) (by omega))
  rw [← es]
  have gq := fun k => lw_g0 es fz gp k
  have c23q := lw_23 es fz c23
  simp (disch := first | assumption | exact p_c2i | exact p_c2r | exact p_c2n | omega | ((repeat (first | refine p_a1i.trans ?_ | refine p_a1r.trans ?_)); exact p_a10) | ((repeat (first | refine p_wI ?_ | refine p_wR ?_)); exact p_w0) | decide) only [reduceIte, Int.reduceLT, Int.reduceLE, Int.reduceEq, Int.reduceToNat, Int.reduceAdd, Int.reduceSub, Int.reduceMul, Int.reduceNeg, e262_2083, e262_2084, p_al2, p_cv0_0, p_cv0_1, p_cv0_2, p_cv0_3, p_cv0_4, zK_v, zK_0, WN_ncl, WN_nx, WN_nrt, WN_ite, gq, e1, e2, e3]
  refine t_isWellM hA.2 (fun y2 y3 => ?_)
  rw [zK_v]
  have bb : -2147483648 ≤ qWell (σ 3554) ∧ qWell (σ 3554) < 2147483648 := by unfold qWell; split; exact b_inv; omega
  obtain ⟨bb1, bb2⟩ := bb
  simp (disch := first | assumption | exact p_c2i | exact p_c2r | exact p_c2n | omega | ((repeat (first | refine p_a1i.trans ?_ | refine p_a1r.trans ?_)); exact p_a10) | ((repeat (first | refine p_wI ?_ | refine p_wR ?_)); exact p_w0) | decide) only [reduceIte, Int.reduceLT, Int.reduceLE, Int.reduceEq, Int.reduceToNat, Int.reduceAdd, Int.reduceSub, Int.reduceMul, Int.reduceNeg, e262_2087, e262_2090, e262_2091, p_ceq, p_push, p_ret1, WN_nx, WN_nrt, WN_ite]
  exact K _ _ _ _ _ _ (inv_q hI (by omega) f1 y3) (by omega)
theorem t_law34 (hI : zInv s0 N σ) (hN0 : 0 ≤ N) (hN : N ≤ 60000000) (hl : 4 * (i : Int) + 3 < s0 23 0) (hl2 : s0 23 0 ≤ 2048) (hs : ∀ k, zi3 (s0 0 k)) (hz : zTx s0) (K : ∀ (σ' : ZI) (x' : Nat) (l5 l6 l7 l8 : Option ZV), zInv s0 (N + 20000) σ' → x' ≤ x + 1 → Wp 262 2277 [some (.inr (.inl (some 0))), some (.inr (.inl (some 100))), some (.inr (.inl (some 3553))), some (.inr (.inl (some 3564))), some (.inl (4 * (i : Int))), l5, l6, l7, l8] [] (3565, x', zrho) σ' Q) : Wp 262 2092 [some (.inr (.inl (some 0))), some (.inr (.inl (some 100))), some (.inr (.inl (some 3553))), some (.inr (.inl (some 3564))), some (.inl (4 * (i : Int))), l5, l6, l7, l8] [] (3565, x, zrho) σ Q := by
  obtain ⟨hA, hB, hC, hD, hE, hF, hG, hH⟩ := id hI
  have hk := hA.2.2.2.1
  have k20 : zkd 0 = 20 := rfl
  have k64 := zo_k
  have n64 := zo_n
  have gp : ∀ k, σ 0 k = s0 0 k := fun k => congrFun (hH.2 0 (by omega)) k
  have c23 : σ 23 0 = s0 23 0 := congrFun (hH.2 23 (by omega)) 0
  have e1 : (4 * (i : Int) + 1).toNat = 4 * i + 1 := by omega
  have e2 : (4 * (i : Int) + 2).toNat = 4 * i + 2 := by omega
  have e3 : (4 * (i : Int) + 3).toNat = 4 * i + 3 := by omega
  have s1 := hs (4 * i + 1)
  have s2 := hs (4 * i + 2)
  have s3 := hs (4 * i + 3)
  obtain ⟨s1a, s1b⟩ := s1
  obtain ⟨s2a, s2b⟩ := s2
  obtain ⟨s3a, s3b⟩ := s3
  have tc := fun (Q : ZO → ZT → ZI → Prop) => t_meanC (σ := σ) (x := x) (Q := Q) hA.1 hA.2
  have tm := fun (Q : ZO → ZT → ZI → Prop) => t_meanM (τ := σ) (w := σ 3554) (x := x) (Q := Q) hk
  rw [zg_r] at tm
  have db1 : -2147483648 ≤ (Op.cmpValue (FP.dcmp (qMean (σ 3554)) (qMean (σ 3554))) .l).toInt := Int32.le_toInt _
  have db2 : (Op.cmpValue (FP.dcmp (qMean (σ 3554)) (qMean (σ 3554))) .l).toInt < 2147483648 := Int32.toInt_lt _
  by_cases c : (Op.cmpValue (FP.dcmp (qMean (σ 3554)) (qMean (σ 3554))) .l).toInt = 0
  · simp (disch := first | assumption | exact p_c2i | exact p_c2r | exact p_c2n | omega | ((repeat (first | refine p_a1i.trans ?_ | refine p_a1r.trans ?_)); exact p_a10) | ((repeat (first | refine p_wI ?_ | refine p_wR ?_)); exact p_w0) | decide) only [reduceIte, Int.reduceLT, Int.reduceLE, Int.reduceEq, Int.reduceToNat, Int.reduceAdd, Int.reduceSub, Int.reduceMul, Int.reduceNeg, e262_2092, e262_2093, e262_2096, e262_2098, e262_2099, e262_2102, e262_2104, e262_2106, e262_2108, e262_2109, e262_2112, e262_2114, e262_2116, e262_2117, e262_2120, e262_2122, e262_2124, e262_2125, e262_2128, e262_2129, e262_2130, p_al1, p_cv0_0, p_cv0_1, p_cv0_2, p_cv0_3, p_cv0_4, zK_v, zK_0, WN_ncl, p_ds5, p_c2n, p_c2i, p_c2r, p_al2, p_ds7, p_dl5, p_dl7, p_ifeq, p_ifne, p_push, p_ret1, p_goto, WN_nx, WN_nrt, WN_ite, tc, tm, p_dcmp, p_ds5, p_ds7, p_dl5, p_dl7, c]
    exact K _ _ _ _ _ _ (inv_q hI (by omega) zfx_r zQy_f) (by omega)
  · simp (disch := first | assumption | exact p_c2i | exact p_c2r | exact p_c2n | omega | ((repeat (first | refine p_a1i.trans ?_ | refine p_a1r.trans ?_)); exact p_a10) | ((repeat (first | refine p_wI ?_ | refine p_wR ?_)); exact p_w0) | decide) only [reduceIte, Int.reduceLT, Int.reduceLE, Int.reduceEq, Int.reduceToNat, Int.reduceAdd, Int.reduceSub, Int.reduceMul, Int.reduceNeg, e262_2092, e262_2093, e262_2096, e262_2098, e262_2099, e262_2102, e262_2104, e262_2106, e262_2108, e262_2109, e262_2112, e262_2114, e262_2116, e262_2117, e262_2120, e262_2122, e262_2124, e262_2125, e262_2128, e262_2129, e262_2130, p_al1, p_cv0_0, p_cv0_1, p_cv0_2, p_cv0_3, p_cv0_4, zK_v, zK_0, WN_ncl, p_ds5, p_c2n, p_c2i, p_c2r, p_al2, p_ds7, p_dl5, p_dl7, p_ifeq, p_ifne, p_push, p_ret1, p_goto, WN_nx, WN_nrt, WN_ite, tc, tm, p_dcmp, p_ds5, p_ds7, p_dl5, p_dl7, c]
    exact K _ _ _ _ _ _ (inv_q hI (by omega) zfx_r zQy_f) (by omega)
theorem t_law35 (hI : zInv s0 N σ) (hN0 : 0 ≤ N) (hN : N ≤ 60000000) (hl : 4 * (i : Int) + 3 < s0 23 0) (hl2 : s0 23 0 ≤ 2048) (hs : ∀ k, zi3 (s0 0 k)) (hz : zTx s0) (K : ∀ (σ' : ZI) (x' : Nat) (l5 l6 l7 l8 : Option ZV), zInv s0 (N + 20000) σ' → x' ≤ x + 1 → Wp 262 2277 [some (.inr (.inl (some 0))), some (.inr (.inl (some 100))), some (.inr (.inl (some 3553))), some (.inr (.inl (some 3564))), some (.inl (4 * (i : Int))), l5, l6, l7, l8] [] (3565, x', zrho) σ' Q) : Wp 262 2133 [some (.inr (.inl (some 0))), some (.inr (.inl (some 100))), some (.inr (.inl (some 3553))), some (.inr (.inl (some 3564))), some (.inl (4 * (i : Int))), l5, l6, l7, l8] [] (3565, x, zrho) σ Q := by
  obtain ⟨hA, hB, hC, hD, hE, hF, hG, hH⟩ := id hI
  have hk := hA.2.2.2.1
  have k20 : zkd 0 = 20 := rfl
  have k64 := zo_k
  have n64 := zo_n
  have gp : ∀ k, σ 0 k = s0 0 k := fun k => congrFun (hH.2 0 (by omega)) k
  have c23 : σ 23 0 = s0 23 0 := congrFun (hH.2 23 (by omega)) 0
  have e1 : (4 * (i : Int) + 1).toNat = 4 * i + 1 := by omega
  have e2 : (4 * (i : Int) + 2).toNat = 4 * i + 2 := by omega
  have e3 : (4 * (i : Int) + 3).toNat = 4 * i + 3 := by omega
  have s1 := hs (4 * i + 1)
  have s2 := hs (4 * i + 2)
  have s3 := hs (4 * i + 3)
  obtain ⟨s1a, s1b⟩ := s1
  obtain ⟨s2a, s2b⟩ := s2
  obtain ⟨s3a, s3b⟩ := s3
  have tc := fun (Q : ZO → ZT → ZI → Prop) => t_shareC (σ := σ) (x := x) (Q := Q) hA.1 hA.2 (by omega)
  have tm := fun (Q : ZO → ZT → ZI → Prop) => t_shareM (τ := σ) (w := σ 3554) (x := x) (Q := Q) hk (by omega)
  rw [zg_r] at tm
  have pf := fun (n : Nat) (ls : ZL) (st : List ZV) (θ : ZT) (σ1 : ZI) => p_f2d (n := n) (ls := ls) (st := st) (θ := θ) (σ := σ1) (qShare_p (w := σ 3554))
  have db1 : -2147483648 ≤ (Op.cmpValue (FP.dcmp (FP.f2d (qShare (σ 3554))) (FP.f2d (qShare (σ 3554)))) .l).toInt := Int32.le_toInt _
  have db2 : (Op.cmpValue (FP.dcmp (FP.f2d (qShare (σ 3554))) (FP.f2d (qShare (σ 3554)))) .l).toInt < 2147483648 := Int32.toInt_lt _
  by_cases c : (Op.cmpValue (FP.dcmp (FP.f2d (qShare (σ 3554))) (FP.f2d (qShare (σ 3554)))) .l).toInt = 0
  · simp (disch := first | assumption | exact p_c2i | exact p_c2r | exact p_c2n | omega | ((repeat (first | refine p_a1i.trans ?_ | refine p_a1r.trans ?_)); exact p_a10) | ((repeat (first | refine p_wI ?_ | refine p_wR ?_)); exact p_w0) | decide) only [reduceIte, Int.reduceLT, Int.reduceLE, Int.reduceEq, Int.reduceToNat, Int.reduceAdd, Int.reduceSub, Int.reduceMul, Int.reduceNeg, e262_2133, e262_2134, e262_2137, e262_2138, e262_2140, e262_2141, e262_2144, e262_2145, e262_2147, e262_2149, e262_2151, e262_2152, e262_2155, e262_2157, e262_2159, e262_2160, e262_2163, e262_2165, e262_2167, e262_2168, e262_2171, e262_2172, e262_2173, p_al1, p_cv0_0, p_cv0_1, p_cv0_2, p_cv0_3, p_cv0_4, zK_v, zK_0, WN_ncl, p_ds5, p_c2n, p_c2i, p_c2r, p_al2, p_ds7, p_dl5, p_dl7, p_ifeq, p_ifne, p_push, p_ret1, p_goto, WN_nx, WN_nrt, WN_ite, tc, tm, p_dcmp, p_ds5, p_ds7, p_dl5, p_dl7, pf, c]
    exact K _ _ _ _ _ _ (inv_q hI (by omega) zfx_r zQy_f) (by omega)
  · simp (disch := first | assumption | exact p_c2i | exact p_c2r | exact p_c2n | omega | ((repeat (first | refine p_a1i.trans ?_ | refine p_a1r.trans ?_)); exact p_a10) | ((repeat (first | refine p_wI ?_ | refine p_wR ?_)); exact p_w0) | decide) only [reduceIte, Int.reduceLT, Int.reduceLE, Int.reduceEq, Int.reduceToNat, Int.reduceAdd, Int.reduceSub, Int.reduceMul, Int.reduceNeg, e262_2133, e262_2134, e262_2137, e262_2138, e262_2140, e262_2141, e262_2144, e262_2145, e262_2147, e262_2149, e262_2151, e262_2152, e262_2155, e262_2157, e262_2159, e262_2160, e262_2163, e262_2165, e262_2167, e262_2168, e262_2171, e262_2172, e262_2173, p_al1, p_cv0_0, p_cv0_1, p_cv0_2, p_cv0_3, p_cv0_4, zK_v, zK_0, WN_ncl, p_ds5, p_c2n, p_c2i, p_c2r, p_al2, p_ds7, p_dl5, p_dl7, p_ifeq, p_ifne, p_push, p_ret1, p_goto, WN_nx, WN_nrt, WN_ite, tc, tm, p_dcmp, p_ds5, p_ds7, p_dl5, p_dl7, pf, c]
    exact K _ _ _ _ _ _ (inv_q hI (by omega) zfx_r zQy_f) (by omega)
theorem t_law36 (hI : zInv s0 N σ) (hN0 : 0 ≤ N) (hN : N ≤ 60000000) (hl : 4 * (i : Int) + 3 < s0 23 0) (hl2 : s0 23 0 ≤ 2048) (hs : ∀ k, zi3 (s0 0 k)) (hz : zTx s0) (K : ∀ (σ' : ZI) (x' : Nat) (l5 l6 l7 l8 : Option ZV), zInv s0 (N + 20000) σ' → x' ≤ x + 1 → Wp 262 2277 [some (.inr (.inl (some 0))), some (.inr (.inl (some 100))), some (.inr (.inl (some 3553))), some (.inr (.inl (some 3564))), some (.inl (4 * (i : Int))), l5, l6, l7, l8] [] (3565, x', zrho) σ' Q) : Wp 262 2176 [some (.inr (.inl (some 0))), some (.inr (.inl (some 100))), some (.inr (.inl (some 3553))), some (.inr (.inl (some 3564))), some (.inl (4 * (i : Int))), l5, l6, l7, l8] [] (3565, x, zrho) σ Q := by
  obtain ⟨hA, hB, hC, hD, hE, hF, hG, hH⟩ := id hI
  have hk := hA.2.2.2.1
  have k20 : zkd 0 = 20 := rfl
  have k64 := zo_k
  have n64 := zo_n
  have gp : ∀ k, σ 0 k = s0 0 k := fun k => congrFun (hH.2 0 (by omega)) k
  have c23 : σ 23 0 = s0 23 0 := congrFun (hH.2 23 (by omega)) 0
  have e1 : (4 * (i : Int) + 1).toNat = 4 * i + 1 := by omega
  have e2 : (4 * (i : Int) + 2).toNat = 4 * i + 2 := by omega
  have e3 : (4 * (i : Int) + 3).toNat = 4 * i + 3 := by omega
  have s1 := hs (4 * i + 1)
  have s2 := hs (4 * i + 2)
  have s3 := hs (4 * i + 3)
  obtain ⟨s1a, s1b⟩ := s1
  obtain ⟨s2a, s2b⟩ := s2
  obtain ⟨s3a, s3b⟩ := s3
  obtain ⟨kp, n, hCr, hKr, hn8, hkk⟩ := hB
  simp (disch := first | assumption | exact p_c2i | exact p_c2r | exact p_c2n | omega | ((repeat (first | refine p_a1i.trans ?_ | refine p_a1r.trans ?_)); exact p_a10) | ((repeat (first | refine p_wI ?_ | refine p_wR ?_)); exact p_w0) | decide) only [reduceIte, Int.reduceLT, Int.reduceLE, Int.reduceEq, Int.reduceToNat, Int.reduceAdd, Int.reduceSub, Int.reduceMul, Int.reduceNeg, e262_2176, e262_2177, e262_2178, p_al1, p_al3, p_cs2_0, p_cs2_1, p_cs2_2, p_cs2_3, p_cs2_4, zK_v, zK_0, WN_ncl, WN_nx, WN_nrt, WN_ite]
  refine t_undoW hkk hCr hn8 (fun m hm => ⟨by omega, by omega⟩) (fun z1 => ?_) (fun m z1 z2 z3 z4 z5 => ?_)
  · rw [zK_v]
    have f1 : zfx σ σ := zfx_r
    have fz := fun a (ha : a < 100) => f1 a (by omega) (by omega)
    have es := lw_es (f1 3554 (by omega) (by omega))
    rw [← es]
    have gq := fun k => lw_g0 es fz gp k
    have c23q := lw_23 es fz c23
    simp (disch := first | assumption | exact p_c2i | exact p_c2r | exact p_c2n | omega | ((repeat (first | refine p_a1i.trans ?_ | refine p_a1r.trans ?_)); exact p_a10) | ((repeat (first | refine p_wI ?_ | refine p_wR ?_)); exact p_w0) | decide) only [reduceIte, Int.reduceLT, Int.reduceLE, Int.reduceEq, Int.reduceToNat, Int.reduceAdd, Int.reduceSub, Int.reduceMul, Int.reduceNeg, e262_2181, e262_2183, e262_2184, p_is5, p_c2n, p_c2i, p_c2r, p_al2, p_cv0_0, p_cv0_1, p_cv0_2, p_cv0_3, p_cv0_4, zK_v, zK_0, WN_ncl, WN_nx, WN_nrt, WN_ite, gq, e1, e2, e3]
    refine t_undoM hKr hn8 (fun y1 y2 y3 y4 => ?_) (fun m y1 y2 y3 y4 y5 y6 y7 y8 => ?_)
    · rw [zK_v]
      have e8 := y4.1
      have tt := fun (Q : ZO → ZT → ZI → Prop) (x : Nat) (w : zW) => t_thrownM (τ := y2) (w := w) (x := x) (Q := Q) (by rw [e8]; omega)
      rw [e8] at tt
      simp (disch := first | assumption | exact p_c2i | exact p_c2r | exact p_c2n | omega | ((repeat (first | refine p_a1i.trans ?_ | refine p_a1r.trans ?_)); exact p_a10) | ((repeat (first | refine p_wI ?_ | refine p_wR ?_)); exact p_w0) | decide) only [reduceIte, Int.reduceLT, Int.reduceLE, Int.reduceEq, Int.reduceToNat, Int.reduceAdd, Int.reduceSub, Int.reduceMul, Int.reduceNeg, e262_2187, e262_2189, e262_2190, e262_2193, e262_2195, e262_2198, e262_2199, e262_2200, e262_2202, e262_2205, e262_2206, e262_2207, e262_2208, e262_2210, e262_2211, e262_2212, e262_2215, e262_2216, e262_2217, p_is6, p_c2n, p_c2i, p_c2r, p_al2, p_cv0_0, p_cv0_1, p_cv0_2, p_cv0_3, p_cv0_4, zK_v, zK_0, WN_ncl, p_il5, p_ceq, p_push, p_ret1, p_ifne, p_al3, p_lald, p_il6, p_i2l, p_lcmp, p_ifeq, p_goto, WN_nx, WN_nrt, WN_ite, tt]
      exact K _ _ _ _ _ _ (inv_q hI (by omega) f1 y4) (by omega)
    · exfalso
      omega
  · rw [zK_v]
    have f0 : ∀ a, (a < 101 ∨ 413 ≤ a) → a ≠ 1037 → a ≠ 3564 → zup z2 3564 0 (m : Int) a = σ a := fun a h1 h2 h3 => (zup_f h3).trans (z5 a h1 h2)
    have fz := fun a (ha : a < 100) => f0 a (by omega) (by omega) (by omega)
    have es := lw_es (f0 3554 (by omega) (by omega) (by omega))
    rw [← es]
    have gq := fun k => lw_g0 es fz gp k
    have c23q := lw_23 es fz c23
    simp (disch := first | assumption | exact p_c2i | exact p_c2r | exact p_c2n | omega | ((repeat (first | refine p_a1i.trans ?_ | refine p_a1r.trans ?_)); exact p_a10) | ((repeat (first | refine p_wI ?_ | refine p_wR ?_)); exact p_w0) | decide) only [reduceIte, Int.reduceLT, Int.reduceLE, Int.reduceEq, Int.reduceToNat, Int.reduceAdd, Int.reduceSub, Int.reduceMul, Int.reduceNeg, e262_2181, e262_2183, e262_2184, p_is5, p_c2n, p_c2i, p_c2r, p_al2, p_cv0_0, p_cv0_1, p_cv0_2, p_cv0_3, p_cv0_4, zK_v, zK_0, WN_ncl, WN_nx, WN_nrt, WN_ite, gq, e1, e2, e3]
    have hK2 : zKr (zup z2 3564 0 (m : Int)) kp n := zKr_fr hKr (congrFun (f0 3553 (by omega) (by omega) (by omega)) 6) (f0 3555 (by omega) (by omega) (by omega))
    refine t_undoM hK2 hn8 (fun y1 y2 y3 y4 => ?_) (fun m2 y1 y2 y3 y4 y5 y6 y7 y8 => ?_)
    · exfalso
      omega
    · have em : m2 = m := by omega
      subst em
      rw [zK_v]
      have e8 := y5
      have tt := fun (Q : ZO → ZT → ZI → Prop) (x : Nat) (w : zW) => t_thrownM (τ := y2) (w := w) (x := x) (Q := Q) (by rw [e8]; exact ⟨Int.le_refl 0, by decide⟩)
      rw [e8] at tt
      have o64 := fun u => lw_64 (u := u) (y8 3564 (by omega))
      simp (disch := first | assumption | exact p_c2i | exact p_c2r | exact p_c2n | omega | ((repeat (first | refine p_a1i.trans ?_ | refine p_a1r.trans ?_)); exact p_a10) | ((repeat (first | refine p_wI ?_ | refine p_wR ?_)); exact p_w0) | decide) only [reduceIte, Int.reduceLT, Int.reduceLE, Int.reduceEq, Int.reduceToNat, Int.reduceAdd, Int.reduceSub, Int.reduceMul, Int.reduceNeg, e262_2187, e262_2189, e262_2190, e262_2193, e262_2195, e262_2198, e262_2199, e262_2200, e262_2202, e262_2205, e262_2206, e262_2207, e262_2208, e262_2210, e262_2211, e262_2212, e262_2215, e262_2216, e262_2217, p_is6, p_c2n, p_c2i, p_c2r, p_al2, p_cv0_0, p_cv0_1, p_cv0_2, p_cv0_3, p_cv0_4, zK_v, zK_0, WN_ncl, p_il5, p_ceq, p_push, p_ret1, p_ifne, p_al3, p_lald, p_il6, p_i2l, p_lcmp, p_ifeq, p_goto, WN_nx, WN_nrt, WN_ite, tt, o64, lw_lt]
      exact K _ _ _ _ _ _ (inv_ur hI (by omega) z3 (hkk m2 (by omega)) z4 (by omega) (fun k hk2 => hkk k (by omega)) (fun k hk2 j hj => hKr.2 k (by omega) j hj) (fun a h1 h2 _ => z5 a h1 h2) y4 y6 y7 y8) (by omega)
theorem t_law37 (hI : zInv s0 N σ) (hN0 : 0 ≤ N) (hN : N ≤ 60000000) (hl : 4 * (i : Int) + 3 < s0 23 0) (hl2 : s0 23 0 ≤ 2048) (hs : ∀ k, zi3 (s0 0 k)) (hz : zTx s0) (K : ∀ (σ' : ZI) (x' : Nat) (l5 l6 l7 l8 : Option ZV), zInv s0 (N + 20000) σ' → x' ≤ x + 1 → Wp 262 2277 [some (.inr (.inl (some 0))), some (.inr (.inl (some 100))), some (.inr (.inl (some 3553))), some (.inr (.inl (some 3564))), some (.inl (4 * (i : Int))), l5, l6, l7, l8] [] (3565, x', zrho) σ' Q) : Wp 262 2220 [some (.inr (.inl (some 0))), some (.inr (.inl (some 100))), some (.inr (.inl (some 3553))), some (.inr (.inl (some 3564))), some (.inl (4 * (i : Int))), l5, l6, l7, l8] [] (3565, x, zrho) σ Q := by
  obtain ⟨hA, hB, hC, hD, hE, hF, hG, hH⟩ := id hI
  have hk := hA.2.2.2.1
  have k20 : zkd 0 = 20 := rfl
  have k64 := zo_k
  have n64 := zo_n
  have gp : ∀ k, σ 0 k = s0 0 k := fun k => congrFun (hH.2 0 (by omega)) k
  have c23 : σ 23 0 = s0 23 0 := congrFun (hH.2 23 (by omega)) 0
  have e1 : (4 * (i : Int) + 1).toNat = 4 * i + 1 := by omega
  have e2 : (4 * (i : Int) + 2).toNat = 4 * i + 2 := by omega
  have e3 : (4 * (i : Int) + 3).toNat = 4 * i + 3 := by omega
  have s1 := hs (4 * i + 1)
  have s2 := hs (4 * i + 2)
  have s3 := hs (4 * i + 3)
  obtain ⟨s1a, s1b⟩ := s1
  obtain ⟨s2a, s2b⟩ := s2
  obtain ⟨s3a, s3b⟩ := s3
  simp (disch := first | assumption | exact p_c2i | exact p_c2r | exact p_c2n | omega | ((repeat (first | refine p_a1i.trans ?_ | refine p_a1r.trans ?_)); exact p_a10) | ((repeat (first | refine p_wI ?_ | refine p_wR ?_)); exact p_w0) | decide) only [reduceIte, Int.reduceLT, Int.reduceLE, Int.reduceEq, Int.reduceToNat, Int.reduceAdd, Int.reduceSub, Int.reduceMul, Int.reduceNeg, e262_2220, e262_2221, p_al1, p_cv0_0, p_cv0_1, p_cv0_2, p_cv0_3, p_cv0_4, zK_v, zK_0, WN_ncl, WN_nx, WN_nrt, WN_ite]
  refine t_saveC hA.1 hA.2 (fun z1 z2 z3 z4 z5 z6 => ?_)
  rw [zK_v]
  have fz := fun a (ha : a < 100) => z6 a (by omega) (by omega)
  have es := lw_es (z6 3554 (by omega) (by omega))
  rw [← es]
  have gq := fun k => lw_g0 es fz gp k
  have c23q := lw_23 es fz c23
  simp (disch := first | assumption | exact p_c2i | exact p_c2r | exact p_c2n | omega | ((repeat (first | refine p_a1i.trans ?_ | refine p_a1r.trans ?_)); exact p_a10) | ((repeat (first | refine p_wI ?_ | refine p_wR ?_)); exact p_w0) | decide) only [reduceIte, Int.reduceLT, Int.reduceLE, Int.reduceEq, Int.reduceToNat, Int.reduceAdd, Int.reduceSub, Int.reduceMul, Int.reduceNeg, e262_2224, e262_2225, p_al2, p_cv0_0, p_cv0_1, p_cv0_2, p_cv0_3, p_cv0_4, zK_v, zK_0, WN_ncl, WN_nx, WN_nrt, WN_ite, gq, e1, e2, e3]
  refine t_saveM hk (fun y1 y2 y3 y4 y5 y6 => ?_)
  rw [zK_v]
  have o0 := hk.1
  simp (disch := first | assumption | exact p_c2i | exact p_c2r | exact p_c2n | omega | ((repeat (first | refine p_a1i.trans ?_ | refine p_a1r.trans ?_)); exact p_a10) | ((repeat (first | refine p_wI ?_ | refine p_wR ?_)); exact p_w0) | decide) only [reduceIte, Int.reduceLT, Int.reduceLE, Int.reduceEq, Int.reduceToNat, Int.reduceAdd, Int.reduceSub, Int.reduceMul, Int.reduceNeg, e262_2228, e262_2231, e262_2232, p_ceq, p_push, p_ret1, WN_nx, WN_nrt, WN_ite]
  exact K _ _ _ _ _ _ (inv_s hI (by omega) z2 z3 z4 z5 z6 y2 y4 y5 y6) (by omega)
theorem t_law38 (hI : zInv s0 N σ) (hN0 : 0 ≤ N) (hN : N ≤ 60000000) (hl : 4 * (i : Int) + 3 < s0 23 0) (hl2 : s0 23 0 ≤ 2048) (hs : ∀ k, zi3 (s0 0 k)) (hz : zTx s0) (K : ∀ (σ' : ZI) (x' : Nat) (l5 l6 l7 l8 : Option ZV), zInv s0 (N + 20000) σ' → x' ≤ x + 1 → Wp 262 2277 [some (.inr (.inl (some 0))), some (.inr (.inl (some 100))), some (.inr (.inl (some 3553))), some (.inr (.inl (some 3564))), some (.inl (4 * (i : Int))), l5, l6, l7, l8] [] (3565, x', zrho) σ' Q) : Wp 262 2233 [some (.inr (.inl (some 0))), some (.inr (.inl (some 100))), some (.inr (.inl (some 3553))), some (.inr (.inl (some 3564))), some (.inl (4 * (i : Int))), l5, l6, l7, l8] [] (3565, x, zrho) σ Q := by
  obtain ⟨hA, hB, hC, hD, hE, hF, hG, hH⟩ := id hI
  have hk := hA.2.2.2.1
  have k20 : zkd 0 = 20 := rfl
  have k64 := zo_k
  have n64 := zo_n
  have gp : ∀ k, σ 0 k = s0 0 k := fun k => congrFun (hH.2 0 (by omega)) k
  have c23 : σ 23 0 = s0 23 0 := congrFun (hH.2 23 (by omega)) 0
  have e1 : (4 * (i : Int) + 1).toNat = 4 * i + 1 := by omega
  have e2 : (4 * (i : Int) + 2).toNat = 4 * i + 2 := by omega
  have e3 : (4 * (i : Int) + 3).toNat = 4 * i + 3 := by omega
  have s1 := hs (4 * i + 1)
  have s2 := hs (4 * i + 2)
  have s3 := hs (4 * i + 3)
  obtain ⟨s1a, s1b⟩ := s1
  obtain ⟨s2a, s2b⟩ := s2
  obtain ⟨s3a, s3b⟩ := s3
  obtain ⟨kp, n, hCr, hKr, hn8, hkk⟩ := hB
  obtain ⟨q1, q2, q3⟩ := hC
  have q0 : σ 3553 5 ≠ 0 → 0 ≤ σ 3556 0 ∧ σ 3556 0 ≤ 4 := fun z => (q3 z).2.2.2.1.1
  simp (disch := first | assumption | exact p_c2i | exact p_c2r | exact p_c2n | omega | ((repeat (first | refine p_a1i.trans ?_ | refine p_a1r.trans ?_)); exact p_a10) | ((repeat (first | refine p_wI ?_ | refine p_wR ?_)); exact p_w0) | decide) only [reduceIte, Int.reduceLT, Int.reduceLE, Int.reduceEq, Int.reduceToNat, Int.reduceAdd, Int.reduceSub, Int.reduceMul, Int.reduceNeg, e262_2233, e262_2234, e262_2235, p_al1, p_al3, p_cs2_0, p_cs2_1, p_cs2_2, p_cs2_3, p_cs2_4, zK_v, zK_0, WN_ncl, WN_nx, WN_nrt, WN_ite]
  refine t_restoreW (w := σ 3556) (N := N) q1 q3 q2 hCr (fun z => by have := q0 z; exact ⟨by omega, by omega⟩) (fun z1 => ?_) (fun z1 z2 z3 z4 z5 => ?_)
  · rw [zK_v]
    have f1 : zfx σ σ := zfx_r
    have fz := fun a (ha : a < 100) => f1 a (by omega) (by omega)
    have es := lw_es (f1 3554 (by omega) (by omega))
    rw [← es]
    have gq := fun k => lw_g0 es fz gp k
    have c23q := lw_23 es fz c23
    simp (disch := first | assumption | exact p_c2i | exact p_c2r | exact p_c2n | omega | ((repeat (first | refine p_a1i.trans ?_ | refine p_a1r.trans ?_)); exact p_a10) | ((repeat (first | refine p_wI ?_ | refine p_wR ?_)); exact p_w0) | decide) only [reduceIte, Int.reduceLT, Int.reduceLE, Int.reduceEq, Int.reduceToNat, Int.reduceAdd, Int.reduceSub, Int.reduceMul, Int.reduceNeg, e262_2238, e262_2240, e262_2241, p_is5, p_c2n, p_c2i, p_c2r, p_al2, p_cv0_0, p_cv0_1, p_cv0_2, p_cv0_3, p_cv0_4, zK_v, zK_0, WN_ncl, WN_nx, WN_nrt, WN_ite, gq, e1, e2, e3]
    refine t_restoreM rfl q2 q0 (fun y1 y2 y3 y4 => ?_) (fun y1 y2 y3 y4 y5 y6 y7 y8 => ?_)
    · rw [zK_v]
      have e8 := y4.1
      have tt := fun (Q : ZO → ZT → ZI → Prop) (x : Nat) (w : zW) => t_thrownM (τ := y2) (w := w) (x := x) (Q := Q) (by rw [e8]; omega)
      rw [e8] at tt
      simp (disch := first | assumption | exact p_c2i | exact p_c2r | exact p_c2n | omega | ((repeat (first | refine p_a1i.trans ?_ | refine p_a1r.trans ?_)); exact p_a10) | ((repeat (first | refine p_wI ?_ | refine p_wR ?_)); exact p_w0) | decide) only [reduceIte, Int.reduceLT, Int.reduceLE, Int.reduceEq, Int.reduceToNat, Int.reduceAdd, Int.reduceSub, Int.reduceMul, Int.reduceNeg, e262_2244, e262_2246, e262_2247, e262_2250, e262_2252, e262_2255, e262_2256, e262_2257, e262_2259, e262_2262, e262_2263, e262_2264, e262_2265, e262_2267, e262_2268, e262_2269, e262_2272, e262_2273, e262_2274, p_is6, p_c2n, p_c2i, p_c2r, p_al2, p_cv0_0, p_cv0_1, p_cv0_2, p_cv0_3, p_cv0_4, zK_v, zK_0, WN_ncl, p_il5, p_ceq, p_push, p_ret1, p_ifne, p_al3, p_lald, p_il6, p_i2l, p_lcmp, p_ifeq, p_goto, WN_nx, WN_nrt, WN_ite, tt]
      exact K _ _ _ _ _ _ (inv_q hI (by omega) f1 y4) (by omega)
    · exact absurd z1 y1
  · rw [zK_v]
    have f0 : ∀ a, (a < 101 ∨ 413 ≤ a) → a ≠ 1037 → a ≠ 3564 → zup z2 3564 0 (σ 3556 0) a = σ a := fun a h1 h2 h3 => (zup_f h3).trans (z5 a h1 h2)
    have e5 := congrFun (f0 3553 (by omega) (by omega) (by omega)) 5
    have e6 := f0 3556 (by omega) (by omega) (by omega)
    have bb := q0 z1
    have fz := fun a (ha : a < 100) => f0 a (by omega) (by omega) (by omega)
    have es := lw_es (f0 3554 (by omega) (by omega) (by omega))
    rw [← es]
    have gq := fun k => lw_g0 es fz gp k
    have c23q := lw_23 es fz c23
    simp (disch := first | assumption | exact p_c2i | exact p_c2r | exact p_c2n | omega | ((repeat (first | refine p_a1i.trans ?_ | refine p_a1r.trans ?_)); exact p_a10) | ((repeat (first | refine p_wI ?_ | refine p_wR ?_)); exact p_w0) | decide) only [reduceIte, Int.reduceLT, Int.reduceLE, Int.reduceEq, Int.reduceToNat, Int.reduceAdd, Int.reduceSub, Int.reduceMul, Int.reduceNeg, e262_2238, e262_2240, e262_2241, p_is5, p_c2n, p_c2i, p_c2r, p_al2, p_cv0_0, p_cv0_1, p_cv0_2, p_cv0_3, p_cv0_4, zK_v, zK_0, WN_ncl, WN_nx, WN_nrt, WN_ite, gq, e1, e2, e3]
    refine t_restoreM e5 q2 (fun z => by rw [e6]; exact q0 z) (fun y1 y2 y3 y4 => ?_) (fun y1 y2 y3 y4 y5 y6 y7 y8 => ?_)
    · exact absurd y1 z1
    · rw [zK_v]
      rw [e6] at y4 ⊢
      have e8 := y5
      have tt := fun (Q : ZO → ZT → ZI → Prop) (x : Nat) (w : zW) => t_thrownM (τ := y2) (w := w) (x := x) (Q := Q) (by rw [e8]; exact ⟨Int.le_refl 0, by decide⟩)
      rw [e8] at tt
      have o64 := fun u => lw_64 (u := u) (y8 3564 (by omega))
      simp (disch := first | assumption | exact p_c2i | exact p_c2r | exact p_c2n | omega | ((repeat (first | refine p_a1i.trans ?_ | refine p_a1r.trans ?_)); exact p_a10) | ((repeat (first | refine p_wI ?_ | refine p_wR ?_)); exact p_w0) | decide) only [reduceIte, Int.reduceLT, Int.reduceLE, Int.reduceEq, Int.reduceToNat, Int.reduceAdd, Int.reduceSub, Int.reduceMul, Int.reduceNeg, e262_2244, e262_2246, e262_2247, e262_2250, e262_2252, e262_2255, e262_2256, e262_2257, e262_2259, e262_2262, e262_2263, e262_2264, e262_2265, e262_2267, e262_2268, e262_2269, e262_2272, e262_2273, e262_2274, p_is6, p_c2n, p_c2i, p_c2r, p_al2, p_cv0_0, p_cv0_1, p_cv0_2, p_cv0_3, p_cv0_4, zK_v, zK_0, WN_ncl, p_il5, p_ceq, p_push, p_ret1, p_ifne, p_al3, p_lald, p_il6, p_i2l, p_lcmp, p_ifeq, p_goto, WN_nx, WN_nrt, WN_ite, tt, o64, lw_lt]
      exact K _ _ _ _ _ _ (inv_ur (kq := kp) (m := 0) hI (by omega) z3 (q3 z1).2 z4 (by omega) (fun k hk2 => absurd hk2 (Nat.not_lt_zero k)) (fun k hk2 => absurd hk2 (Nat.not_lt_zero k)) (fun a h1 h2 _ => z5 a h1 h2) y4 y6 y7 y8) (by omega)
end
