/-! THE CLASS: run -/
def q2 (ts : Nat → Int) (tl s : Nat) : Int := if sA ts tl s = 116 then tIx (sA ts tl (s + 3)) else dA ts tl (s + 2)
def q3 (ts : Nat → Int) (tl s : Nat) : Int := if sA ts tl s = 104 then hIx (sA ts tl (s + 3)) else dA ts tl (s + 4)
def qO (ts : Nat → Int) (tl : Nat) (w : zW) (s : Nat) : Int × Int × Int := oO w (sA ts tl s) (rF ts tl s) (q2 ts tl s) (q3 ts tl s)
def qW (ts : Nat → Int) (tl : Nat) (w : zW) (s : Nat) : zW := oW w (sA ts tl s) (rF ts tl s) (q2 ts tl s) (q3 ts tl s)
/-- the lawn behind so many orders -/
def rA (ts : Nat → Int) (tl : Nat) (w : zW) : Nat → zW
  | 0 => w
  | j + 1 => qW ts tl (rA ts tl w j) (sO ts tl j)
/-- whether an order can't be carried out -/
def rP (ts : Nat → Int) (tl : Nat) (w : zW) (j : Nat) : Bool := decide ((qO ts tl (rA ts tl w j) (sO ts tl j)).1 ≠ 0)
def fF (p : Nat → Bool) : Nat → Nat → Nat
  | i, 0 => i
  | i, n + 1 => if p i = true then i else fF p (i + 1) n
theorem fF_s {p : Nat → Bool} {i n : Nat} : fF p i (n + 1) = if p i = true then i else fF p (i + 1) n := rfl
theorem zrho_n : zrho 100 1 = some 413 := rfl
def zRf (σ σ' : ZI) (w : zW) (o : Int × Int × Int) (e : Int) : Prop := zSr σ' 101 w ∧ σ' 100 9 = e ∧ σ' 3550 1 = 0 ∧ (σ' 100 12 = if o.2.1 = 0 then σ 100 12 else o.2.1) ∧ (σ' 100 13 = if o.2.1 = 0 then σ 100 13 else o.2.2) ∧ (∀ k, k ≠ 9 → k ≠ 12 → k ≠ 13 → σ' 100 k = σ 100 k) ∧ ∀ a, a ≠ 100 → a ≠ 3550 → (a < 101 ∨ 725 ≤ a) → σ' a = σ a
section
variable {σ : ZI} {θ : ZT} {Q : ZO → ZT → ZI → Prop} {x n : Nat} {w : zW} {N a1 a2 a3 : Int} {ts : Nat → Int} {tl M : Nat} {kp : Nat → zW}
theorem t_clear : WM 57 [.inr (.inl (some 3550))] (3565, x, zrho) σ Q = Q (.inl none) (3565, x, zrho) (zup σ 3550 1 0) := by
  show Wp 57 0 [some (.inr (.inl (some 3550)))] [] _ _ Q = _
  have k := zt_k
  simp (disch := first | assumption | exact p_c2i | exact p_c2r | exact p_c2n | omega | ((repeat (first | refine p_a1i.trans ?_ | refine p_a1r.trans ?_)); exact p_a10) | ((repeat (first | refine p_wI ?_ | refine p_wR ?_)); exact p_w0) | decide) only [reduceIte, Int.reduceLT, Int.reduceLE, Int.reduceEq, Int.reduceToNat, Int.reduceAdd, Int.reduceSub, Int.reduceMul, Int.reduceNeg, e57_0, e57_1, e57_2, e57_5, p_al0, p_push, p_putI, p_vret, WN_nx, WN_nrt, WN_ite]
theorem eO_lt {s : Nat} (h : 0 ≤ eO ts tl s) : zLt (sA ts tl s) := by
  unfold zLt
  by_cases c104 : sA ts tl s = 104
  · exact Or.inl c104
  by_cases c112 : sA ts tl s = 112
  · omega
  by_cases c116 : sA ts tl s = 116
  · omega
  by_cases c115 : sA ts tl s = 115
  · omega
  by_cases c98 : sA ts tl s = 98
  · omega
  by_cases c120 : sA ts tl s = 120
  · omega
  by_cases c107 : sA ts tl s = 107
  · omega
  by_cases c109 : sA ts tl s = 109
  · omega
  exfalso
  unfold eO at h
  rw [if_neg c104, if_neg c112, if_neg c116, if_neg c115, if_neg c98, if_neg (fun z => z.elim c120 (fun z => z.elim c107 c109))] at h
  omega
theorem rF_b {s : Nat} : zi3 (rF ts tl s) := by
  have h1 := dA_in (ts := ts) (tl := tl) (s + 1)
  have h2 := dA_in (ts := ts) (tl := tl) (s + 2)
  unfold zi3 rF
  split
  · split <;> omega
  · omega
theorem q2_b {s : Nat} : zi3 (q2 ts tl s) := by
  have h2 := dA_in (ts := ts) (tl := tl) (s + 2)
  have ht := tIx_in (c := sA ts tl (s + 3))
  unfold zi3 q2
  split <;> omega
theorem q3_b {s : Nat} : zi3 (q3 ts tl s) := by
  have h2 := dA_in (ts := ts) (tl := tl) (s + 4)
  have ht := hIx_in (c := sA ts tl (s + 3))
  unfold zi3 q3
  split <;> omega
theorem zPar_e (hp : zPar ts tl M) {i : Nat} (hi : i < M) : 0 ≤ eO ts tl (sO ts tl i) ∧ eO ts tl (sO ts tl i) ≤ (tl : Int) ∧ sO ts tl i < tl ∧ eO ts tl (sO ts tl i) + 1 = ((sO ts tl (i + 1) : Nat) : Int) := by
  obtain ⟨m, hm, h1, h2⟩ := hp
  have hz := zPre_in i (fun k hk => h1 k (by omega))
  obtain ⟨b1, b2, b3⟩ := eO_in (ts := ts) (tl := tl) (s := sO ts tl i)
  have e : sO ts tl (i + 1) = (eO ts tl (sO ts tl i)).toNat + 1 := rfl
  by_cases c : i = m
  · subst c
    omega
  · have := h1 i (by omega)
    omega
theorem zPar_M (hp : zPar ts tl M) : sO ts tl M = tl + 1 := by
  obtain ⟨m, hm, h1, h2⟩ := hp
  subst hm
  show (eO ts tl (sO ts tl m)).toNat + 1 = tl + 1
  omega
theorem oO_z {c : Int} (h : (oO w c a1 a2 a3).1 = 0) : oO w c a1 a2 a3 = (0, 0, 0) := by
  revert h
  unfold oO oDrop oBack
  split
  · intro h
    rcases oHoe_c (w := w) (r := a1) (c := a2) (h := a3) with z | z | z | z
    · exact z.2
    · omega
    · omega
    · omega
  split
  · intro h
    rcases oPaint_c (w := w) (r := a1) (c := a2) (v := a3) with z | z | z | z
    · exact z.2.1
    · omega
    · omega
    · omega
  split
  · intro h
    rcases oTurn_c (w := w) (t := a1) (v := a2) with z | z | z
    · exact z.2.1
    · omega
    · omega
  split
  · intro h
    rcases oStep_c (w := w) (v := a1) with z | z | z
    · exact z.2.1
    · omega
    · omega
  split
  · split
    · intro _; rfl
    · intro h; exact absurd (show (1 : Int) = 0 from h) (by decide)
  split
  · intro h
    rcases oMany_c (w := w) (v := a1) with z | z | z
    · exact z.2.1
    · omega
    · omega
  split
  · intro h
    rcases oManner_c (w := w) (v := a1) with z | z | z
    · exact z.2.1
    · omega
    · omega
  split
  · intro h; exact absurd (show (1 : Int) = 0 from h) (by decide)
  · intro _; rfl
theorem cFo_0 {c : Int} {o : Int × Int × Int} : o.1 = 0 → cFo c o = 0 := by
  intro h
  unfold cFo cF1
  rw [if_pos h, if_pos h]
  split
  · exact h
  · split <;> rfl
theorem cFo_b {c : Int} (hc : zLt c) (h : (oO w c a1 a2 a3).1 ≠ 0) : cFo c (oO w c a1 a2 a3) = 1 ∨ cFo c (oO w c a1 a2 a3) = 2 ∨ cFo c (oO w c a1 a2 a3) = 3 := by
  rcases hc with e | e | e | e | e | e | e | e
  · subst e
    have b := oHoe_b (w := w) (r := a1) (c := a2) (h := a3)
    have h' : (oHoe w a1 a2 a3).1 ≠ 0 := h
    show (oHoe w a1 a2 a3).1 = 1 ∨ (oHoe w a1 a2 a3).1 = 2 ∨ (oHoe w a1 a2 a3).1 = 3
    omega
  · subst e
    have b := oPaint_b (w := w) (r := a1) (c := a2) (h := a3)
    have h' : (oPaint w a1 a2 a3).1 ≠ 0 := h
    show (oPaint w a1 a2 a3).1 = 1 ∨ (oPaint w a1 a2 a3).1 = 2 ∨ (oPaint w a1 a2 a3).1 = 3
    omega
  · subst e
    have b := oTurn_b (w := w) (r := a1) (c := a2)
    have h' : (oTurn w a1 a2).1 ≠ 0 := h
    show cF1 (oTurn w a1 a2) = 1 ∨ cF1 (oTurn w a1 a2) = 2 ∨ cF1 (oTurn w a1 a2) = 3
    unfold cF1
    rw [if_neg h']
    omega
  · subst e
    have b := oStep_b (w := w) (r := a1)
    have h' : (oStep w a1).1 ≠ 0 := h
    show cF1 (oStep w a1) = 1 ∨ cF1 (oStep w a1) = 2 ∨ cF1 (oStep w a1) = 3
    unfold cF1
    rw [if_neg h']
    omega
  · subst e
    have h' : (oBack w).1 ≠ 0 := h
    show (if (oBack w).1 = 0 then (0 : Int) else 3) = 1 ∨ (if (oBack w).1 = 0 then (0 : Int) else 3) = 2 ∨ (if (oBack w).1 = 0 then (0 : Int) else 3) = 3
    rw [if_neg h']
    omega
  · subst e
    have b := oDrop_b (w := w) (r := a1)
    have h' : (oDrop w a1).1 ≠ 0 := h
    show (oDrop w a1).1 = 1 ∨ (oDrop w a1).1 = 2 ∨ (oDrop w a1).1 = 3
    omega
  · subst e
    have b := oMany_b (w := w) (r := a1)
    have h' : (oMany w a1).1 ≠ 0 := h
    show cF1 (oMany w a1) = 1 ∨ cF1 (oMany w a1) = 2 ∨ cF1 (oMany w a1) = 3
    unfold cF1
    rw [if_neg h']
    omega
  · subst e
    have b := oManner_b (w := w) (r := a1)
    have h' : (oManner w a1).1 ≠ 0 := h
    show cF1 (oManner w a1) = 1 ∨ cF1 (oManner w a1) = 2 ∨ cF1 (oManner w a1) = 3
    unfold cF1
    rw [if_neg h']
    omega
theorem zref_12 {o : Int × Int × Int} : zref σ o 100 12 = if o.2.1 = 0 then σ 100 12 else o.2.1 := by
  unfold zref
  split
  · rfl
  · rw [zup_j (by omega), zup_s]
theorem zref_13 {o : Int × Int × Int} : zref σ o 100 13 = if o.2.1 = 0 then σ 100 13 else o.2.2 := by
  unfold zref
  split
  · rfl
  · rw [zup_s]
theorem zref_k {o : Int × Int × Int} {k : Nat} (h1 : k ≠ 12) (h2 : k ≠ 13) : zref σ o 100 k = σ 100 k := by
  unfold zref
  split
  · rfl
  · rw [zup_j h2, zup_j h1]
theorem l_runC (hs : zTt ts tl) (hx : zTx σ) (hp : zPar ts tl M) (hM : M ≤ 31) (ok : zSok N w) (hN0 : 0 ≤ N) (hN : N ≤ 70000000) (hA : zSr σ 413 w) (hC : zCr σ kp n) (hn : n ≤ 8) (KF : ∀ (E : Nat) (m : Nat), m < M → fF (rP ts tl w) 0 M = m → rP ts tl w m = true → (E = if cFo (sA ts tl (sO ts tl m)) (qO ts tl (rA ts tl w m) (sO ts tl m)) = 3 then 2 else 1) → ∀ σ', zRf σ σ' w (qO ts tl (rA ts tl w m) (sO ts tl m)) (σ 100 9) → Q (.inr E) (3565, x + 1, zrho) σ') (K0 : fF (rP ts tl w) 0 M = M → ∀ σ', zSr σ' 101 (rA ts tl w M) → zCr σ' (aPushK kp n w) (aPushN n) → σ' 3550 1 = 0 → (∀ a, a ≠ 3550 → (a < 101 ∨ (413 ≤ a ∧ a < 1037) ∨ 3535 ≤ a) → σ' a = σ a) → Q (.inl (some (.inl (M : Int)))) (3565, x, zrho) σ') : ∀ (r i : Nat) (σ1 : ZI), i + r = M → fF (rP ts tl w) 0 M = fF (rP ts tl w) i r → zSr σ1 101 (rA ts tl w i) → zSok (N + 600 * i) (rA ts tl w i) → zTc σ1 ts tl → (∀ a, (a < 101 ∨ 413 ≤ a) → a ≠ 3550 → σ1 a = σ a) → Wp 95 53 [some (.inr (.inl (some 100))), some (.inl ((i : Int))), some (.inl ((sO ts tl i : Int))), some (.inl 0)] [] (3565, x, zrho) σ1 Q := by
  have k := zx_k
  have k0 : zkd 1037 = 0 := rfl
  have k50 := zt_k
  have h60 := hs.1
  have r1 := zrho_n
  intro r
  induction r with
  | zero =>
    intro i σ1 hi hf hR hok hT f1
    have e : i = M := by omega
    subst e
    have h1 := hT.1
    have eM := zPar_M hp
    have d1 : (((sO ts tl i : Nat) : Int) < (tl : Int)) = False := eq_false (by omega)
    have hA1 : zSr (zup σ1 3550 1 0) 413 w := hA.frame (fun a _ _ => (zup_f (by omega)).trans (f1 a (by omega) (by omega)))
    have hC1 : zCr (zup σ1 3550 1 0) kp n := hC.frame (fun a _ _ => (zup_f (by omega)).trans (f1 a (by omega) (by omega)))
    simp (disch := first | assumption | exact p_c2i | exact p_c2r | exact p_c2n | omega | ((repeat (first | refine p_a1i.trans ?_ | refine p_a1r.trans ?_)); exact p_a10) | ((repeat (first | refine p_wI ?_ | refine p_wR ?_)); exact p_w0) | decide) only [reduceIte, Int.reduceLT, Int.reduceLE, Int.reduceEq, Int.reduceToNat, Int.reduceAdd, Int.reduceSub, Int.reduceMul, Int.reduceNeg, e95_53, e95_54, e95_57, e95_58, e95_59, e95_62, e95_65, e95_112, e95_113, e95_116, e95_119, e95_120, e95_123, e95_124, e95_127, e95_128, e95_131, e95_134, e95_135, e95_138, e95_139, e95_142, e95_143, e95_146, p_il3, p_ifne, p_il2, p_al0, p_getR, p_getI, p_cge, p_cv0_0, p_cv0_1, p_cv0_2, p_cv0_3, p_cv0_4, zK_v, zK_0, WN_ncl, p_ifeq, p_cv1_0, p_cv1_1, p_cv1_2, p_cv1_3, p_cv1_4, p_cs1_0, p_cs1_1, p_cs1_2, p_cs1_3, p_cs1_4, WN_nx, WN_nrt, WN_ite, zx_r8, h1, d1, t_clear, zx_r4, r1]
    refine t_push (Or.inr (Or.inl rfl)) (by omega) hA1 ok hC1 hn (fun σ2 h2 f2 => ?_)
    rw [zK_0]
    simp (disch := first | assumption | exact p_c2i | exact p_c2r | exact p_c2n | omega | ((repeat (first | refine p_a1i.trans ?_ | refine p_a1r.trans ?_)); exact p_a10) | ((repeat (first | refine p_wI ?_ | refine p_wR ?_)); exact p_w0) | decide) only [reduceIte, Int.reduceLT, Int.reduceLE, Int.reduceEq, Int.reduceToNat, Int.reduceAdd, Int.reduceSub, Int.reduceMul, Int.reduceNeg, e95_149, e95_150, p_il1, p_ret0, WN_nx, WN_nrt, WN_ite]
    refine K0 hf σ2 (hR.frame (fun a _ _ => (f2 a (by omega)).trans (zup_f (by omega)))) h2 (by rw [f2 _ (by omega), zup_s]) (fun a ha hb => (f2 a (by omega)).trans ((zup_f ha).trans (f1 a (by omega) ha)))
  | succ r ih =>
    intro i σ1 hi hf hR hok hT f1
    have h1 := hT.1
    obtain ⟨p1, p2, p3, p4⟩ := zPar_e hp (i := i) (by omega)
    have d1 : (((sO ts tl i : Nat) : Int) < (tl : Int)) = True := eq_true (by omega)
    have d2 : ((i : Int) < 60) = True := eq_true (by omega)
    have e1 : (i : Int) + 1 = ((i + 1 : Nat) : Int) := by omega
    rw [e95_53]
    simp (disch := first | assumption | exact p_c2i | exact p_c2r | exact p_c2n | omega | ((repeat (first | refine p_a1i.trans ?_ | refine p_a1r.trans ?_)); exact p_a10) | ((repeat (first | refine p_wI ?_ | refine p_wR ?_)); exact p_w0) | decide) only [reduceIte, Int.reduceLT, Int.reduceLE, Int.reduceEq, Int.reduceToNat, Int.reduceAdd, Int.reduceSub, Int.reduceMul, Int.reduceNeg, e95_54, e95_57, e95_58, e95_59, e95_62, e95_65, e95_68, e95_69, e95_71, e95_74, e95_75, e95_78, e95_79, p_il3, p_ifne, p_il2, p_al0, p_getR, p_getI, p_cge, p_il1, p_push, p_cv1_0, p_cv1_1, p_cv1_2, p_cv1_3, p_cv1_4, zK_v, zK_0, WN_ncl, WN_nx, WN_nrt, WN_ite, zx_r8, h1, d1, d2]
    refine t_readO hs hT (by omega) (fun σ2 g2 g3 g4 gh gp gt f2 g1 => ?_)
    rw [zK_0]
    have hc := eO_lt p1
    have hR2 : zSr σ2 101 (rA ts tl w i) := hR.frame (fun a _ _ => f2 a (by omega))
    have gf : sA ts tl (sO ts tl i) = 104 ∨ sA ts tl (sO ts tl i) = 112 → σ2 3550 4 = q2 ts tl (sO ts tl i) ∧ σ2 3550 5 = q3 ts tl (sO ts tl i) := by
      intro z
      unfold q2 q3
      rw [if_neg (by omega)]
      rcases z with z | z
      · rw [if_pos z]; exact ⟨g4, gh z⟩
      · rw [if_neg (by omega)]; exact ⟨g4, gp z⟩
    have gu : sA ts tl (sO ts tl i) = 116 → σ2 3550 5 = q2 ts tl (sO ts tl i) := by
      intro z
      unfold q2
      rw [if_pos z]; exact gt z
    have tf := fun (Q : ZO → ZT → ZI → Prop) => t_foC (x := x) (Q := Q) hc hR2 hok g2 (fun _ => g3) gf gu rF_b q2_b q3_b
    have hT2 : zTc σ2 ts tl := ⟨by rw [g1]; exact h1, fun k hk => by rw [f2 _ (by omega)]; exact hT.2 k hk⟩
    have hx2 : ∀ σ', (∀ a, a < 100 → σ' a = σ2 a) → zTx σ' := fun σ' hh b k b1 b2 => by rw [hh b (by omega), f2 b (by omega), f1 b (by omega) (by omega)]; exact hx b k b1 b2
    rw [fF_s] at hf
    by_cases c0 : (qO ts tl (rA ts tl w i) (sO ts tl i)).1 = 0
    · have cz : (oO (rA ts tl w i) (sA ts tl (sO ts tl i)) (rF ts tl (sO ts tl i)) (q2 ts tl (sO ts tl i)) (q3 ts tl (sO ts tl i))).1 = 0 := c0
      rw [cFo_0 cz, oO_z cz, zref_0] at tf
      have hfalse : ¬ rP ts tl w i = true := fun z => of_decide_eq_true z c0
      rw [if_neg hfalse] at hf
      simp (disch := first | assumption | exact p_c2i | exact p_c2r | exact p_c2n | omega | ((repeat (first | refine p_a1i.trans ?_ | refine p_a1r.trans ?_)); exact p_a10) | ((repeat (first | refine p_wI ?_ | refine p_wR ?_)); exact p_w0) | decide) only [reduceIte, Int.reduceLT, Int.reduceLE, Int.reduceEq, Int.reduceToNat, Int.reduceAdd, Int.reduceSub, Int.reduceMul, Int.reduceNeg, e95_82, e95_83, e95_86, e95_87, e95_88, e95_91, e95_92, p_al0, p_cv0_0, p_cv0_1, p_cv0_2, p_cv0_3, p_cv0_4, zK_v, zK_0, WN_ncl, p_is3, p_c2n, p_c2i, p_c2r, p_il3, p_ifne, WN_nx, WN_nrt, WN_ite, tf]
      refine t_coC hc hR2 hok g2 (fun _ => g3) gf gu rF_b q2_b q3_b (by omega) cz (fun σ3 h3 f3 => ?_)
      rw [zK_0]
      have hT3 : zTc σ3 ts tl := ⟨by rw [f3 _ (by omega)]; exact hT2.1, fun k hk => by rw [f3 _ (by omega)]; exact hT2.2 k hk⟩
      have te := fun (Q : ZO → ZT → ZI → Prop) => t_endOf (x := x) (Q := Q) hs hT3 (hx2 σ3 (fun a ha => f3 a (by omega))) (s := sO ts tl i) (by omega)
      simp (disch := first | assumption | exact p_c2i | exact p_c2r | exact p_c2n | omega | ((repeat (first | refine p_a1i.trans ?_ | refine p_a1r.trans ?_)); exact p_a10) | ((repeat (first | refine p_wI ?_ | refine p_wR ?_)); exact p_w0) | decide) only [reduceIte, Int.reduceLT, Int.reduceLE, Int.reduceEq, Int.reduceToNat, Int.reduceAdd, Int.reduceSub, Int.reduceMul, Int.reduceNeg, e95_95, e95_96, e95_99, e95_100, e95_103, e95_104, e95_105, e95_106, e95_109, p_al0, p_getR, p_il2, p_cv1_0, p_cv1_1, p_cv1_2, p_cv1_3, p_cv1_4, zK_v, zK_0, WN_ncl, p_push, p_bin, p_is2, p_c2n, p_c2i, p_c2r, p_ii1, p_goto, WN_nx, WN_nrt, WN_ite, zx_r8, te, p4, e1]
      have hw := zSok_W hc hok (by omega) cz
      refine ih (i + 1) σ3 (by omega) hf h3 (zSok_mono hw (by omega)) hT3 (fun a ha hb => (f3 a ha).trans ((f2 a hb).trans (f1 a ha hb)))
    · have cz : (oO (rA ts tl w i) (sA ts tl (sO ts tl i)) (rF ts tl (sO ts tl i)) (q2 ts tl (sO ts tl i)) (q3 ts tl (sO ts tl i))).1 ≠ 0 := c0
      have htrue : rP ts tl w i = true := decide_eq_true c0
      rw [if_pos htrue] at hf
      have cb := cFo_b hc cz
      have hE := KF (if cFo (sA ts tl (sO ts tl i)) (qO ts tl (rA ts tl w i) (sO ts tl i)) = 3 then 2 else 1) i (by omega) hf htrue rfl
      have hT3 : zTc (zref σ2 (oO (rA ts tl w i) (sA ts tl (sO ts tl i)) (rF ts tl (sO ts tl i)) (q2 ts tl (sO ts tl i)) (q3 ts tl (sO ts tl i)))) ts tl := ⟨by rw [zref_f (by omega)]; exact hT2.1, fun k hk => by rw [zref_f (by omega)]; exact hT2.2 k hk⟩
      have te := fun (Q : ZO → ZT → ZI → Prop) => t_endOf (x := x) (Q := Q) hs hT3 (hx2 _ (fun a ha => zref_f (by omega))) (s := sO ts tl i) (by omega)
      have fin : ∀ σ3 : ZI, (∀ a, a ≠ 100 → a ≠ 3550 → σ3 a = σ2 a) → σ3 3550 1 = 0 → (∀ k, σ3 100 k = zref σ2 (qO ts tl (rA ts tl w i) (sO ts tl i)) 100 k) → ∀ σ4, zSr σ4 101 w → zfS σ3 σ4 101 → zRf σ σ4 w (qO ts tl (rA ts tl w i) (sO ts tl i)) (σ 100 9) := by
        intro σ3 a1 a2 a3 σ4 b1 b2
        have e0 : ∀ k, σ2 100 k = σ 100 k := fun k => by rw [f2 100 (by omega), f1 100 (by omega) (by omega)]
        refine ⟨b1, ?_, ?_, ?_, ?_, fun k k1 k2 k3 => ?_, fun a q1 q2 q3 => ?_⟩
        · rw [b2 100 (by omega), a3, zref_k (by omega) (by omega), e0]
        · rw [b2 3550 (by omega), a2]
        · rw [b2 100 (by omega), a3, zref_12, e0]
        · rw [b2 100 (by omega), a3, zref_13, e0]
        · rw [b2 100 (by omega), a3, zref_k k2 k3, e0]
        · rw [b2 a (by omega), a1 a q1 q2, f2 a q2, f1 a (by omega) q2]
      have hA3 : ∀ σ3 : ZI, (∀ a, a ≠ 100 → a ≠ 3550 → σ3 a = σ2 a) → zSr σ3 413 w := fun σ3 hh => hA.frame (fun a _ _ => (hh a (by omega) (by omega)).trans ((f2 a (by omega)).trans (f1 a (by omega) (by omega))))
      have go : ∀ v : Int, cFo (sA ts tl (sO ts tl i)) (qO ts tl (rA ts tl w i) (sO ts tl i)) = v → (v = 1 ∨ v = 2 ∨ v = 3) → (∀ σ4 : ZI, zRf σ σ4 w (qO ts tl (rA ts tl w i) (sO ts tl i)) (σ 100 9) → Wp 95 134 [some (.inr (.inl (some 100))), some (.inl (((i + 1 : Nat) : Int))), some (.inl (((sO ts tl (i + 1) : Nat) : Int))), some (.inl v)] [] (3565, x, zrho) σ4 Q) → Wp 95 82 [some (.inr (.inl (some 100))), some (.inl ((i : Int))), some (.inl (((sO ts tl i : Nat) : Int))), some (.inl 0)] [] (3565, x, zrho) σ2 Q := by
        intro v ev hv kk
        rw [show cFo (sA ts tl (sO ts tl i)) (oO (rA ts tl w i) (sA ts tl (sO ts tl i)) (rF ts tl (sO ts tl i)) (q2 ts tl (sO ts tl i)) (q3 ts tl (sO ts tl i))) = v from ev] at tf
        have v0 : (v = 0) = False := eq_false (by omega)
        simp (disch := first | assumption | exact p_c2i | exact p_c2r | exact p_c2n | omega | ((repeat (first | refine p_a1i.trans ?_ | refine p_a1r.trans ?_)); exact p_a10) | ((repeat (first | refine p_wI ?_ | refine p_wR ?_)); exact p_w0) | decide) only [reduceIte, Int.reduceLT, Int.reduceLE, Int.reduceEq, Int.reduceToNat, Int.reduceAdd, Int.reduceSub, Int.reduceMul, Int.reduceNeg, e95_53, e95_54, e95_82, e95_83, e95_86, e95_87, e95_88, e95_91, e95_92, e95_95, e95_96, e95_99, e95_100, e95_103, e95_104, e95_105, e95_106, e95_109, e95_112, e95_113, e95_116, e95_119, e95_120, e95_123, e95_124, e95_127, e95_128, e95_131, p_il3, p_ifne, p_al0, p_cv0_0, p_cv0_1, p_cv0_2, p_cv0_3, p_cv0_4, zK_v, zK_0, WN_ncl, p_is3, p_c2n, p_c2i, p_c2r, p_getR, p_il2, p_cv1_0, p_cv1_1, p_cv1_2, p_cv1_3, p_cv1_4, p_push, p_bin, p_is2, p_ii1, p_goto, p_ifeq, WN_nx, WN_nrt, WN_ite, tf, v0, zx_r8, te, p4, e1, t_clear, zx_r0, r1]
        have qq : ∀ a, a ≠ 100 → a ≠ 3550 → zup (zref σ2 (oO (rA ts tl w i) (sA ts tl (sO ts tl i)) (rF ts tl (sO ts tl i)) (q2 ts tl (sO ts tl i)) (q3 ts tl (sO ts tl i)))) 3550 1 0 a = σ2 a := fun a ha hb => (zup_f hb).trans (zref_f ha)
        refine t_storyCopy zx_s (Or.inr (Or.inl rfl)) (by omega) (hA3 _ qq) ok (fun σ4 h4 f4 => ?_)
        rw [zK_0]
        exact kk σ4 (fin _ qq zup_s (fun k => by rw [zup_f (by omega)]; rfl) σ4 h4 f4)
      rcases cb with cb | cb | cb
      · have cb' : cFo (sA ts tl (sO ts tl i)) (qO ts tl (rA ts tl w i) (sO ts tl i)) = 1 := cb
        rw [cb'] at hE
        refine go 1 cb' (Or.inl rfl) (fun σ4 h4 => ?_)
        have hz : zhnd 95 135 1 = none := rfl
        have t1 : WM 113 [.inl 1] (3565, x, zrho) σ4 (zK 95 135 [some (.inr (.inl (some 100))), some (.inl ((i + 1 : Nat) : Int)), some (.inl ((sO ts tl (i + 1) : Nat) : Int)), some (.inl 1)] 138 [] Q) = Q (.inr 1) (3565, x + 1, zrho) σ4 := by
          rw [t_tft1, zK_n hz]
        simp (disch := first | assumption | exact p_c2i | exact p_c2r | exact p_c2n | omega | ((repeat (first | refine p_a1i.trans ?_ | refine p_a1r.trans ?_)); exact p_a10) | ((repeat (first | refine p_wI ?_ | refine p_wR ?_)); exact p_w0) | decide) only [reduceIte, Int.reduceLT, Int.reduceLE, Int.reduceEq, Int.reduceToNat, Int.reduceAdd, Int.reduceSub, Int.reduceMul, Int.reduceNeg, e95_134, e95_135, p_il3, p_cs1_0, p_cs1_1, p_cs1_2, p_cs1_3, p_cs1_4, zK_v, zK_0, WN_ncl, WN_nx, WN_nrt, WN_ite, t1]
        exact hE σ4 h4
      · have cb' : cFo (sA ts tl (sO ts tl i)) (qO ts tl (rA ts tl w i) (sO ts tl i)) = 2 := cb
        rw [cb'] at hE
        refine go 2 cb' (Or.inr (Or.inl rfl)) (fun σ4 h4 => ?_)
        have hz : zhnd 95 135 1 = none := rfl
        simp (disch := first | assumption | exact p_c2i | exact p_c2r | exact p_c2n | omega | ((repeat (first | refine p_a1i.trans ?_ | refine p_a1r.trans ?_)); exact p_a10) | ((repeat (first | refine p_wI ?_ | refine p_wR ?_)); exact p_w0) | decide) only [reduceIte, Int.reduceLT, Int.reduceLE, Int.reduceEq, Int.reduceToNat, Int.reduceAdd, Int.reduceSub, Int.reduceMul, Int.reduceNeg, e95_134, e95_135, p_il3, p_cs1_0, p_cs1_1, p_cs1_2, p_cs1_3, p_cs1_4, zK_v, zK_0, WN_ncl, WN_nx, WN_nrt, WN_ite, t_tft2, zK_n hz]
        exact hE σ4 h4
      · have cb' : cFo (sA ts tl (sO ts tl i)) (qO ts tl (rA ts tl w i) (sO ts tl i)) = 3 := cb
        rw [cb'] at hE
        refine go 3 cb' (Or.inr (Or.inr rfl)) (fun σ4 h4 => ?_)
        have hz : zhnd 95 135 2 = none := rfl
        simp (disch := first | assumption | exact p_c2i | exact p_c2r | exact p_c2n | omega | ((repeat (first | refine p_a1i.trans ?_ | refine p_a1r.trans ?_)); exact p_a10) | ((repeat (first | refine p_wI ?_ | refine p_wR ?_)); exact p_w0) | decide) only [reduceIte, Int.reduceLT, Int.reduceLE, Int.reduceEq, Int.reduceToNat, Int.reduceAdd, Int.reduceSub, Int.reduceMul, Int.reduceNeg, e95_134, e95_135, p_il3, p_cs1_0, p_cs1_1, p_cs1_2, p_cs1_3, p_cs1_4, zK_v, zK_0, WN_ncl, WN_nx, WN_nrt, WN_ite, t_tft3, zK_n hz]
        exact hE σ4 h4
theorem t_runC (hs : zTt ts tl) (hT : zTc σ ts tl) (hx : zTx σ) (hR : zSr σ 101 w) (ok : zSok N w) (hN0 : 0 ≤ N) (hN : N ≤ 70000000) (hC : zCr σ kp n) (hn : n ≤ 8) (KE : 0 ≤ fO ts tl 61 0 → Q (.inr 1) (3565, x + 1, zrho) (zup (zup σ 100 9 (fO ts tl 61 0)) 3550 1 0)) (KF : fO ts tl 61 0 = -1 → ∀ M, zPar ts tl M → M ≤ 31 → ∀ (E : Nat) (m : Nat), m < M → fF (rP ts tl w) 0 M = m → rP ts tl w m = true → (E = if cFo (sA ts tl (sO ts tl m)) (qO ts tl (rA ts tl w m) (sO ts tl m)) = 3 then 2 else 1) → ∀ σ', zRf σ σ' w (qO ts tl (rA ts tl w m) (sO ts tl m)) (-1) → Q (.inr E) (3565, x + 1, zrho) σ') (K0 : fO ts tl 61 0 = -1 → ∀ M, zPar ts tl M → M ≤ 31 → fF (rP ts tl w) 0 M = M → ∀ σ', zSr σ' 101 (rA ts tl w M) → zCr σ' (aPushK kp n w) (aPushN n) → σ' 3550 1 = 0 → σ' 100 9 = -1 → (∀ k, k ≠ 9 → σ' 100 k = σ 100 k) → (∀ a, a ≠ 100 → a ≠ 3550 → (a < 101 ∨ (725 ≤ a ∧ a < 1037) ∨ 3535 ≤ a) → σ' a = σ a) → Q (.inl (some (.inl (M : Int)))) (3565, x, zrho) σ') (hP : fO ts tl 61 0 = -1 → ∃ M, zPar ts tl M ∧ M ≤ 31) (hF : fO ts tl 61 0 = -1 ∨ (0 ≤ fO ts tl 61 0 ∧ fO ts tl 61 0 ≤ 100)) : WM 95 [.inr (.inl (some 100))] (3565, x, zrho) σ Q := by
  show Wp 95 0 [some (.inr (.inl (some 100))), none, none, none] [] _ _ Q
  have k := zx_k
  have k50 := zt_k
  have r1 := zrho_n
  have tf := fun (Q : ZO → ZT → ZI → Prop) => t_fault (x := x) (Q := Q) hs hT hx
  rcases hF with c | ⟨c, c2⟩
  · obtain ⟨M, hp, hM⟩ := hP c
    rw [c] at tf
    simp (disch := first | assumption | exact p_c2i | exact p_c2r | exact p_c2n | omega | ((repeat (first | refine p_a1i.trans ?_ | refine p_a1r.trans ?_)); exact p_a10) | ((repeat (first | refine p_wI ?_ | refine p_wR ?_)); exact p_w0) | decide) only [reduceIte, Int.reduceLT, Int.reduceLE, Int.reduceEq, Int.reduceToNat, Int.reduceAdd, Int.reduceSub, Int.reduceMul, Int.reduceNeg, e95_0, e95_1, e95_2, e95_5, e95_8, e95_11, e95_12, e95_15, e95_18, e95_19, e95_22, e95_25, e95_36, e95_37, e95_40, e95_41, e95_44, p_al0, p_getR, p_cv0_0, p_cv0_1, p_cv0_2, p_cv0_3, p_cv0_4, zK_v, zK_0, WN_ncl, p_putI, p_getI, p_iflt, o_throw, p_cv1_0, p_cv1_1, p_cv1_2, p_cv1_3, p_cv1_4, WN_nx, WN_nrt, WN_ite, zx_r8, tf, zx_r0, r1, zup_s]
    have fz : ∀ a, a ≠ 100 → zup σ 100 9 (-1) a = σ a := fun a ha => zup_f ha
    refine t_storyCopy (Or.inr (Or.inl rfl)) zx_s (by omega) (hR.frame (fun a _ _ => fz a (by omega))) ok (fun σ1 h1 f1 => ?_)
    rw [zK_0]
    simp (disch := first | assumption | exact p_c2i | exact p_c2r | exact p_c2n | omega | ((repeat (first | refine p_a1i.trans ?_ | refine p_a1r.trans ?_)); exact p_a10) | ((repeat (first | refine p_wI ?_ | refine p_wR ?_)); exact p_w0) | decide) only [reduceIte, Int.reduceLT, Int.reduceLE, Int.reduceEq, Int.reduceToNat, Int.reduceAdd, Int.reduceSub, Int.reduceMul, Int.reduceNeg, e95_47, e95_48, e95_49, e95_50, e95_51, e95_52, p_push, p_is1, p_c2n, p_c2i, p_c2r, p_is2, p_is3, WN_nx, WN_nrt, WN_ite]
    have e9 : σ1 100 9 = -1 := by rw [f1 100 (by omega)]; exact zup_s
    have hR1 : zSr σ1 101 w := hR.frame (fun a _ _ => (f1 a (by omega)).trans (fz a (by omega)))
    have l := l_runC (Q := Q) (x := x) (σ := σ1) (ts := ts) (tl := tl) (M := M) (w := w) (N := N) (kp := kp) (n := n) hs (fun b k b1 b2 => by rw [f1 b (by omega), fz b (by omega)]; exact hx b k b1 b2) hp hM ok hN0 hN h1 (hC.frame (fun a _ _ => (f1 a (by omega)).trans (fz a (by omega)))) hn (fun E m m1 m2 m3 m4 σ' hr => ?_) (fun q0 σ' z1 z2 z3 z4 => ?_) M 0 σ1 (by omega) rfl hR1 (zSok_mono ok (by omega)) ⟨by rw [f1 _ (by omega), fz _ (by omega)]; exact hT.1, fun k hk => by rw [f1 _ (by omega), fz _ (by omega)]; exact hT.2 k hk⟩ (fun a _ _ => rfl)
    · exact l
    · obtain ⟨y1, y2, y3, y4, y5, y6, y7⟩ := hr
      refine KF c M hp hM E m m1 m2 m3 m4 σ' ⟨y1, by rw [y2]; exact e9, y3, ?_, ?_, fun k k1 k2 k3 => ?_, fun a a1 a2 a3 => ?_⟩
      · rw [y4, f1 100 (by omega), zup_j (by omega)]
      · rw [y5, f1 100 (by omega), zup_j (by omega)]
      · rw [y6 k k1 k2 k3, f1 100 (by omega), zup_j k1]
      · rw [y7 a a1 a2 a3, f1 a (by omega), fz a a1]
    · refine K0 c M hp hM q0 σ' z1 z2 z3 ?_ (fun k hk => ?_) (fun a a1 a2 a3 => ?_)
      · rw [z4 100 (by omega) (by omega)]; exact e9
      · rw [z4 100 (by omega) (by omega), f1 100 (by omega), zup_j hk]
      · rw [z4 a a2 (by omega), f1 a (by omega), fz a a1]
  · have d : (fO ts tl 61 0 < 0) = False := eq_false (by omega)
    simp (disch := first | assumption | exact p_c2i | exact p_c2r | exact p_c2n | omega | ((repeat (first | refine p_a1i.trans ?_ | refine p_a1r.trans ?_)); exact p_a10) | ((repeat (first | refine p_wI ?_ | refine p_wR ?_)); exact p_w0) | decide) only [reduceIte, Int.reduceLT, Int.reduceLE, Int.reduceEq, Int.reduceToNat, Int.reduceAdd, Int.reduceSub, Int.reduceMul, Int.reduceNeg, e95_0, e95_1, e95_2, e95_5, e95_8, e95_11, e95_12, e95_15, e95_18, e95_19, e95_22, e95_25, p_al0, p_getR, p_cv0_0, p_cv0_1, p_cv0_2, p_cv0_3, p_cv0_4, zK_v, zK_0, WN_ncl, p_putI, p_getI, p_iflt, o_throw, WN_nx, WN_nrt, WN_ite, zx_r8, tf, zup_s, d, t_clear, p_throw]
    exact KE c
end
