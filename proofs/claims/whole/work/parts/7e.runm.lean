/-! THE MODEL: run -/
def lA (c : Int) : Int := if c = 104 ∨ c = 112 then 3 else if c = 98 then 1 else if c = 120 then -1 else 2
section
variable {τ : ZI} {θ : ZT} {σ : ZI} {Q : ZO → ZT → ZI → Prop} {x n p M : Nat} {w : zW} {N a1 a2 a3 : Int} {ts : Nat → Int} {tl : Nat} {kp : Nat → zW}
theorem t_lastOf {c : Int} (hc : zLt c) : WM 208 [.inl c] θ σ Q = Q (.inl (some (.inl (lA c)))) θ σ := by
  show Wp 208 0 [some (.inl c)] [] _ _ Q = _
  rcases hc with e | e | e | e | e | e | e | e
  · subst e
    simp (disch := first | assumption | exact p_c2i | exact p_c2r | exact p_c2n | omega | ((repeat (first | refine p_a1i.trans ?_ | refine p_a1r.trans ?_)); exact p_a10) | ((repeat (first | refine p_wI ?_ | refine p_wR ?_)); exact p_w0) | decide) only [reduceIte, Int.reduceLT, Int.reduceLE, Int.reduceEq, Int.reduceToNat, Int.reduceAdd, Int.reduceSub, Int.reduceMul, Int.reduceNeg, e208_0, e208_1, e208_3, e208_6, e208_7, e208_9, e208_12, e208_13, e208_16, e208_17, e208_19, e208_22, e208_23, e208_26, e208_27, e208_29, e208_32, e208_33, e208_36, e208_37, p_il0, p_push, p_ceq, p_cne, p_goto, p_ret0, WN_nx, WN_nrt, WN_ite]
    rfl
  · subst e
    simp (disch := first | assumption | exact p_c2i | exact p_c2r | exact p_c2n | omega | ((repeat (first | refine p_a1i.trans ?_ | refine p_a1r.trans ?_)); exact p_a10) | ((repeat (first | refine p_wI ?_ | refine p_wR ?_)); exact p_w0) | decide) only [reduceIte, Int.reduceLT, Int.reduceLE, Int.reduceEq, Int.reduceToNat, Int.reduceAdd, Int.reduceSub, Int.reduceMul, Int.reduceNeg, e208_0, e208_1, e208_3, e208_6, e208_7, e208_9, e208_12, e208_13, e208_16, e208_17, e208_19, e208_22, e208_23, e208_26, e208_27, e208_29, e208_32, e208_33, e208_36, e208_37, p_il0, p_push, p_ceq, p_cne, p_goto, p_ret0, WN_nx, WN_nrt, WN_ite]
    rfl
  · subst e
    simp (disch := first | assumption | exact p_c2i | exact p_c2r | exact p_c2n | omega | ((repeat (first | refine p_a1i.trans ?_ | refine p_a1r.trans ?_)); exact p_a10) | ((repeat (first | refine p_wI ?_ | refine p_wR ?_)); exact p_w0) | decide) only [reduceIte, Int.reduceLT, Int.reduceLE, Int.reduceEq, Int.reduceToNat, Int.reduceAdd, Int.reduceSub, Int.reduceMul, Int.reduceNeg, e208_0, e208_1, e208_3, e208_6, e208_7, e208_9, e208_12, e208_13, e208_16, e208_17, e208_19, e208_22, e208_23, e208_26, e208_27, e208_29, e208_32, e208_33, e208_36, e208_37, p_il0, p_push, p_ceq, p_cne, p_goto, p_ret0, WN_nx, WN_nrt, WN_ite]
    rfl
  · subst e
    simp (disch := first | assumption | exact p_c2i | exact p_c2r | exact p_c2n | omega | ((repeat (first | refine p_a1i.trans ?_ | refine p_a1r.trans ?_)); exact p_a10) | ((repeat (first | refine p_wI ?_ | refine p_wR ?_)); exact p_w0) | decide) only [reduceIte, Int.reduceLT, Int.reduceLE, Int.reduceEq, Int.reduceToNat, Int.reduceAdd, Int.reduceSub, Int.reduceMul, Int.reduceNeg, e208_0, e208_1, e208_3, e208_6, e208_7, e208_9, e208_12, e208_13, e208_16, e208_17, e208_19, e208_22, e208_23, e208_26, e208_27, e208_29, e208_32, e208_33, e208_36, e208_37, p_il0, p_push, p_ceq, p_cne, p_goto, p_ret0, WN_nx, WN_nrt, WN_ite]
    rfl
  · subst e
    simp (disch := first | assumption | exact p_c2i | exact p_c2r | exact p_c2n | omega | ((repeat (first | refine p_a1i.trans ?_ | refine p_a1r.trans ?_)); exact p_a10) | ((repeat (first | refine p_wI ?_ | refine p_wR ?_)); exact p_w0) | decide) only [reduceIte, Int.reduceLT, Int.reduceLE, Int.reduceEq, Int.reduceToNat, Int.reduceAdd, Int.reduceSub, Int.reduceMul, Int.reduceNeg, e208_0, e208_1, e208_3, e208_6, e208_7, e208_9, e208_12, e208_13, e208_16, e208_17, e208_19, e208_22, e208_23, e208_26, e208_27, e208_29, e208_32, e208_33, e208_36, e208_37, p_il0, p_push, p_ceq, p_cne, p_goto, p_ret0, WN_nx, WN_nrt, WN_ite]
    rfl
  · subst e
    simp (disch := first | assumption | exact p_c2i | exact p_c2r | exact p_c2n | omega | ((repeat (first | refine p_a1i.trans ?_ | refine p_a1r.trans ?_)); exact p_a10) | ((repeat (first | refine p_wI ?_ | refine p_wR ?_)); exact p_w0) | decide) only [reduceIte, Int.reduceLT, Int.reduceLE, Int.reduceEq, Int.reduceToNat, Int.reduceAdd, Int.reduceSub, Int.reduceMul, Int.reduceNeg, e208_0, e208_1, e208_3, e208_6, e208_7, e208_9, e208_12, e208_13, e208_16, e208_17, e208_19, e208_22, e208_23, e208_26, e208_27, e208_29, e208_32, e208_33, e208_36, e208_37, p_il0, p_push, p_ceq, p_cne, p_goto, p_ret0, WN_nx, WN_nrt, WN_ite]
    rfl
  · subst e
    simp (disch := first | assumption | exact p_c2i | exact p_c2r | exact p_c2n | omega | ((repeat (first | refine p_a1i.trans ?_ | refine p_a1r.trans ?_)); exact p_a10) | ((repeat (first | refine p_wI ?_ | refine p_wR ?_)); exact p_w0) | decide) only [reduceIte, Int.reduceLT, Int.reduceLE, Int.reduceEq, Int.reduceToNat, Int.reduceAdd, Int.reduceSub, Int.reduceMul, Int.reduceNeg, e208_0, e208_1, e208_3, e208_6, e208_7, e208_9, e208_12, e208_13, e208_16, e208_17, e208_19, e208_22, e208_23, e208_26, e208_27, e208_29, e208_32, e208_33, e208_36, e208_37, p_il0, p_push, p_ceq, p_cne, p_goto, p_ret0, WN_nx, WN_nrt, WN_ite]
    rfl
  · subst e
    simp (disch := first | assumption | exact p_c2i | exact p_c2r | exact p_c2n | omega | ((repeat (first | refine p_a1i.trans ?_ | refine p_a1r.trans ?_)); exact p_a10) | ((repeat (first | refine p_wI ?_ | refine p_wR ?_)); exact p_w0) | decide) only [reduceIte, Int.reduceLT, Int.reduceLE, Int.reduceEq, Int.reduceToNat, Int.reduceAdd, Int.reduceSub, Int.reduceMul, Int.reduceNeg, e208_0, e208_1, e208_3, e208_6, e208_7, e208_9, e208_12, e208_13, e208_16, e208_17, e208_19, e208_22, e208_23, e208_26, e208_27, e208_29, e208_32, e208_33, e208_36, e208_37, p_il0, p_push, p_ceq, p_cne, p_goto, p_ret0, WN_nx, WN_nrt, WN_ite]
    rfl
/-- both sides' numbers of a text that can't be carried out -/
theorem lA_e {c : Int} (hc : zLt c) (h : (oO w c a1 a2 a3).1 ≠ 0) : (0 < (oO w c a1 a2 a3).1 ∧ (oO w c a1 a2 a3).1 < 8) ∧ (cFo c (oO w c a1 a2 a3) = 3 ↔ (oO w c a1 a2 a3).1 = lA c) := by
  rcases hc with e | e | e | e | e | e | e | e
  · subst e
    have b := oHoe_b (w := w) (r := a1) (c := a2) (h := a3)
    have h' : (oHoe w a1 a2 a3).1 ≠ 0 := h
    show (0 < (oHoe w a1 a2 a3).1 ∧ (oHoe w a1 a2 a3).1 < 8) ∧ ((oHoe w a1 a2 a3).1 = 3 ↔ (oHoe w a1 a2 a3).1 = 3)
    exact ⟨by omega, Iff.rfl⟩
  · subst e
    have b := oPaint_b (w := w) (r := a1) (c := a2) (h := a3)
    have h' : (oPaint w a1 a2 a3).1 ≠ 0 := h
    show (0 < (oPaint w a1 a2 a3).1 ∧ (oPaint w a1 a2 a3).1 < 8) ∧ ((oPaint w a1 a2 a3).1 = 3 ↔ (oPaint w a1 a2 a3).1 = 3)
    exact ⟨by omega, Iff.rfl⟩
  · subst e
    have b := oTurn_b (w := w) (r := a1) (c := a2)
    have h' : (oTurn w a1 a2).1 ≠ 0 := h
    show (0 < (oTurn w a1 a2).1 ∧ (oTurn w a1 a2).1 < 8) ∧ (cF1 (oTurn w a1 a2) = 3 ↔ (oTurn w a1 a2).1 = 2)
    unfold cF1
    rw [if_neg h']
    omega
  · subst e
    have b := oStep_b (w := w) (r := a1)
    have h' : (oStep w a1).1 ≠ 0 := h
    show (0 < (oStep w a1).1 ∧ (oStep w a1).1 < 8) ∧ (cF1 (oStep w a1) = 3 ↔ (oStep w a1).1 = 2)
    unfold cF1
    rw [if_neg h']
    omega
  · subst e
    have b := oBack_b (w := w)
    have h' : (oBack w).1 ≠ 0 := h
    show (0 < (oBack w).1 ∧ (oBack w).1 < 8) ∧ ((if (oBack w).1 = 0 then (0 : Int) else 3) = 3 ↔ (oBack w).1 = 1)
    rw [if_neg h']
    omega
  · subst e
    have b := oDrop_b (w := w) (r := a1)
    have h' : (oDrop w a1).1 ≠ 0 := h
    show (0 < (oDrop w a1).1 ∧ (oDrop w a1).1 < 8) ∧ ((oDrop w a1).1 = 3 ↔ (oDrop w a1).1 = -1)
    omega
  · subst e
    have b := oMany_b (w := w) (r := a1)
    have h' : (oMany w a1).1 ≠ 0 := h
    show (0 < (oMany w a1).1 ∧ (oMany w a1).1 < 8) ∧ (cF1 (oMany w a1) = 3 ↔ (oMany w a1).1 = 2)
    unfold cF1
    rw [if_neg h']
    omega
  · subst e
    have b := oManner_b (w := w) (r := a1)
    have h' : (oManner w a1).1 ≠ 0 := h
    show (0 < (oManner w a1).1 ∧ (oManner w a1).1 < 8) ∧ (cF1 (oManner w a1) = 3 ↔ (oManner w a1).1 = 2)
    unfold cF1
    rw [if_neg h']
    omega
theorem zKr_cg {kp' : Nat → zW} (h : zKr τ kp n) (e : ∀ k, k < n → zeq 6202 (kp k) (kp' k)) : zKr τ kp' n := ⟨h.1, fun k hk j hj => (h.2 k hk j hj).trans (e k hk j hj)⟩
theorem zKr_fr {τ' : ZI} (h : zKr τ kp n) (h6 : τ' 3553 6 = τ 3553 6) (h5 : τ' 3555 = τ 3555) : zKr τ' kp n := ⟨by rw [h6]; exact h.1, fun k hk j hj => by rw [h5]; exact h.2 k hk j hj⟩
theorem aPush_cg {u v : zW} (e : zeq 6202 u v) (k : Nat) : zeq 6202 (aPushK kp n u k) (aPushK kp n v k) := by
  intro j hj
  unfold aPushK
  split
  · split
    · rfl
    · exact e j hj
  · split
    · exact e j hj
    · rfl
def zRn (τ τ' : ZI) : Prop := (∀ k, k ≠ 8 → τ' 3553 k = τ 3553 k) ∧ ∀ a, a ≠ 3553 → a ≠ 3554 → τ' a = τ a
/-- a text that can't be carried out, at the model -/
def zRe (τ τ' : ZI) (o : Int × Int × Int) (E e : Int) : Prop := τ' 3553 8 = E ∧ (τ' 3553 9 = if o.2.1 = 0 then τ 3553 9 else o.2.1) ∧ (τ' 3553 10 = if o.2.1 = 0 then τ 3553 10 else o.2.2) ∧ τ' 3553 7 = 0 ∧ τ' 3553 12 = 0 ∧ τ' 3553 13 = e ∧ (∀ k, k ≠ 7 → k ≠ 8 → k ≠ 9 → k ≠ 10 → k ≠ 12 → k ≠ 13 → k ≠ 18 → k ≠ 20 → τ' 3553 k = τ 3553 k) ∧ ∀ a, a ≠ 3553 → a ≠ 3554 → a ≠ 3557 → a ≠ 3563 → τ' a = τ a
def zRg (τ τ' : ZI) (kp : Nat → zW) (n : Nat) (w : zW) : Prop := τ' 3553 8 = 0 ∧ τ' 3553 7 = 0 ∧ τ' 3553 12 = 0 ∧ τ' 3553 13 = -1 ∧ zKr τ' (aPushK kp n w) (aPushN n) ∧ (∀ k, k ≠ 6 → k ≠ 7 → k ≠ 8 → k ≠ 12 → k ≠ 13 → k ≠ 18 → k ≠ 20 → τ' 3553 k = τ 3553 k) ∧ ∀ a, a ≠ 3553 → a ≠ 3554 → a ≠ 3555 → a ≠ 3557 → a ≠ 3563 → τ' a = τ a
theorem l_runF {i : Nat} {c v : Int} {u : zW} (hi : i < 31) (hc : zLt c) (hv : 0 < v ∧ v < 8) (h8 : τ 3553 8 = v) (ht : τ 3563 (4 * i) = c) (hb : ∀ j, j < 6202 → τ 3557 j = w j) (K : ∀ τ' w', zeq 6202 w' w → τ' 3553 8 = (if v = lA c then 2 else 1) → τ' 3553 7 = 0 → (∀ k, k ≠ 7 → k ≠ 8 → τ' 3553 k = τ 3553 k) → (∀ a, a ≠ 3553 → τ' a = τ a) → Q (.inl (some (.inl 0))) (3565, x, zrho) (zg τ' w')) : Wp 209 98 [some (.inr (.inl (some 3553))), some (.inl 1), some (.inl (((i + 1 : Nat) : Int))), some (.inl 0)] [] (3565, x, zrho) (zg τ u) Q := by
  have k := zm_k
  have k3 : zrho 3553 3 = some 3557 := rfl
  have k4 := zt_m4
  have n4 := zt_m5
  obtain ⟨v0, v1⟩ := hv
  have z8 : ∀ q, zup τ 3553 7 q 3553 8 = v := fun q => (zup_j (by omega)).trans h8
  have d2 : (0 < v) = True := eq_true v0
  simp (disch := first | assumption | exact p_c2i | exact p_c2r | exact p_c2n | omega | ((repeat (first | refine p_a1i.trans ?_ | refine p_a1r.trans ?_)); exact p_a10) | ((repeat (first | refine p_wI ?_ | refine p_wR ?_)); exact p_w0) | decide) only [reduceIte, Int.reduceLT, Int.reduceLE, Int.reduceEq, Int.reduceToNat, Int.reduceAdd, Int.reduceSub, Int.reduceMul, Int.reduceNeg, e209_98, e209_99, e209_100, e209_103, e209_104, e209_107, e209_110, e209_111, e209_114, e209_115, e209_116, e209_119, e209_120, e209_123, p_al0, p_push, p_putZ, p_getI, p_ifle, p_getR, p_cs5_0, p_cs5_1, p_cs5_2, p_cs5_3, p_cs5_4, zK_v, zK_0, WN_ncl, WN_nx, WN_nrt, WN_ite, zg_c3, zg_o3, z8, d2, k3, zm_r0]
  rw [t_copies (a := 3557) (b := 3554) (p := 0) (q := 0) (m := 6202) zm_7 zm_4 (by omega) (by omega) (by omega) (by rw [zm_n7]; omega) (by rw [zm_n4]; omega) (by omega) (by omega) (Or.inl (by omega)), zK_0, show (0 : Int).toNat = 0 from rfl, show (6202 : Int).toNat = 6202 from rfl, zcp_to (by omega)]
  have g : ∀ (y : zW), zeq 6202 y w → Wp 209 126 [some (.inr (.inl (some 3553))), some (.inl 1), some (.inl (((i + 1 : Nat) : Int))), some (.inl 0)] [] (3565, x, zrho) (zg (zup τ 3553 7 0) y) Q := by
    intro y hy
    have e4 : (4 * ((i + 1 : Nat) : Int) - 4).toNat = 4 * i := by omega
    have g3 : zg (zup τ 3553 7 0) y 3563 (4 * i) = c := by rw [zg_o (by omega), zup_f (by omega)]; exact ht
    have tl := fun (Q : ZO → ZT → ZI → Prop) (θ : ZT) (σ : ZI) => t_lastOf (θ := θ) (σ := σ) (Q := Q) hc
    have lb : -1 ≤ lA c ∧ lA c ≤ 3 := by unfold lA; split; omega; split; omega; split <;> omega
    have d0 : ((0 : Int) < 0) = False := eq_false (by omega)
    have kk : ∀ q : Int, q = (if v = lA c then 2 else 1) → Q (.inl (some (.inl 0))) (3565, x, zrho) (zg (zup (zup τ 3553 7 0) 3553 8 q) y) := fun q hq => K _ y hy (by rw [zup_s]; exact hq) (by rw [zup_j (by omega), zup_s]) (fun k k1 k2 => by rw [zup_j k2, zup_j k1]) (fun a ha => by rw [zup_f ha, zup_f ha])
    by_cases q : v = lA c
    · have d5 : (v = lA c) = True := eq_true q
      have e := kk 2 (if_pos q).symm
      simp (disch := first | assumption | exact p_c2i | exact p_c2r | exact p_c2n | omega | ((repeat (first | refine p_a1i.trans ?_ | refine p_a1r.trans ?_)); exact p_a10) | ((repeat (first | refine p_wI ?_ | refine p_wR ?_)); exact p_w0) | decide) only [reduceIte, Int.reduceLT, Int.reduceLE, Int.reduceEq, Int.reduceToNat, Int.reduceAdd, Int.reduceSub, Int.reduceMul, Int.reduceNeg, e209_126, e209_127, e209_128, e209_131, e209_132, e209_135, e209_136, e209_137, e209_138, e209_139, e209_140, e209_141, e209_144, e209_147, e209_148, e209_151, e209_152, e209_155, e209_156, e209_159, e209_160, e209_163, e209_164, p_al0, p_getI, p_getR, p_push, p_il2, p_bin, p_iald, p_cs1_0, p_cs1_1, p_cs1_2, p_cs1_3, p_cs1_4, zK_v, zK_0, WN_ncl, p_cne, p_goto, p_putI, p_il3, p_ifle, p_ret0, WN_nx, WN_nrt, WN_ite, zg_o3, z8, zt_m6, e4, g3, tl, d5, zg_c3, d0]
      exact e
    · have d5 : (v = lA c) = False := eq_false q
      have e := kk 1 (if_neg q).symm
      simp (disch := first | assumption | exact p_c2i | exact p_c2r | exact p_c2n | omega | ((repeat (first | refine p_a1i.trans ?_ | refine p_a1r.trans ?_)); exact p_a10) | ((repeat (first | refine p_wI ?_ | refine p_wR ?_)); exact p_w0) | decide) only [reduceIte, Int.reduceLT, Int.reduceLE, Int.reduceEq, Int.reduceToNat, Int.reduceAdd, Int.reduceSub, Int.reduceMul, Int.reduceNeg, e209_126, e209_127, e209_128, e209_131, e209_132, e209_135, e209_136, e209_137, e209_138, e209_139, e209_140, e209_141, e209_144, e209_147, e209_148, e209_151, e209_152, e209_155, e209_156, e209_159, e209_160, e209_163, e209_164, p_al0, p_getI, p_getR, p_push, p_il2, p_bin, p_iald, p_cs1_0, p_cs1_1, p_cs1_2, p_cs1_3, p_cs1_4, zK_v, zK_0, WN_ncl, p_cne, p_goto, p_putI, p_il3, p_ifle, p_ret0, WN_nx, WN_nrt, WN_ite, zg_o3, z8, zt_m6, e4, g3, tl, d5, zg_c3, d0]
      exact e
  refine g _ (fun j hj => ?_)
  show (if 0 ≤ j ∧ j < 0 + 6202 then _ else _) = _
  rw [if_pos (by omega), zup_f (by omega), show 0 + (j - 0) = j by omega]
  exact hb j hj
theorem l_runM (hp : zPar ts tl M) (hM : M ≤ 31) (ok : zSok N w) (hN0 : 0 ≤ N) (hN : N ≤ 70000000) (hK : zKr τ kp n) (hn : n ≤ 8) (h7 : τ 3553 7 = 1) (h20 : τ 3553 20 = (M : Int)) (hd : ∀ i, i < M → zDc ts tl (sO ts tl i) (τ 3563) (4 * i)) (hb : ∀ j, j < 6202 → τ 3557 j = w j) (KF : ∀ (E : Int) (m : Nat), m < M → fF (rP ts tl w) 0 M = m → rP ts tl w m = true → (E = if cFo (sA ts tl (sO ts tl m)) (qO ts tl (rA ts tl w m) (sO ts tl m)) = 3 then 2 else 1) → ∀ τ' w', zeq 6202 w' w → τ' 3553 8 = E → (τ' 3553 9 = if (qO ts tl (rA ts tl w m) (sO ts tl m)).2.1 = 0 then τ 3553 9 else (qO ts tl (rA ts tl w m) (sO ts tl m)).2.1) → (τ' 3553 10 = if (qO ts tl (rA ts tl w m) (sO ts tl m)).2.1 = 0 then τ 3553 10 else (qO ts tl (rA ts tl w m) (sO ts tl m)).2.2) → τ' 3553 7 = 0 → (∀ k, k ≠ 7 → k ≠ 8 → k ≠ 9 → k ≠ 10 → τ' 3553 k = τ 3553 k) → (∀ a, a ≠ 3553 → a ≠ 3554 → τ' a = τ a) → Q (.inl (some (.inl 0))) (3565, x, zrho) (zg τ' w')) (K0 : fF (rP ts tl w) 0 M = M → ∀ τ', τ' 3553 8 = 0 → τ' 3553 7 = 0 → zKr τ' (aPushK kp n w) (aPushN n) → (∀ k, k ≠ 6 → k ≠ 7 → k ≠ 8 → τ' 3553 k = τ 3553 k) → (∀ a, a ≠ 3553 → a ≠ 3554 → a ≠ 3555 → τ' a = τ a) → Q (.inl (some (.inl (M : Int)))) (3565, x, zrho) (zg τ' (rA ts tl w M))) : ∀ (r i : Nat) (τ1 : ZI) (g : Int), i + r = M → fF (rP ts tl w) 0 M = fF (rP ts tl w) i r → zSok (N + 600 * i) (rA ts tl w i) → zRn τ τ1 → τ1 3553 8 = 0 → Wp 209 69 [some (.inr (.inl (some 3553))), some (.inl 1), some (.inl ((i : Int))), some (.inl g)] [] (3565, x, zrho) (zg τ1 (rA ts tl w i)) Q := by
  have k := zm_k
  have k3 : zrho 3553 3 = some 3557 := rfl
  intro r
  induction r with
  | zero =>
    intro i τ1 g hi hf hok hr h8
    have e : i = M := by omega
    subst e
    have c20 : τ1 3553 20 = (i : Int) := (hr.1 20 (by omega)).trans h20
    have c1 : ((i : Int) < (i : Int)) = False := eq_false (by omega)
    have z8 : ∀ v, zup τ1 3553 7 v 3553 8 = 0 := fun v => (zup_j (by omega)).trans h8
    have d0 : ((0 : Int) < 0) = False := eq_false (by omega)
    simp (disch := first | assumption | exact p_c2i | exact p_c2r | exact p_c2n | omega | ((repeat (first | refine p_a1i.trans ?_ | refine p_a1r.trans ?_)); exact p_a10) | ((repeat (first | refine p_wI ?_ | refine p_wR ?_)); exact p_w0) | decide) only [reduceIte, Int.reduceLT, Int.reduceLE, Int.reduceEq, Int.reduceToNat, Int.reduceAdd, Int.reduceSub, Int.reduceMul, Int.reduceNeg, e209_69, e209_70, e209_71, e209_74, e209_98, e209_99, e209_100, e209_103, e209_104, e209_107, e209_110, e209_111, e209_114, e209_115, e209_116, e209_119, e209_120, e209_123, e209_126, e209_127, e209_128, e209_131, e209_132, e209_135, e209_136, e209_137, e209_138, e209_139, e209_140, e209_141, e209_144, e209_147, e209_148, e209_151, e209_152, e209_155, e209_156, e209_159, e209_160, e209_163, e209_164, e209_165, e209_166, e209_167, e209_170, p_il2, p_al0, p_getI, p_cge, p_push, p_putZ, p_ifle, p_getR, p_cs5_0, p_cs5_1, p_cs5_2, p_cs5_3, p_cs5_4, zK_v, zK_0, WN_ncl, p_bin, p_iald, p_cs1_0, p_cs1_1, p_cs1_2, p_cs1_3, p_cs1_4, p_cne, p_goto, p_putI, p_il3, p_ret0, p_cv1_0, p_cv1_1, p_cv1_2, p_cv1_3, p_cv1_4, WN_nx, WN_nrt, WN_ite, zg_o3, c20, c1, zg_c3, z8, d0, k3]
    have z6 : zg (zup τ1 3553 7 0) (rA ts tl w i) 3553 6 = (n : Int) := by rw [zg_o3, zup_j (by omega), hr.1 6 (by omega)]; exact hK.1
    have z7 : zg (zup τ1 3553 7 0) (rA ts tl w i) 3553 7 = 0 := by rw [zg_o3, zup_s]
    refine t_keeps (r := 3557) zm_7 zm_n7 (by omega) z6 hn (Or.inl z7) (fun σ2 hk => ?_)
    rw [zK_0]
    obtain ⟨y1, y2, y3, y4, y5⟩ := hk
    have c20b : σ2 3553 20 = (i : Int) := by rw [y2 20 (by omega) (by omega), zg_o3, zup_j (by omega)]; exact c20
    simp (disch := first | assumption | exact p_c2i | exact p_c2r | exact p_c2n | omega | ((repeat (first | refine p_a1i.trans ?_ | refine p_a1r.trans ?_)); exact p_a10) | ((repeat (first | refine p_wI ?_ | refine p_wR ?_)); exact p_w0) | decide) only [reduceIte, Int.reduceLT, Int.reduceLE, Int.reduceEq, Int.reduceToNat, Int.reduceAdd, Int.reduceSub, Int.reduceMul, Int.reduceNeg, e209_173, e209_174, e209_177, p_al0, p_getI, p_ret0, WN_nx, WN_nrt, WN_ite, c20b]
    have y6 := y5 z7 kp n (zKr_fr hK (by rw [zg_o3, zup_j (by omega), hr.1 6 (by omega)]) (by rw [zg_o (by omega), zup_f (by omega), hr.2 _ (by omega) (by omega)]))
    have e57 : zeq 6202 (zg (zup τ1 3553 7 0) (rA ts tl w i) 3557) w := fun j hj => by rw [zg_o (by omega), zup_f (by omega), hr.2 _ (by omega) (by omega)]; exact hb j hj
    have y7 := zKr_cg (kp' := aPushK kp n w) y6 (fun k _ => aPush_cg e57 k)
    have e54 : σ2 3554 = rA ts tl w i := by rw [y3 3554 (by omega) (by omega), zg_s]
    have fin := K0 hf σ2 y1 (by rw [y2 7 (by omega) (by omega)]; exact z7) y7 (fun k k1 k2 k3 => by rw [y2 k k1 k3, zg_o3, zup_j k2, hr.1 k k3]) (fun a a1 a2 a3 => by rw [y3 a a1 a3, zg_o a2, zup_f a1, hr.2 a a1 a2])
    rw [← e54, zg_r] at fin
    exact fin
  | succ r ih =>
    intro i τ1 g hi hf hok hr h8
    have c20 : τ1 3553 20 = (M : Int) := (hr.1 20 (by omega)).trans h20
    have c7 : τ1 3553 7 = 1 := (hr.1 7 (by omega)).trans h7
    have c6 : τ1 3553 6 = (n : Int) := (hr.1 6 (by omega)).trans hK.1
    have c1 : ((i : Int) < (M : Int)) = True := eq_true (by omega)
    have e1 : (i : Int) + 1 = ((i + 1 : Nat) : Int) := by omega
    have e4 : 4 * (i : Int) = ((4 * i : Nat) : Int) := by omega
    obtain ⟨p1, p2, p3, p4⟩ := zPar_e hp (i := i) (by omega)
    have hc := eO_lt p1
    have hdi : zDc ts tl (sO ts tl i) (τ1 3563) (4 * i) := by rw [hr.2 3563 (by omega) (by omega)]; exact hd i (by omega)
    rw [fF_s] at hf
    rw [e209_69]
    simp (disch := first | assumption | exact p_c2i | exact p_c2r | exact p_c2n | omega | ((repeat (first | refine p_a1i.trans ?_ | refine p_a1r.trans ?_)); exact p_a10) | ((repeat (first | refine p_wI ?_ | refine p_wR ?_)); exact p_w0) | decide) only [reduceIte, Int.reduceLT, Int.reduceLE, Int.reduceEq, Int.reduceToNat, Int.reduceAdd, Int.reduceSub, Int.reduceMul, Int.reduceNeg, e209_70, e209_71, e209_74, e209_77, e209_78, e209_81, e209_84, e209_85, e209_86, e209_87, e209_88, p_il2, p_al0, p_getI, p_cge, p_ifne, p_push, p_bin, p_cv1_0, p_cv1_1, p_cv1_2, p_cv1_3, p_cv1_4, zK_v, zK_0, WN_ncl, WN_nx, WN_nrt, WN_ite, zg_o3, c20, c1, h8]
    rw [e4]
    refine t_carriesM hc hok (by omega) c6 hn (Or.inr c7) (by omega) hdi (fun c0 τ2 z => ?_) (fun c0 τ2 b z => ?_)
    · rw [zK_v]
      have htrue : rP ts tl w i = true := decide_eq_true c0
      rw [if_pos htrue] at hf
      obtain ⟨y1, y2, y3, y4, y5, y6, y7⟩ := z
      obtain ⟨y6a, y6b⟩ := y6 (Or.inl c0)
      obtain ⟨⟨l1, l2⟩, l3⟩ := lA_e hc c0
      have l4 : cFo (sA ts tl (sO ts tl i)) (qO ts tl (rA ts tl w i) (sO ts tl i)) = 3 ↔ (qO ts tl (rA ts tl w i) (sO ts tl i)).1 = lA (sA ts tl (sO ts tl i)) := l3
      have lq : 0 < (qO ts tl (rA ts tl w i) (sO ts tl i)).1 ∧ (qO ts tl (rA ts tl w i) (sO ts tl i)).1 < 8 := ⟨l1, l2⟩
      have d1 : ((qO ts tl (rA ts tl w i) (sO ts tl i)).1 = 0) = False := eq_false c0
      have c20b : τ2 3553 20 = (M : Int) := (y4 20 (by omega) (by omega) (by omega) (by omega)).trans c20
      have ht : τ2 3563 (4 * i) = sA ts tl (sO ts tl i) := by rw [y5 3563 (by omega) (by omega) (by omega)]; exact hdi.1
      have hb2 : ∀ j, j < 6202 → τ2 3557 j = w j := fun j hj => by rw [y5 3557 (by omega) (by omega) (by omega), hr.2 3557 (by omega) (by omega)]; exact hb j hj
      have fin : Wp 209 98 [some (.inr (.inl (some 3553))), some (.inl 1), some (.inl (((i + 1 : Nat) : Int))), some (.inl 0)] [] (3565, x, zrho) (zg τ2 (rA ts tl w i)) Q := by
        refine l_runF (i := i) (w := w) (by omega) hc lq y1 ht hb2 (fun τ3 w3 g1 g2 g3 g4 g5 => ?_)
        refine KF _ i (by omega) hf htrue rfl τ3 w3 g1 ?_ ?_ ?_ g3 (fun k k1 k2 k3 k4 => ?_) (fun a a1 a2 => ?_)
        · rw [g2]
          by_cases q : (qO ts tl (rA ts tl w i) (sO ts tl i)).1 = lA (sA ts tl (sO ts tl i))
          · rw [if_pos q, if_pos (l4.mpr q)]
          · rw [if_neg q, if_neg (fun z => q (l4.mp z))]
        · rw [g4 9 (by omega) (by omega), y2, hr.1 9 (by omega)]
        · rw [g4 10 (by omega) (by omega), y3, hr.1 10 (by omega)]
        · rw [g4 k k1 k2]
          by_cases k6 : k = 6
          · subst k6; exact y6a.trans (hr.1 6 k2)
          · exact (y4 k k6 k2 k3 k4).trans (hr.1 k k2)
        · rw [g5 a a1]
          by_cases a5 : a = 3555
          · subst a5; exact y6b.trans (hr.2 3555 a1 a2)
          · exact (y5 a a1 a2 a5).trans (hr.2 a a1 a2)
      by_cases cM : ((i + 1 : Nat) : Int) < (M : Int)
      · have d4 : (((i + 1 : Nat) : Int) < (M : Int)) = True := eq_true cM
        simp (disch := first | assumption | exact p_c2i | exact p_c2r | exact p_c2n | omega | ((repeat (first | refine p_a1i.trans ?_ | refine p_a1r.trans ?_)); exact p_a10) | ((repeat (first | refine p_wI ?_ | refine p_wR ?_)); exact p_w0) | decide) only [reduceIte, Int.reduceLT, Int.reduceLE, Int.reduceEq, Int.reduceToNat, Int.reduceAdd, Int.reduceSub, Int.reduceMul, Int.reduceNeg, e209_69, e209_70, e209_71, e209_74, e209_77, e209_78, e209_81, e209_91, e209_92, e209_95, p_il2, p_al0, p_getI, p_cge, p_ifne, p_is3, p_c2n, p_c2i, p_c2r, p_ii2, p_goto, WN_nx, WN_nrt, WN_ite, e1, zg_o3, c20b, d4, y1, d1]
        exact fin
      · have d4 : (((i + 1 : Nat) : Int) < (M : Int)) = False := eq_false cM
        simp (disch := first | assumption | exact p_c2i | exact p_c2r | exact p_c2n | omega | ((repeat (first | refine p_a1i.trans ?_ | refine p_a1r.trans ?_)); exact p_a10) | ((repeat (first | refine p_wI ?_ | refine p_wR ?_)); exact p_w0) | decide) only [reduceIte, Int.reduceLT, Int.reduceLE, Int.reduceEq, Int.reduceToNat, Int.reduceAdd, Int.reduceSub, Int.reduceMul, Int.reduceNeg, e209_69, e209_70, e209_71, e209_74, e209_77, e209_78, e209_81, e209_91, e209_92, e209_95, p_il2, p_al0, p_getI, p_cge, p_ifne, p_is3, p_c2n, p_c2i, p_c2r, p_ii2, p_goto, WN_nx, WN_nrt, WN_ite, e1, zg_o3, c20b, d4]
        exact fin
    · rw [zK_v]
      have hfalse : ¬ rP ts tl w i = true := fun z => of_decide_eq_true z c0
      rw [if_neg hfalse] at hf
      obtain ⟨y1, y2, y3, y4, y5, y6, y7⟩ := z
      obtain ⟨y6a, y6b⟩ := y6 (Or.inr (by rw [c7]; decide))
      have hw := zSok_W hc hok (by omega) c0
      simp (disch := first | assumption | exact p_c2i | exact p_c2r | exact p_c2n | omega | ((repeat (first | refine p_a1i.trans ?_ | refine p_a1r.trans ?_)); exact p_a10) | ((repeat (first | refine p_wI ?_ | refine p_wR ?_)); exact p_w0) | decide) only [reduceIte, Int.reduceLT, Int.reduceLE, Int.reduceEq, Int.reduceToNat, Int.reduceAdd, Int.reduceSub, Int.reduceMul, Int.reduceNeg, e209_91, e209_92, e209_95, p_is3, p_c2n, p_c2i, p_c2r, p_ii2, p_goto, WN_nx, WN_nrt, WN_ite, e1]
      refine ih (i + 1) τ2 b (by omega) hf (zSok_mono hw (by omega)) ⟨fun k hk => ?_, fun a a1 a2 => ?_⟩ y1
      · by_cases k6 : k = 6
        · subst k6; exact y6a.trans (hr.1 6 hk)
        · by_cases k9 : k = 9
          · subst k9; exact (y2.trans (if_pos rfl)).trans (hr.1 9 hk)
          · by_cases k10 : k = 10
            · subst k10; exact (y3.trans (if_pos rfl)).trans (hr.1 10 hk)
            · exact (y4 k k6 hk k9 k10).trans (hr.1 k hk)
      · by_cases a5 : a = 3555
        · subst a5; exact y6b.trans (hr.2 3555 a1 a2)
        · exact (y5 a a1 a2 a5).trans (hr.2 a a1 a2)
theorem t_runM (hs : zTt ts tl) (hT : zTm τ ts tl) (hx : zTx τ) (ok : zSok N w) (hN0 : 0 ≤ N) (hN : N ≤ 70000000) (hK : zKr τ kp n) (hn : n ≤ 8) (h7 : τ 3553 7 = 0) (KE : 0 ≤ fO ts tl 61 0 → ∀ τ', τ' 3553 8 = 1 → τ' 3553 12 = 0 → τ' 3553 13 = fO ts tl 61 0 → (∀ k, k ≠ 8 → k ≠ 12 → k ≠ 13 → k ≠ 18 → k ≠ 20 → τ' 3553 k = τ 3553 k) → (∀ a, a ≠ 3553 → a ≠ 3563 → τ' a = τ a) → Q (.inl (some (.inl 0))) (3565, x, zrho) (zg τ' w)) (KF : fO ts tl 61 0 = -1 → ∀ M, zPar ts tl M → M ≤ 31 → ∀ (E : Int) (m : Nat), m < M → fF (rP ts tl w) 0 M = m → rP ts tl w m = true → (E = if cFo (sA ts tl (sO ts tl m)) (qO ts tl (rA ts tl w m) (sO ts tl m)) = 3 then 2 else 1) → ∀ τ' w', zeq 6202 w' w → zRe τ τ' (qO ts tl (rA ts tl w m) (sO ts tl m)) E (-1) → Q (.inl (some (.inl 0))) (3565, x, zrho) (zg τ' w')) (K0 : fO ts tl 61 0 = -1 → ∀ M, zPar ts tl M → M ≤ 31 → fF (rP ts tl w) 0 M = M → ∀ τ', zRg τ τ' kp n w → Q (.inl (some (.inl (M : Int)))) (3565, x, zrho) (zg τ' (rA ts tl w M))) : WM 209 [.inr (.inl (some 3553))] (3565, x, zrho) (zg τ w) Q := by
  show Wp 209 0 [some (.inr (.inl (some 3553))), none, none, none] [] _ _ Q
  have k := zm_k
  have k3 : zrho 3553 3 = some 3557 := rfl
  simp (disch := first | assumption | exact p_c2i | exact p_c2r | exact p_c2n | omega | ((repeat (first | refine p_a1i.trans ?_ | refine p_a1r.trans ?_)); exact p_a10) | ((repeat (first | refine p_wI ?_ | refine p_wR ?_)); exact p_w0) | decide) only [reduceIte, Int.reduceLT, Int.reduceLE, Int.reduceEq, Int.reduceToNat, Int.reduceAdd, Int.reduceSub, Int.reduceMul, Int.reduceNeg, e209_0, e209_1, p_al0, p_cv0_0, p_cv0_1, p_cv0_2, p_cv0_3, p_cv0_4, zK_v, zK_0, WN_ncl, WN_nx, WN_nrt, WN_ite]
  refine t_isTextM hs hT hx (fun c τ1 y1 y2 y3 => ?_) (fun c M hp hM τ1 y1 y2 y3 y4 => ?_)
  · rw [zK_v]
    have z18 : ∀ q, zup τ1 3553 13 q 3553 18 = fO ts tl 61 0 := fun q => (zup_j (by omega)).trans y1
    simp (disch := first | assumption | exact p_c2i | exact p_c2r | exact p_c2n | omega | ((repeat (first | refine p_a1i.trans ?_ | refine p_a1r.trans ?_)); exact p_a10) | ((repeat (first | refine p_wI ?_ | refine p_wR ?_)); exact p_w0) | decide) only [reduceIte, Int.reduceLT, Int.reduceLE, Int.reduceEq, Int.reduceToNat, Int.reduceAdd, Int.reduceSub, Int.reduceMul, Int.reduceNeg, e209_4, e209_5, e209_6, e209_7, e209_10, e209_11, e209_14, e209_15, e209_18, e209_21, e209_22, e209_23, e209_26, e209_27, e209_28, e209_31, e209_32, e209_35, e209_36, e209_39, e209_42, e209_43, p_is1, p_c2n, p_c2i, p_c2r, p_al0, p_il1, p_ifeq, p_push, p_goto, p_getI, p_putI, p_cv1_0, p_cv1_1, p_cv1_2, p_cv1_3, p_cv1_4, zK_v, zK_0, WN_ncl, p_ret0, WN_nx, WN_nrt, WN_ite, zg_o3, zg_c3, y1, tf_1]
    refine KE c _ zup_s (by rw [zup_j (by omega), zup_s]) (by rw [zup_j (by omega), zup_j (by omega), zup_s]) (fun k k1 k2 k3 k4 k5 => by rw [zup_j k1, zup_j k2, zup_j k3]; exact y2 k k4 k5) (fun a a1 a2 => by rw [zup_f a1, zup_f a1, zup_f a1]; exact y3 a a1 a2)
  · rw [zK_v]
    have d : ((1 : Int) = 0) = False := eq_false (by omega)
    simp (disch := first | assumption | exact p_c2i | exact p_c2r | exact p_c2n | omega | ((repeat (first | refine p_a1i.trans ?_ | refine p_a1r.trans ?_)); exact p_a10) | ((repeat (first | refine p_wI ?_ | refine p_wR ?_)); exact p_w0) | decide) only [reduceIte, Int.reduceLT, Int.reduceLE, Int.reduceEq, Int.reduceToNat, Int.reduceAdd, Int.reduceSub, Int.reduceMul, Int.reduceNeg, e209_4, e209_5, e209_6, e209_7, e209_10, e209_11, e209_14, e209_15, e209_18, e209_21, e209_22, e209_23, e209_26, e209_27, e209_28, e209_31, e209_32, e209_35, e209_36, e209_39, e209_42, e209_43, e209_44, e209_45, e209_48, e209_49, e209_50, e209_53, e209_54, e209_57, p_is1, p_c2n, p_c2i, p_c2r, p_al0, p_il1, p_ifeq, p_push, p_goto, p_getI, p_putI, p_cv1_0, p_cv1_1, p_cv1_2, p_cv1_3, p_cv1_4, zK_v, zK_0, WN_ncl, p_ret0, p_getR, p_cs5_0, p_cs5_1, p_cs5_2, p_cs5_3, p_cs5_4, WN_nx, WN_nrt, WN_ite, d, zg_o3, zg_c3, tf_0, zm_r0, k3]
    rw [t_copies (a := 3554) (b := 3557) (p := 0) (q := 0) (m := 6202) zm_4 zm_7 (by omega) (by omega) (by omega) (by rw [zm_n4]; omega) (by rw [zm_n7]; omega) (by omega) (by omega) (Or.inl (by omega)), zK_0, show (0 : Int).toNat = 0 from rfl, show (6202 : Int).toNat = 6202 from rfl, zcp_fr (by omega)]
    have g : ∀ τ2 : ZI, (∀ j, j < 6202 → τ2 3557 j = w j) → (∀ a, a ≠ 3557 → τ2 a = zup (zup (zup τ1 3553 13 (-1)) 3553 12 0) 3553 8 0 a) → Wp 209 60 [some (.inr (.inl (some 3553))), some (.inl 1), none, none] [] (3565, x, zrho) (zg τ2 w) Q := by
      intro τ2 a1 a2
      have b1 : ∀ k, k ≠ 8 → k ≠ 12 → k ≠ 13 → k ≠ 7 → zup τ2 3553 7 1 3553 k = τ1 3553 k := fun k k1 k2 k3 k4 => by rw [zup_j k4, a2 3553 (by omega), zup_j k1, zup_j k2, zup_j k3]
      have b2 : ∀ a, a ≠ 3553 → a ≠ 3557 → zup τ2 3553 7 1 a = τ1 a := fun a h1 h2 => by rw [zup_f h1, a2 a h2, zup_f h1, zup_f h1, zup_f h1]
      have b8 : zup τ2 3553 7 1 3553 8 = 0 := by rw [zup_j (by omega), a2 3553 (by omega), zup_s]
      have b12 : zup τ2 3553 7 1 3553 12 = 0 := by rw [zup_j (by omega), a2 3553 (by omega), zup_j (by omega), zup_s]
      have b13 : zup τ2 3553 7 1 3553 13 = -1 := by rw [zup_j (by omega), a2 3553 (by omega), zup_j (by omega), zup_j (by omega), zup_s]
      simp (disch := first | assumption | exact p_c2i | exact p_c2r | exact p_c2n | omega | ((repeat (first | refine p_a1i.trans ?_ | refine p_a1r.trans ?_)); exact p_a10) | ((repeat (first | refine p_wI ?_ | refine p_wR ?_)); exact p_w0) | decide) only [reduceIte, Int.reduceLT, Int.reduceLE, Int.reduceEq, Int.reduceToNat, Int.reduceAdd, Int.reduceSub, Int.reduceMul, Int.reduceNeg, e209_60, e209_61, e209_62, e209_65, e209_66, e209_67, e209_68, p_al0, p_push, p_putZ, p_is2, p_c2n, p_c2i, p_c2r, p_is3, WN_nx, WN_nrt, WN_ite, zg_c3]
      have hK2 : zKr (zup τ2 3553 7 1) kp n := zKr_fr hK (by rw [b1 6 (by omega) (by omega) (by omega) (by omega)]; exact y3 6 (by omega) (by omega)) (by rw [b2 3555 (by omega) (by omega)]; exact y4 3555 (by omega) (by omega))
      have l := l_runM (Q := Q) (x := x) (τ := zup τ2 3553 7 1) (ts := ts) (tl := tl) (M := M) (w := w) (N := N) (kp := kp) (n := n) hp hM ok hN0 hN hK2 hn zup_s (by rw [b1 20 (by omega) (by omega) (by omega) (by omega)]; exact y1) (fun i hi => by rw [b2 3563 (by omega) (by omega)]; exact y2 i hi) (fun j hj => by rw [zup_f (by omega)]; exact a1 j hj) (fun E m m1 m2 m3 m4 τ' w' g1 g2 g3 g4 g5 g6 g7 => ?_) (fun q0 τ' g1 g2 g3 g4 g5 => ?_) M 0 (zup τ2 3553 7 1) 0 (by omega) rfl (zSok_mono ok (by omega)) ⟨fun _ _ => rfl, fun _ _ _ => rfl⟩ b8
      · exact l
      · refine KF c M hp hM E m m1 m2 m3 m4 τ' w' g1 ⟨g2, ?_, ?_, g5, ?_, ?_, fun k k1 k2 k3 k4 k5 k6 k7 k8 => ?_, fun a h1 h2 h3 h4 => ?_⟩
        · rw [g3, b1 9 (by omega) (by omega) (by omega) (by omega), y3 9 (by omega) (by omega)]
        · rw [g4, b1 10 (by omega) (by omega) (by omega) (by omega), y3 10 (by omega) (by omega)]
        · rw [g6 12 (by omega) (by omega) (by omega) (by omega), b12]
        · rw [g6 13 (by omega) (by omega) (by omega) (by omega), b13]
        · rw [g6 k k1 k2 k3 k4, b1 k k2 k5 k6 k1, y3 k k7 k8]
        · rw [g7 a h1 h2, b2 a h1 h3, y4 a h1 h4]
      · refine K0 c M hp hM q0 τ' ⟨g1, g2, ?_, ?_, g3, fun k k1 k2 k3 k4 k5 k6 k7 => ?_, fun a h1 h2 h3 h4 h5 => ?_⟩
        · rw [g4 12 (by omega) (by omega) (by omega), b12]
        · rw [g4 13 (by omega) (by omega) (by omega), b13]
        · rw [g4 k k1 k2 k3, b1 k k3 k4 k5 k2, y3 k k6 k7]
        · rw [g5 a h1 h2 h3, b2 a h1 h4, y4 a h1 h5]
    refine g _ (fun j hj => ?_) (fun a ha => ?_)
    · show (if 3557 = 3557 ∧ 0 ≤ j ∧ j < 0 + 6202 then _ else _) = _
      rw [if_pos ⟨rfl, by omega, by omega⟩, show 0 + (j - 0) = j by omega]
    · exact funext fun j => if_neg (fun z => ha z.1)
end
