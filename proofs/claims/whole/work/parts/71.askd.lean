/-! THE CLASS: what is asked of what comes ahead; the inverse; refusal, account, sums -/
/-- the inverse of the latest step -/
def qInv (w : zW) : Int := aLook (aInvN (w 0).toNat w) (zgl (w 201 - 1).toNat w)
theorem aLook_01 (w v : zW) : aLook w v = 0 ∨ aLook w v = 1 := by
  unfold aLook
  split
  · split
    · split
      · exact Or.inr rfl
      · exact Or.inl rfl
    · exact Or.inl rfl
  · exact Or.inl rfl
def qWell (w : zW) : Int := if w 2 = 0 ∧ w 201 ≠ 0 then qInv w else 1
def qAcc (w : zW) (v tl n : Int) : Int := if v = 4 then w 201 else if v = 5 then w 200 else if v = 6 then zct (fun c => decide (0 < w (91 + c))) 81 else if v = 7 then aSm w 3 (w 0).toNat else if v = 8 then w 4 else if v = 9 then tl else if v = 10 then n else w v.toNat
theorem aFst_b {p : Nat → Bool} : ∀ f i : Nat, aFst p i f ≤ i + f := by
  intro f
  induction f with
  | zero => intro i; exact Nat.zero_le _
  | succ f ih =>
    intro i
    rw [aFst_s]
    have := ih (i + 1)
    split <;> omega
theorem zfq_l {σ σ' : ZI} (h : zfr σ σ' 3535) : zfq σ σ' := fun a ha => h a (by omega)
section
variable {σ : ZI} {Q : ZO → ZT → ZI → Prop} {x n : Nat} {w : zW} {N : Int}
theorem t_willBeC {h v : Int} (hR : zSr σ 101 w) (ok : zSok N w) (hN : N ≤ 80000000) (hh : -2147483648 ≤ h ∧ h < 2147483648) (hv : -2147483648 ≤ v ∧ v < 2147483648) (K1 : ¬ (0 ≤ h ∧ h < w 0) → Q (.inr 0) (3565, x + 1, zrho) σ) (K2 : (0 ≤ h ∧ h < w 0) → ¬ (0 ≤ v ∧ v ≤ 200) → Q (.inr 1) (3565, x + 1, zrho) σ) (K0 : (0 ≤ h ∧ h < w 0) → (0 ≤ v ∧ v ≤ 200) → ∀ σ', zfq σ σ' → Q (.inl (some (.inl (aIt v.toNat w (172 + 4 * h.toNat))))) (3565, x, zrho) σ') : WM 85 [.inr (.inl (some 100)), .inl h, .inl v] (3565, x, zrho) σ Q := by
  show Wp 85 0 [some (.inr (.inl (some 100))), some (.inl h), some (.inl v)] [] _ _ Q
  have k := zx_k
  have k5 : zkd 3535 = 2 := rfl
  have o0 := ok.2.2.1.1
  by_cases c1 : 0 ≤ h ∧ h < w 0
  · have t1 := fun (Q : ZO → ZT → ZI → Prop) => t_tuh1 (x := x) (Q := Q) hR.l o0 hh c1
    by_cases c2 : 0 ≤ v ∧ v ≤ 200
    · have t2 := fun (Q : ZO → ZT → ZI → Prop) => t_tua1 (x := x) (σ := σ) (Q := Q) c2
      have K0 := K0 c1 c2
      obtain ⟨i, hi⟩ : ∃ i : Nat, h = (i : Int) := ⟨h.toNat, by omega⟩
      obtain ⟨m, hm⟩ : ∃ m : Nat, v = (m : Int) := ⟨v.toNat, by omega⟩
      subst hi
      subst hm
      obtain ⟨a1, a2, a3⟩ := aIt_ok ok.2.2.1 m
      simp (disch := first | assumption | exact p_c2i | exact p_c2r | exact p_c2n | omega | ((repeat (first | refine p_a1i.trans ?_ | refine p_a1r.trans ?_)); exact p_a10) | ((repeat (first | refine p_wI ?_ | refine p_wR ?_)); exact p_w0) | decide) only [reduceIte, Int.reduceLT, Int.reduceLE, Int.reduceEq, Int.reduceToNat, Int.reduceAdd, Int.reduceSub, Int.reduceMul, Int.reduceNeg, e85_0, e85_1, e85_2, e85_5, e85_6, e85_9, e85_10, e85_11, p_al0, p_il1, p_cv1_0, p_cv1_1, p_cv1_2, p_cv1_3, p_cv1_4, zK_v, zK_0, WN_ncl, p_il2, p_cs1_0, p_cs1_1, p_cs1_2, p_cs1_3, p_cs1_4, WN_nx, WN_nrt, WN_ite, t1, t2]
      refine t_goAhead hR.l ok.2.2.1 hN (by omega) (fun σ' h1 f1 => ?_)
      rw [zK_0]
      have e0 := h1.h0
      have r := h1.2.2.2.2.1 i (by omega)
      have g1 := fun (Q : ZO → ZT → ZI → Prop) => t_cellOfHoe (L := 3535) (x := x) (σ := σ') (Q := Q) (h := (i : Int)) k5 (by omega) (by omega) (by omega)
      rw [Int.toNat_natCast, r.1] at g1
      simp (disch := first | assumption | exact p_c2i | exact p_c2r | exact p_c2n | omega | ((repeat (first | refine p_a1i.trans ?_ | refine p_a1r.trans ?_)); exact p_a10) | ((repeat (first | refine p_wI ?_ | refine p_wR ?_)); exact p_w0) | decide) only [reduceIte, Int.reduceLT, Int.reduceLE, Int.reduceEq, Int.reduceToNat, Int.reduceAdd, Int.reduceSub, Int.reduceMul, Int.reduceNeg, e85_14, e85_15, e85_18, e85_19, e85_22, p_al0, p_getR, p_il1, p_cv1_0, p_cv1_1, p_cv1_2, p_cv1_3, p_cv1_4, zK_v, zK_0, WN_ncl, p_ret0, WN_nx, WN_nrt, WN_ite, zx_r5, g1]
      have e := K0 σ' (zfq_l f1)
      rw [Int.toNat_natCast, Int.toNat_natCast] at e
      exact e
    · have t2 := fun (Q : ZO → ZT → ZI → Prop) => t_tua0 (x := x) (σ := σ) (Q := Q) hv c2
      have hz : zhnd 85 6 1 = none := rfl
      simp (disch := first | assumption | exact p_c2i | exact p_c2r | exact p_c2n | omega | ((repeat (first | refine p_a1i.trans ?_ | refine p_a1r.trans ?_)); exact p_a10) | ((repeat (first | refine p_wI ?_ | refine p_wR ?_)); exact p_w0) | decide) only [reduceIte, Int.reduceLT, Int.reduceLE, Int.reduceEq, Int.reduceToNat, Int.reduceAdd, Int.reduceSub, Int.reduceMul, Int.reduceNeg, e85_0, e85_1, e85_2, e85_5, e85_6, p_al0, p_il1, p_cv1_0, p_cv1_1, p_cv1_2, p_cv1_3, p_cv1_4, zK_v, zK_0, WN_ncl, p_il2, p_cs1_0, p_cs1_1, p_cs1_2, p_cs1_3, p_cs1_4, WN_nx, WN_nrt, WN_ite, t1, t2, zK_n hz]
      exact K2 c1 c2
  · have t1 := fun (Q : ZO → ZT → ZI → Prop) => t_tuh0 (x := x) (Q := Q) hR.l o0 hh c1
    have hz : zhnd 85 2 0 = none := rfl
    simp (disch := first | assumption | exact p_c2i | exact p_c2r | exact p_c2n | omega | ((repeat (first | refine p_a1i.trans ?_ | refine p_a1r.trans ?_)); exact p_a10) | ((repeat (first | refine p_wI ?_ | refine p_wR ?_)); exact p_w0) | decide) only [reduceIte, Int.reduceLT, Int.reduceLE, Int.reduceEq, Int.reduceToNat, Int.reduceAdd, Int.reduceSub, Int.reduceMul, Int.reduceNeg, e85_0, e85_1, e85_2, p_al0, p_il1, p_cv1_0, p_cv1_1, p_cv1_2, p_cv1_3, p_cv1_4, zK_v, zK_0, WN_ncl, WN_nx, WN_nrt, WN_ite, t1, zK_n hz]
    exact K1 c1
theorem t_willMeetC {v : Int} (hR : zSr σ 101 w) (ok : zSok N w) (hN : N ≤ 80000000) (hv : -2147483648 ≤ v ∧ v < 2147483648) (K1 : ¬ (0 ≤ v ∧ v ≤ 200) → Q (.inr 1) (3565, x + 1, zrho) σ) (K0 : (0 ≤ v ∧ v ≤ 200) → ∀ σ', zfq σ σ' → Q (.inl (some (.inl (aIt v.toNat w 5 - w 5)))) (3565, x, zrho) σ') : WM 86 [.inr (.inl (some 100)), .inl v] (3565, x, zrho) σ Q := by
  show Wp 86 0 [some (.inr (.inl (some 100))), some (.inl v)] [] _ _ Q
  have k := zx_k
  have k1 := zx_k1
  have k2 := zx_k2
  have k5 : zkd 3535 = 2 := rfl
  by_cases c2 : 0 ≤ v ∧ v ≤ 200
  · have t2 := fun (Q : ZO → ZT → ZI → Prop) => t_tua1 (x := x) (σ := σ) (Q := Q) c2
    have K0 := K0 c2
    obtain ⟨m, hm⟩ : ∃ m : Nat, v = (m : Int) := ⟨v.toNat, by omega⟩
    subst hm
    obtain ⟨a1, a2, a3⟩ := aIt_ok ok.2.2.1 m
    simp (disch := first | assumption | exact p_c2i | exact p_c2r | exact p_c2n | omega | ((repeat (first | refine p_a1i.trans ?_ | refine p_a1r.trans ?_)); exact p_a10) | ((repeat (first | refine p_wI ?_ | refine p_wR ?_)); exact p_w0) | decide) only [reduceIte, Int.reduceLT, Int.reduceLE, Int.reduceEq, Int.reduceToNat, Int.reduceAdd, Int.reduceSub, Int.reduceMul, Int.reduceNeg, e86_0, e86_1, e86_4, e86_5, e86_6, p_il1, p_cs1_0, p_cs1_1, p_cs1_2, p_cs1_3, p_cs1_4, zK_v, zK_0, WN_ncl, p_al0, p_cv1_0, p_cv1_1, p_cv1_2, p_cv1_3, p_cv1_4, WN_nx, WN_nrt, WN_ite, t2]
    refine t_goAhead hR.l ok.2.2.1 hN (by omega) (fun σ' h1 f1 => ?_)
    rw [zK_0]
    have hR' := hR.l.frame (fun a _ _ => f1 a (by omega))
    have s1 := fun (Q : ZO → ZT → ZI → Prop) => t_allMeetings (L := 3535) (x := x) (σ := σ') (Q := Q) k5 h1 a1 (by omega)
    have s2 := fun (Q : ZO → ZT → ZI → Prop) => t_allMeetings (L := 102) (x := x) (σ := σ') (Q := Q) k2 hR' ok.2.2.1 (by omega)
    rw [a2] at s1
    have e := K0 σ' (zfq_l f1)
    rw [Int.toNat_natCast, ← aSm3_It ok.2.2.1 m] at e
    simp (disch := first | assumption | exact p_c2i | exact p_c2r | exact p_c2n | omega | ((repeat (first | refine p_a1i.trans ?_ | refine p_a1r.trans ?_)); exact p_a10) | ((repeat (first | refine p_wI ?_ | refine p_wR ?_)); exact p_w0) | decide) only [reduceIte, Int.reduceLT, Int.reduceLE, Int.reduceEq, Int.reduceToNat, Int.reduceAdd, Int.reduceSub, Int.reduceMul, Int.reduceNeg, e86_9, e86_10, e86_13, e86_16, e86_17, e86_20, e86_23, e86_26, e86_27, p_al0, p_getR, p_cv0_0, p_cv0_1, p_cv0_2, p_cv0_3, p_cv0_4, zK_v, zK_0, WN_ncl, p_bin, p_ret0, WN_nx, WN_nrt, WN_ite, zx_r5, zx_r0, zx_l, s1, s2]
    exact e
  · have t2 := fun (Q : ZO → ZT → ZI → Prop) => t_tua0 (x := x) (σ := σ) (Q := Q) hv c2
    have hz : zhnd 86 1 1 = none := rfl
    simp (disch := first | assumption | exact p_c2i | exact p_c2r | exact p_c2n | omega | ((repeat (first | refine p_a1i.trans ?_ | refine p_a1r.trans ?_)); exact p_a10) | ((repeat (first | refine p_wI ?_ | refine p_wR ?_)); exact p_w0) | decide) only [reduceIte, Int.reduceLT, Int.reduceLE, Int.reduceEq, Int.reduceToNat, Int.reduceAdd, Int.reduceSub, Int.reduceMul, Int.reduceNeg, e86_0, e86_1, p_il1, p_cs1_0, p_cs1_1, p_cs1_2, p_cs1_3, p_cs1_4, zK_v, zK_0, WN_ncl, WN_nx, WN_nrt, WN_ite, t2, zK_n hz]
    exact K1 c2
theorem t_meetInC (hR : zSr σ 101 w) (ok : zSok N w) (hN : N ≤ 80000000) (K1 : aFst (fun k => decide (aIt k w 5 ≠ w 5)) 1 200 = 0 → ∀ σ', zfq σ σ' → Q (.inr 3) (3565, x + 1, zrho) σ') (K0 : aFst (fun k => decide (aIt k w 5 ≠ w 5)) 1 200 ≠ 0 → ∀ σ', zfq σ σ' → Q (.inl (some (.inl ((aFst (fun k => decide (aIt k w 5 ≠ w 5)) 1 200 : Nat) : Int)))) (3565, x, zrho) σ') : WM 87 [.inr (.inl (some 100))] (3565, x, zrho) σ Q := by
  show Wp 87 0 [some (.inr (.inl (some 100))), none] [] _ _ Q
  have k := zx_k
  simp (disch := first | assumption | exact p_c2i | exact p_c2r | exact p_c2n | omega | ((repeat (first | refine p_a1i.trans ?_ | refine p_a1r.trans ?_)); exact p_a10) | ((repeat (first | refine p_wI ?_ | refine p_wR ?_)); exact p_w0) | decide) only [reduceIte, Int.reduceLT, Int.reduceLE, Int.reduceEq, Int.reduceToNat, Int.reduceAdd, Int.reduceSub, Int.reduceMul, Int.reduceNeg, e87_0, e87_1, p_al0, p_cv0_0, p_cv0_1, p_cv0_2, p_cv0_3, p_cv0_4, zK_v, zK_0, WN_ncl, WN_nx, WN_nrt, WN_ite]
  refine t_firstMeet hR.l ok.2.2.1 hN (fun σ' v f e => ?_)
  rw [aFst_meet ok.2.2.1] at e
  rw [zK_v]
  by_cases c1 : aFst (fun k => decide (aIt k w 5 ≠ w 5)) 1 200 = 0
  · rw [c1] at e
    subst e
    simp (disch := first | assumption | exact p_c2i | exact p_c2r | exact p_c2n | omega | ((repeat (first | refine p_a1i.trans ?_ | refine p_a1r.trans ?_)); exact p_a10) | ((repeat (first | refine p_wI ?_ | refine p_wR ?_)); exact p_w0) | decide) only [reduceIte, Int.reduceLT, Int.reduceLE, Int.reduceEq, Int.reduceToNat, Int.reduceAdd, Int.reduceSub, Int.reduceMul, Int.reduceNeg, e87_4, e87_5, e87_6, e87_9, e87_19, e87_20, p_is1, p_c2n, p_c2i, p_c2r, p_il1, p_ifne, o_throw, p_ret0, WN_nx, WN_nrt, WN_ite, p_throw, show ((0 : Nat) : Int) = 0 from rfl]
    exact K1 c1 σ' (zfq_l f)
  · have bb := aFst_b (p := fun k => decide (aIt k w 5 ≠ w 5)) 200 1
    have d : (v = 0) = False := eq_false (by omega)
    simp (disch := first | assumption | exact p_c2i | exact p_c2r | exact p_c2n | omega | ((repeat (first | refine p_a1i.trans ?_ | refine p_a1r.trans ?_)); exact p_a10) | ((repeat (first | refine p_wI ?_ | refine p_wR ?_)); exact p_w0) | decide) only [reduceIte, Int.reduceLT, Int.reduceLE, Int.reduceEq, Int.reduceToNat, Int.reduceAdd, Int.reduceSub, Int.reduceMul, Int.reduceNeg, e87_4, e87_5, e87_6, e87_9, e87_19, e87_20, p_is1, p_c2n, p_c2i, p_c2r, p_il1, p_ifne, o_throw, p_ret0, WN_nx, WN_nrt, WN_ite, d]
    rw [e]
    exact K0 c1 σ' (zfq_l f)
theorem t_isBackC {h : Int} (hR : zSr σ 101 w) (ok : zSok N w) (hN : N ≤ 80000000) (hh : -2147483648 ≤ h ∧ h < 2147483648) (K2 : ¬ (0 ≤ h ∧ h < w 0) → Q (.inr 0) (3565, x + 1, zrho) σ) (K1 : (0 ≤ h ∧ h < w 0) → aFst (fun k => decide (aIt k w (172 + 4 * h.toNat) = w (172 + 4 * h.toNat))) 1 200 = 0 → ∀ σ', zfq σ σ' → Q (.inr 3) (3565, x + 1, zrho) σ') (K0 : (0 ≤ h ∧ h < w 0) → aFst (fun k => decide (aIt k w (172 + 4 * h.toNat) = w (172 + 4 * h.toNat))) 1 200 ≠ 0 → ∀ σ', zfq σ σ' → Q (.inl (some (.inl ((aFst (fun k => decide (aIt k w (172 + 4 * h.toNat) = w (172 + 4 * h.toNat))) 1 200 : Nat) : Int)))) (3565, x, zrho) σ') : WM 88 [.inr (.inl (some 100)), .inl h] (3565, x, zrho) σ Q := by
  show Wp 88 0 [some (.inr (.inl (some 100))), some (.inl h), none] [] _ _ Q
  have k := zx_k
  have o0 := ok.2.2.1.1
  by_cases c0 : 0 ≤ h ∧ h < w 0
  · have t1 := fun (Q : ZO → ZT → ZI → Prop) => t_tuh1 (x := x) (Q := Q) hR.l o0 hh c0
    have K1 := K1 c0
    have K0 := K0 c0
    obtain ⟨i, hi⟩ : ∃ i : Nat, h = (i : Int) := ⟨h.toNat, by omega⟩
    subst hi
    rw [Int.toNat_natCast] at K1 K0
    simp (disch := first | assumption | exact p_c2i | exact p_c2r | exact p_c2n | omega | ((repeat (first | refine p_a1i.trans ?_ | refine p_a1r.trans ?_)); exact p_a10) | ((repeat (first | refine p_wI ?_ | refine p_wR ?_)); exact p_w0) | decide) only [reduceIte, Int.reduceLT, Int.reduceLE, Int.reduceEq, Int.reduceToNat, Int.reduceAdd, Int.reduceSub, Int.reduceMul, Int.reduceNeg, e88_0, e88_1, e88_2, e88_5, e88_6, e88_7, p_al0, p_il1, p_cv1_0, p_cv1_1, p_cv1_2, p_cv1_3, p_cv1_4, zK_v, zK_0, WN_ncl, WN_nx, WN_nrt, WN_ite, t1]
    refine t_return hR.l ok.2.2.1 c0.2 hN (fun σ' v f e => ?_)
    rw [zK_v]
    by_cases c1 : aFst (fun k => decide (aIt k w (172 + 4 * i) = w (172 + 4 * i))) 1 200 = 0
    · rw [c1] at e
      subst e
      simp (disch := first | assumption | exact p_c2i | exact p_c2r | exact p_c2n | omega | ((repeat (first | refine p_a1i.trans ?_ | refine p_a1r.trans ?_)); exact p_a10) | ((repeat (first | refine p_wI ?_ | refine p_wR ?_)); exact p_w0) | decide) only [reduceIte, Int.reduceLT, Int.reduceLE, Int.reduceEq, Int.reduceToNat, Int.reduceAdd, Int.reduceSub, Int.reduceMul, Int.reduceNeg, e88_10, e88_11, e88_12, e88_15, e88_25, e88_26, p_is2, p_c2n, p_c2i, p_c2r, p_il2, p_ifne, o_throw, p_ret0, WN_nx, WN_nrt, WN_ite, p_throw, show ((0 : Nat) : Int) = 0 from rfl]
      exact K1 c1 σ' (zfq_l f)
    · have bb := aFst_b (p := fun k => decide (aIt k w (172 + 4 * i) = w (172 + 4 * i))) 200 1
      have d : (v = 0) = False := eq_false (by omega)
      simp (disch := first | assumption | exact p_c2i | exact p_c2r | exact p_c2n | omega | ((repeat (first | refine p_a1i.trans ?_ | refine p_a1r.trans ?_)); exact p_a10) | ((repeat (first | refine p_wI ?_ | refine p_wR ?_)); exact p_w0) | decide) only [reduceIte, Int.reduceLT, Int.reduceLE, Int.reduceEq, Int.reduceToNat, Int.reduceAdd, Int.reduceSub, Int.reduceMul, Int.reduceNeg, e88_10, e88_11, e88_12, e88_15, e88_25, e88_26, p_is2, p_c2n, p_c2i, p_c2r, p_il2, p_ifne, o_throw, p_ret0, WN_nx, WN_nrt, WN_ite, d]
      rw [e]
      exact K0 c1 σ' (zfq_l f)
  · have t1 := fun (Q : ZO → ZT → ZI → Prop) => t_tuh0 (x := x) (Q := Q) hR.l o0 hh c0
    have hz : zhnd 88 2 0 = none := rfl
    simp (disch := first | assumption | exact p_c2i | exact p_c2r | exact p_c2n | omega | ((repeat (first | refine p_a1i.trans ?_ | refine p_a1r.trans ?_)); exact p_a10) | ((repeat (first | refine p_wI ?_ | refine p_wR ?_)); exact p_w0) | decide) only [reduceIte, Int.reduceLT, Int.reduceLE, Int.reduceEq, Int.reduceToNat, Int.reduceAdd, Int.reduceSub, Int.reduceMul, Int.reduceNeg, e88_0, e88_1, e88_2, p_al0, p_il1, p_cv1_0, p_cv1_1, p_cv1_2, p_cv1_3, p_cv1_4, zK_v, zK_0, WN_ncl, WN_nx, WN_nrt, WN_ite, t1, zK_n hz]
    exact K2 c0
theorem t_highwayC {h : Int} (hR : zSr σ 101 w) (ok : zSok N w) (hN : N ≤ 80000000) (hh : -2147483648 ≤ h ∧ h < 2147483648) (K2 : ¬ (0 ≤ h ∧ h < w 0) → Q (.inr 0) (3565, x + 1, zrho) σ) (K1 : (0 ≤ h ∧ h < w 0) → aFst (aPer (aTr w h.toNat)) 1 40 = 0 → ∀ σ', zfq σ σ' → Q (.inr 3) (3565, x + 1, zrho) σ') (K0 : (0 ≤ h ∧ h < w 0) → aFst (aPer (aTr w h.toNat)) 1 40 ≠ 0 → ∀ σ', zfq σ σ' → Q (.inl (some (.inl ((aFst (aPer (aTr w h.toNat)) 1 40 : Nat) : Int)))) (3565, x, zrho) σ') : WM 89 [.inr (.inl (some 100)), .inl h] (3565, x, zrho) σ Q := by
  show Wp 89 0 [some (.inr (.inl (some 100))), some (.inl h), none] [] _ _ Q
  have k := zx_k
  have o0 := ok.2.2.1.1
  by_cases c0 : 0 ≤ h ∧ h < w 0
  · have t1 := fun (Q : ZO → ZT → ZI → Prop) => t_tuh1 (x := x) (Q := Q) hR.l o0 hh c0
    have K1 := K1 c0
    have K0 := K0 c0
    obtain ⟨i, hi⟩ : ∃ i : Nat, h = (i : Int) := ⟨h.toNat, by omega⟩
    subst hi
    rw [Int.toNat_natCast] at K1 K0
    simp (disch := first | assumption | exact p_c2i | exact p_c2r | exact p_c2n | omega | ((repeat (first | refine p_a1i.trans ?_ | refine p_a1r.trans ?_)); exact p_a10) | ((repeat (first | refine p_wI ?_ | refine p_wR ?_)); exact p_w0) | decide) only [reduceIte, Int.reduceLT, Int.reduceLE, Int.reduceEq, Int.reduceToNat, Int.reduceAdd, Int.reduceSub, Int.reduceMul, Int.reduceNeg, e89_0, e89_1, e89_2, e89_5, e89_6, e89_7, p_al0, p_il1, p_cv1_0, p_cv1_1, p_cv1_2, p_cv1_3, p_cv1_4, zK_v, zK_0, WN_ncl, WN_nx, WN_nrt, WN_ite, t1]
    refine t_periodAhead hR.l ok.2.2.1 c0.2 hN (fun σ' f => ?_)
    rw [zK_v]
    have f2 : zfq σ σ' := fun a ha => f a (by omega) (by omega)
    by_cases c1 : aFst (aPer (aTr w i)) 1 40 = 0
    · rw [c1]
      simp (disch := first | assumption | exact p_c2i | exact p_c2r | exact p_c2n | omega | ((repeat (first | refine p_a1i.trans ?_ | refine p_a1r.trans ?_)); exact p_a10) | ((repeat (first | refine p_wI ?_ | refine p_wR ?_)); exact p_w0) | decide) only [reduceIte, Int.reduceLT, Int.reduceLE, Int.reduceEq, Int.reduceToNat, Int.reduceAdd, Int.reduceSub, Int.reduceMul, Int.reduceNeg, e89_10, e89_11, e89_12, e89_15, e89_25, e89_26, p_is2, p_c2n, p_c2i, p_c2r, p_il2, p_ifne, o_throw, p_ret0, WN_nx, WN_nrt, WN_ite, p_throw, show ((0 : Nat) : Int) = 0 from rfl]
      exact K1 c1 σ' f2
    · have bb := aFst_b (p := aPer (aTr w i)) 40 1
      have d : (((aFst (aPer (aTr w i)) 1 40 : Nat) : Int) = 0) = False := eq_false (by omega)
      simp (disch := first | assumption | exact p_c2i | exact p_c2r | exact p_c2n | omega | ((repeat (first | refine p_a1i.trans ?_ | refine p_a1r.trans ?_)); exact p_a10) | ((repeat (first | refine p_wI ?_ | refine p_wR ?_)); exact p_w0) | decide) only [reduceIte, Int.reduceLT, Int.reduceLE, Int.reduceEq, Int.reduceToNat, Int.reduceAdd, Int.reduceSub, Int.reduceMul, Int.reduceNeg, e89_10, e89_11, e89_12, e89_15, e89_25, e89_26, p_is2, p_c2n, p_c2i, p_c2r, p_il2, p_ifne, o_throw, p_ret0, WN_nx, WN_nrt, WN_ite, d]
      exact K0 c1 σ' f2
  · have t1 := fun (Q : ZO → ZT → ZI → Prop) => t_tuh0 (x := x) (Q := Q) hR.l o0 hh c0
    have hz : zhnd 89 2 0 = none := rfl
    simp (disch := first | assumption | exact p_c2i | exact p_c2r | exact p_c2n | omega | ((repeat (first | refine p_a1i.trans ?_ | refine p_a1r.trans ?_)); exact p_a10) | ((repeat (first | refine p_wI ?_ | refine p_wR ?_)); exact p_w0) | decide) only [reduceIte, Int.reduceLT, Int.reduceLE, Int.reduceEq, Int.reduceToNat, Int.reduceAdd, Int.reduceSub, Int.reduceMul, Int.reduceNeg, e89_0, e89_1, e89_2, p_al0, p_il1, p_cv1_0, p_cv1_1, p_cv1_2, p_cv1_3, p_cv1_4, zK_v, zK_0, WN_ncl, WN_nx, WN_nrt, WN_ite, t1, zK_n hz]
    exact K2 c0
theorem t_isInverseC (hR : zSr σ 101 w) (ok : zSok N w) (K1 : w 201 = 0 → Q (.inr 3) (3565, x + 1, zrho) σ) (K0 : w 201 ≠ 0 → ∀ σ', zfq σ σ' → Q (.inl (some (.inl (qInv w)))) (3565, x, zrho) σ') : WM 77 [.inr (.inl (some 100))] (3565, x, zrho) σ Q := by
  show Wp 77 0 [some (.inr (.inl (some 100)))] [] _ _ Q
  have k := zx_k
  have k1 := zx_k1
  have s3 := hR.s3
  have o1 := ok.1
  by_cases c1 : w 201 = 0
  · have d : (w 201 = 0) = True := eq_true c1
    simp (disch := first | assumption | exact p_c2i | exact p_c2r | exact p_c2n | omega | ((repeat (first | refine p_a1i.trans ?_ | refine p_a1r.trans ?_)); exact p_a10) | ((repeat (first | refine p_wI ?_ | refine p_wR ?_)); exact p_w0) | decide) only [reduceIte, Int.reduceLT, Int.reduceLE, Int.reduceEq, Int.reduceToNat, Int.reduceAdd, Int.reduceSub, Int.reduceMul, Int.reduceNeg, e77_0, e77_1, e77_4, e77_7, e77_10, p_al0, p_getR, p_getI, p_ifne, o_throw, WN_nx, WN_nrt, WN_ite, zx_r0, s3, d, p_throw]
    exact K1 c1
  · simp (disch := first | assumption | exact p_c2i | exact p_c2r | exact p_c2n | omega | ((repeat (first | refine p_a1i.trans ?_ | refine p_a1r.trans ?_)); exact p_a10) | ((repeat (first | refine p_wI ?_ | refine p_wR ?_)); exact p_w0) | decide) only [reduceIte, Int.reduceLT, Int.reduceLE, Int.reduceEq, Int.reduceToNat, Int.reduceAdd, Int.reduceSub, Int.reduceMul, Int.reduceNeg, e77_0, e77_1, e77_4, e77_7, e77_10, e77_20, e77_21, p_al0, p_getR, p_getI, p_ifne, o_throw, p_cv0_0, p_cv0_1, p_cv0_2, p_cv0_3, p_cv0_4, zK_v, zK_0, WN_ncl, WN_nx, WN_nrt, WN_ite, zx_r0, s3, c1, p_throw]
    refine t_inverseFits hR ok (by omega) (fun σ' f => ?_)
    rw [zK_v]
    have al := aLook_01 (aInvN (w 0).toNat w) (zgl (w 201 - 1).toNat w)
    simp (disch := first | assumption | exact p_c2i | exact p_c2r | exact p_c2n | omega | ((repeat (first | refine p_a1i.trans ?_ | refine p_a1r.trans ?_)); exact p_a10) | ((repeat (first | refine p_wI ?_ | refine p_wR ?_)); exact p_w0) | decide) only [reduceIte, Int.reduceLT, Int.reduceLE, Int.reduceEq, Int.reduceToNat, Int.reduceAdd, Int.reduceSub, Int.reduceMul, Int.reduceNeg, e77_24, p_ret1, WN_nx, WN_nrt, WN_ite]
    exact K0 c1 σ' (zfq_l f)
theorem t_errorC (h9 : -2147483648 ≤ σ 100 9 ∧ σ 100 9 < 2147483648) : WM 96 [.inr (.inl (some 100))] (3565, x, zrho) σ Q = Q (.inl (some (.inl (σ 100 9)))) (3565, x, zrho) σ := by
  show Wp 96 0 [some (.inr (.inl (some 100)))] [] _ _ Q = _
  have k := zx_k
  simp (disch := first | assumption | exact p_c2i | exact p_c2r | exact p_c2n | omega | ((repeat (first | refine p_a1i.trans ?_ | refine p_a1r.trans ?_)); exact p_a10) | ((repeat (first | refine p_wI ?_ | refine p_wR ?_)); exact p_w0) | decide) only [reduceIte, Int.reduceLT, Int.reduceLE, Int.reduceEq, Int.reduceToNat, Int.reduceAdd, Int.reduceSub, Int.reduceMul, Int.reduceNeg, e96_0, e96_1, e96_4, p_al0, p_getI, p_ret0, WN_nx, WN_nrt, WN_ite]
theorem t_refusalC {d : Int} (hd : d = 0 ∨ d = 1) (g12 : -2147483648 ≤ σ 100 12 ∧ σ 100 12 < 2147483648) (g13 : -2147483648 ≤ σ 100 13 ∧ σ 100 13 < 2147483648) (K1 : σ 100 12 = 0 → Q (.inr 3) (3565, x + 1, zrho) σ) (K0 : σ 100 12 ≠ 0 → ∀ σ', zfq σ σ' → Q (.inl (some (.inl (if d = 1 then σ 100 13 else σ 100 12)))) (3565, x, zrho) σ') : WM 97 [.inr (.inl (some 100)), .inl d] (3565, x, zrho) σ Q := by
  show Wp 97 0 [some (.inr (.inl (some 100))), some (.inl d)] [] _ _ Q
  have k := zx_k
  by_cases c1 : σ 100 12 = 0
  · simp (disch := first | assumption | exact p_c2i | exact p_c2r | exact p_c2n | omega | ((repeat (first | refine p_a1i.trans ?_ | refine p_a1r.trans ?_)); exact p_a10) | ((repeat (first | refine p_wI ?_ | refine p_wR ?_)); exact p_w0) | decide) only [reduceIte, Int.reduceLT, Int.reduceLE, Int.reduceEq, Int.reduceToNat, Int.reduceAdd, Int.reduceSub, Int.reduceMul, Int.reduceNeg, e97_0, e97_1, e97_4, e97_7, e97_18, e97_19, e97_22, e97_23, e97_26, e97_29, e97_30, e97_33, p_al0, p_getI, p_ifne, o_throw, p_il1, p_ifeq, p_goto, p_ret0, WN_nx, WN_nrt, WN_ite, c1, p_throw]
    exact K1 c1
  · rcases hd with rfl | rfl
    · simp (disch := first | assumption | exact p_c2i | exact p_c2r | exact p_c2n | omega | ((repeat (first | refine p_a1i.trans ?_ | refine p_a1r.trans ?_)); exact p_a10) | ((repeat (first | refine p_wI ?_ | refine p_wR ?_)); exact p_w0) | decide) only [reduceIte, Int.reduceLT, Int.reduceLE, Int.reduceEq, Int.reduceToNat, Int.reduceAdd, Int.reduceSub, Int.reduceMul, Int.reduceNeg, e97_0, e97_1, e97_4, e97_7, e97_18, e97_19, e97_22, e97_23, e97_26, e97_29, e97_30, e97_33, p_al0, p_getI, p_ifne, o_throw, p_il1, p_ifeq, p_goto, p_ret0, WN_nx, WN_nrt, WN_ite, c1, p_throw]
      exact K0 c1 σ zfq_r
    · simp (disch := first | assumption | exact p_c2i | exact p_c2r | exact p_c2n | omega | ((repeat (first | refine p_a1i.trans ?_ | refine p_a1r.trans ?_)); exact p_a10) | ((repeat (first | refine p_wI ?_ | refine p_wR ?_)); exact p_w0) | decide) only [reduceIte, Int.reduceLT, Int.reduceLE, Int.reduceEq, Int.reduceToNat, Int.reduceAdd, Int.reduceSub, Int.reduceMul, Int.reduceNeg, e97_0, e97_1, e97_4, e97_7, e97_18, e97_19, e97_22, e97_23, e97_26, e97_29, e97_30, e97_33, p_al0, p_getI, p_ifne, o_throw, p_il1, p_ifeq, p_goto, p_ret0, WN_nx, WN_nrt, WN_ite, c1, p_throw]
      exact K0 c1 σ zfq_r
theorem t_accountC {v tl m : Int} (hR : zSr σ 101 w) (ok : zSok N w) (hN : N ≤ 100000000) (hv : -2147483648 ≤ v ∧ v < 2147483648) (ht : σ 3550 1 = tl) (hm : σ 1037 2 = m) (K1 : ¬ (0 ≤ v ∧ v ≤ 10) → Q (.inr 1) (3565, x + 1, zrho) σ) (K0 : (0 ≤ v ∧ v ≤ 10) → ∀ σ', zfq σ σ' → Q (.inl (some (.inl (qAcc w v tl m)))) (3565, x, zrho) σ') : WM 98 [.inr (.inl (some 100)), .inl v] (3565, x, zrho) σ Q := by
  show Wp 98 0 [some (.inr (.inl (some 100))), some (.inl v)] [] _ _ Q
  have k := zx_k
  have k1 := zx_k1
  have k2 := zx_k2
  have k50 : zkd 3550 = 4 := rfl
  have k37 : zkd 1037 = 0 := rfl
  have h0 := hR.l.h0
  have h1 := hR.l.h1
  have h2 := hR.l.h2
  have h3 := hR.l.h3
  have h4 := hR.l.h4
  have s3 := hR.s3
  have s4 := hR.s4
  have t6 := fun (Q : ZO → ZT → ZI → Prop) => t_cellsPainted (L := 102) (x := x) (σ := σ) (Q := Q) k2 hR.l ok.2.2.1 hN
  have t7 := fun (Q : ZO → ZT → ZI → Prop) => t_allMeetings (L := 102) (x := x) (σ := σ) (Q := Q) k2 hR.l ok.2.2.1 hN
  by_cases c1 : 0 ≤ v ∧ v ≤ 10
  · have e := K0 c1 σ zfq_r
    unfold qAcc at e
    rcases (show v = 0 ∨ v = 1 ∨ v = 2 ∨ v = 3 ∨ v = 4 ∨ v = 5 ∨ v = 6 ∨ v = 7 ∨ v = 8 ∨ v = 9 ∨ v = 10 by omega) with z | z | z | z | z | z | z | z | z | z | z
    · subst z
      simp (disch := first | assumption | exact p_c2i | exact p_c2r | exact p_c2n | omega | ((repeat (first | refine p_a1i.trans ?_ | refine p_a1r.trans ?_)); exact p_a10) | ((repeat (first | refine p_wI ?_ | refine p_wR ?_)); exact p_w0) | decide) only [reduceIte, Int.reduceLT, Int.reduceLE, Int.reduceEq, Int.reduceToNat, Int.reduceAdd, Int.reduceSub, Int.reduceMul, Int.reduceNeg, e98_0, e98_1, e98_60, e98_61, e98_64, e98_67, e98_70, e98_71, e98_72, e98_75, e98_78, e98_81, e98_82, e98_83, e98_86, e98_89, e98_92, e98_93, e98_94, e98_97, e98_100, e98_103, e98_104, e98_105, e98_108, e98_111, e98_112, e98_113, e98_116, e98_119, e98_120, e98_121, e98_124, e98_127, e98_130, e98_131, e98_132, e98_135, e98_138, e98_141, e98_142, e98_143, e98_146, e98_149, e98_152, e98_153, e98_154, e98_157, e98_160, e98_161, e98_162, e98_165, e98_168, e98_169, p_il1, p_sw, zsw, p_al0, p_getR, p_getI, p_ret0, p_cv0_0, p_cv0_1, p_cv0_2, p_cv0_3, p_cv0_4, zK_v, zK_0, WN_ncl, o_throw, WN_nx, WN_nrt, WN_ite, zx_r0, zx_l, h0]
      exact e
    · subst z
      simp (disch := first | assumption | exact p_c2i | exact p_c2r | exact p_c2n | omega | ((repeat (first | refine p_a1i.trans ?_ | refine p_a1r.trans ?_)); exact p_a10) | ((repeat (first | refine p_wI ?_ | refine p_wR ?_)); exact p_w0) | decide) only [reduceIte, Int.reduceLT, Int.reduceLE, Int.reduceEq, Int.reduceToNat, Int.reduceAdd, Int.reduceSub, Int.reduceMul, Int.reduceNeg, e98_0, e98_1, e98_60, e98_61, e98_64, e98_67, e98_70, e98_71, e98_72, e98_75, e98_78, e98_81, e98_82, e98_83, e98_86, e98_89, e98_92, e98_93, e98_94, e98_97, e98_100, e98_103, e98_104, e98_105, e98_108, e98_111, e98_112, e98_113, e98_116, e98_119, e98_120, e98_121, e98_124, e98_127, e98_130, e98_131, e98_132, e98_135, e98_138, e98_141, e98_142, e98_143, e98_146, e98_149, e98_152, e98_153, e98_154, e98_157, e98_160, e98_161, e98_162, e98_165, e98_168, e98_169, p_il1, p_sw, zsw, p_al0, p_getR, p_getI, p_ret0, p_cv0_0, p_cv0_1, p_cv0_2, p_cv0_3, p_cv0_4, zK_v, zK_0, WN_ncl, o_throw, WN_nx, WN_nrt, WN_ite, zx_r0, zx_l, h1]
      exact e
    · subst z
      simp (disch := first | assumption | exact p_c2i | exact p_c2r | exact p_c2n | omega | ((repeat (first | refine p_a1i.trans ?_ | refine p_a1r.trans ?_)); exact p_a10) | ((repeat (first | refine p_wI ?_ | refine p_wR ?_)); exact p_w0) | decide) only [reduceIte, Int.reduceLT, Int.reduceLE, Int.reduceEq, Int.reduceToNat, Int.reduceAdd, Int.reduceSub, Int.reduceMul, Int.reduceNeg, e98_0, e98_1, e98_60, e98_61, e98_64, e98_67, e98_70, e98_71, e98_72, e98_75, e98_78, e98_81, e98_82, e98_83, e98_86, e98_89, e98_92, e98_93, e98_94, e98_97, e98_100, e98_103, e98_104, e98_105, e98_108, e98_111, e98_112, e98_113, e98_116, e98_119, e98_120, e98_121, e98_124, e98_127, e98_130, e98_131, e98_132, e98_135, e98_138, e98_141, e98_142, e98_143, e98_146, e98_149, e98_152, e98_153, e98_154, e98_157, e98_160, e98_161, e98_162, e98_165, e98_168, e98_169, p_il1, p_sw, zsw, p_al0, p_getR, p_getI, p_ret0, p_cv0_0, p_cv0_1, p_cv0_2, p_cv0_3, p_cv0_4, zK_v, zK_0, WN_ncl, o_throw, WN_nx, WN_nrt, WN_ite, zx_r0, zx_l, h2]
      exact e
    · subst z
      simp (disch := first | assumption | exact p_c2i | exact p_c2r | exact p_c2n | omega | ((repeat (first | refine p_a1i.trans ?_ | refine p_a1r.trans ?_)); exact p_a10) | ((repeat (first | refine p_wI ?_ | refine p_wR ?_)); exact p_w0) | decide) only [reduceIte, Int.reduceLT, Int.reduceLE, Int.reduceEq, Int.reduceToNat, Int.reduceAdd, Int.reduceSub, Int.reduceMul, Int.reduceNeg, e98_0, e98_1, e98_60, e98_61, e98_64, e98_67, e98_70, e98_71, e98_72, e98_75, e98_78, e98_81, e98_82, e98_83, e98_86, e98_89, e98_92, e98_93, e98_94, e98_97, e98_100, e98_103, e98_104, e98_105, e98_108, e98_111, e98_112, e98_113, e98_116, e98_119, e98_120, e98_121, e98_124, e98_127, e98_130, e98_131, e98_132, e98_135, e98_138, e98_141, e98_142, e98_143, e98_146, e98_149, e98_152, e98_153, e98_154, e98_157, e98_160, e98_161, e98_162, e98_165, e98_168, e98_169, p_il1, p_sw, zsw, p_al0, p_getR, p_getI, p_ret0, p_cv0_0, p_cv0_1, p_cv0_2, p_cv0_3, p_cv0_4, zK_v, zK_0, WN_ncl, o_throw, WN_nx, WN_nrt, WN_ite, zx_r0, zx_l, h3]
      exact e
    · subst z
      simp (disch := first | assumption | exact p_c2i | exact p_c2r | exact p_c2n | omega | ((repeat (first | refine p_a1i.trans ?_ | refine p_a1r.trans ?_)); exact p_a10) | ((repeat (first | refine p_wI ?_ | refine p_wR ?_)); exact p_w0) | decide) only [reduceIte, Int.reduceLT, Int.reduceLE, Int.reduceEq, Int.reduceToNat, Int.reduceAdd, Int.reduceSub, Int.reduceMul, Int.reduceNeg, e98_0, e98_1, e98_60, e98_61, e98_64, e98_67, e98_70, e98_71, e98_72, e98_75, e98_78, e98_81, e98_82, e98_83, e98_86, e98_89, e98_92, e98_93, e98_94, e98_97, e98_100, e98_103, e98_104, e98_105, e98_108, e98_111, e98_112, e98_113, e98_116, e98_119, e98_120, e98_121, e98_124, e98_127, e98_130, e98_131, e98_132, e98_135, e98_138, e98_141, e98_142, e98_143, e98_146, e98_149, e98_152, e98_153, e98_154, e98_157, e98_160, e98_161, e98_162, e98_165, e98_168, e98_169, p_il1, p_sw, zsw, p_al0, p_getR, p_getI, p_ret0, p_cv0_0, p_cv0_1, p_cv0_2, p_cv0_3, p_cv0_4, zK_v, zK_0, WN_ncl, o_throw, WN_nx, WN_nrt, WN_ite, zx_r0, zx_l, s3]
      exact e
    · subst z
      simp (disch := first | assumption | exact p_c2i | exact p_c2r | exact p_c2n | omega | ((repeat (first | refine p_a1i.trans ?_ | refine p_a1r.trans ?_)); exact p_a10) | ((repeat (first | refine p_wI ?_ | refine p_wR ?_)); exact p_w0) | decide) only [reduceIte, Int.reduceLT, Int.reduceLE, Int.reduceEq, Int.reduceToNat, Int.reduceAdd, Int.reduceSub, Int.reduceMul, Int.reduceNeg, e98_0, e98_1, e98_60, e98_61, e98_64, e98_67, e98_70, e98_71, e98_72, e98_75, e98_78, e98_81, e98_82, e98_83, e98_86, e98_89, e98_92, e98_93, e98_94, e98_97, e98_100, e98_103, e98_104, e98_105, e98_108, e98_111, e98_112, e98_113, e98_116, e98_119, e98_120, e98_121, e98_124, e98_127, e98_130, e98_131, e98_132, e98_135, e98_138, e98_141, e98_142, e98_143, e98_146, e98_149, e98_152, e98_153, e98_154, e98_157, e98_160, e98_161, e98_162, e98_165, e98_168, e98_169, p_il1, p_sw, zsw, p_al0, p_getR, p_getI, p_ret0, p_cv0_0, p_cv0_1, p_cv0_2, p_cv0_3, p_cv0_4, zK_v, zK_0, WN_ncl, o_throw, WN_nx, WN_nrt, WN_ite, zx_r0, zx_l, s4]
      exact e
    · subst z
      simp (disch := first | assumption | exact p_c2i | exact p_c2r | exact p_c2n | omega | ((repeat (first | refine p_a1i.trans ?_ | refine p_a1r.trans ?_)); exact p_a10) | ((repeat (first | refine p_wI ?_ | refine p_wR ?_)); exact p_w0) | decide) only [reduceIte, Int.reduceLT, Int.reduceLE, Int.reduceEq, Int.reduceToNat, Int.reduceAdd, Int.reduceSub, Int.reduceMul, Int.reduceNeg, e98_0, e98_1, e98_60, e98_61, e98_64, e98_67, e98_70, e98_71, e98_72, e98_75, e98_78, e98_81, e98_82, e98_83, e98_86, e98_89, e98_92, e98_93, e98_94, e98_97, e98_100, e98_103, e98_104, e98_105, e98_108, e98_111, e98_112, e98_113, e98_116, e98_119, e98_120, e98_121, e98_124, e98_127, e98_130, e98_131, e98_132, e98_135, e98_138, e98_141, e98_142, e98_143, e98_146, e98_149, e98_152, e98_153, e98_154, e98_157, e98_160, e98_161, e98_162, e98_165, e98_168, e98_169, p_il1, p_sw, zsw, p_al0, p_getR, p_getI, p_ret0, p_cv0_0, p_cv0_1, p_cv0_2, p_cv0_3, p_cv0_4, zK_v, zK_0, WN_ncl, o_throw, WN_nx, WN_nrt, WN_ite, zx_r0, zx_l, t6]
      exact e
    · subst z
      simp (disch := first | assumption | exact p_c2i | exact p_c2r | exact p_c2n | omega | ((repeat (first | refine p_a1i.trans ?_ | refine p_a1r.trans ?_)); exact p_a10) | ((repeat (first | refine p_wI ?_ | refine p_wR ?_)); exact p_w0) | decide) only [reduceIte, Int.reduceLT, Int.reduceLE, Int.reduceEq, Int.reduceToNat, Int.reduceAdd, Int.reduceSub, Int.reduceMul, Int.reduceNeg, e98_0, e98_1, e98_60, e98_61, e98_64, e98_67, e98_70, e98_71, e98_72, e98_75, e98_78, e98_81, e98_82, e98_83, e98_86, e98_89, e98_92, e98_93, e98_94, e98_97, e98_100, e98_103, e98_104, e98_105, e98_108, e98_111, e98_112, e98_113, e98_116, e98_119, e98_120, e98_121, e98_124, e98_127, e98_130, e98_131, e98_132, e98_135, e98_138, e98_141, e98_142, e98_143, e98_146, e98_149, e98_152, e98_153, e98_154, e98_157, e98_160, e98_161, e98_162, e98_165, e98_168, e98_169, p_il1, p_sw, zsw, p_al0, p_getR, p_getI, p_ret0, p_cv0_0, p_cv0_1, p_cv0_2, p_cv0_3, p_cv0_4, zK_v, zK_0, WN_ncl, o_throw, WN_nx, WN_nrt, WN_ite, zx_r0, zx_l, t7]
      exact e
    · subst z
      simp (disch := first | assumption | exact p_c2i | exact p_c2r | exact p_c2n | omega | ((repeat (first | refine p_a1i.trans ?_ | refine p_a1r.trans ?_)); exact p_a10) | ((repeat (first | refine p_wI ?_ | refine p_wR ?_)); exact p_w0) | decide) only [reduceIte, Int.reduceLT, Int.reduceLE, Int.reduceEq, Int.reduceToNat, Int.reduceAdd, Int.reduceSub, Int.reduceMul, Int.reduceNeg, e98_0, e98_1, e98_60, e98_61, e98_64, e98_67, e98_70, e98_71, e98_72, e98_75, e98_78, e98_81, e98_82, e98_83, e98_86, e98_89, e98_92, e98_93, e98_94, e98_97, e98_100, e98_103, e98_104, e98_105, e98_108, e98_111, e98_112, e98_113, e98_116, e98_119, e98_120, e98_121, e98_124, e98_127, e98_130, e98_131, e98_132, e98_135, e98_138, e98_141, e98_142, e98_143, e98_146, e98_149, e98_152, e98_153, e98_154, e98_157, e98_160, e98_161, e98_162, e98_165, e98_168, e98_169, p_il1, p_sw, zsw, p_al0, p_getR, p_getI, p_ret0, p_cv0_0, p_cv0_1, p_cv0_2, p_cv0_3, p_cv0_4, zK_v, zK_0, WN_ncl, o_throw, WN_nx, WN_nrt, WN_ite, zx_r0, zx_l, h4]
      exact e
    · subst z
      simp (disch := first | assumption | exact p_c2i | exact p_c2r | exact p_c2n | omega | ((repeat (first | refine p_a1i.trans ?_ | refine p_a1r.trans ?_)); exact p_a10) | ((repeat (first | refine p_wI ?_ | refine p_wR ?_)); exact p_w0) | decide) only [reduceIte, Int.reduceLT, Int.reduceLE, Int.reduceEq, Int.reduceToNat, Int.reduceAdd, Int.reduceSub, Int.reduceMul, Int.reduceNeg, e98_0, e98_1, e98_60, e98_61, e98_64, e98_67, e98_70, e98_71, e98_72, e98_75, e98_78, e98_81, e98_82, e98_83, e98_86, e98_89, e98_92, e98_93, e98_94, e98_97, e98_100, e98_103, e98_104, e98_105, e98_108, e98_111, e98_112, e98_113, e98_116, e98_119, e98_120, e98_121, e98_124, e98_127, e98_130, e98_131, e98_132, e98_135, e98_138, e98_141, e98_142, e98_143, e98_146, e98_149, e98_152, e98_153, e98_154, e98_157, e98_160, e98_161, e98_162, e98_165, e98_168, e98_169, p_il1, p_sw, zsw, p_al0, p_getR, p_getI, p_ret0, p_cv0_0, p_cv0_1, p_cv0_2, p_cv0_3, p_cv0_4, zK_v, zK_0, WN_ncl, o_throw, WN_nx, WN_nrt, WN_ite, zx_r8, ht]
      exact e
    · subst z
      simp (disch := first | assumption | exact p_c2i | exact p_c2r | exact p_c2n | omega | ((repeat (first | refine p_a1i.trans ?_ | refine p_a1r.trans ?_)); exact p_a10) | ((repeat (first | refine p_wI ?_ | refine p_wR ?_)); exact p_w0) | decide) only [reduceIte, Int.reduceLT, Int.reduceLE, Int.reduceEq, Int.reduceToNat, Int.reduceAdd, Int.reduceSub, Int.reduceMul, Int.reduceNeg, e98_0, e98_1, e98_60, e98_61, e98_64, e98_67, e98_70, e98_71, e98_72, e98_75, e98_78, e98_81, e98_82, e98_83, e98_86, e98_89, e98_92, e98_93, e98_94, e98_97, e98_100, e98_103, e98_104, e98_105, e98_108, e98_111, e98_112, e98_113, e98_116, e98_119, e98_120, e98_121, e98_124, e98_127, e98_130, e98_131, e98_132, e98_135, e98_138, e98_141, e98_142, e98_143, e98_146, e98_149, e98_152, e98_153, e98_154, e98_157, e98_160, e98_161, e98_162, e98_165, e98_168, e98_169, p_il1, p_sw, zsw, p_al0, p_getR, p_getI, p_ret0, p_cv0_0, p_cv0_1, p_cv0_2, p_cv0_3, p_cv0_4, zK_v, zK_0, WN_ncl, o_throw, WN_nx, WN_nrt, WN_ite, zx_r4, hm]
      exact e
  · have d0 : (v = 0) = False := eq_false (by omega)
    have d1 : (v = 1) = False := eq_false (by omega)
    have d2 : (v = 2) = False := eq_false (by omega)
    have d3 : (v = 3) = False := eq_false (by omega)
    have d4 : (v = 4) = False := eq_false (by omega)
    have d5 : (v = 5) = False := eq_false (by omega)
    have d6 : (v = 6) = False := eq_false (by omega)
    have d7 : (v = 7) = False := eq_false (by omega)
    have d8 : (v = 8) = False := eq_false (by omega)
    have d9 : (v = 9) = False := eq_false (by omega)
    have d10 : (v = 10) = False := eq_false (by omega)
    simp (disch := first | assumption | exact p_c2i | exact p_c2r | exact p_c2n | omega | ((repeat (first | refine p_a1i.trans ?_ | refine p_a1r.trans ?_)); exact p_a10) | ((repeat (first | refine p_wI ?_ | refine p_wR ?_)); exact p_w0) | decide) only [reduceIte, Int.reduceLT, Int.reduceLE, Int.reduceEq, Int.reduceToNat, Int.reduceAdd, Int.reduceSub, Int.reduceMul, Int.reduceNeg, e98_0, e98_1, e98_169, p_il1, p_sw, zsw, o_throw, WN_nx, WN_nrt, WN_ite, p_throw, d0, d1, d2, d3, d4, d5, d6, d7, d8, d9, d10]
    exact K1 c1
theorem l_wellA (hR0 : zSr σ 101 w) (ok : zSok N w) (K : ∀ σ', zfq σ σ' → Wp 99 48 [some (.inr (.inl (some 100))), some (.inl 4)] [] (3565, x, zrho) σ' Q) : ∀ (n i : Nat) (σ1 : ZI), i + n = 4 → zfq σ σ1 → Wp 99 2 [some (.inr (.inl (some 100))), some (.inl ((i : Int)))] [] (3565, x, zrho) σ1 Q := by
  have k := zx_k
  have k1 := zx_k1
  have k2 := zx_k2
  intro n
  induction n with
  | zero =>
    intro i σ1 hi f
    have e : i = 4 := by omega
    subst e
    simp (disch := first | assumption | exact p_c2i | exact p_c2r | exact p_c2n | omega | ((repeat (first | refine p_a1i.trans ?_ | refine p_a1r.trans ?_)); exact p_a10) | ((repeat (first | refine p_wI ?_ | refine p_wR ?_)); exact p_w0) | decide) only [reduceIte, Int.reduceLT, Int.reduceLE, Int.reduceEq, Int.reduceToNat, Int.reduceAdd, Int.reduceSub, Int.reduceMul, Int.reduceNeg, e99_2, e99_3, e99_4, p_il1, p_push, p_cge, WN_nx, WN_nrt, WN_ite, show ((4 : Nat) : Int) = 4 from rfl]
    exact K σ1 f
  | succ n ih =>
    intro i σ1 hi f
    have hi4 : ((i : Int) < 4) = True := eq_true (by omega)
    have e1 : (i : Int) + 1 = ((i + 1 : Nat) : Int) := by omega
    have hR := hR0.frame (fun a _ _ => f a (by omega))
    have bm : 0 ≤ fMany w (i : Int) ∧ fMany w (i : Int) ≤ (81 : Nat) := by unfold fMany; exact zct_in 81
    rw [e99_2]
    simp (disch := first | assumption | exact p_c2i | exact p_c2r | exact p_c2n | omega | ((repeat (first | refine p_a1i.trans ?_ | refine p_a1r.trans ?_)); exact p_a10) | ((repeat (first | refine p_wI ?_ | refine p_wR ?_)); exact p_w0) | decide) only [reduceIte, Int.reduceLT, Int.reduceLE, Int.reduceEq, Int.reduceToNat, Int.reduceAdd, Int.reduceSub, Int.reduceMul, Int.reduceNeg, e99_3, e99_4, e99_7, e99_8, e99_11, e99_12, e99_15, e99_18, e99_19, p_il1, p_push, p_cge, p_al0, p_getR, p_cv2_0, p_cv2_1, p_cv2_2, p_cv2_3, p_cv2_4, zK_v, zK_0, WN_ncl, WN_nx, WN_nrt, WN_ite, hi4, zx_r6, zx_r0, zx_l]
    refine t_going (by omega) k2 hR.l ok.2.2.1 (fun σ2 f2 => ?_)
    rw [zK_v]
    simp (disch := first | assumption | exact p_c2i | exact p_c2r | exact p_c2n | omega | ((repeat (first | refine p_a1i.trans ?_ | refine p_a1r.trans ?_)); exact p_a10) | ((repeat (first | refine p_wI ?_ | refine p_wR ?_)); exact p_w0) | decide) only [reduceIte, Int.reduceLT, Int.reduceLE, Int.reduceEq, Int.reduceToNat, Int.reduceAdd, Int.reduceSub, Int.reduceMul, Int.reduceNeg, e99_22, e99_23, e99_26, e99_27, e99_30, e99_33, e99_34, p_al0, p_getR, p_il1, p_cv2_0, p_cv2_1, p_cv2_2, p_cv2_3, p_cv2_4, zK_v, zK_0, WN_ncl, WN_nx, WN_nrt, WN_ite, zx_r6, zx_r0, zx_l]
    refine t_bynum (by omega) k2 (hR.l.frame (fun a _ _ => f2 a (by omega) (by omega) (by omega))) ok.2.2.1 (fun σ3 f3 => ?_)
    rw [zK_v]
    simp (disch := first | assumption | exact p_c2i | exact p_c2r | exact p_c2n | omega | ((repeat (first | refine p_a1i.trans ?_ | refine p_a1r.trans ?_)); exact p_a10) | ((repeat (first | refine p_wI ?_ | refine p_wR ?_)); exact p_w0) | decide) only [reduceIte, Int.reduceLT, Int.reduceLE, Int.reduceEq, Int.reduceToNat, Int.reduceAdd, Int.reduceSub, Int.reduceMul, Int.reduceNeg, e99_37, e99_40, e99_41, e99_42, e99_45, p_ceq, p_push, p_ret1, p_ii1, p_goto, WN_nx, WN_nrt, WN_ite, e1]
    exact ih (i + 1) σ3 (by omega) (fun a ha => (f3 a (by omega)).trans ((f2 a (by omega) (by omega) (by omega)).trans (f a ha)))
theorem l_wellB (hR : zSr σ 101 w) (ok : zSok N w) : ∀ (n i : Nat), i + n = 81 → Wp 99 50 [some (.inr (.inl (some 100))), some (.inl ((i : Int)))] [] (3565, x, zrho) σ Q = Wp 99 102 [some (.inr (.inl (some 100))), some (.inl 81)] [] (3565, x, zrho) σ Q := by
  have k := zx_k
  have k1 := zx_k1
  have k2 := zx_k2
  have h1 := hR.l.h1
  have o1 := ok.2.2.1.2.1
  intro n
  induction n with
  | zero =>
    intro i hi
    have e : i = 81 := by omega
    subst e
    simp (disch := first | assumption | exact p_c2i | exact p_c2r | exact p_c2n | omega | ((repeat (first | refine p_a1i.trans ?_ | refine p_a1r.trans ?_)); exact p_a10) | ((repeat (first | refine p_wI ?_ | refine p_wR ?_)); exact p_w0) | decide) only [reduceIte, Int.reduceLT, Int.reduceLE, Int.reduceEq, Int.reduceToNat, Int.reduceAdd, Int.reduceSub, Int.reduceMul, Int.reduceNeg, e99_50, e99_51, e99_53, p_il1, p_push, p_cge, WN_nx, WN_nrt, WN_ite, show ((81 : Nat) : Int) = 81 from rfl]
  | succ n ih =>
    intro i hi
    have hi8 : ((i : Int) < 81) = True := eq_true (by omega)
    have e1 : (i : Int) + 1 = ((i + 1 : Nat) : Int) := by omega
    have o := ok.2.2.1.2.2.2.2.2.2.2.1 i (by omega)
    have t2 := fun (Q : ZO → ZT → ZI → Prop) => t_colourOf (L := 102) (c := (i : Int)) (x := x) (σ := σ) (Q := Q) k2 (by omega) (by omega)
    rw [Int.toNat_natCast, hR.l.2.2.1 _ (by omega)] at t2
    have d0 : (w (10 + i) < 0) = False := eq_false (by omega)
    have d1 : (w (10 + i) < w 1) = True := eq_true (by omega)
    rw [e99_50]
    simp (disch := first | assumption | exact p_c2i | exact p_c2r | exact p_c2n | omega | ((repeat (first | refine p_a1i.trans ?_ | refine p_a1r.trans ?_)); exact p_a10) | ((repeat (first | refine p_wI ?_ | refine p_wR ?_)); exact p_w0) | decide) only [reduceIte, Int.reduceLT, Int.reduceLE, Int.reduceEq, Int.reduceToNat, Int.reduceAdd, Int.reduceSub, Int.reduceMul, Int.reduceNeg, e99_51, e99_53, e99_56, e99_57, e99_60, e99_63, e99_64, e99_67, e99_70, e99_71, e99_74, e99_77, e99_78, e99_81, e99_82, e99_85, e99_88, e99_91, e99_94, e99_95, e99_96, e99_99, p_il1, p_push, p_cge, p_al0, p_getR, p_cv1_0, p_cv1_1, p_cv1_2, p_cv1_3, p_cv1_4, zK_v, zK_0, WN_ncl, p_iflt, p_getI, p_clt, p_ret1, p_ii1, p_goto, WN_nx, WN_nrt, WN_ite, hi8, zx_r0, zx_l, t2, h1, d0, d1, e1]
    exact ih (i + 1) (by omega)
theorem t_isWellC (hR : zSr σ 101 w) (ok : zSok N w) (K0 : ∀ σ', zfq σ σ' → Q (.inl (some (.inl (qWell w)))) (3565, x, zrho) σ') : WM 99 [.inr (.inl (some 100))] (3565, x, zrho) σ Q := by
  show Wp 99 0 [some (.inr (.inl (some 100))), none] [] _ _ Q
  have k := zx_k
  have k1 := zx_k1
  have k2 := zx_k2
  simp (disch := first | assumption | exact p_c2i | exact p_c2r | exact p_c2n | omega | ((repeat (first | refine p_a1i.trans ?_ | refine p_a1r.trans ?_)); exact p_a10) | ((repeat (first | refine p_wI ?_ | refine p_wR ?_)); exact p_w0) | decide) only [reduceIte, Int.reduceLT, Int.reduceLE, Int.reduceEq, Int.reduceToNat, Int.reduceAdd, Int.reduceSub, Int.reduceMul, Int.reduceNeg, e99_0, e99_1, p_push, p_is1, p_c2n, p_c2i, p_c2r, WN_nx, WN_nrt, WN_ite]
  refine l_wellA hR ok (fun σ1 f => ?_) 4 0 σ rfl zfq_r
  have hR1 := hR.frame (fun a _ _ => f a (by omega))
  have h2 := hR1.l.h2
  have s3 := hR1.s3
  have o2 := ok.2.2.1.2.2.1
  have o1 := ok.1
  have tB := fun (Q : ZO → ZT → ZI → Prop) => l_wellB (x := x) (Q := Q) hR1 ok 81 0 rfl
  have K0 := fun σ' h => K0 σ' h
  unfold qWell at K0
  rw [show ((0 : Nat) : Int) = 0 from rfl] at tB
  simp (disch := first | assumption | exact p_c2i | exact p_c2r | exact p_c2n | omega | ((repeat (first | refine p_a1i.trans ?_ | refine p_a1r.trans ?_)); exact p_a10) | ((repeat (first | refine p_wI ?_ | refine p_wR ?_)); exact p_w0) | decide) only [reduceIte, Int.reduceLT, Int.reduceLE, Int.reduceEq, Int.reduceToNat, Int.reduceAdd, Int.reduceSub, Int.reduceMul, Int.reduceNeg, e99_48, e99_49, p_push, p_is1, p_c2n, p_c2i, p_c2r, WN_nx, WN_nrt, WN_ite, tB]
  by_cases c1 : w 2 = 0
  · by_cases c2 : w 201 = 0
    · have e := K0 σ1 f
      rw [if_neg (fun z => z.2 c2)] at e
      simp (disch := first | assumption | exact p_c2i | exact p_c2r | exact p_c2n | omega | ((repeat (first | refine p_a1i.trans ?_ | refine p_a1r.trans ?_)); exact p_a10) | ((repeat (first | refine p_wI ?_ | refine p_wR ?_)); exact p_w0) | decide) only [reduceIte, Int.reduceLT, Int.reduceLE, Int.reduceEq, Int.reduceToNat, Int.reduceAdd, Int.reduceSub, Int.reduceMul, Int.reduceNeg, e99_102, e99_103, e99_106, e99_109, e99_112, e99_115, e99_116, e99_119, e99_122, e99_125, e99_126, e99_129, e99_132, e99_133, e99_136, e99_137, p_al0, p_getR, p_getI, p_ifne, p_ifeq, p_cv0_0, p_cv0_1, p_cv0_2, p_cv0_3, p_cv0_4, zK_v, zK_0, WN_ncl, p_push, p_goto, p_ret1, WN_nx, WN_nrt, WN_ite, zx_r0, zx_l, h2, s3, c1, c2]
      exact e
    · simp (disch := first | assumption | exact p_c2i | exact p_c2r | exact p_c2n | omega | ((repeat (first | refine p_a1i.trans ?_ | refine p_a1r.trans ?_)); exact p_a10) | ((repeat (first | refine p_wI ?_ | refine p_wR ?_)); exact p_w0) | decide) only [reduceIte, Int.reduceLT, Int.reduceLE, Int.reduceEq, Int.reduceToNat, Int.reduceAdd, Int.reduceSub, Int.reduceMul, Int.reduceNeg, e99_102, e99_103, e99_106, e99_109, e99_112, e99_115, e99_116, e99_119, e99_122, e99_125, e99_126, p_al0, p_getR, p_getI, p_ifne, p_ifeq, p_cv0_0, p_cv0_1, p_cv0_2, p_cv0_3, p_cv0_4, zK_v, zK_0, WN_ncl, WN_nx, WN_nrt, WN_ite, zx_r0, zx_l, h2, s3, c1, c2]
      refine t_inverseFits hR1 ok (by omega) (fun σ2 f2 => ?_)
      rw [zK_v]
      have e := K0 σ2 (fun a ha => (f2 a (by omega)).trans (f a ha))
      rw [if_pos ⟨c1, c2⟩] at e
      unfold qInv at e
      rcases aLook_01 (aInvN (w 0).toNat w) (zgl (w 201 - 1).toNat w) with z | z
      · rw [z] at e ⊢
        simp (disch := first | assumption | exact p_c2i | exact p_c2r | exact p_c2n | omega | ((repeat (first | refine p_a1i.trans ?_ | refine p_a1r.trans ?_)); exact p_a10) | ((repeat (first | refine p_wI ?_ | refine p_wR ?_)); exact p_w0) | decide) only [reduceIte, Int.reduceLT, Int.reduceLE, Int.reduceEq, Int.reduceToNat, Int.reduceAdd, Int.reduceSub, Int.reduceMul, Int.reduceNeg, e99_129, e99_132, e99_133, e99_136, e99_137, p_ifeq, p_push, p_goto, p_ret1, WN_nx, WN_nrt, WN_ite]
        exact e
      · rw [z] at e ⊢
        have d : ((1 : Int) = 0) = False := eq_false (by omega)
        simp (disch := first | assumption | exact p_c2i | exact p_c2r | exact p_c2n | omega | ((repeat (first | refine p_a1i.trans ?_ | refine p_a1r.trans ?_)); exact p_a10) | ((repeat (first | refine p_wI ?_ | refine p_wR ?_)); exact p_w0) | decide) only [reduceIte, Int.reduceLT, Int.reduceLE, Int.reduceEq, Int.reduceToNat, Int.reduceAdd, Int.reduceSub, Int.reduceMul, Int.reduceNeg, e99_129, e99_132, e99_133, e99_136, e99_137, p_ifeq, p_push, p_goto, p_ret1, WN_nx, WN_nrt, WN_ite, d]
        exact e
  · have e := K0 σ1 f
    rw [if_neg (fun z => c1 z.1)] at e
    simp (disch := first | assumption | exact p_c2i | exact p_c2r | exact p_c2n | omega | ((repeat (first | refine p_a1i.trans ?_ | refine p_a1r.trans ?_)); exact p_a10) | ((repeat (first | refine p_wI ?_ | refine p_wR ?_)); exact p_w0) | decide) only [reduceIte, Int.reduceLT, Int.reduceLE, Int.reduceEq, Int.reduceToNat, Int.reduceAdd, Int.reduceSub, Int.reduceMul, Int.reduceNeg, e99_102, e99_103, e99_106, e99_109, e99_112, e99_115, e99_116, e99_119, e99_122, e99_125, e99_126, e99_129, e99_132, e99_133, e99_136, e99_137, p_al0, p_getR, p_getI, p_ifne, p_ifeq, p_cv0_0, p_cv0_1, p_cv0_2, p_cv0_3, p_cv0_4, zK_v, zK_0, WN_ncl, p_push, p_goto, p_ret1, WN_nx, WN_nrt, WN_ite, zx_r0, zx_l, h2, c1]
    exact e
end
