/-! THE CLASS: faults of the orders, and what they set -/
/-- a refusal is kept -/
def zref (σ : ZI) (o : Int × Int × Int) : ZI := if o.2.1 = 0 then σ else zup (zup σ 100 12 o.2.1) 100 13 o.2.2
theorem zref_0 {σ : ZI} {p d : Int} : zref σ (p, 0, d) = σ := if_pos rfl
theorem zref_1 {σ : ZI} {p r d : Int} (h : r ≠ 0) : zref σ (p, r, d) = zup (zup σ 100 12 r) 100 13 d := if_neg h
theorem zref_f {σ : ZI} {o : Int × Int × Int} {a : Nat} (h : a ≠ 100) : zref σ o a = σ a := by
  unfold zref
  split
  · rfl
  · rw [zup_f h, zup_f h]
/-- the class's number of a fault -/
def cF1 (o : Int × Int × Int) : Int := if o.1 = 0 then 0 else o.1 + 1
theorem zx_k : zkd 100 = 5 := rfl
theorem zx_r0 : zrho 100 0 = some 101 := rfl
theorem zx_r1 : zrho 100 1 = some 413 := rfl
theorem zx_r2 : zrho 100 2 = some 725 := rfl
theorem zx_r4 : zrho 100 4 = some 1037 := rfl
theorem zx_r5 : zrho 100 5 = some 3535 := rfl
theorem zx_r6 : zrho 100 6 = some 3545 := rfl
theorem zx_r7 : zrho 100 7 = some 3549 := rfl
theorem zx_r8 : zrho 100 8 = some 3550 := rfl
theorem zx_r10 : zrho 100 10 = some 3552 := rfl
theorem zx_s : zst 101 := Or.inl rfl
theorem zx_k1 : zkd 101 = 3 := rfl
theorem zx_k2 : zkd 102 = 2 := rfl
theorem zx_l : zrho 101 0 = some 102 := rfl
theorem zSr.lawn {σ σ' : ZI} {S : Nat} {g g' : zW} (h : zSr σ S g) (hl : zLr σ' (S + 1) g') (hf : zfr σ σ' (S + 1)) (he : ∀ j, 200 ≤ j → g' j = g j) : zSr σ' S g' := by
  obtain ⟨o, ho, h1, h2, h3, h4, h5⟩ := h
  have eS : σ' S = σ S := hf S (by omega)
  refine ⟨o, ho, by rw [eS]; exact h1, by rw [eS, he _ (by omega)]; exact h2, by rw [eS, he _ (by omega)]; exact h3, hl, fun k hk => ?_⟩
  rw [he _ (by omega)] at hk
  have e : zgl k g' = zgl k g := funext fun j => he _ (by omega)
  rw [e]
  exact (h5 k hk).frame (fun a _ _ => hf a (by omega))
theorem aAdd_hi {c d : Int} {w : zW} {j : Nat} (h0 : w 0 ≤ 4) (h : 200 ≤ j) : aAdd c d w j = w j := by
  unfold aAdd
  rw [wu_o (by omega), wu_o (by omega), wu_o (by omega), wu_o (by omega), wu_o (by omega)]
theorem aDrop_hi {h : Nat} {w : zW} {j : Nat} (h0 : w 0 ≤ 4) (hj : 200 ≤ j) : aDrop h w j = w j := by
  unfold aDrop
  rw [if_neg (by omega), if_neg (by omega), if_neg (by omega)]
theorem zSr_z {w : zW} {N : Int} (ok : zSok N w) : zok N (wu w 201 0) := zok_cg ok.2.2.1 (fun j hj => wu_o (by omega))
section
variable {σ : ZI} {Q : ZO → ZT → ZI → Prop} {x n : Nat} {w : zW} {N : Int}
theorem t_refuse {a b : Int} : WM 118 [.inr (.inl (some 100)), .inl a, .inl b] (3565, x, zrho) σ Q = Q (.inl (some (.inl 3))) (3565, x, zrho) (zup (zup σ 100 12 a) 100 13 b) := by
  show Wp 118 0 [some (.inr (.inl (some 100))), some (.inl a), some (.inl b)] [] _ _ Q = _
  have k := zx_k
  simp (disch := first | assumption | exact p_c2i | exact p_c2r | exact p_c2n | omega | ((repeat (first | refine p_a1i.trans ?_ | refine p_a1r.trans ?_)); exact p_a10) | ((repeat (first | refine p_wI ?_ | refine p_wR ?_)); exact p_w0) | decide) only [reduceIte, Int.reduceLT, Int.reduceLE, Int.reduceEq, Int.reduceToNat, Int.reduceAdd, Int.reduceSub, Int.reduceMul, Int.reduceNeg, e118_0, e118_1, e118_2, e118_5, e118_6, e118_7, e118_10, e118_11, p_al0, p_il1, p_putI, p_il2, p_push, p_ret0, WN_nx, WN_nrt, WN_ite]
theorem t_faultManner {v : Int} (hR : zLr σ 102 w) (ok : zok N w) (hv : -2147483648 ≤ v ∧ v < 2147483648) : WM 129 [.inr (.inl (some 100)), .inl v] (3565, x, zrho) σ Q = Q (.inl (some (.inl (cF1 (oManner w v))))) (3565, x, zrho) (zref σ (oManner w v)) := by
  show Wp 129 0 [some (.inr (.inl (some 100))), some (.inl v)] [] _ _ Q = _
  have k := zx_k
  have k1 := zx_k1
  have k2 := zx_k2
  have h2 := hR.h2
  have o2 := ok.2.2.1
  obtain ⟨hv1, hv2⟩ := hv
  unfold oManner
  by_cases c1 : 0 ≤ v ∧ v ≤ 2
  · rw [if_neg (fun z => z c1)]
    have d1 : (v < 0) = False := eq_false (by omega)
    have d2 : (v < 3) = True := eq_true (by omega)
    by_cases c2 : w 2 = v
    · rw [if_pos c2, zref_1 (by decide)]
      simp (disch := first | assumption | exact p_c2i | exact p_c2r | exact p_c2n | omega | ((repeat (first | refine p_a1i.trans ?_ | refine p_a1r.trans ?_)); exact p_a10) | ((repeat (first | refine p_wI ?_ | refine p_wR ?_)); exact p_w0) | decide) only [reduceIte, Int.reduceLT, Int.reduceLE, Int.reduceEq, Int.reduceToNat, Int.reduceAdd, Int.reduceSub, Int.reduceMul, Int.reduceNeg, e129_0, e129_1, e129_4, e129_5, e129_6, e129_9, e129_10, e129_11, e129_12, e129_13, e129_16, e129_19, e129_22, e129_25, e129_26, e129_27, e129_28, e129_31, e129_34, e129_35, p_il1, p_iflt, p_push, p_clt, p_ret0, p_al0, p_getR, p_getI, p_cne, p_cv2_0, p_cv2_1, p_cv2_2, p_cv2_3, p_cv2_4, zK_v, zK_0, WN_ncl, p_goto, WN_nx, WN_nrt, WN_ite, d1, d2, zx_r0, zx_l, h2, c2, t_refuse]
      rfl
    · rw [if_neg c2, zref_0]
      have c3 : (v = w 2) = False := eq_false (fun z => c2 z.symm)
      simp (disch := first | assumption | exact p_c2i | exact p_c2r | exact p_c2n | omega | ((repeat (first | refine p_a1i.trans ?_ | refine p_a1r.trans ?_)); exact p_a10) | ((repeat (first | refine p_wI ?_ | refine p_wR ?_)); exact p_w0) | decide) only [reduceIte, Int.reduceLT, Int.reduceLE, Int.reduceEq, Int.reduceToNat, Int.reduceAdd, Int.reduceSub, Int.reduceMul, Int.reduceNeg, e129_0, e129_1, e129_4, e129_5, e129_6, e129_9, e129_10, e129_11, e129_12, e129_13, e129_16, e129_19, e129_22, e129_25, e129_26, e129_27, e129_28, e129_31, e129_34, e129_35, p_il1, p_iflt, p_push, p_clt, p_ret0, p_al0, p_getR, p_getI, p_cne, p_cv2_0, p_cv2_1, p_cv2_2, p_cv2_3, p_cv2_4, zK_v, zK_0, WN_ncl, p_goto, WN_nx, WN_nrt, WN_ite, d1, d2, zx_r0, zx_l, h2, c3]
      rfl
  · rw [if_pos c1, zref_0]
    by_cases c3 : 0 ≤ v
    · have d1 : (v < 0) = False := eq_false (by omega)
      have d2 : (v < 3) = False := eq_false (by omega)
      simp (disch := first | assumption | exact p_c2i | exact p_c2r | exact p_c2n | omega | ((repeat (first | refine p_a1i.trans ?_ | refine p_a1r.trans ?_)); exact p_a10) | ((repeat (first | refine p_wI ?_ | refine p_wR ?_)); exact p_w0) | decide) only [reduceIte, Int.reduceLT, Int.reduceLE, Int.reduceEq, Int.reduceToNat, Int.reduceAdd, Int.reduceSub, Int.reduceMul, Int.reduceNeg, e129_0, e129_1, e129_4, e129_5, e129_6, e129_9, e129_10, e129_11, e129_12, e129_13, e129_16, e129_19, e129_22, e129_25, e129_26, e129_27, e129_28, e129_31, e129_34, e129_35, p_il1, p_iflt, p_push, p_clt, p_ret0, p_al0, p_getR, p_getI, p_cne, p_cv2_0, p_cv2_1, p_cv2_2, p_cv2_3, p_cv2_4, zK_v, zK_0, WN_ncl, p_goto, WN_nx, WN_nrt, WN_ite, d1, d2]
      rfl
    · have d1 : (v < 0) = True := eq_true (by omega)
      simp (disch := first | assumption | exact p_c2i | exact p_c2r | exact p_c2n | omega | ((repeat (first | refine p_a1i.trans ?_ | refine p_a1r.trans ?_)); exact p_a10) | ((repeat (first | refine p_wI ?_ | refine p_wR ?_)); exact p_w0) | decide) only [reduceIte, Int.reduceLT, Int.reduceLE, Int.reduceEq, Int.reduceToNat, Int.reduceAdd, Int.reduceSub, Int.reduceMul, Int.reduceNeg, e129_0, e129_1, e129_4, e129_5, e129_6, e129_9, e129_10, e129_11, e129_12, e129_13, e129_16, e129_19, e129_22, e129_25, e129_26, e129_27, e129_28, e129_31, e129_34, e129_35, p_il1, p_iflt, p_push, p_clt, p_ret0, p_al0, p_getR, p_getI, p_cne, p_cv2_0, p_cv2_1, p_cv2_2, p_cv2_3, p_cv2_4, zK_v, zK_0, WN_ncl, p_goto, WN_nx, WN_nrt, WN_ite, d1]
      rfl
theorem t_faultTurn {t v : Int} (hR : zLr σ 102 w) (ok : zok N w) (ht : -2147483648 ≤ t ∧ t < 2147483648) (hv : -2147483648 ≤ v ∧ v < 2147483648) : WM 125 [.inr (.inl (some 100)), .inl t, .inl v] (3565, x, zrho) σ Q = Q (.inl (some (.inl (cF1 (oTurn w t v))))) (3565, x, zrho) (zref σ (oTurn w t v)) := by
  show Wp 125 0 [some (.inr (.inl (some 100))), some (.inl t), some (.inl v)] [] _ _ Q = _
  have k := zx_k
  have k1 := zx_k1
  have k2 := zx_k2
  obtain ⟨hv1, hv2⟩ := hv
  obtain ⟨ht1, ht2⟩ := ht
  unfold oTurn
  by_cases c1 : (0 ≤ t ∧ t ≤ 3) ∧ (0 ≤ v ∧ v ≤ 3)
  · rw [if_neg (fun z => z c1)]
    obtain ⟨⟨q1, q2⟩, q3, q4⟩ := c1
    have d1 : (t < 0) = False := eq_false (by omega)
    have d2 : (t < 4) = True := eq_true (by omega)
    have d3 : (v < 0) = False := eq_false (by omega)
    have d4 : (v < 4) = True := eq_true (by omega)
    have g := hR.2.1 t.toNat (by omega)
    have o := ok.2.2.2.2.2.2.1 t.toNat (by omega)
    have tt := fun (Q : ZO → ZT → ZI → Prop) => t_turnOf (L := 102) (Q := Q) (x := x) (σ := σ) (c := t) k2 q1 (by omega)
    rw [show 102 + 3 = 105 from rfl] at tt g
    by_cases c2 : w (6 + t.toNat) = v
    · rw [if_pos c2, zref_1 (by decide)]
      have c3 : (v = w (6 + t.toNat)) = True := eq_true c2.symm
      simp (disch := first | assumption | exact p_c2i | exact p_c2r | exact p_c2n | omega | ((repeat (first | refine p_a1i.trans ?_ | refine p_a1r.trans ?_)); exact p_a10) | ((repeat (first | refine p_wI ?_ | refine p_wR ?_)); exact p_w0) | decide) only [reduceIte, Int.reduceLT, Int.reduceLE, Int.reduceEq, Int.reduceToNat, Int.reduceAdd, Int.reduceSub, Int.reduceMul, Int.reduceNeg, e125_0, e125_1, e125_4, e125_5, e125_6, e125_9, e125_10, e125_13, e125_14, e125_15, e125_18, e125_19, e125_20, e125_21, e125_22, e125_25, e125_28, e125_29, e125_32, e125_35, e125_36, e125_37, e125_38, e125_41, e125_44, e125_45, p_il1, p_iflt, p_push, p_cge, p_il2, p_clt, p_ret0, p_al0, p_getR, p_cv1_0, p_cv1_1, p_cv1_2, p_cv1_3, p_cv1_4, zK_v, zK_0, WN_ncl, p_cne, p_cv2_0, p_cv2_1, p_cv2_2, p_cv2_3, p_cv2_4, p_goto, WN_nx, WN_nrt, WN_ite, d1, d2, d3, d4, zx_r0, zx_l, tt, g, c3, t_refuse]
      rfl
    · rw [if_neg c2, zref_0]
      have c3 : (v = w (6 + t.toNat)) = False := eq_false (fun z => c2 z.symm)
      simp (disch := first | assumption | exact p_c2i | exact p_c2r | exact p_c2n | omega | ((repeat (first | refine p_a1i.trans ?_ | refine p_a1r.trans ?_)); exact p_a10) | ((repeat (first | refine p_wI ?_ | refine p_wR ?_)); exact p_w0) | decide) only [reduceIte, Int.reduceLT, Int.reduceLE, Int.reduceEq, Int.reduceToNat, Int.reduceAdd, Int.reduceSub, Int.reduceMul, Int.reduceNeg, e125_0, e125_1, e125_4, e125_5, e125_6, e125_9, e125_10, e125_13, e125_14, e125_15, e125_18, e125_19, e125_20, e125_21, e125_22, e125_25, e125_28, e125_29, e125_32, e125_35, e125_36, e125_37, e125_38, e125_41, e125_44, e125_45, p_il1, p_iflt, p_push, p_cge, p_il2, p_clt, p_ret0, p_al0, p_getR, p_cv1_0, p_cv1_1, p_cv1_2, p_cv1_3, p_cv1_4, zK_v, zK_0, WN_ncl, p_cne, p_cv2_0, p_cv2_1, p_cv2_2, p_cv2_3, p_cv2_4, p_goto, WN_nx, WN_nrt, WN_ite, d1, d2, d3, d4, zx_r0, zx_l, tt, g, c3]
      rfl
  · rw [if_pos c1, zref_0]
    by_cases q1 : 0 ≤ t
    · have d1 : (t < 0) = False := eq_false (by omega)
      by_cases q2 : t < 4
      · by_cases q3 : 0 ≤ v
        · have d3 : (v < 0) = False := eq_false (by omega)
          have d4 : (v < 4) = False := eq_false (by omega)
          simp (disch := first | assumption | exact p_c2i | exact p_c2r | exact p_c2n | omega | ((repeat (first | refine p_a1i.trans ?_ | refine p_a1r.trans ?_)); exact p_a10) | ((repeat (first | refine p_wI ?_ | refine p_wR ?_)); exact p_w0) | decide) only [reduceIte, Int.reduceLT, Int.reduceLE, Int.reduceEq, Int.reduceToNat, Int.reduceAdd, Int.reduceSub, Int.reduceMul, Int.reduceNeg, e125_0, e125_1, e125_4, e125_5, e125_6, e125_9, e125_10, e125_13, e125_14, e125_15, e125_18, e125_19, e125_20, e125_21, e125_22, e125_25, e125_28, e125_29, e125_32, e125_35, e125_36, e125_37, e125_38, e125_41, e125_44, e125_45, p_il1, p_iflt, p_push, p_cge, p_il2, p_clt, p_ret0, p_al0, p_getR, p_cv1_0, p_cv1_1, p_cv1_2, p_cv1_3, p_cv1_4, zK_v, zK_0, WN_ncl, p_cne, p_cv2_0, p_cv2_1, p_cv2_2, p_cv2_3, p_cv2_4, p_goto, WN_nx, WN_nrt, WN_ite, d1, q2, d3, d4]
          rfl
        · have d3 : (v < 0) = True := eq_true (by omega)
          simp (disch := first | assumption | exact p_c2i | exact p_c2r | exact p_c2n | omega | ((repeat (first | refine p_a1i.trans ?_ | refine p_a1r.trans ?_)); exact p_a10) | ((repeat (first | refine p_wI ?_ | refine p_wR ?_)); exact p_w0) | decide) only [reduceIte, Int.reduceLT, Int.reduceLE, Int.reduceEq, Int.reduceToNat, Int.reduceAdd, Int.reduceSub, Int.reduceMul, Int.reduceNeg, e125_0, e125_1, e125_4, e125_5, e125_6, e125_9, e125_10, e125_13, e125_14, e125_15, e125_18, e125_19, e125_20, e125_21, e125_22, e125_25, e125_28, e125_29, e125_32, e125_35, e125_36, e125_37, e125_38, e125_41, e125_44, e125_45, p_il1, p_iflt, p_push, p_cge, p_il2, p_clt, p_ret0, p_al0, p_getR, p_cv1_0, p_cv1_1, p_cv1_2, p_cv1_3, p_cv1_4, zK_v, zK_0, WN_ncl, p_cne, p_cv2_0, p_cv2_1, p_cv2_2, p_cv2_3, p_cv2_4, p_goto, WN_nx, WN_nrt, WN_ite, d1, q2, d3]
          rfl
      · simp (disch := first | assumption | exact p_c2i | exact p_c2r | exact p_c2n | omega | ((repeat (first | refine p_a1i.trans ?_ | refine p_a1r.trans ?_)); exact p_a10) | ((repeat (first | refine p_wI ?_ | refine p_wR ?_)); exact p_w0) | decide) only [reduceIte, Int.reduceLT, Int.reduceLE, Int.reduceEq, Int.reduceToNat, Int.reduceAdd, Int.reduceSub, Int.reduceMul, Int.reduceNeg, e125_0, e125_1, e125_4, e125_5, e125_6, e125_9, e125_10, e125_13, e125_14, e125_15, e125_18, e125_19, e125_20, e125_21, e125_22, e125_25, e125_28, e125_29, e125_32, e125_35, e125_36, e125_37, e125_38, e125_41, e125_44, e125_45, p_il1, p_iflt, p_push, p_cge, p_il2, p_clt, p_ret0, p_al0, p_getR, p_cv1_0, p_cv1_1, p_cv1_2, p_cv1_3, p_cv1_4, zK_v, zK_0, WN_ncl, p_cne, p_cv2_0, p_cv2_1, p_cv2_2, p_cv2_3, p_cv2_4, p_goto, WN_nx, WN_nrt, WN_ite, d1, q2]
        rfl
    · have d1 : (t < 0) = True := eq_true (by omega)
      simp (disch := first | assumption | exact p_c2i | exact p_c2r | exact p_c2n | omega | ((repeat (first | refine p_a1i.trans ?_ | refine p_a1r.trans ?_)); exact p_a10) | ((repeat (first | refine p_wI ?_ | refine p_wR ?_)); exact p_w0) | decide) only [reduceIte, Int.reduceLT, Int.reduceLE, Int.reduceEq, Int.reduceToNat, Int.reduceAdd, Int.reduceSub, Int.reduceMul, Int.reduceNeg, e125_0, e125_1, e125_4, e125_5, e125_6, e125_9, e125_10, e125_13, e125_14, e125_15, e125_18, e125_19, e125_20, e125_21, e125_22, e125_25, e125_28, e125_29, e125_32, e125_35, e125_36, e125_37, e125_38, e125_41, e125_44, e125_45, p_il1, p_iflt, p_push, p_cge, p_il2, p_clt, p_ret0, p_al0, p_getR, p_cv1_0, p_cv1_1, p_cv1_2, p_cv1_3, p_cv1_4, zK_v, zK_0, WN_ncl, p_cne, p_cv2_0, p_cv2_1, p_cv2_2, p_cv2_3, p_cv2_4, p_goto, WN_nx, WN_nrt, WN_ite, d1]
      rfl
theorem t_faultColours {v : Int} (hR : zLr σ 102 w) (ok : zok N w) (hv : -2147483648 ≤ v ∧ v < 2147483648) : WM 123 [.inr (.inl (some 100)), .inl v] (3565, x, zrho) σ Q = Q (.inl (some (.inl (cF1 (oMany w v))))) (3565, x, zrho) (zref σ (oMany w v)) := by
  show Wp 123 0 [some (.inr (.inl (some 100))), some (.inl v)] [] _ _ Q = _
  have k := zx_k
  have k1 := zx_k1
  have k2 := zx_k2
  have h1 := hR.h1
  have o1 := ok.2.1
  obtain ⟨hv1, hv2⟩ := hv
  unfold oMany
  by_cases c1 : 2 ≤ v ∧ v ≤ 4
  · rw [if_neg (fun z => z c1)]
    have d1 : (v < 2) = False := eq_false (by omega)
    have d2 : (4 < v) = False := eq_false (by omega)
    by_cases c2 : v = w 1
    · rw [if_pos c2, zref_1 (by decide)]
      have c3 : (v = w 1) = True := eq_true c2
      simp (disch := first | assumption | exact p_c2i | exact p_c2r | exact p_c2n | omega | ((repeat (first | refine p_a1i.trans ?_ | refine p_a1r.trans ?_)); exact p_a10) | ((repeat (first | refine p_wI ?_ | refine p_wR ?_)); exact p_w0) | decide) only [reduceIte, Int.reduceLT, Int.reduceLE, Int.reduceEq, Int.reduceToNat, Int.reduceAdd, Int.reduceSub, Int.reduceMul, Int.reduceNeg, e123_0, e123_1, e123_2, e123_5, e123_6, e123_7, e123_10, e123_11, e123_12, e123_13, e123_14, e123_17, e123_20, e123_23, e123_26, e123_27, e123_28, e123_29, e123_32, e123_35, e123_36, p_il1, p_push, p_clt, p_cle, p_ret0, p_al0, p_getR, p_getI, p_cne, p_cv2_0, p_cv2_1, p_cv2_2, p_cv2_3, p_cv2_4, zK_v, zK_0, WN_ncl, p_goto, WN_nx, WN_nrt, WN_ite, d1, d2, zx_r0, zx_l, h1, c3, t_refuse]
      rfl
    · rw [if_neg c2, zref_0]
      simp (disch := first | assumption | exact p_c2i | exact p_c2r | exact p_c2n | omega | ((repeat (first | refine p_a1i.trans ?_ | refine p_a1r.trans ?_)); exact p_a10) | ((repeat (first | refine p_wI ?_ | refine p_wR ?_)); exact p_w0) | decide) only [reduceIte, Int.reduceLT, Int.reduceLE, Int.reduceEq, Int.reduceToNat, Int.reduceAdd, Int.reduceSub, Int.reduceMul, Int.reduceNeg, e123_0, e123_1, e123_2, e123_5, e123_6, e123_7, e123_10, e123_11, e123_12, e123_13, e123_14, e123_17, e123_20, e123_23, e123_26, e123_27, e123_28, e123_29, e123_32, e123_35, e123_36, p_il1, p_push, p_clt, p_cle, p_ret0, p_al0, p_getR, p_getI, p_cne, p_cv2_0, p_cv2_1, p_cv2_2, p_cv2_3, p_cv2_4, zK_v, zK_0, WN_ncl, p_goto, WN_nx, WN_nrt, WN_ite, d1, d2, zx_r0, zx_l, h1, c2]
      rfl
  · rw [if_pos c1, zref_0]
    by_cases c3 : 2 ≤ v
    · have d1 : (v < 2) = False := eq_false (by omega)
      have d2 : (4 < v) = True := eq_true (by omega)
      simp (disch := first | assumption | exact p_c2i | exact p_c2r | exact p_c2n | omega | ((repeat (first | refine p_a1i.trans ?_ | refine p_a1r.trans ?_)); exact p_a10) | ((repeat (first | refine p_wI ?_ | refine p_wR ?_)); exact p_w0) | decide) only [reduceIte, Int.reduceLT, Int.reduceLE, Int.reduceEq, Int.reduceToNat, Int.reduceAdd, Int.reduceSub, Int.reduceMul, Int.reduceNeg, e123_0, e123_1, e123_2, e123_5, e123_6, e123_7, e123_10, e123_11, e123_12, e123_13, e123_14, e123_17, e123_20, e123_23, e123_26, e123_27, e123_28, e123_29, e123_32, e123_35, e123_36, p_il1, p_push, p_clt, p_cle, p_ret0, p_al0, p_getR, p_getI, p_cne, p_cv2_0, p_cv2_1, p_cv2_2, p_cv2_3, p_cv2_4, zK_v, zK_0, WN_ncl, p_goto, WN_nx, WN_nrt, WN_ite, d1, d2]
      rfl
    · have d1 : (v < 2) = True := eq_true (by omega)
      simp (disch := first | assumption | exact p_c2i | exact p_c2r | exact p_c2n | omega | ((repeat (first | refine p_a1i.trans ?_ | refine p_a1r.trans ?_)); exact p_a10) | ((repeat (first | refine p_wI ?_ | refine p_wR ?_)); exact p_w0) | decide) only [reduceIte, Int.reduceLT, Int.reduceLE, Int.reduceEq, Int.reduceToNat, Int.reduceAdd, Int.reduceSub, Int.reduceMul, Int.reduceNeg, e123_0, e123_1, e123_2, e123_5, e123_6, e123_7, e123_10, e123_11, e123_12, e123_13, e123_14, e123_17, e123_20, e123_23, e123_26, e123_27, e123_28, e123_29, e123_32, e123_35, e123_36, p_il1, p_push, p_clt, p_cle, p_ret0, p_al0, p_getR, p_getI, p_cne, p_cv2_0, p_cv2_1, p_cv2_2, p_cv2_3, p_cv2_4, zK_v, zK_0, WN_ncl, p_goto, WN_nx, WN_nrt, WN_ite, d1]
      rfl
theorem t_faultPaint {r c v : Int} (hR : zLr σ 102 w) (ok : zok N w) (hr : -2147483648 ≤ r ∧ r < 2147483648) (hc : -2147483648 ≤ c ∧ c < 2147483648) (hv : -2147483648 ≤ v ∧ v < 2147483648) : WM 127 [.inr (.inl (some 100)), .inl r, .inl c, .inl v] (3565, x, zrho) σ Q = Q (.inl (some (.inl (oPaint w r c v).1))) (3565, x, zrho) (zref σ (oPaint w r c v)) := by
  show Wp 127 0 [some (.inr (.inl (some 100))), some (.inl r), some (.inl c), some (.inl v)] [] _ _ Q = _
  have k := zx_k
  have k1 := zx_k1
  have k2 := zx_k2
  have h1 := hR.h1
  have o1 := ok.2.1
  have ti := fun (Q : ZO → ZT → ZI → Prop) (σ : ZI) (θ : ZT) => t_isCell (Q := Q) (θ := θ) (σ := σ) hr.1 hr.2 hc.1 hc.2
  obtain ⟨hv1, hv2⟩ := hv
  unfold oPaint
  by_cases c1 : (0 ≤ r ∧ r < 9) ∧ (0 ≤ c ∧ c < 9)
  · rw [if_pos c1] at ti
    rw [if_neg (fun z => z c1)]
    have g := hR.2.2.1 (9 * r + c).toNat (by omega)
    have o := ok.2.2.2.2.2.2.2.1 (9 * r + c).toNat (by omega)
    have tt := fun (Q : ZO → ZT → ZI → Prop) => t_colourOf (L := 102) (Q := Q) (x := x) (σ := σ) (c := 9 * r + c) k2 (by omega) (by omega)
    rw [show 102 + 1 = 103 from rfl] at tt g
    by_cases c3 : 0 ≤ v ∧ v < w 1
    · rw [if_neg (fun z => z c3)]
      have d1 : (v < 0) = False := eq_false (by omega)
      have d2 : (v < w 1) = True := eq_true c3.2
      by_cases c2 : w (10 + (9 * r + c).toNat) = v
      · rw [if_pos c2, zref_1 (by decide)]
        have c4 : (v = w (10 + (9 * r + c).toNat)) = True := eq_true c2.symm
        simp (disch := first | assumption | exact p_c2i | exact p_c2r | exact p_c2n | omega | ((repeat (first | refine p_a1i.trans ?_ | refine p_a1r.trans ?_)); exact p_a10) | ((repeat (first | refine p_wI ?_ | refine p_wR ?_)); exact p_w0) | decide) only [reduceIte, Int.reduceLT, Int.reduceLE, Int.reduceEq, Int.reduceToNat, Int.reduceAdd, Int.reduceSub, Int.reduceMul, Int.reduceNeg, e127_0, e127_1, e127_2, e127_5, e127_8, e127_9, e127_10, e127_11, e127_14, e127_15, e127_16, e127_19, e127_22, e127_25, e127_28, e127_29, e127_30, e127_31, e127_32, e127_35, e127_38, e127_39, e127_40, e127_43, e127_46, e127_49, e127_50, e127_51, e127_52, e127_55, e127_58, e127_59, p_il1, p_il2, p_cs2_0, p_cs2_1, p_cs2_2, p_cs2_3, p_cs2_4, zK_v, zK_0, WN_ncl, p_ifne, p_push, p_ret0, p_il3, p_iflt, p_al0, p_getR, p_getI, p_clt, p_cv1_0, p_cv1_1, p_cv1_2, p_cv1_3, p_cv1_4, p_cne, p_cv2_0, p_cv2_1, p_cv2_2, p_cv2_3, p_cv2_4, p_goto, WN_nx, WN_nrt, WN_ite, ti, d1, d2, zx_r0, zx_l, h1, t_cellOf, tt, g, c4, t_refuse]
      · rw [if_neg c2, zref_0]
        have c4 : (v = w (10 + (9 * r + c).toNat)) = False := eq_false (fun z => c2 z.symm)
        simp (disch := first | assumption | exact p_c2i | exact p_c2r | exact p_c2n | omega | ((repeat (first | refine p_a1i.trans ?_ | refine p_a1r.trans ?_)); exact p_a10) | ((repeat (first | refine p_wI ?_ | refine p_wR ?_)); exact p_w0) | decide) only [reduceIte, Int.reduceLT, Int.reduceLE, Int.reduceEq, Int.reduceToNat, Int.reduceAdd, Int.reduceSub, Int.reduceMul, Int.reduceNeg, e127_0, e127_1, e127_2, e127_5, e127_8, e127_9, e127_10, e127_11, e127_14, e127_15, e127_16, e127_19, e127_22, e127_25, e127_28, e127_29, e127_30, e127_31, e127_32, e127_35, e127_38, e127_39, e127_40, e127_43, e127_46, e127_49, e127_50, e127_51, e127_52, e127_55, e127_58, e127_59, p_il1, p_il2, p_cs2_0, p_cs2_1, p_cs2_2, p_cs2_3, p_cs2_4, zK_v, zK_0, WN_ncl, p_ifne, p_push, p_ret0, p_il3, p_iflt, p_al0, p_getR, p_getI, p_clt, p_cv1_0, p_cv1_1, p_cv1_2, p_cv1_3, p_cv1_4, p_cne, p_cv2_0, p_cv2_1, p_cv2_2, p_cv2_3, p_cv2_4, p_goto, WN_nx, WN_nrt, WN_ite, ti, d1, d2, zx_r0, zx_l, h1, t_cellOf, tt, g, c4]
    · rw [if_pos c3, zref_0]
      by_cases q : 0 ≤ v
      · have d1 : (v < 0) = False := eq_false (by omega)
        have d2 : (v < w 1) = False := eq_false (by omega)
        simp (disch := first | assumption | exact p_c2i | exact p_c2r | exact p_c2n | omega | ((repeat (first | refine p_a1i.trans ?_ | refine p_a1r.trans ?_)); exact p_a10) | ((repeat (first | refine p_wI ?_ | refine p_wR ?_)); exact p_w0) | decide) only [reduceIte, Int.reduceLT, Int.reduceLE, Int.reduceEq, Int.reduceToNat, Int.reduceAdd, Int.reduceSub, Int.reduceMul, Int.reduceNeg, e127_0, e127_1, e127_2, e127_5, e127_8, e127_9, e127_10, e127_11, e127_14, e127_15, e127_16, e127_19, e127_22, e127_25, e127_28, e127_29, e127_30, e127_31, e127_32, e127_35, e127_38, e127_39, e127_40, e127_43, e127_46, e127_49, e127_50, e127_51, e127_52, e127_55, e127_58, e127_59, p_il1, p_il2, p_cs2_0, p_cs2_1, p_cs2_2, p_cs2_3, p_cs2_4, zK_v, zK_0, WN_ncl, p_ifne, p_push, p_ret0, p_il3, p_iflt, p_al0, p_getR, p_getI, p_clt, p_cv1_0, p_cv1_1, p_cv1_2, p_cv1_3, p_cv1_4, p_cne, p_cv2_0, p_cv2_1, p_cv2_2, p_cv2_3, p_cv2_4, p_goto, WN_nx, WN_nrt, WN_ite, ti, d1, d2, zx_r0, zx_l, h1]
      · have d1 : (v < 0) = True := eq_true (by omega)
        simp (disch := first | assumption | exact p_c2i | exact p_c2r | exact p_c2n | omega | ((repeat (first | refine p_a1i.trans ?_ | refine p_a1r.trans ?_)); exact p_a10) | ((repeat (first | refine p_wI ?_ | refine p_wR ?_)); exact p_w0) | decide) only [reduceIte, Int.reduceLT, Int.reduceLE, Int.reduceEq, Int.reduceToNat, Int.reduceAdd, Int.reduceSub, Int.reduceMul, Int.reduceNeg, e127_0, e127_1, e127_2, e127_5, e127_8, e127_9, e127_10, e127_11, e127_14, e127_15, e127_16, e127_19, e127_22, e127_25, e127_28, e127_29, e127_30, e127_31, e127_32, e127_35, e127_38, e127_39, e127_40, e127_43, e127_46, e127_49, e127_50, e127_51, e127_52, e127_55, e127_58, e127_59, p_il1, p_il2, p_cs2_0, p_cs2_1, p_cs2_2, p_cs2_3, p_cs2_4, zK_v, zK_0, WN_ncl, p_ifne, p_push, p_ret0, p_il3, p_iflt, p_al0, p_getR, p_getI, p_clt, p_cv1_0, p_cv1_1, p_cv1_2, p_cv1_3, p_cv1_4, p_cne, p_cv2_0, p_cv2_1, p_cv2_2, p_cv2_3, p_cv2_4, p_goto, WN_nx, WN_nrt, WN_ite, ti, d1]
  · rw [if_neg c1] at ti
    rw [if_pos c1, zref_0]
    simp (disch := first | assumption | exact p_c2i | exact p_c2r | exact p_c2n | omega | ((repeat (first | refine p_a1i.trans ?_ | refine p_a1r.trans ?_)); exact p_a10) | ((repeat (first | refine p_wI ?_ | refine p_wR ?_)); exact p_w0) | decide) only [reduceIte, Int.reduceLT, Int.reduceLE, Int.reduceEq, Int.reduceToNat, Int.reduceAdd, Int.reduceSub, Int.reduceMul, Int.reduceNeg, e127_0, e127_1, e127_2, e127_5, e127_8, e127_9, e127_10, e127_11, e127_14, e127_15, e127_16, e127_19, e127_22, e127_25, e127_28, e127_29, e127_30, e127_31, e127_32, e127_35, e127_38, e127_39, e127_40, e127_43, e127_46, e127_49, e127_50, e127_51, e127_52, e127_55, e127_58, e127_59, p_il1, p_il2, p_cs2_0, p_cs2_1, p_cs2_2, p_cs2_3, p_cs2_4, zK_v, zK_0, WN_ncl, p_ifne, p_push, p_ret0, p_il3, p_iflt, p_al0, p_getR, p_getI, p_clt, p_cv1_0, p_cv1_1, p_cv1_2, p_cv1_3, p_cv1_4, p_cne, p_cv2_0, p_cv2_1, p_cv2_2, p_cv2_3, p_cv2_4, p_goto, WN_nx, WN_nrt, WN_ite, ti]
theorem t_faultHoe {r c h : Int} (hR : zLr σ 102 w) (ok : zok N w) (hr : -2147483648 ≤ r ∧ r < 2147483648) (hc : -2147483648 ≤ c ∧ c < 2147483648) (hv : -2147483648 ≤ h ∧ h < 2147483648) : WM 119 [.inr (.inl (some 100)), .inl r, .inl c, .inl h] (3565, x, zrho) σ Q = Q (.inl (some (.inl (oHoe w r c h).1))) (3565, x, zrho) (zref σ (oHoe w r c h)) := by
  show Wp 119 0 [some (.inr (.inl (some 100))), some (.inl r), some (.inl c), some (.inl h), none] [] _ _ Q = _
  have k := zx_k
  have k1 := zx_k1
  have k2 := zx_k2
  have h0 := hR.h0
  have o0 := ok.1
  have ti := fun (Q : ZO → ZT → ZI → Prop) (σ : ZI) (θ : ZT) => t_isCell (Q := Q) (θ := θ) (σ := σ) hr.1 hr.2 hc.1 hc.2
  obtain ⟨hv1, hv2⟩ := hv
  unfold oHoe
  by_cases c1 : (0 ≤ r ∧ r < 9) ∧ (0 ≤ c ∧ c < 9)
  · rw [if_pos c1] at ti
    rw [if_neg (fun z => z c1)]
    by_cases c3 : 0 ≤ h ∧ h ≤ 3
    · rw [if_neg (fun z => z c3)]
      have d1 : (h < 0) = False := eq_false (by omega)
      have d2 : (h < 4) = True := eq_true (by omega)
      by_cases c2 : w 0 = 4
      · rw [if_pos c2, zref_1 (by decide)]
        simp (disch := first | assumption | exact p_c2i | exact p_c2r | exact p_c2n | omega | ((repeat (first | refine p_a1i.trans ?_ | refine p_a1r.trans ?_)); exact p_a10) | ((repeat (first | refine p_wI ?_ | refine p_wR ?_)); exact p_w0) | decide) only [reduceIte, Int.reduceLT, Int.reduceLE, Int.reduceEq, Int.reduceToNat, Int.reduceAdd, Int.reduceSub, Int.reduceMul, Int.reduceNeg, e119_0, e119_1, e119_2, e119_5, e119_8, e119_9, e119_10, e119_11, e119_14, e119_15, e119_16, e119_19, e119_20, e119_21, e119_22, e119_25, e119_28, e119_31, e119_32, e119_35, e119_36, e119_37, e119_38, e119_41, e119_44, e119_47, e119_50, e119_51, e119_52, e119_55, e119_58, e119_59, e119_60, e119_63, e119_66, e119_68, e119_70, e119_73, e119_74, e119_75, e119_77, e119_80, e119_83, e119_84, p_il1, p_il2, p_cs2_0, p_cs2_1, p_cs2_2, p_cs2_3, p_cs2_4, zK_v, zK_0, WN_ncl, p_ifne, p_push, p_ret0, p_il3, p_iflt, p_clt, p_al0, p_getR, p_getI, p_cv2_0, p_cv2_1, p_cv2_2, p_cv2_3, p_cv2_4, p_cv1_0, p_cv1_1, p_cv1_2, p_cv1_3, p_cv1_4, p_is4, p_c2n, p_c2i, p_c2r, p_il4, p_goto, WN_nx, WN_nrt, WN_ite, ti, d1, d2, zx_r0, zx_l, h0, c2, t_refuse]
      · rw [if_neg c2]
        have d3 : (w 0 < 4) = True := eq_true (by omega)
        have tl := fun (Q : ZO → ZT → ZI → Prop) => t_lowestOn (L := 102) (Q := Q) (x := x) (σ := σ) (c := 9 * r + c) k2 hR ok (by omega)
        have hl := aLowF_in (w := w) (c := 9 * r + c) 4 0
        have el : aLow w (9 * r + c) = aLowF w (9 * r + c) 0 4 := rfl
        rw [← el] at hl
        by_cases c4 : 0 ≤ aLow w (9 * r + c)
        · rw [if_pos c4, zref_1 (by decide)]
          have d4 : (aLow w (9 * r + c) < 0) = False := eq_false (by omega)
          simp (disch := first | assumption | exact p_c2i | exact p_c2r | exact p_c2n | omega | ((repeat (first | refine p_a1i.trans ?_ | refine p_a1r.trans ?_)); exact p_a10) | ((repeat (first | refine p_wI ?_ | refine p_wR ?_)); exact p_w0) | decide) only [reduceIte, Int.reduceLT, Int.reduceLE, Int.reduceEq, Int.reduceToNat, Int.reduceAdd, Int.reduceSub, Int.reduceMul, Int.reduceNeg, e119_0, e119_1, e119_2, e119_5, e119_8, e119_9, e119_10, e119_11, e119_14, e119_15, e119_16, e119_19, e119_20, e119_21, e119_22, e119_25, e119_28, e119_31, e119_32, e119_35, e119_36, e119_37, e119_38, e119_41, e119_44, e119_47, e119_50, e119_51, e119_52, e119_55, e119_58, e119_59, e119_60, e119_63, e119_66, e119_68, e119_70, e119_73, e119_74, e119_75, e119_77, e119_80, e119_83, e119_84, p_il1, p_il2, p_cs2_0, p_cs2_1, p_cs2_2, p_cs2_3, p_cs2_4, zK_v, zK_0, WN_ncl, p_ifne, p_push, p_ret0, p_il3, p_iflt, p_clt, p_al0, p_getR, p_getI, p_cv2_0, p_cv2_1, p_cv2_2, p_cv2_3, p_cv2_4, p_cv1_0, p_cv1_1, p_cv1_2, p_cv1_3, p_cv1_4, p_is4, p_c2n, p_c2i, p_c2r, p_il4, p_goto, WN_nx, WN_nrt, WN_ite, ti, d1, d2, zx_r0, zx_l, h0, d3, t_cellOf, tl, d4, t_refuse]
        · rw [if_neg c4, zref_0]
          have d4 : (aLow w (9 * r + c) < 0) = True := eq_true (by omega)
          simp (disch := first | assumption | exact p_c2i | exact p_c2r | exact p_c2n | omega | ((repeat (first | refine p_a1i.trans ?_ | refine p_a1r.trans ?_)); exact p_a10) | ((repeat (first | refine p_wI ?_ | refine p_wR ?_)); exact p_w0) | decide) only [reduceIte, Int.reduceLT, Int.reduceLE, Int.reduceEq, Int.reduceToNat, Int.reduceAdd, Int.reduceSub, Int.reduceMul, Int.reduceNeg, e119_0, e119_1, e119_2, e119_5, e119_8, e119_9, e119_10, e119_11, e119_14, e119_15, e119_16, e119_19, e119_20, e119_21, e119_22, e119_25, e119_28, e119_31, e119_32, e119_35, e119_36, e119_37, e119_38, e119_41, e119_44, e119_47, e119_50, e119_51, e119_52, e119_55, e119_58, e119_59, e119_60, e119_63, e119_66, e119_68, e119_70, e119_73, e119_74, e119_75, e119_77, e119_80, e119_83, e119_84, p_il1, p_il2, p_cs2_0, p_cs2_1, p_cs2_2, p_cs2_3, p_cs2_4, zK_v, zK_0, WN_ncl, p_ifne, p_push, p_ret0, p_il3, p_iflt, p_clt, p_al0, p_getR, p_getI, p_cv2_0, p_cv2_1, p_cv2_2, p_cv2_3, p_cv2_4, p_cv1_0, p_cv1_1, p_cv1_2, p_cv1_3, p_cv1_4, p_is4, p_c2n, p_c2i, p_c2r, p_il4, p_goto, WN_nx, WN_nrt, WN_ite, ti, d1, d2, zx_r0, zx_l, h0, d3, t_cellOf, tl, d4]
    · rw [if_pos c3, zref_0]
      by_cases q : 0 ≤ h
      · have d1 : (h < 0) = False := eq_false (by omega)
        have d2 : (h < 4) = False := eq_false (by omega)
        simp (disch := first | assumption | exact p_c2i | exact p_c2r | exact p_c2n | omega | ((repeat (first | refine p_a1i.trans ?_ | refine p_a1r.trans ?_)); exact p_a10) | ((repeat (first | refine p_wI ?_ | refine p_wR ?_)); exact p_w0) | decide) only [reduceIte, Int.reduceLT, Int.reduceLE, Int.reduceEq, Int.reduceToNat, Int.reduceAdd, Int.reduceSub, Int.reduceMul, Int.reduceNeg, e119_0, e119_1, e119_2, e119_5, e119_8, e119_9, e119_10, e119_11, e119_14, e119_15, e119_16, e119_19, e119_20, e119_21, e119_22, e119_25, e119_28, e119_31, e119_32, e119_35, e119_36, e119_37, e119_38, e119_41, e119_44, e119_47, e119_50, e119_51, e119_52, e119_55, e119_58, e119_59, e119_60, e119_63, e119_66, e119_68, e119_70, e119_73, e119_74, e119_75, e119_77, e119_80, e119_83, e119_84, p_il1, p_il2, p_cs2_0, p_cs2_1, p_cs2_2, p_cs2_3, p_cs2_4, zK_v, zK_0, WN_ncl, p_ifne, p_push, p_ret0, p_il3, p_iflt, p_clt, p_al0, p_getR, p_getI, p_cv2_0, p_cv2_1, p_cv2_2, p_cv2_3, p_cv2_4, p_cv1_0, p_cv1_1, p_cv1_2, p_cv1_3, p_cv1_4, p_is4, p_c2n, p_c2i, p_c2r, p_il4, p_goto, WN_nx, WN_nrt, WN_ite, ti, d1, d2]
      · have d1 : (h < 0) = True := eq_true (by omega)
        simp (disch := first | assumption | exact p_c2i | exact p_c2r | exact p_c2n | omega | ((repeat (first | refine p_a1i.trans ?_ | refine p_a1r.trans ?_)); exact p_a10) | ((repeat (first | refine p_wI ?_ | refine p_wR ?_)); exact p_w0) | decide) only [reduceIte, Int.reduceLT, Int.reduceLE, Int.reduceEq, Int.reduceToNat, Int.reduceAdd, Int.reduceSub, Int.reduceMul, Int.reduceNeg, e119_0, e119_1, e119_2, e119_5, e119_8, e119_9, e119_10, e119_11, e119_14, e119_15, e119_16, e119_19, e119_20, e119_21, e119_22, e119_25, e119_28, e119_31, e119_32, e119_35, e119_36, e119_37, e119_38, e119_41, e119_44, e119_47, e119_50, e119_51, e119_52, e119_55, e119_58, e119_59, e119_60, e119_63, e119_66, e119_68, e119_70, e119_73, e119_74, e119_75, e119_77, e119_80, e119_83, e119_84, p_il1, p_il2, p_cs2_0, p_cs2_1, p_cs2_2, p_cs2_3, p_cs2_4, zK_v, zK_0, WN_ncl, p_ifne, p_push, p_ret0, p_il3, p_iflt, p_clt, p_al0, p_getR, p_getI, p_cv2_0, p_cv2_1, p_cv2_2, p_cv2_3, p_cv2_4, p_cv1_0, p_cv1_1, p_cv1_2, p_cv1_3, p_cv1_4, p_is4, p_c2n, p_c2i, p_c2r, p_il4, p_goto, WN_nx, WN_nrt, WN_ite, ti, d1]
  · rw [if_neg c1] at ti
    rw [if_pos c1, zref_0]
    simp (disch := first | assumption | exact p_c2i | exact p_c2r | exact p_c2n | omega | ((repeat (first | refine p_a1i.trans ?_ | refine p_a1r.trans ?_)); exact p_a10) | ((repeat (first | refine p_wI ?_ | refine p_wR ?_)); exact p_w0) | decide) only [reduceIte, Int.reduceLT, Int.reduceLE, Int.reduceEq, Int.reduceToNat, Int.reduceAdd, Int.reduceSub, Int.reduceMul, Int.reduceNeg, e119_0, e119_1, e119_2, e119_5, e119_8, e119_9, e119_10, e119_11, e119_14, e119_15, e119_16, e119_19, e119_20, e119_21, e119_22, e119_25, e119_28, e119_31, e119_32, e119_35, e119_36, e119_37, e119_38, e119_41, e119_44, e119_47, e119_50, e119_51, e119_52, e119_55, e119_58, e119_59, e119_60, e119_63, e119_66, e119_68, e119_70, e119_73, e119_74, e119_75, e119_77, e119_80, e119_83, e119_84, p_il1, p_il2, p_cs2_0, p_cs2_1, p_cs2_2, p_cs2_3, p_cs2_4, zK_v, zK_0, WN_ncl, p_ifne, p_push, p_ret0, p_il3, p_iflt, p_clt, p_al0, p_getR, p_getI, p_cv2_0, p_cv2_1, p_cv2_2, p_cv2_3, p_cv2_4, p_cv1_0, p_cv1_1, p_cv1_2, p_cv1_3, p_cv1_4, p_is4, p_c2n, p_c2i, p_c2r, p_il4, p_goto, WN_nx, WN_nrt, WN_ite, ti]
theorem t_faultStep {v : Int} (hR : zLr σ 102 w) (ok : zok N w) (hv : -2147483648 ≤ v ∧ v < 2147483648) : WM 131 [.inr (.inl (some 100)), .inl v] (3565, x, zrho) σ Q = Q (.inl (some (.inl (cF1 (oStep w v))))) (3565, x, zrho) (zref σ (oStep w v)) := by
  show Wp 131 0 [some (.inr (.inl (some 100))), some (.inl v)] [] _ _ Q = _
  have k := zx_k
  have k1 := zx_k1
  have k2 := zx_k2
  have h0 := hR.h0
  have h3 := hR.h3
  have o0 := ok.1
  obtain ⟨hv1, hv2⟩ := hv
  unfold oStep
  by_cases c1 : 1 ≤ v ∧ v ≤ 40
  · rw [if_neg (fun z => z c1)]
    have d1 : (v < 1) = False := eq_false (by omega)
    have d2 : (40 < v) = False := eq_false (by omega)
    by_cases c2 : w 0 = 0
    · rw [if_pos c2, zref_1 (by decide)]
      simp (disch := first | assumption | exact p_c2i | exact p_c2r | exact p_c2n | omega | ((repeat (first | refine p_a1i.trans ?_ | refine p_a1r.trans ?_)); exact p_a10) | ((repeat (first | refine p_wI ?_ | refine p_wR ?_)); exact p_w0) | decide) only [reduceIte, Int.reduceLT, Int.reduceLE, Int.reduceEq, Int.reduceToNat, Int.reduceAdd, Int.reduceSub, Int.reduceMul, Int.reduceNeg, e131_0, e131_1, e131_2, e131_5, e131_6, e131_8, e131_11, e131_12, e131_13, e131_14, e131_17, e131_20, e131_23, e131_26, e131_27, e131_28, e131_29, e131_32, e131_35, e131_38, e131_41, e131_44, e131_45, p_il1, p_push, p_clt, p_cle, p_ret0, p_al0, p_getR, p_getI, p_ifne, p_cv2_0, p_cv2_1, p_cv2_2, p_cv2_3, p_cv2_4, zK_v, zK_0, WN_ncl, p_goto, WN_nx, WN_nrt, WN_ite, d1, d2, zx_r0, zx_l, h0, h3, c2, t_refuse]
      rfl
    · rw [if_neg c2, zref_0]
      simp (disch := first | assumption | exact p_c2i | exact p_c2r | exact p_c2n | omega | ((repeat (first | refine p_a1i.trans ?_ | refine p_a1r.trans ?_)); exact p_a10) | ((repeat (first | refine p_wI ?_ | refine p_wR ?_)); exact p_w0) | decide) only [reduceIte, Int.reduceLT, Int.reduceLE, Int.reduceEq, Int.reduceToNat, Int.reduceAdd, Int.reduceSub, Int.reduceMul, Int.reduceNeg, e131_0, e131_1, e131_2, e131_5, e131_6, e131_8, e131_11, e131_12, e131_13, e131_14, e131_17, e131_20, e131_23, e131_26, e131_27, e131_28, e131_29, e131_32, e131_35, e131_38, e131_41, e131_44, e131_45, p_il1, p_push, p_clt, p_cle, p_ret0, p_al0, p_getR, p_getI, p_ifne, p_cv2_0, p_cv2_1, p_cv2_2, p_cv2_3, p_cv2_4, zK_v, zK_0, WN_ncl, p_goto, WN_nx, WN_nrt, WN_ite, d1, d2, zx_r0, zx_l, h0, c2]
      rfl
  · rw [if_pos c1, zref_0]
    by_cases c3 : 1 ≤ v
    · have d1 : (v < 1) = False := eq_false (by omega)
      have d2 : (40 < v) = True := eq_true (by omega)
      simp (disch := first | assumption | exact p_c2i | exact p_c2r | exact p_c2n | omega | ((repeat (first | refine p_a1i.trans ?_ | refine p_a1r.trans ?_)); exact p_a10) | ((repeat (first | refine p_wI ?_ | refine p_wR ?_)); exact p_w0) | decide) only [reduceIte, Int.reduceLT, Int.reduceLE, Int.reduceEq, Int.reduceToNat, Int.reduceAdd, Int.reduceSub, Int.reduceMul, Int.reduceNeg, e131_0, e131_1, e131_2, e131_5, e131_6, e131_8, e131_11, e131_12, e131_13, e131_14, e131_17, e131_20, e131_23, e131_26, e131_27, e131_28, e131_29, e131_32, e131_35, e131_38, e131_41, e131_44, e131_45, p_il1, p_push, p_clt, p_cle, p_ret0, p_al0, p_getR, p_getI, p_ifne, p_cv2_0, p_cv2_1, p_cv2_2, p_cv2_3, p_cv2_4, zK_v, zK_0, WN_ncl, p_goto, WN_nx, WN_nrt, WN_ite, d1, d2]
      rfl
    · have d1 : (v < 1) = True := eq_true (by omega)
      simp (disch := first | assumption | exact p_c2i | exact p_c2r | exact p_c2n | omega | ((repeat (first | refine p_a1i.trans ?_ | refine p_a1r.trans ?_)); exact p_a10) | ((repeat (first | refine p_wI ?_ | refine p_wR ?_)); exact p_w0) | decide) only [reduceIte, Int.reduceLT, Int.reduceLE, Int.reduceEq, Int.reduceToNat, Int.reduceAdd, Int.reduceSub, Int.reduceMul, Int.reduceNeg, e131_0, e131_1, e131_2, e131_5, e131_6, e131_8, e131_11, e131_12, e131_13, e131_14, e131_17, e131_20, e131_23, e131_26, e131_27, e131_28, e131_29, e131_32, e131_35, e131_38, e131_41, e131_44, e131_45, p_il1, p_push, p_clt, p_cle, p_ret0, p_al0, p_getR, p_getI, p_ifne, p_cv2_0, p_cv2_1, p_cv2_2, p_cv2_3, p_cv2_4, zK_v, zK_0, WN_ncl, p_goto, WN_nx, WN_nrt, WN_ite, d1]
      rfl
theorem t_faultBack (h3 : σ 101 3 = w 201) (h4 : σ 101 4 = w 200) (ok : zSok N w) : WM 133 [.inr (.inl (some 100))] (3565, x, zrho) σ Q = Q (.inl (some (.inl (if (oBack w).1 = 0 then 0 else 3)))) (3565, x, zrho) (zref σ (oBack w)) := by
  show Wp 133 0 [some (.inr (.inl (some 100)))] [] _ _ Q = _
  have k := zx_k
  have k1 := zx_k1
  have o1 := ok.1
  unfold oBack
  by_cases c1 : w 201 = 0
  · rw [if_pos c1, zref_1 (by decide)]
    simp (disch := first | assumption | exact p_c2i | exact p_c2r | exact p_c2n | omega | ((repeat (first | refine p_a1i.trans ?_ | refine p_a1r.trans ?_)); exact p_a10) | ((repeat (first | refine p_wI ?_ | refine p_wR ?_)); exact p_w0) | decide) only [reduceIte, Int.reduceLT, Int.reduceLE, Int.reduceEq, Int.reduceToNat, Int.reduceAdd, Int.reduceSub, Int.reduceMul, Int.reduceNeg, e133_0, e133_1, e133_4, e133_7, e133_10, e133_11, e133_12, e133_13, e133_16, e133_19, e133_22, e133_25, e133_26, p_al0, p_getR, p_getI, p_ifne, p_push, p_cv2_0, p_cv2_1, p_cv2_2, p_cv2_3, p_cv2_4, zK_v, zK_0, WN_ncl, p_goto, p_ret0, WN_nx, WN_nrt, WN_ite, zx_r0, h3, h4, c1, t_refuse]
  · rw [if_neg c1, zref_0]
    simp (disch := first | assumption | exact p_c2i | exact p_c2r | exact p_c2n | omega | ((repeat (first | refine p_a1i.trans ?_ | refine p_a1r.trans ?_)); exact p_a10) | ((repeat (first | refine p_wI ?_ | refine p_wR ?_)); exact p_w0) | decide) only [reduceIte, Int.reduceLT, Int.reduceLE, Int.reduceEq, Int.reduceToNat, Int.reduceAdd, Int.reduceSub, Int.reduceMul, Int.reduceNeg, e133_0, e133_1, e133_4, e133_7, e133_10, e133_11, e133_12, e133_13, e133_16, e133_19, e133_22, e133_25, e133_26, p_al0, p_getR, p_getI, p_ifne, p_push, p_cv2_0, p_cv2_1, p_cv2_2, p_cv2_3, p_cv2_4, zK_v, zK_0, WN_ncl, p_goto, p_ret0, WN_nx, WN_nrt, WN_ite, zx_r0, h3, c1]
theorem t_faultDrop {h : Int} (hR : zLr σ 102 w) (ok : zok N w) (hv : -2147483648 ≤ h ∧ h < 2147483648) : WM 121 [.inr (.inl (some 100)), .inl h] (3565, x, zrho) σ Q = Q (.inl (some (.inl (if 0 ≤ h ∧ h < w 0 then 0 else 1)))) (3565, x, zrho) σ := by
  show Wp 121 0 [some (.inr (.inl (some 100))), some (.inl h)] [] _ _ Q = _
  have k := zx_k
  have k1 := zx_k1
  have k2 := zx_k2
  have h0 := hR.h0
  have o0 := ok.1
  have ti := fun (Q : ZO → ZT → ZI → Prop) => t_isHoe (L := 102) (θ := (3565, x, zrho)) (Q := Q) (σ := σ) (h := h) k2 hv.1 hv.2 (by omega) (by omega)
  rw [h0] at ti
  by_cases c1 : 0 ≤ h ∧ h < w 0
  · rw [if_pos c1] at ti
    rw [if_pos c1]
    simp (disch := first | assumption | exact p_c2i | exact p_c2r | exact p_c2n | omega | ((repeat (first | refine p_a1i.trans ?_ | refine p_a1r.trans ?_)); exact p_a10) | ((repeat (first | refine p_wI ?_ | refine p_wR ?_)); exact p_w0) | decide) only [reduceIte, Int.reduceLT, Int.reduceLE, Int.reduceEq, Int.reduceToNat, Int.reduceAdd, Int.reduceSub, Int.reduceMul, Int.reduceNeg, e121_0, e121_1, e121_4, e121_7, e121_8, e121_11, e121_14, e121_15, e121_18, e121_19, p_al0, p_getR, p_il1, p_cv1_0, p_cv1_1, p_cv1_2, p_cv1_3, p_cv1_4, zK_v, zK_0, WN_ncl, p_ifeq, p_push, p_goto, p_ret0, WN_nx, WN_nrt, WN_ite, zx_r0, zx_l, ti]
  · rw [if_neg c1] at ti
    rw [if_neg c1]
    simp (disch := first | assumption | exact p_c2i | exact p_c2r | exact p_c2n | omega | ((repeat (first | refine p_a1i.trans ?_ | refine p_a1r.trans ?_)); exact p_a10) | ((repeat (first | refine p_wI ?_ | refine p_wR ?_)); exact p_w0) | decide) only [reduceIte, Int.reduceLT, Int.reduceLE, Int.reduceEq, Int.reduceToNat, Int.reduceAdd, Int.reduceSub, Int.reduceMul, Int.reduceNeg, e121_0, e121_1, e121_4, e121_7, e121_8, e121_11, e121_14, e121_15, e121_18, e121_19, p_al0, p_getR, p_il1, p_cv1_0, p_cv1_1, p_cv1_2, p_cv1_3, p_cv1_4, zK_v, zK_0, WN_ncl, p_ifeq, p_push, p_goto, p_ret0, WN_nx, WN_nrt, WN_ite, zx_r0, zx_l, ti]
end
