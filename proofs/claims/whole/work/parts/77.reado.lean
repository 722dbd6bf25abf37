/-! THE CLASS: the text's error; an order that is read -/
def fO (ts : Nat → Int) (tl : Nat) : Nat → Nat → Int
  | 0, _ => -1
  | f + 1, s => if eO ts tl s < 0 then -1 - eO ts tl s else if (tl : Int) ≤ eO ts tl s then -1 else if sA ts tl (eO ts tl s).toNat ≠ 59 then eO ts tl s else fO ts tl f ((eO ts tl s).toNat + 1)
theorem fO_s {ts : Nat → Int} {tl f s : Nat} : fO ts tl (f + 1) s = if eO ts tl s < 0 then -1 - eO ts tl s else if (tl : Int) ≤ eO ts tl s then -1 else if sA ts tl (eO ts tl s).toNat ≠ 59 then eO ts tl s else fO ts tl f ((eO ts tl s).toNat + 1) := rfl
theorem eO_in {ts : Nat → Int} {tl s : Nat} : -1 - ((s : Int) + 4) ≤ eO ts tl s ∧ eO ts tl s ≤ (s : Int) + 5 ∧ (0 ≤ eO ts tl s → (s : Int) + 1 ≤ eO ts tl s) := by
  unfold eO
  repeat' (first | omega | split)
/-- the first number of an order -/
def rF (ts : Nat → Int) (tl s : Nat) : Int := if sA ts tl s = 115 then (if dA ts tl (s + 2) < 0 then dA ts tl (s + 1) else 10 * dA ts tl (s + 1) + dA ts tl (s + 2)) else dA ts tl (s + 1)
section
variable {σ : ZI} {θ : ZT} {Q : ZO → ZT → ZI → Prop} {x n : Nat} {ts : Nat → Int} {tl : Nat}
theorem l_fault (hs : zTt ts tl) (h : zTc σ ts tl) (hx : zTx σ) : ∀ (n j s : Nat) (l3 : Option ZV), j + n = 61 → s ≤ 60 → z_c2 l3 = false → Wp 61 4 [some (.inr (.inl (some 3550))), some (.inl ((s : Int))), some (.inl ((j : Int))), l3] [] (3565, x, zrho) σ Q = Q (.inl (some (.inl (fO ts tl n s)))) (3565, x, zrho) σ := by
  have k := zt_k
  have h1 := h.1
  have h60 := hs.1
  intro n
  induction n with
  | zero =>
    intro j s l3 hj hs6 q3
    have d1 : ((60 : Int) < (j : Int)) = True := eq_true (by omega)
    simp (disch := first | assumption | exact p_c2i | exact p_c2r | exact p_c2n | omega | ((repeat (first | refine p_a1i.trans ?_ | refine p_a1r.trans ?_)); exact p_a10) | ((repeat (first | refine p_wI ?_ | refine p_wR ?_)); exact p_w0) | decide) only [reduceIte, Int.reduceLT, Int.reduceLE, Int.reduceEq, Int.reduceToNat, Int.reduceAdd, Int.reduceSub, Int.reduceMul, Int.reduceNeg, e61_4, e61_5, e61_7, e61_56, e61_57, p_il2, p_push, p_cgt, p_ret0, WN_nx, WN_nrt, WN_ite, d1]
    rfl
  | succ n ih =>
    intro j s l3 hj hs6 q3
    have d1 : ((60 : Int) < (j : Int)) = False := eq_false (by omega)
    have te := fun (Q : ZO → ZT → ZI → Prop) => t_endOf (x := x) (Q := Q) hs h hx (s := s) (by omega)
    obtain ⟨b1, b2, b3⟩ := eO_in (ts := ts) (tl := tl) (s := s)
    have e1 : (j : Int) + 1 = ((j + 1 : Nat) : Int) := by omega
    rw [fO_s]
    by_cases c1 : eO ts tl s < 0
    · have d2 : (eO ts tl s < 0) = True := eq_true c1
      rw [if_pos c1]
      rw [e61_4]
      simp (disch := first | assumption | exact p_c2i | exact p_c2r | exact p_c2n | omega | ((repeat (first | refine p_a1i.trans ?_ | refine p_a1r.trans ?_)); exact p_a10) | ((repeat (first | refine p_wI ?_ | refine p_wR ?_)); exact p_w0) | decide) only [reduceIte, Int.reduceLT, Int.reduceLE, Int.reduceEq, Int.reduceToNat, Int.reduceAdd, Int.reduceSub, Int.reduceMul, Int.reduceNeg, e61_5, e61_7, e61_10, e61_11, e61_12, e61_15, e61_16, e61_17, e61_20, e61_21, e61_22, e61_23, p_il2, p_push, p_cgt, p_al0, p_il1, p_cv1_0, p_cv1_1, p_cv1_2, p_cv1_3, p_cv1_4, zK_v, zK_0, WN_ncl, p_is3, p_c2n, p_c2i, p_c2r, p_il3, p_ifge, p_bin, p_ret0, WN_nx, WN_nrt, WN_ite, d1, te, d2]
    · have d2 : (eO ts tl s < 0) = False := eq_false c1
      rw [if_neg c1]
      by_cases c2 : (tl : Int) ≤ eO ts tl s
      · have d3 : (eO ts tl s < (tl : Int)) = False := eq_false (by omega)
        rw [if_pos c2]
        rw [e61_4]
        simp (disch := first | assumption | exact p_c2i | exact p_c2r | exact p_c2n | omega | ((repeat (first | refine p_a1i.trans ?_ | refine p_a1r.trans ?_)); exact p_a10) | ((repeat (first | refine p_wI ?_ | refine p_wR ?_)); exact p_w0) | decide) only [reduceIte, Int.reduceLT, Int.reduceLE, Int.reduceEq, Int.reduceToNat, Int.reduceAdd, Int.reduceSub, Int.reduceMul, Int.reduceNeg, e61_5, e61_7, e61_10, e61_11, e61_12, e61_15, e61_16, e61_17, e61_20, e61_21, e61_22, e61_23, e61_24, e61_25, e61_26, e61_29, e61_32, e61_33, p_il2, p_push, p_cgt, p_al0, p_il1, p_cv1_0, p_cv1_1, p_cv1_2, p_cv1_3, p_cv1_4, zK_v, zK_0, WN_ncl, p_is3, p_c2n, p_c2i, p_c2r, p_il3, p_ifge, p_bin, p_ret0, p_getI, p_clt, WN_nx, WN_nrt, WN_ite, d1, te, d2, d3, h1]
      · have d3 : (eO ts tl s < (tl : Int)) = True := eq_true (by omega)
        rw [if_neg c2]
        have tg := fun (Q : ZO → ZT → ZI → Prop) => t_signAt (x := x) (Q := Q) (o := eO ts tl s) (i := (eO ts tl s).toNat) hs h (by omega) (by omega)
        have gb := sA_in hs (eO ts tl s).toNat
        by_cases c3 : sA ts tl (eO ts tl s).toNat ≠ 59
        · rw [if_pos c3]
          rw [e61_4]
          simp (disch := first | assumption | exact p_c2i | exact p_c2r | exact p_c2n | omega | ((repeat (first | refine p_a1i.trans ?_ | refine p_a1r.trans ?_)); exact p_a10) | ((repeat (first | refine p_wI ?_ | refine p_wR ?_)); exact p_w0) | decide) only [reduceIte, Int.reduceLT, Int.reduceLE, Int.reduceEq, Int.reduceToNat, Int.reduceAdd, Int.reduceSub, Int.reduceMul, Int.reduceNeg, e61_5, e61_7, e61_10, e61_11, e61_12, e61_15, e61_16, e61_17, e61_20, e61_21, e61_22, e61_23, e61_24, e61_25, e61_26, e61_29, e61_32, e61_33, e61_34, e61_35, e61_36, e61_39, e61_41, e61_44, e61_45, p_il2, p_push, p_cgt, p_al0, p_il1, p_cv1_0, p_cv1_1, p_cv1_2, p_cv1_3, p_cv1_4, zK_v, zK_0, WN_ncl, p_is3, p_c2n, p_c2i, p_c2r, p_il3, p_ifge, p_bin, p_ret0, p_getI, p_clt, p_ceq, WN_nx, WN_nrt, WN_ite, d1, te, d2, d3, h1, tg, c3]
        · rw [if_neg c3]
          have c4 := Classical.not_not.mp c3
          rw [c4] at tg
          have e2 : eO ts tl s + 1 = (((eO ts tl s).toNat + 1 : Nat) : Int) := by omega
          rw [e61_4]
          simp (disch := first | assumption | exact p_c2i | exact p_c2r | exact p_c2n | omega | ((repeat (first | refine p_a1i.trans ?_ | refine p_a1r.trans ?_)); exact p_a10) | ((repeat (first | refine p_wI ?_ | refine p_wR ?_)); exact p_w0) | decide) only [reduceIte, Int.reduceLT, Int.reduceLE, Int.reduceEq, Int.reduceToNat, Int.reduceAdd, Int.reduceSub, Int.reduceMul, Int.reduceNeg, e61_5, e61_7, e61_10, e61_11, e61_12, e61_15, e61_16, e61_17, e61_20, e61_21, e61_22, e61_23, e61_24, e61_25, e61_26, e61_29, e61_32, e61_33, e61_34, e61_35, e61_36, e61_39, e61_41, e61_44, e61_45, e61_46, e61_47, e61_48, e61_49, e61_50, e61_53, p_il2, p_push, p_cgt, p_al0, p_il1, p_cv1_0, p_cv1_1, p_cv1_2, p_cv1_3, p_cv1_4, zK_v, zK_0, WN_ncl, p_is3, p_c2n, p_c2i, p_c2r, p_il3, p_ifge, p_bin, p_ret0, p_getI, p_clt, p_ceq, p_is1, p_ii2, p_goto, WN_nx, WN_nrt, WN_ite, d1, te, d2, d3, h1, tg, e1, e2]
          exact ih (j + 1) ((eO ts tl s).toNat + 1) _ (by omega) (by omega) rfl
theorem t_fault (hs : zTt ts tl) (h : zTc σ ts tl) (hx : zTx σ) : WM 61 [.inr (.inl (some 3550))] (3565, x, zrho) σ Q = Q (.inl (some (.inl (fO ts tl 61 0)))) (3565, x, zrho) σ := by
  show Wp 61 0 [some (.inr (.inl (some 3550))), none, none, none] [] _ _ Q = _
  have l := l_fault (x := x) (Q := Q) hs h hx 61 0 0 none rfl (by omega) rfl
  rw [show ((0 : Nat) : Int) = 0 from rfl] at l
  rw [← l]
  simp (disch := first | assumption | exact p_c2i | exact p_c2r | exact p_c2n | omega | ((repeat (first | refine p_a1i.trans ?_ | refine p_a1r.trans ?_)); exact p_a10) | ((repeat (first | refine p_wI ?_ | refine p_wR ?_)); exact p_w0) | decide) only [reduceIte, Int.reduceLT, Int.reduceLE, Int.reduceEq, Int.reduceToNat, Int.reduceAdd, Int.reduceSub, Int.reduceMul, Int.reduceNeg, e61_0, e61_1, e61_2, e61_3, p_push, p_is1, p_c2n, p_c2i, p_c2r, p_is2, WN_nx, WN_nrt, WN_ite]
theorem zTc_u {k : Nat} {v : Int} (h : zTc σ ts tl) (hk : k ≠ 1) : zTc (zup σ 3550 k v) ts tl := ⟨by rw [zup_j (by omega)]; exact h.1, fun i hi => by rw [zup_f (by omega)]; exact h.2 i hi⟩
theorem t_readB {s : Nat} (hs : zTt ts tl) (h : zTc σ ts tl) (hs6 : s ≤ 100) (h2 : σ 3550 2 = sA ts tl s) (h3 : σ 3550 3 = dA ts tl (s + 1)) (h4 : σ 3550 4 = dA ts tl (s + 2)) (K : ∀ σ', σ' 3550 2 = sA ts tl s → σ' 3550 3 = rF ts tl s → σ' 3550 4 = dA ts tl (s + 2) → (sA ts tl s = 104 → σ' 3550 5 = hIx (sA ts tl (s + 3))) → (sA ts tl s = 112 → σ' 3550 5 = dA ts tl (s + 4)) → (sA ts tl s = 116 → σ' 3550 5 = tIx (sA ts tl (s + 3))) → (∀ a, a ≠ 3550 → σ' a = σ a) → σ' 3550 1 = σ 3550 1 → Q (.inl none) (3565, x, zrho) σ') : Wp 60 31 [some (.inr (.inl (some 3550))), some (.inl ((s : Int)))] [] (3565, x, zrho) σ Q := by
  have k := zt_k
  have b0 := sA_in hs s
  have g3 := fun (Q : ZO → ZT → ZI → Prop) => t_signAt (x := x) (Q := Q) (o := (s : Int) + 3) (i := s + 3) hs h (by omega) (by omega)
  have g4 := fun (Q : ZO → ZT → ZI → Prop) => t_digitAt (x := x) (Q := Q) (o := (s : Int) + 4) (i := s + 4) hs h (by omega) (by omega)
  have b3 := sA_in hs (s + 3)
  have b4 := dA_in (ts := ts) (tl := tl) (s + 4)
  have b1 := dA_in (ts := ts) (tl := tl) (s + 1)
  have b2 := dA_in (ts := ts) (tl := tl) (s + 2)
  have bh := hIx_in (c := sA ts tl (s + 3))
  have bt := tIx_in (c := sA ts tl (s + 3))
  have th := fun (Q : ZO → ZT → ZI → Prop) (θ : ZT) => t_hIx (θ := θ) (σ := σ) (Q := Q) (c := sA ts tl (s + 3)) (by omega)
  have tt := fun (Q : ZO → ZT → ZI → Prop) (θ : ZT) => t_tIx (θ := θ) (σ := σ) (Q := Q) (c := sA ts tl (s + 3)) (by omega)
  unfold rF at K
  by_cases c1 : sA ts tl s = 104
  · rw [c1] at h2 K
    rw [if_neg (by omega)] at K
    simp (disch := first | assumption | exact p_c2i | exact p_c2r | exact p_c2n | omega | ((repeat (first | refine p_a1i.trans ?_ | refine p_a1r.trans ?_)); exact p_a10) | ((repeat (first | refine p_wI ?_ | refine p_wR ?_)); exact p_w0) | decide) only [reduceIte, Int.reduceLT, Int.reduceLE, Int.reduceEq, Int.reduceToNat, Int.reduceAdd, Int.reduceSub, Int.reduceMul, Int.reduceNeg, e60_31, e60_32, e60_35, e60_76, e60_77, e60_78, e60_79, e60_80, e60_81, e60_84, e60_87, e60_90, e60_93, e60_94, e60_95, e60_96, e60_97, e60_98, e60_101, e60_104, e60_107, e60_108, e60_109, e60_110, e60_111, e60_112, e60_115, e60_118, e60_121, e60_124, e60_125, e60_126, e60_129, e60_132, e60_133, e60_136, e60_139, e60_141, e60_142, e60_145, e60_146, e60_147, e60_150, e60_151, e60_154, e60_157, e60_158, e60_159, e60_162, p_al0, p_getI, p_sw, zsw, p_il1, p_push, p_bin, p_cv1_0, p_cv1_1, p_cv1_2, p_cv1_3, p_cv1_4, zK_v, zK_0, WN_ncl, p_cs1_0, p_cs1_1, p_cs1_2, p_cs1_3, p_cs1_4, p_putI, p_goto, p_ifge, p_vret, WN_nx, WN_nrt, WN_ite, h2, g3, th]
    exact K _ ((zup_j (by omega)).trans h2) ((zup_j (by omega)).trans h3) ((zup_j (by omega)).trans h4) (fun _ => zup_s) (fun z => by omega) (fun z => by omega) (fun a ha => zup_f ha) (zup_j (by omega))
  · by_cases c2 : sA ts tl s = 112
    · rw [c2] at h2 K
      rw [if_neg (by omega)] at K
      simp (disch := first | assumption | exact p_c2i | exact p_c2r | exact p_c2n | omega | ((repeat (first | refine p_a1i.trans ?_ | refine p_a1r.trans ?_)); exact p_a10) | ((repeat (first | refine p_wI ?_ | refine p_wR ?_)); exact p_w0) | decide) only [reduceIte, Int.reduceLT, Int.reduceLE, Int.reduceEq, Int.reduceToNat, Int.reduceAdd, Int.reduceSub, Int.reduceMul, Int.reduceNeg, e60_31, e60_32, e60_35, e60_76, e60_77, e60_78, e60_79, e60_80, e60_81, e60_84, e60_87, e60_90, e60_93, e60_94, e60_95, e60_96, e60_97, e60_98, e60_101, e60_104, e60_107, e60_108, e60_109, e60_110, e60_111, e60_112, e60_115, e60_118, e60_121, e60_124, e60_125, e60_126, e60_129, e60_132, e60_133, e60_136, e60_139, e60_141, e60_142, e60_145, e60_146, e60_147, e60_150, e60_151, e60_154, e60_157, e60_158, e60_159, e60_162, p_al0, p_getI, p_sw, zsw, p_il1, p_push, p_bin, p_cv1_0, p_cv1_1, p_cv1_2, p_cv1_3, p_cv1_4, zK_v, zK_0, WN_ncl, p_cs1_0, p_cs1_1, p_cs1_2, p_cs1_3, p_cs1_4, p_putI, p_goto, p_ifge, p_vret, WN_nx, WN_nrt, WN_ite, h2, g4]
      exact K _ ((zup_j (by omega)).trans h2) ((zup_j (by omega)).trans h3) ((zup_j (by omega)).trans h4) (fun z => by omega) (fun _ => zup_s) (fun z => by omega) (fun a ha => zup_f ha) (zup_j (by omega))
    · by_cases c3 : sA ts tl s = 116
      · rw [c3] at h2 K
        rw [if_neg (by omega)] at K
        simp (disch := first | assumption | exact p_c2i | exact p_c2r | exact p_c2n | omega | ((repeat (first | refine p_a1i.trans ?_ | refine p_a1r.trans ?_)); exact p_a10) | ((repeat (first | refine p_wI ?_ | refine p_wR ?_)); exact p_w0) | decide) only [reduceIte, Int.reduceLT, Int.reduceLE, Int.reduceEq, Int.reduceToNat, Int.reduceAdd, Int.reduceSub, Int.reduceMul, Int.reduceNeg, e60_31, e60_32, e60_35, e60_76, e60_77, e60_78, e60_79, e60_80, e60_81, e60_84, e60_87, e60_90, e60_93, e60_94, e60_95, e60_96, e60_97, e60_98, e60_101, e60_104, e60_107, e60_108, e60_109, e60_110, e60_111, e60_112, e60_115, e60_118, e60_121, e60_124, e60_125, e60_126, e60_129, e60_132, e60_133, e60_136, e60_139, e60_141, e60_142, e60_145, e60_146, e60_147, e60_150, e60_151, e60_154, e60_157, e60_158, e60_159, e60_162, p_al0, p_getI, p_sw, zsw, p_il1, p_push, p_bin, p_cv1_0, p_cv1_1, p_cv1_2, p_cv1_3, p_cv1_4, zK_v, zK_0, WN_ncl, p_cs1_0, p_cs1_1, p_cs1_2, p_cs1_3, p_cs1_4, p_putI, p_goto, p_ifge, p_vret, WN_nx, WN_nrt, WN_ite, h2, g3, tt]
        exact K _ ((zup_j (by omega)).trans h2) ((zup_j (by omega)).trans h3) ((zup_j (by omega)).trans h4) (fun z => by omega) (fun z => by omega) (fun _ => zup_s) (fun a ha => zup_f ha) (zup_j (by omega))
      · by_cases c4 : sA ts tl s = 115
        · rw [c4] at h2 K
          rw [if_pos rfl] at K
          by_cases c5 : dA ts tl (s + 2) < 0
          · have d5 : (dA ts tl (s + 2) < 0) = True := eq_true c5
            rw [if_pos c5] at K
            simp (disch := first | assumption | exact p_c2i | exact p_c2r | exact p_c2n | omega | ((repeat (first | refine p_a1i.trans ?_ | refine p_a1r.trans ?_)); exact p_a10) | ((repeat (first | refine p_wI ?_ | refine p_wR ?_)); exact p_w0) | decide) only [reduceIte, Int.reduceLT, Int.reduceLE, Int.reduceEq, Int.reduceToNat, Int.reduceAdd, Int.reduceSub, Int.reduceMul, Int.reduceNeg, e60_31, e60_32, e60_35, e60_76, e60_77, e60_78, e60_79, e60_80, e60_81, e60_84, e60_87, e60_90, e60_93, e60_94, e60_95, e60_96, e60_97, e60_98, e60_101, e60_104, e60_107, e60_108, e60_109, e60_110, e60_111, e60_112, e60_115, e60_118, e60_121, e60_124, e60_125, e60_126, e60_129, e60_132, e60_133, e60_136, e60_139, e60_141, e60_142, e60_145, e60_146, e60_147, e60_150, e60_151, e60_154, e60_157, e60_158, e60_159, e60_162, p_al0, p_getI, p_sw, zsw, p_il1, p_push, p_bin, p_cv1_0, p_cv1_1, p_cv1_2, p_cv1_3, p_cv1_4, zK_v, zK_0, WN_ncl, p_cs1_0, p_cs1_1, p_cs1_2, p_cs1_3, p_cs1_4, p_putI, p_goto, p_ifge, p_vret, WN_nx, WN_nrt, WN_ite, h2, h3, h4, d5]
            exact K _ ((zup_j (by omega)).trans h2) zup_s ((zup_j (by omega)).trans h4) (fun z => by omega) (fun z => by omega) (fun z => by omega) (fun a ha => zup_f ha) (zup_j (by omega))
          · have d5 : (dA ts tl (s + 2) < 0) = False := eq_false c5
            rw [if_neg c5] at K
            simp (disch := first | assumption | exact p_c2i | exact p_c2r | exact p_c2n | omega | ((repeat (first | refine p_a1i.trans ?_ | refine p_a1r.trans ?_)); exact p_a10) | ((repeat (first | refine p_wI ?_ | refine p_wR ?_)); exact p_w0) | decide) only [reduceIte, Int.reduceLT, Int.reduceLE, Int.reduceEq, Int.reduceToNat, Int.reduceAdd, Int.reduceSub, Int.reduceMul, Int.reduceNeg, e60_31, e60_32, e60_35, e60_76, e60_77, e60_78, e60_79, e60_80, e60_81, e60_84, e60_87, e60_90, e60_93, e60_94, e60_95, e60_96, e60_97, e60_98, e60_101, e60_104, e60_107, e60_108, e60_109, e60_110, e60_111, e60_112, e60_115, e60_118, e60_121, e60_124, e60_125, e60_126, e60_129, e60_132, e60_133, e60_136, e60_139, e60_141, e60_142, e60_145, e60_146, e60_147, e60_150, e60_151, e60_154, e60_157, e60_158, e60_159, e60_162, p_al0, p_getI, p_sw, zsw, p_il1, p_push, p_bin, p_cv1_0, p_cv1_1, p_cv1_2, p_cv1_3, p_cv1_4, zK_v, zK_0, WN_ncl, p_cs1_0, p_cs1_1, p_cs1_2, p_cs1_3, p_cs1_4, p_putI, p_goto, p_ifge, p_vret, WN_nx, WN_nrt, WN_ite, h2, h3, h4, d5]
            exact K _ ((zup_j (by omega)).trans h2) zup_s ((zup_j (by omega)).trans h4) (fun z => by omega) (fun z => by omega) (fun z => by omega) (fun a ha => zup_f ha) (zup_j (by omega))
        · rw [if_neg c4] at K
          simp (disch := first | assumption | exact p_c2i | exact p_c2r | exact p_c2n | omega | ((repeat (first | refine p_a1i.trans ?_ | refine p_a1r.trans ?_)); exact p_a10) | ((repeat (first | refine p_wI ?_ | refine p_wR ?_)); exact p_w0) | decide) only [reduceIte, Int.reduceLT, Int.reduceLE, Int.reduceEq, Int.reduceToNat, Int.reduceAdd, Int.reduceSub, Int.reduceMul, Int.reduceNeg, e60_31, e60_32, e60_35, e60_76, e60_77, e60_78, e60_79, e60_80, e60_81, e60_84, e60_87, e60_90, e60_93, e60_94, e60_95, e60_96, e60_97, e60_98, e60_101, e60_104, e60_107, e60_108, e60_109, e60_110, e60_111, e60_112, e60_115, e60_118, e60_121, e60_124, e60_125, e60_126, e60_129, e60_132, e60_133, e60_136, e60_139, e60_141, e60_142, e60_145, e60_146, e60_147, e60_150, e60_151, e60_154, e60_157, e60_158, e60_159, e60_162, p_al0, p_getI, p_sw, zsw, p_il1, p_push, p_bin, p_cv1_0, p_cv1_1, p_cv1_2, p_cv1_3, p_cv1_4, zK_v, zK_0, WN_ncl, p_cs1_0, p_cs1_1, p_cs1_2, p_cs1_3, p_cs1_4, p_putI, p_goto, p_ifge, p_vret, WN_nx, WN_nrt, WN_ite, h2, c1, c2, c3, c4]
          exact K _ ((zup_j (by omega)).trans h2) ((zup_j (by omega)).trans h3) ((zup_j (by omega)).trans h4) (fun z => absurd z c1) (fun z => absurd z c2) (fun z => absurd z c3) (fun a ha => zup_f ha) (zup_j (by omega))
theorem t_readO {s : Nat} (hs : zTt ts tl) (h : zTc σ ts tl) (hs6 : s ≤ 100) (K : ∀ σ', σ' 3550 2 = sA ts tl s → σ' 3550 3 = rF ts tl s → σ' 3550 4 = dA ts tl (s + 2) → (sA ts tl s = 104 → σ' 3550 5 = hIx (sA ts tl (s + 3))) → (sA ts tl s = 112 → σ' 3550 5 = dA ts tl (s + 4)) → (sA ts tl s = 116 → σ' 3550 5 = tIx (sA ts tl (s + 3))) → (∀ a, a ≠ 3550 → σ' a = σ a) → σ' 3550 1 = σ 3550 1 → Q (.inl none) (3565, x, zrho) σ') : WM 60 [.inr (.inl (some 3550)), .inl ((s : Int))] (3565, x, zrho) σ Q := by
  show Wp 60 0 [some (.inr (.inl (some 3550))), some (.inl ((s : Int)))] [] _ _ Q
  have k := zt_k
  have b0 := sA_in hs s
  have b1 := dA_in (ts := ts) (tl := tl) (s + 1)
  have b2 := dA_in (ts := ts) (tl := tl) (s + 2)
  have g0 := fun (Q : ZO → ZT → ZI → Prop) => t_signAt (x := x) (Q := Q) (o := (s : Int)) (i := s) hs h rfl (by omega)
  have g1 := fun (Q : ZO → ZT → ZI → Prop) => t_digitAt (σ := zup σ 3550 2 (sA ts tl s)) (x := x) (Q := Q) (o := (s : Int) + 1) (i := s + 1) hs (zTc_u h (by omega)) (by omega) (by omega)
  have g2 := fun (Q : ZO → ZT → ZI → Prop) => t_digitAt (σ := zup (zup σ 3550 2 (sA ts tl s)) 3550 3 (dA ts tl (s + 1))) (x := x) (Q := Q) (o := (s : Int) + 2) (i := s + 2) hs (zTc_u (zTc_u h (by omega)) (by omega)) (by omega) (by omega)
  simp (disch := first | assumption | exact p_c2i | exact p_c2r | exact p_c2n | omega | ((repeat (first | refine p_a1i.trans ?_ | refine p_a1r.trans ?_)); exact p_a10) | ((repeat (first | refine p_wI ?_ | refine p_wR ?_)); exact p_w0) | decide) only [reduceIte, Int.reduceLT, Int.reduceLE, Int.reduceEq, Int.reduceToNat, Int.reduceAdd, Int.reduceSub, Int.reduceMul, Int.reduceNeg, e60_0, e60_1, e60_2, e60_3, e60_6, e60_9, e60_10, e60_11, e60_12, e60_13, e60_14, e60_17, e60_20, e60_21, e60_22, e60_23, e60_24, e60_25, e60_28, p_al0, p_il1, p_cv1_0, p_cv1_1, p_cv1_2, p_cv1_3, p_cv1_4, zK_v, zK_0, WN_ncl, p_putI, p_push, p_bin, WN_nx, WN_nrt, WN_ite, g0, g1, g2]
  refine t_readB hs (zTc_u (zTc_u (zTc_u h (by omega)) (by omega)) (by omega)) hs6 ?_ ?_ zup_s (fun σ' a2 a3 a4 a5 a6 a7 a8 a9 => K σ' a2 a3 a4 a5 a6 a7 (fun a ha => ?_) ?_)
  · rw [zup_j (by omega), zup_j (by omega), zup_s]
  · rw [zup_j (by omega), zup_s]
  · rw [a8 a ha, zup_f ha, zup_f ha, zup_f ha]
  · rw [a9, zup_j (by omega), zup_j (by omega), zup_j (by omega)]
end
