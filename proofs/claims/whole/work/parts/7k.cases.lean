/-! THE LAW: its cases -/
section
variable {σ s0 : ZI} {Q : ZO → ZT → ZI → Prop} {x i : Nat} {N : Int} {l5 l6 l7 l8 : Option ZV}
theorem lw_lt (a : Int) : (a < a) = False := eq_false (Int.lt_irrefl a)
theorem lw_es {σ σ1 : ZI} (h : σ1 3554 = σ 3554) : zg σ1 (σ 3554) = σ1 := by rw [← h]; exact zg_r
theorem lw_g0 {σ σ1 s0 : ZI} {w : zW} (_ : zg σ1 w = σ1) (f : ∀ a, a < 100 → σ1 a = σ a) (g : ∀ k, σ 0 k = s0 0 k) (k : Nat) : zg σ1 w 0 k = s0 0 k := by rw [zg_o (by omega), f 0 (by omega)]; exact g k
theorem lw_23 {σ σ1 s0 : ZI} {w : zW} (_ : zg σ1 w = σ1) (f : ∀ a, a < 100 → σ1 a = σ a) (g : σ 23 0 = s0 23 0) : zg σ1 w 23 0 = s0 23 0 := by rw [zg_o (by omega), f 23 (by omega)]; exact g
theorem lw_64 {τ' σ' : ZI} {v : Int} {u : zW} (h : τ' 3564 = zup σ' 3564 0 v 3564) : zg τ' u 3564 0 = v := by rw [zg_o (by omega), h]; exact zup_s
theorem t_law6 (hI : zInv s0 N σ) (hN0 : 0 ≤ N) (hN : N ≤ 60000000) (hl : 4 * (i : Int) + 3 < s0 23 0) (hl2 : s0 23 0 ≤ 2048) (hs : ∀ k, zi3 (s0 0 k)) (hz : zTx s0) (K : ∀ (σ' : ZI) (x' : Nat) (l5 l6 l7 l8 : Option ZV), zInv s0 (N + 20000) σ' → x' ≤ x + 1 → Wp 262 2277 [some (.inr (.inl (some 0))), some (.inr (.inl (some 100))), some (.inr (.inl (some 3553))), some (.inr (.inl (some 3564))), some (.inl (4 * (i : Int))), l5, l6, l7, l8] [] (3565, x', zrho) σ' Q) : Wp 262 604 [some (.inr (.inl (some 0))), some (.inr (.inl (some 100))), some (.inr (.inl (some 3553))), some (.inr (.inl (some 3564))), some (.inl (4 * (i : Int))), l5, l6, l7, l8] [] (3565, x, zrho) σ Q := by
  obtain ⟨hA, hB, hC, hD, hE, hF, hG, hH⟩ := id hI
  have hk := hA.2.2.2.1
  have k20 : zkd 0 = 20 := rfl
  have k64 := zo_k
  have n64 := zo_n
  have gp : ∀ k, σ 0 k = s0 0 k := fun k => congrFun (hH.2 0 (by omega)) k
  have c23 : σ 23 0 = s0 23 0 := congrFun (hH.2 23 (by omega)) 0
  have e1 : (4 * (i : Int) + 1).toNat = 4 * i + 1 := by omega
  have e2 : (4 * (i : Int) + 2).toNat = 4 * i + 2 := by omega
  have e3 : (4 * (i : Int) + 3).toNat = 4 * i + 3 := by omega
  have s1 := hs (4 * i + 1)
  have s2 := hs (4 * i + 2)
  have s3 := hs (4 * i + 3)
  obtain ⟨s1a, s1b⟩ := s1
  obtain ⟨s2a, s2b⟩ := s2
  obtain ⟨s3a, s3b⟩ := s3
  simp (disch := first | assumption | exact p_c2i | exact p_c2r | exact p_c2n | omega | ((repeat (first | refine p_a1i.trans ?_ | refine p_a1r.trans ?_)); exact p_a10) | ((repeat (first | refine p_wI ?_ | refine p_wR ?_)); exact p_w0) | decide) only [reduceIte, Int.reduceLT, Int.reduceLE, Int.reduceEq, Int.reduceToNat, Int.reduceAdd, Int.reduceSub, Int.reduceMul, Int.reduceNeg, e262_604, e262_605, e262_606, e262_608, e262_609, e262_610, e262_611, e262_612, e262_614, e262_615, e262_616, e262_617, e262_618, p_al1, p_al0, p_il4, p_push, p_bin, p_sald, p_al3, p_cs4_0, p_cs4_1, p_cs4_2, p_cs4_3, p_cs4_4, zK_v, zK_0, WN_ncl, WN_nx, WN_nrt, WN_ite, gp, e1, e2, e3]
  refine t_atW hA.1 hA.2 (hs _) (hs _) (fun z => b_at hk z) (fun z1 => ?_) (fun z1 z2 z3 => ?_)
  · rw [zK_v]
    have f1 : zfx σ σ := zfx_r
    have fz := fun a (ha : a < 100) => f1 a (by omega) (by omega)
    have es := lw_es (f1 3554 (by omega) (by omega))
    rw [← es]
    have gq := fun k => lw_g0 es fz gp k
    have c23q := lw_23 es fz c23
    simp (disch := first | assumption | exact p_c2i | exact p_c2r | exact p_c2n | omega | ((repeat (first | refine p_a1i.trans ?_ | refine p_a1r.trans ?_)); exact p_a10) | ((repeat (first | refine p_wI ?_ | refine p_wR ?_)); exact p_w0) | decide) only [reduceIte, Int.reduceLT, Int.reduceLE, Int.reduceEq, Int.reduceToNat, Int.reduceAdd, Int.reduceSub, Int.reduceMul, Int.reduceNeg, e262_621, e262_623, e262_624, e262_625, e262_627, e262_628, e262_629, e262_630, e262_631, e262_633, e262_634, e262_635, e262_636, p_is5, p_c2n, p_c2i, p_c2r, p_al2, p_al0, p_il4, p_push, p_bin, p_sald, p_cv2_0, p_cv2_1, p_cv2_2, p_cv2_3, p_cv2_4, zK_v, zK_0, WN_ncl, WN_nx, WN_nrt, WN_ite, gq, e1, e2, e3]
    refine t_atM hk (hs _) (hs _) (fun y1 y2 y3 y4 => ?_) (fun y1 y2 y3 => ?_)
    · rw [zK_v]
      have e8 := y4.1
      have tt := fun (Q : ZO → ZT → ZI → Prop) (x : Nat) => t_thrownM (τ := y2) (w := σ 3554) (x := x) (Q := Q) (by rw [e8]; omega)
      rw [e8] at tt
      simp (disch := first | assumption | exact p_c2i | exact p_c2r | exact p_c2n | omega | ((repeat (first | refine p_a1i.trans ?_ | refine p_a1r.trans ?_)); exact p_a10) | ((repeat (first | refine p_wI ?_ | refine p_wR ?_)); exact p_w0) | decide) only [reduceIte, Int.reduceLT, Int.reduceLE, Int.reduceEq, Int.reduceToNat, Int.reduceAdd, Int.reduceSub, Int.reduceMul, Int.reduceNeg, e262_639, e262_641, e262_642, e262_645, e262_647, e262_650, e262_651, e262_652, e262_654, e262_657, e262_658, e262_659, e262_660, e262_662, e262_663, e262_664, e262_667, e262_668, e262_669, p_is6, p_c2n, p_c2i, p_c2r, p_al2, p_cv0_0, p_cv0_1, p_cv0_2, p_cv0_3, p_cv0_4, zK_v, zK_0, WN_ncl, p_il5, p_ceq, p_push, p_ret1, p_ifne, p_al3, p_lald, p_il6, p_i2l, p_lcmp, p_ifeq, p_goto, WN_nx, WN_nrt, WN_ite, tt]
      exact K _ _ _ _ _ _ (inv_q hI (by omega) f1 y4) (by omega)
    · exfalso
      omega
  · rw [zK_v]
    have f1 := zfx_u (v := ((σ 3554) (10 + (9 * (s0 0 (4 * i + 1)) + (s0 0 (4 * i + 2))).toNat))) z3
    have fz := fun a (ha : a < 100) => f1 a (by omega) (by omega)
    have es := lw_es (f1 3554 (by omega) (by omega))
    have bb := (fun z => b_at hk z) z1
    obtain ⟨bb1, bb2⟩ := bb
    rw [← es]
    have gq := fun k => lw_g0 es fz gp k
    have c23q := lw_23 es fz c23
    simp (disch := first | assumption | exact p_c2i | exact p_c2r | exact p_c2n | omega | ((repeat (first | refine p_a1i.trans ?_ | refine p_a1r.trans ?_)); exact p_a10) | ((repeat (first | refine p_wI ?_ | refine p_wR ?_)); exact p_w0) | decide) only [reduceIte, Int.reduceLT, Int.reduceLE, Int.reduceEq, Int.reduceToNat, Int.reduceAdd, Int.reduceSub, Int.reduceMul, Int.reduceNeg, e262_621, e262_623, e262_624, e262_625, e262_627, e262_628, e262_629, e262_630, e262_631, e262_633, e262_634, e262_635, e262_636, p_is5, p_c2n, p_c2i, p_c2r, p_al2, p_al0, p_il4, p_push, p_bin, p_sald, p_cv2_0, p_cv2_1, p_cv2_2, p_cv2_3, p_cv2_4, zK_v, zK_0, WN_ncl, WN_nx, WN_nrt, WN_ite, gq, e1, e2, e3]
    refine t_atM hk (hs _) (hs _) (fun y1 y2 y3 y4 => ?_) (fun y1 y2 y3 => ?_)
    · exfalso
      omega
    · rw [zK_v]
      have e8 := y3.1
      have tt := fun (Q : ZO → ZT → ZI → Prop) (x : Nat) => t_thrownM (τ := y2) (x := x) (Q := Q) (by rw [e8]; omega)
      rw [e8] at tt
      have o64 := fun u => lw_64 (u := u) (y3.2.2 3564 (by omega) (by omega) (by omega) (by omega) (by omega))
      simp (disch := first | assumption | exact p_c2i | exact p_c2r | exact p_c2n | omega | ((repeat (first | refine p_a1i.trans ?_ | refine p_a1r.trans ?_)); exact p_a10) | ((repeat (first | refine p_wI ?_ | refine p_wR ?_)); exact p_w0) | decide) only [reduceIte, Int.reduceLT, Int.reduceLE, Int.reduceEq, Int.reduceToNat, Int.reduceAdd, Int.reduceSub, Int.reduceMul, Int.reduceNeg, e262_639, e262_641, e262_642, e262_645, e262_647, e262_650, e262_651, e262_652, e262_654, e262_657, e262_658, e262_659, e262_660, e262_662, e262_663, e262_664, e262_667, e262_668, e262_669, p_is6, p_c2n, p_c2i, p_c2r, p_al2, p_cv0_0, p_cv0_1, p_cv0_2, p_cv0_3, p_cv0_4, zK_v, zK_0, WN_ncl, p_il5, p_ceq, p_push, p_ret1, p_ifne, p_al3, p_lald, p_il6, p_i2l, p_lcmp, p_ifeq, p_goto, WN_nx, WN_nrt, WN_ite, tt, o64, lw_lt]
      exact K _ _ _ _ _ _ (inv_q hI (by omega) f1 y3) (by omega)
end
