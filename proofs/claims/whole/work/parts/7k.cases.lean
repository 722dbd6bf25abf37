/-! THE LAW: its cases -/
section
variable {σ s0 : ZI} {Q : ZO → ZT → ZI → Prop} {x i : Nat} {N : Int} {l5 l6 l7 l8 : Option ZV}
theorem lw_lt (a : Int) : (a < a) = False := eq_false (Int.lt_irrefl a)
theorem lw_es {σ σ1 : ZI} (h : σ1 3554 = σ 3554) : zg σ1 (σ 3554) = σ1 := by rw [← h]; exact zg_r
theorem lw_g0 {σ σ1 s0 : ZI} {w : zW} (_ : zg σ1 w = σ1) (f : ∀ a, a < 100 → σ1 a = σ a) (g : ∀ k, σ 0 k = s0 0 k) (k : Nat) : zg σ1 w 0 k = s0 0 k := by rw [zg_o (by omega), f 0 (by omega)]; exact g k
theorem lw_23 {σ σ1 s0 : ZI} {w : zW} (_ : zg σ1 w = σ1) (f : ∀ a, a < 100 → σ1 a = σ a) (g : σ 23 0 = s0 23 0) : zg σ1 w 23 0 = s0 23 0 := by rw [zg_o (by omega), f 23 (by omega)]; exact g
theorem lw_64 {τ' σ' : ZI} {v : Int} {u : zW} (h : τ' 3564 = zup σ' 3564 0 v 3564) : zg τ' u 3564 0 = v := by rw [zg_o (by omega), h]; exact zup_s
theorem t_law0 (hI : zInv s0 N σ) (hN0 : 0 ≤ N) (hN : N ≤ 60000000) (hl : 4 * (i : Int) + 3 < s0 23 0) (hl2 : s0 23 0 ≤ 2048) (hs : ∀ k, zi3 (s0 0 k)) (hz : zTx s0) (K : ∀ (σ' : ZI) (x' : Nat) (l5 l6 l7 l8 : Option ZV), zInv s0 (N + 20000) σ' → x' ≤ x + 1 → Wp 262 2277 [some (.inr (.inl (some 0))), some (.inr (.inl (some 100))), some (.inr (.inl (some 3553))), some (.inr (.inl (some 3564))), some (.inl (4 * (i : Int))), l5, l6, l7, l8] [] (3565, x', zrho) σ' Q) : Wp 262 208 [some (.inr (.inl (some 0))), some (.inr (.inl (some 100))), some (.inr (.inl (some 3553))), some (.inr (.inl (some 3564))), some (.inl (4 * (i : Int))), l5, l6, l7, l8] [] (3565, x, zrho) σ Q := by
  obtain ⟨hA, hB, hC, hD, hE, hF, hG, hH⟩ := id hI
  have hk := hA.2.2.2.1
  have k20 : zkd 0 = 20 := rfl
  have k64 := zo_k
  have n64 := zo_n
  have gp : ∀ k, σ 0 k = s0 0 k := fun k => congrFun (hH.2 0 (by omega)) k
  have c23 : σ 23 0 = s0 23 0 := congrFun (hH.2 23 (by omega)) 0
  have e1 : (4 * (i : Int) + 1).toNat = 4 * i + 1 := by omega
  have e2 : (4 * (i : Int) + 2).toNat = 4 * i + 2 := by omega
  have e3 : (4 * (i : Int) + 3).toNat = 4 * i + 3 := by omega
  have s1 := hs (4 * i + 1)
  have s2 := hs (4 * i + 2)
  have s3 := hs (4 * i + 3)
  obtain ⟨s1a, s1b⟩ := s1
  obtain ⟨s2a, s2b⟩ := s2
  obtain ⟨s3a, s3b⟩ := s3
  obtain ⟨kp, n, hCr, hKr, hn8, hkk⟩ := hB
  simp (disch := first | assumption | exact p_c2i | exact p_c2r | exact p_c2n | omega | ((repeat (first | refine p_a1i.trans ?_ | refine p_a1r.trans ?_)); exact p_a10) | ((repeat (first | refine p_wI ?_ | refine p_wR ?_)); exact p_w0) | decide) only [reduceIte, Int.reduceLT, Int.reduceLE, Int.reduceEq, Int.reduceToNat, Int.reduceAdd, Int.reduceSub, Int.reduceMul, Int.reduceNeg, e262_208, e262_209, e262_210, e262_212, e262_213, e262_214, e262_215, e262_216, e262_218, e262_219, e262_220, e262_221, e262_222, e262_224, e262_225, e262_226, e262_227, e262_228, p_al1, p_al0, p_il4, p_push, p_bin, p_sald, p_al3, p_cs5_0, p_cs5_1, p_cs5_2, p_cs5_3, p_cs5_4, zK_v, zK_0, WN_ncl, WN_nx, WN_nrt, WN_ite, gp, e1, e2, e3]
  refine t_hoeW (hs _) (hs _) (hs _) hA.1 hA.2 hCr hn8 (fun _ => b_w0 hk) (fun z1 => ?_) (fun z1 z2 z3 z4 z5 => ?_)
  · rw [zK_v]
    have ob := oHoe_b (w := σ 3554) (r := s0 0 (4 * i + 1)) (c := s0 0 (4 * i + 2)) (h := s0 0 (4 * i + 3))
    have f0 := fun a (ha : a ≠ 100) => zref_f (σ := σ) (o := oHoe (σ 3554) (s0 0 (4 * i + 1)) (s0 0 (4 * i + 2)) (s0 0 (4 * i + 3))) ha
    have fz := fun a (ha : a < 100) => f0 a (by omega)
    have es := lw_es (f0 3554 (by omega))
    have t6 := (congrFun (f0 3553 (by omega)) 6).trans hKr.1
    have t7 := (congrFun (f0 3553 (by omega)) 7).trans hH.1
    rw [← es]
    have gq := fun k => lw_g0 es fz gp k
    have c23q := lw_23 es fz c23
    simp (disch := first | assumption | exact p_c2i | exact p_c2r | exact p_c2n | omega | ((repeat (first | refine p_a1i.trans ?_ | refine p_a1r.trans ?_)); exact p_a10) | ((repeat (first | refine p_wI ?_ | refine p_wR ?_)); exact p_w0) | decide) only [reduceIte, Int.reduceLT, Int.reduceLE, Int.reduceEq, Int.reduceToNat, Int.reduceAdd, Int.reduceSub, Int.reduceMul, Int.reduceNeg, e262_231, e262_233, e262_234, e262_235, e262_237, e262_238, e262_239, e262_240, e262_241, e262_243, e262_244, e262_245, e262_246, e262_247, e262_249, e262_250, e262_251, e262_252, p_is5, p_c2n, p_c2i, p_c2r, p_al2, p_al0, p_il4, p_push, p_bin, p_sald, p_cv3_0, p_cv3_1, p_cv3_2, p_cv3_3, p_cv3_4, zK_v, zK_0, WN_ncl, WN_nx, WN_nrt, WN_ite, gq, e1, e2, e3]
    refine t_hoeM hk (hs _) (hs _) (hs _) t6 hn8 (Or.inl t7) (fun y1 y2 y3 => ?_) (fun y1 y2 y3 => ?_)
    · rw [zK_v]
      have e8 := y3.1
      have tt := fun (Q : ZO → ZT → ZI → Prop) (x : Nat) (w : zW) => t_thrownM (τ := y2) (w := w) (x := x) (Q := Q) (by rw [e8]; omega)
      rw [e8] at tt
      have dn := eq_false z1
      simp (disch := first | assumption | exact p_c2i | exact p_c2r | exact p_c2n | omega | ((repeat (first | refine p_a1i.trans ?_ | refine p_a1r.trans ?_)); exact p_a10) | ((repeat (first | refine p_wI ?_ | refine p_wR ?_)); exact p_w0) | decide) only [reduceIte, Int.reduceLT, Int.reduceLE, Int.reduceEq, Int.reduceToNat, Int.reduceAdd, Int.reduceSub, Int.reduceMul, Int.reduceNeg, e262_255, e262_257, e262_258, e262_261, e262_263, e262_266, e262_267, e262_268, e262_270, e262_273, e262_274, e262_275, e262_276, e262_278, e262_279, e262_280, e262_283, e262_284, e262_285, p_is6, p_c2n, p_c2i, p_c2r, p_al2, p_cv0_0, p_cv0_1, p_cv0_2, p_cv0_3, p_cv0_4, zK_v, zK_0, WN_ncl, p_il5, p_ceq, p_push, p_ret1, p_ifne, p_al3, p_lald, p_il6, p_i2l, p_lcmp, p_ifeq, p_goto, WN_nx, WN_nrt, WN_ite, tt, dn]
      have rr := oHoe_r (w := σ 3554) z1
      exact K _ _ _ _ _ _ (inv_f hI (by omega) z1 rr.1 rr.2 y3) (by omega)
    · exfalso
      omega
  · rw [zK_v]
    have f0 : ∀ a, (a < 101 ∨ (413 ≤ a ∧ a < 1037) ∨ 3535 ≤ a) → a ≠ 3564 → zup z2 3564 0 (((σ 3554) 0)) a = σ a := fun a ha hb => (zup_f hb).trans (z5 a ha)
    have fz := fun a (ha : a < 100) => f0 a (by omega) (by omega)
    have es := lw_es (f0 3554 (by omega) (by omega))
    have t6 := (congrFun (f0 3553 (by omega) (by omega)) 6).trans hKr.1
    have t7 := (congrFun (f0 3553 (by omega) (by omega)) 7).trans hH.1
    have bb : zi3 (((σ 3554) 0)) := (fun _ => b_w0 hk) z1
    obtain ⟨bb1, bb2⟩ := bb
    rw [← es]
    have gq := fun k => lw_g0 es fz gp k
    have c23q := lw_23 es fz c23
    simp (disch := first | assumption | exact p_c2i | exact p_c2r | exact p_c2n | omega | ((repeat (first | refine p_a1i.trans ?_ | refine p_a1r.trans ?_)); exact p_a10) | ((repeat (first | refine p_wI ?_ | refine p_wR ?_)); exact p_w0) | decide) only [reduceIte, Int.reduceLT, Int.reduceLE, Int.reduceEq, Int.reduceToNat, Int.reduceAdd, Int.reduceSub, Int.reduceMul, Int.reduceNeg, e262_231, e262_233, e262_234, e262_235, e262_237, e262_238, e262_239, e262_240, e262_241, e262_243, e262_244, e262_245, e262_246, e262_247, e262_249, e262_250, e262_251, e262_252, p_is5, p_c2n, p_c2i, p_c2r, p_al2, p_al0, p_il4, p_push, p_bin, p_sald, p_cv3_0, p_cv3_1, p_cv3_2, p_cv3_3, p_cv3_4, zK_v, zK_0, WN_ncl, WN_nx, WN_nrt, WN_ite, gq, e1, e2, e3]
    refine t_hoeM hk (hs _) (hs _) (hs _) t6 hn8 (Or.inl t7) (fun y1 y2 y3 => ?_) (fun y1 y2 y3 => ?_)
    · exfalso
      omega
    · rw [zK_v]
      have e8 := y3.1
      have tt := fun (Q : ZO → ZT → ZI → Prop) (x : Nat) (w : zW) => t_thrownM (τ := y2) (w := w) (x := x) (Q := Q) (by rw [e8]; exact ⟨Int.le_refl 0, by decide⟩)
      rw [e8] at tt
      have o64 := fun u => lw_64 (u := u) (y3.2.2.2.2.1 3564 (by omega) (by omega) (by omega))
      simp (disch := first | assumption | exact p_c2i | exact p_c2r | exact p_c2n | omega | ((repeat (first | refine p_a1i.trans ?_ | refine p_a1r.trans ?_)); exact p_a10) | ((repeat (first | refine p_wI ?_ | refine p_wR ?_)); exact p_w0) | decide) only [reduceIte, Int.reduceLT, Int.reduceLE, Int.reduceEq, Int.reduceToNat, Int.reduceAdd, Int.reduceSub, Int.reduceMul, Int.reduceNeg, e262_255, e262_257, e262_258, e262_261, e262_263, e262_266, e262_267, e262_268, e262_270, e262_273, e262_274, e262_275, e262_276, e262_278, e262_279, e262_280, e262_283, e262_284, e262_285, p_is6, p_c2n, p_c2i, p_c2r, p_al2, p_cv0_0, p_cv0_1, p_cv0_2, p_cv0_3, p_cv0_4, zK_v, zK_0, WN_ncl, p_il5, p_ceq, p_push, p_ret1, p_ifne, p_al3, p_lald, p_il6, p_i2l, p_lcmp, p_ifeq, p_goto, WN_nx, WN_nrt, WN_ite, tt, o64, lw_lt]
      exact K _ _ _ _ _ _ (inv_c hI (by omega) z3 z4 hKr hn8 hkk z5 y3 (zSok_mono (zSok_W (c := 104) (a1 := s0 0 (4 * i + 1)) (a2 := s0 0 (4 * i + 2)) (a3 := s0 0 (4 * i + 3)) (Or.inl rfl) hA.2 hN0 z1) (by omega))) (by omega)
theorem t_law2 (hI : zInv s0 N σ) (hN0 : 0 ≤ N) (hN : N ≤ 60000000) (hl : 4 * (i : Int) + 3 < s0 23 0) (hl2 : s0 23 0 ≤ 2048) (hs : ∀ k, zi3 (s0 0 k)) (hz : zTx s0) (K : ∀ (σ' : ZI) (x' : Nat) (l5 l6 l7 l8 : Option ZV), zInv s0 (N + 20000) σ' → x' ≤ x + 1 → Wp 262 2277 [some (.inr (.inl (some 0))), some (.inr (.inl (some 100))), some (.inr (.inl (some 3553))), some (.inr (.inl (some 3564))), some (.inl (4 * (i : Int))), l5, l6, l7, l8] [] (3565, x', zrho) σ' Q) : Wp 262 344 [some (.inr (.inl (some 0))), some (.inr (.inl (some 100))), some (.inr (.inl (some 3553))), some (.inr (.inl (some 3564))), some (.inl (4 * (i : Int))), l5, l6, l7, l8] [] (3565, x, zrho) σ Q := by
  obtain ⟨hA, hB, hC, hD, hE, hF, hG, hH⟩ := id hI
  have hk := hA.2.2.2.1
  have k20 : zkd 0 = 20 := rfl
  have k64 := zo_k
  have n64 := zo_n
  have gp : ∀ k, σ 0 k = s0 0 k := fun k => congrFun (hH.2 0 (by omega)) k
  have c23 : σ 23 0 = s0 23 0 := congrFun (hH.2 23 (by omega)) 0
  have e1 : (4 * (i : Int) + 1).toNat = 4 * i + 1 := by omega
  have e2 : (4 * (i : Int) + 2).toNat = 4 * i + 2 := by omega
  have e3 : (4 * (i : Int) + 3).toNat = 4 * i + 3 := by omega
  have s1 := hs (4 * i + 1)
  have s2 := hs (4 * i + 2)
  have s3 := hs (4 * i + 3)
  obtain ⟨s1a, s1b⟩ := s1
  obtain ⟨s2a, s2b⟩ := s2
  obtain ⟨s3a, s3b⟩ := s3
  obtain ⟨kp, n, hCr, hKr, hn8, hkk⟩ := hB
  simp (disch := first | assumption | exact p_c2i | exact p_c2r | exact p_c2n | omega | ((repeat (first | refine p_a1i.trans ?_ | refine p_a1r.trans ?_)); exact p_a10) | ((repeat (first | refine p_wI ?_ | refine p_wR ?_)); exact p_w0) | decide) only [reduceIte, Int.reduceLT, Int.reduceLE, Int.reduceEq, Int.reduceToNat, Int.reduceAdd, Int.reduceSub, Int.reduceMul, Int.reduceNeg, e262_344, e262_345, e262_346, e262_348, e262_349, e262_350, e262_351, e262_352, p_al1, p_al0, p_il4, p_push, p_bin, p_sald, p_al3, p_cs3_0, p_cs3_1, p_cs3_2, p_cs3_3, p_cs3_4, zK_v, zK_0, WN_ncl, WN_nx, WN_nrt, WN_ite, gp, e1, e2, e3]
  refine t_coloursW (hs _) hA.1 hA.2 hCr hn8 (fun _ => b_zct) (fun z1 => ?_) (fun z1 z2 z3 z4 z5 => ?_)
  · rw [zK_v]
    have ob := oMany_b (w := σ 3554) (r := s0 0 (4 * i + 1))
    have f0 := fun a (ha : a ≠ 100) => zref_f (σ := σ) (o := oMany (σ 3554) (s0 0 (4 * i + 1))) ha
    have fz := fun a (ha : a < 100) => f0 a (by omega)
    have es := lw_es (f0 3554 (by omega))
    have t6 := (congrFun (f0 3553 (by omega)) 6).trans hKr.1
    have t7 := (congrFun (f0 3553 (by omega)) 7).trans hH.1
    rw [← es]
    have gq := fun k => lw_g0 es fz gp k
    have c23q := lw_23 es fz c23
    simp (disch := first | assumption | exact p_c2i | exact p_c2r | exact p_c2n | omega | ((repeat (first | refine p_a1i.trans ?_ | refine p_a1r.trans ?_)); exact p_a10) | ((repeat (first | refine p_wI ?_ | refine p_wR ?_)); exact p_w0) | decide) only [reduceIte, Int.reduceLT, Int.reduceLE, Int.reduceEq, Int.reduceToNat, Int.reduceAdd, Int.reduceSub, Int.reduceMul, Int.reduceNeg, e262_355, e262_357, e262_358, e262_359, e262_361, e262_362, e262_363, e262_364, p_is5, p_c2n, p_c2i, p_c2r, p_al2, p_al0, p_il4, p_push, p_bin, p_sald, p_cv1_0, p_cv1_1, p_cv1_2, p_cv1_3, p_cv1_4, zK_v, zK_0, WN_ncl, WN_nx, WN_nrt, WN_ite, gq, e1, e2, e3]
    refine t_coloursM hk (hs _) t6 hn8 (Or.inl t7) (fun y1 y2 y3 => ?_) (fun y1 y2 y3 => ?_)
    · rw [zK_v]
      have e8 := y3.1
      have tt := fun (Q : ZO → ZT → ZI → Prop) (x : Nat) (w : zW) => t_thrownM (τ := y2) (w := w) (x := x) (Q := Q) (by rw [e8]; omega)
      rw [e8] at tt
      have dn := eq_false z1
      simp (disch := first | assumption | exact p_c2i | exact p_c2r | exact p_c2n | omega | ((repeat (first | refine p_a1i.trans ?_ | refine p_a1r.trans ?_)); exact p_a10) | ((repeat (first | refine p_wI ?_ | refine p_wR ?_)); exact p_w0) | decide) only [reduceIte, Int.reduceLT, Int.reduceLE, Int.reduceEq, Int.reduceToNat, Int.reduceAdd, Int.reduceSub, Int.reduceMul, Int.reduceNeg, e262_367, e262_369, e262_370, e262_373, e262_375, e262_378, e262_379, e262_380, e262_382, e262_385, e262_386, e262_387, e262_388, e262_390, e262_391, e262_392, e262_395, e262_396, e262_397, p_is6, p_c2n, p_c2i, p_c2r, p_al2, p_cv0_0, p_cv0_1, p_cv0_2, p_cv0_3, p_cv0_4, zK_v, zK_0, WN_ncl, p_il5, p_ceq, p_push, p_ret1, p_ifne, p_al3, p_lald, p_il6, p_i2l, p_lcmp, p_ifeq, p_goto, WN_nx, WN_nrt, WN_ite, tt, dn]
      have rr := oMany_r (w := σ 3554) (hs (4 * i + 1))
      exact K _ _ _ _ _ _ (inv_f hI (by omega) z1 rr.1 rr.2 y3) (by omega)
    · exfalso
      omega
  · rw [zK_v]
    have f0 : ∀ a, (a < 101 ∨ (413 ≤ a ∧ a < 1037) ∨ 3535 ≤ a) → a ≠ 3564 → zup z2 3564 0 ((zct (fun c => decide ((s0 0 (4 * i + 1)) ≤ (σ 3554) (10 + c))) 81)) a = σ a := fun a ha hb => (zup_f hb).trans (z5 a ha)
    have fz := fun a (ha : a < 100) => f0 a (by omega) (by omega)
    have es := lw_es (f0 3554 (by omega) (by omega))
    have t6 := (congrFun (f0 3553 (by omega) (by omega)) 6).trans hKr.1
    have t7 := (congrFun (f0 3553 (by omega) (by omega)) 7).trans hH.1
    have bb : zi3 ((zct (fun c => decide ((s0 0 (4 * i + 1)) ≤ (σ 3554) (10 + c))) 81)) := (fun _ => b_zct) z1
    obtain ⟨bb1, bb2⟩ := bb
    rw [← es]
    have gq := fun k => lw_g0 es fz gp k
    have c23q := lw_23 es fz c23
    simp (disch := first | assumption | exact p_c2i | exact p_c2r | exact p_c2n | omega | ((repeat (first | refine p_a1i.trans ?_ | refine p_a1r.trans ?_)); exact p_a10) | ((repeat (first | refine p_wI ?_ | refine p_wR ?_)); exact p_w0) | decide) only [reduceIte, Int.reduceLT, Int.reduceLE, Int.reduceEq, Int.reduceToNat, Int.reduceAdd, Int.reduceSub, Int.reduceMul, Int.reduceNeg, e262_355, e262_357, e262_358, e262_359, e262_361, e262_362, e262_363, e262_364, p_is5, p_c2n, p_c2i, p_c2r, p_al2, p_al0, p_il4, p_push, p_bin, p_sald, p_cv1_0, p_cv1_1, p_cv1_2, p_cv1_3, p_cv1_4, zK_v, zK_0, WN_ncl, WN_nx, WN_nrt, WN_ite, gq, e1, e2, e3]
    refine t_coloursM hk (hs _) t6 hn8 (Or.inl t7) (fun y1 y2 y3 => ?_) (fun y1 y2 y3 => ?_)
    · exfalso
      omega
    · rw [zK_v]
      have e8 := y3.1
      have tt := fun (Q : ZO → ZT → ZI → Prop) (x : Nat) (w : zW) => t_thrownM (τ := y2) (w := w) (x := x) (Q := Q) (by rw [e8]; exact ⟨Int.le_refl 0, by decide⟩)
      rw [e8] at tt
      have o64 := fun u => lw_64 (u := u) (y3.2.2.2.2.1 3564 (by omega) (by omega) (by omega))
      simp (disch := first | assumption | exact p_c2i | exact p_c2r | exact p_c2n | omega | ((repeat (first | refine p_a1i.trans ?_ | refine p_a1r.trans ?_)); exact p_a10) | ((repeat (first | refine p_wI ?_ | refine p_wR ?_)); exact p_w0) | decide) only [reduceIte, Int.reduceLT, Int.reduceLE, Int.reduceEq, Int.reduceToNat, Int.reduceAdd, Int.reduceSub, Int.reduceMul, Int.reduceNeg, e262_367, e262_369, e262_370, e262_373, e262_375, e262_378, e262_379, e262_380, e262_382, e262_385, e262_386, e262_387, e262_388, e262_390, e262_391, e262_392, e262_395, e262_396, e262_397, p_is6, p_c2n, p_c2i, p_c2r, p_al2, p_cv0_0, p_cv0_1, p_cv0_2, p_cv0_3, p_cv0_4, zK_v, zK_0, WN_ncl, p_il5, p_ceq, p_push, p_ret1, p_ifne, p_al3, p_lald, p_il6, p_i2l, p_lcmp, p_ifeq, p_goto, WN_nx, WN_nrt, WN_ite, tt, o64, lw_lt]
      exact K _ _ _ _ _ _ (inv_c hI (by omega) z3 z4 hKr hn8 hkk z5 y3 (zSok_mono (zSok_W (c := 107) (a1 := s0 0 (4 * i + 1)) (a2 := s0 0 (4 * i + 2)) (a3 := s0 0 (4 * i + 3)) (Or.inr (Or.inr (Or.inr (Or.inr (Or.inr (Or.inr (Or.inl rfl))))))) hA.2 hN0 z1) (by omega))) (by omega)
theorem t_law3 (hI : zInv s0 N σ) (hN0 : 0 ≤ N) (hN : N ≤ 60000000) (hl : 4 * (i : Int) + 3 < s0 23 0) (hl2 : s0 23 0 ≤ 2048) (hs : ∀ k, zi3 (s0 0 k)) (hz : zTx s0) (K : ∀ (σ' : ZI) (x' : Nat) (l5 l6 l7 l8 : Option ZV), zInv s0 (N + 20000) σ' → x' ≤ x + 1 → Wp 262 2277 [some (.inr (.inl (some 0))), some (.inr (.inl (some 100))), some (.inr (.inl (some 3553))), some (.inr (.inl (some 3564))), some (.inl (4 * (i : Int))), l5, l6, l7, l8] [] (3565, x', zrho) σ' Q) : Wp 262 400 [some (.inr (.inl (some 0))), some (.inr (.inl (some 100))), some (.inr (.inl (some 3553))), some (.inr (.inl (some 3564))), some (.inl (4 * (i : Int))), l5, l6, l7, l8] [] (3565, x, zrho) σ Q := by
  obtain ⟨hA, hB, hC, hD, hE, hF, hG, hH⟩ := id hI
  have hk := hA.2.2.2.1
  have k20 : zkd 0 = 20 := rfl
  have k64 := zo_k
  have n64 := zo_n
  have gp : ∀ k, σ 0 k = s0 0 k := fun k => congrFun (hH.2 0 (by omega)) k
  have c23 : σ 23 0 = s0 23 0 := congrFun (hH.2 23 (by omega)) 0
  have e1 : (4 * (i : Int) + 1).toNat = 4 * i + 1 := by omega
  have e2 : (4 * (i : Int) + 2).toNat = 4 * i + 2 := by omega
  have e3 : (4 * (i : Int) + 3).toNat = 4 * i + 3 := by omega
  have s1 := hs (4 * i + 1)
  have s2 := hs (4 * i + 2)
  have s3 := hs (4 * i + 3)
  obtain ⟨s1a, s1b⟩ := s1
  obtain ⟨s2a, s2b⟩ := s2
  obtain ⟨s3a, s3b⟩ := s3
  obtain ⟨kp, n, hCr, hKr, hn8, hkk⟩ := hB
  simp (disch := first | assumption | exact p_c2i | exact p_c2r | exact p_c2n | omega | ((repeat (first | refine p_a1i.trans ?_ | refine p_a1r.trans ?_)); exact p_a10) | ((repeat (first | refine p_wI ?_ | refine p_wR ?_)); exact p_w0) | decide) only [reduceIte, Int.reduceLT, Int.reduceLE, Int.reduceEq, Int.reduceToNat, Int.reduceAdd, Int.reduceSub, Int.reduceMul, Int.reduceNeg, e262_400, e262_401, e262_402, e262_404, e262_405, e262_406, e262_407, e262_408, e262_410, e262_411, e262_412, e262_413, e262_414, p_al1, p_al0, p_il4, p_push, p_bin, p_sald, p_al3, p_cs4_0, p_cs4_1, p_cs4_2, p_cs4_3, p_cs4_4, zK_v, zK_0, WN_ncl, WN_nx, WN_nrt, WN_ite, gp, e1, e2, e3]
  refine t_turnW (hs _) (hs _) hA.1 hA.2 hCr hn8 (fun z => b_turn hk z) (fun z1 => ?_) (fun z1 z2 z3 z4 z5 => ?_)
  · rw [zK_v]
    have ob := oTurn_b (w := σ 3554) (r := s0 0 (4 * i + 1)) (c := s0 0 (4 * i + 2))
    have f0 := fun a (ha : a ≠ 100) => zref_f (σ := σ) (o := oTurn (σ 3554) (s0 0 (4 * i + 1)) (s0 0 (4 * i + 2))) ha
    have fz := fun a (ha : a < 100) => f0 a (by omega)
    have es := lw_es (f0 3554 (by omega))
    have t6 := (congrFun (f0 3553 (by omega)) 6).trans hKr.1
    have t7 := (congrFun (f0 3553 (by omega)) 7).trans hH.1
    rw [← es]
    have gq := fun k => lw_g0 es fz gp k
    have c23q := lw_23 es fz c23
    simp (disch := first | assumption | exact p_c2i | exact p_c2r | exact p_c2n | omega | ((repeat (first | refine p_a1i.trans ?_ | refine p_a1r.trans ?_)); exact p_a10) | ((repeat (first | refine p_wI ?_ | refine p_wR ?_)); exact p_w0) | decide) only [reduceIte, Int.reduceLT, Int.reduceLE, Int.reduceEq, Int.reduceToNat, Int.reduceAdd, Int.reduceSub, Int.reduceMul, Int.reduceNeg, e262_417, e262_419, e262_420, e262_421, e262_423, e262_424, e262_425, e262_426, e262_427, e262_429, e262_430, e262_431, e262_432, p_is5, p_c2n, p_c2i, p_c2r, p_al2, p_al0, p_il4, p_push, p_bin, p_sald, p_cv2_0, p_cv2_1, p_cv2_2, p_cv2_3, p_cv2_4, zK_v, zK_0, WN_ncl, WN_nx, WN_nrt, WN_ite, gq, e1, e2, e3]
    refine t_turnM hk (hs _) (hs _) t6 hn8 (Or.inl t7) (fun y1 y2 y3 => ?_) (fun y1 y2 y3 => ?_)
    · rw [zK_v]
      have e8 := y3.1
      have tt := fun (Q : ZO → ZT → ZI → Prop) (x : Nat) (w : zW) => t_thrownM (τ := y2) (w := w) (x := x) (Q := Q) (by rw [e8]; omega)
      rw [e8] at tt
      have dn := eq_false z1
      simp (disch := first | assumption | exact p_c2i | exact p_c2r | exact p_c2n | omega | ((repeat (first | refine p_a1i.trans ?_ | refine p_a1r.trans ?_)); exact p_a10) | ((repeat (first | refine p_wI ?_ | refine p_wR ?_)); exact p_w0) | decide) only [reduceIte, Int.reduceLT, Int.reduceLE, Int.reduceEq, Int.reduceToNat, Int.reduceAdd, Int.reduceSub, Int.reduceMul, Int.reduceNeg, e262_435, e262_437, e262_438, e262_441, e262_443, e262_446, e262_447, e262_448, e262_450, e262_453, e262_454, e262_455, e262_456, e262_458, e262_459, e262_460, e262_463, e262_464, e262_465, p_is6, p_c2n, p_c2i, p_c2r, p_al2, p_cv0_0, p_cv0_1, p_cv0_2, p_cv0_3, p_cv0_4, zK_v, zK_0, WN_ncl, p_il5, p_ceq, p_push, p_ret1, p_ifne, p_al3, p_lald, p_il6, p_i2l, p_lcmp, p_ifeq, p_goto, WN_nx, WN_nrt, WN_ite, tt, dn]
      have rr := oTurn_r (w := σ 3554) (a := s0 0 (4 * i + 1)) (hs (4 * i + 2))
      exact K _ _ _ _ _ _ (inv_f hI (by omega) z1 rr.1 rr.2 y3) (by omega)
    · exfalso
      omega
  · rw [zK_v]
    have f0 : ∀ a, (a < 101 ∨ (413 ≤ a ∧ a < 1037) ∨ 3535 ≤ a) → a ≠ 3564 → zup z2 3564 0 (((σ 3554) (6 + (s0 0 (4 * i + 1)).toNat))) a = σ a := fun a ha hb => (zup_f hb).trans (z5 a ha)
    have fz := fun a (ha : a < 100) => f0 a (by omega) (by omega)
    have es := lw_es (f0 3554 (by omega) (by omega))
    have t6 := (congrFun (f0 3553 (by omega) (by omega)) 6).trans hKr.1
    have t7 := (congrFun (f0 3553 (by omega) (by omega)) 7).trans hH.1
    have bb : zi3 (((σ 3554) (6 + (s0 0 (4 * i + 1)).toNat))) := (fun z => b_turn hk z) z1
    obtain ⟨bb1, bb2⟩ := bb
    rw [← es]
    have gq := fun k => lw_g0 es fz gp k
    have c23q := lw_23 es fz c23
    simp (disch := first | assumption | exact p_c2i | exact p_c2r | exact p_c2n | omega | ((repeat (first | refine p_a1i.trans ?_ | refine p_a1r.trans ?_)); exact p_a10) | ((repeat (first | refine p_wI ?_ | refine p_wR ?_)); exact p_w0) | decide) only [reduceIte, Int.reduceLT, Int.reduceLE, Int.reduceEq, Int.reduceToNat, Int.reduceAdd, Int.reduceSub, Int.reduceMul, Int.reduceNeg, e262_417, e262_419, e262_420, e262_421, e262_423, e262_424, e262_425, e262_426, e262_427, e262_429, e262_430, e262_431, e262_432, p_is5, p_c2n, p_c2i, p_c2r, p_al2, p_al0, p_il4, p_push, p_bin, p_sald, p_cv2_0, p_cv2_1, p_cv2_2, p_cv2_3, p_cv2_4, zK_v, zK_0, WN_ncl, WN_nx, WN_nrt, WN_ite, gq, e1, e2, e3]
    refine t_turnM hk (hs _) (hs _) t6 hn8 (Or.inl t7) (fun y1 y2 y3 => ?_) (fun y1 y2 y3 => ?_)
    · exfalso
      omega
    · rw [zK_v]
      have e8 := y3.1
      have tt := fun (Q : ZO → ZT → ZI → Prop) (x : Nat) (w : zW) => t_thrownM (τ := y2) (w := w) (x := x) (Q := Q) (by rw [e8]; exact ⟨Int.le_refl 0, by decide⟩)
      rw [e8] at tt
      have o64 := fun u => lw_64 (u := u) (y3.2.2.2.2.1 3564 (by omega) (by omega) (by omega))
      simp (disch := first | assumption | exact p_c2i | exact p_c2r | exact p_c2n | omega | ((repeat (first | refine p_a1i.trans ?_ | refine p_a1r.trans ?_)); exact p_a10) | ((repeat (first | refine p_wI ?_ | refine p_wR ?_)); exact p_w0) | decide) only [reduceIte, Int.reduceLT, Int.reduceLE, Int.reduceEq, Int.reduceToNat, Int.reduceAdd, Int.reduceSub, Int.reduceMul, Int.reduceNeg, e262_435, e262_437, e262_438, e262_441, e262_443, e262_446, e262_447, e262_448, e262_450, e262_453, e262_454, e262_455, e262_456, e262_458, e262_459, e262_460, e262_463, e262_464, e262_465, p_is6, p_c2n, p_c2i, p_c2r, p_al2, p_cv0_0, p_cv0_1, p_cv0_2, p_cv0_3, p_cv0_4, zK_v, zK_0, WN_ncl, p_il5, p_ceq, p_push, p_ret1, p_ifne, p_al3, p_lald, p_il6, p_i2l, p_lcmp, p_ifeq, p_goto, WN_nx, WN_nrt, WN_ite, tt, o64, lw_lt]
      exact K _ _ _ _ _ _ (inv_c hI (by omega) z3 z4 hKr hn8 hkk z5 y3 (zSok_mono (zSok_W (c := 116) (a1 := s0 0 (4 * i + 1)) (a2 := s0 0 (4 * i + 2)) (a3 := s0 0 (4 * i + 3)) (Or.inr (Or.inr (Or.inl rfl))) hA.2 hN0 z1) (by omega))) (by omega)
theorem t_law4 (hI : zInv s0 N σ) (hN0 : 0 ≤ N) (hN : N ≤ 60000000) (hl : 4 * (i : Int) + 3 < s0 23 0) (hl2 : s0 23 0 ≤ 2048) (hs : ∀ k, zi3 (s0 0 k)) (hz : zTx s0) (K : ∀ (σ' : ZI) (x' : Nat) (l5 l6 l7 l8 : Option ZV), zInv s0 (N + 20000) σ' → x' ≤ x + 1 → Wp 262 2277 [some (.inr (.inl (some 0))), some (.inr (.inl (some 100))), some (.inr (.inl (some 3553))), some (.inr (.inl (some 3564))), some (.inl (4 * (i : Int))), l5, l6, l7, l8] [] (3565, x', zrho) σ' Q) : Wp 262 468 [some (.inr (.inl (some 0))), some (.inr (.inl (some 100))), some (.inr (.inl (some 3553))), some (.inr (.inl (some 3564))), some (.inl (4 * (i : Int))), l5, l6, l7, l8] [] (3565, x, zrho) σ Q := by
  obtain ⟨hA, hB, hC, hD, hE, hF, hG, hH⟩ := id hI
  have hk := hA.2.2.2.1
  have k20 : zkd 0 = 20 := rfl
  have k64 := zo_k
  have n64 := zo_n
  have gp : ∀ k, σ 0 k = s0 0 k := fun k => congrFun (hH.2 0 (by omega)) k
  have c23 : σ 23 0 = s0 23 0 := congrFun (hH.2 23 (by omega)) 0
  have e1 : (4 * (i : Int) + 1).toNat = 4 * i + 1 := by omega
  have e2 : (4 * (i : Int) + 2).toNat = 4 * i + 2 := by omega
  have e3 : (4 * (i : Int) + 3).toNat = 4 * i + 3 := by omega
  have s1 := hs (4 * i + 1)
  have s2 := hs (4 * i + 2)
  have s3 := hs (4 * i + 3)
  obtain ⟨s1a, s1b⟩ := s1
  obtain ⟨s2a, s2b⟩ := s2
  obtain ⟨s3a, s3b⟩ := s3
  obtain ⟨kp, n, hCr, hKr, hn8, hkk⟩ := hB
  simp (disch := first | assumption | exact p_c2i | exact p_c2r | exact p_c2n | omega | ((repeat (first | refine p_a1i.trans ?_ | refine p_a1r.trans ?_)); exact p_a10) | ((repeat (first | refine p_wI ?_ | refine p_wR ?_)); exact p_w0) | decide) only [reduceIte, Int.reduceLT, Int.reduceLE, Int.reduceEq, Int.reduceToNat, Int.reduceAdd, Int.reduceSub, Int.reduceMul, Int.reduceNeg, e262_468, e262_469, e262_470, e262_472, e262_473, e262_474, e262_475, e262_476, e262_478, e262_479, e262_480, e262_481, e262_482, e262_484, e262_485, e262_486, e262_487, e262_488, p_al1, p_al0, p_il4, p_push, p_bin, p_sald, p_al3, p_cs5_0, p_cs5_1, p_cs5_2, p_cs5_3, p_cs5_4, zK_v, zK_0, WN_ncl, WN_nx, WN_nrt, WN_ite, gp, e1, e2, e3]
  refine t_paintW (hs _) (hs _) (hs _) hA.1 hA.2 hCr hn8 (fun z => b_paint hk z) (fun z1 => ?_) (fun z1 z2 z3 z4 z5 => ?_)
  · rw [zK_v]
    have ob := oPaint_b (w := σ 3554) (r := s0 0 (4 * i + 1)) (c := s0 0 (4 * i + 2)) (h := s0 0 (4 * i + 3))
    have f0 := fun a (ha : a ≠ 100) => zref_f (σ := σ) (o := oPaint (σ 3554) (s0 0 (4 * i + 1)) (s0 0 (4 * i + 2)) (s0 0 (4 * i + 3))) ha
    have fz := fun a (ha : a < 100) => f0 a (by omega)
    have es := lw_es (f0 3554 (by omega))
    have t6 := (congrFun (f0 3553 (by omega)) 6).trans hKr.1
    have t7 := (congrFun (f0 3553 (by omega)) 7).trans hH.1
    rw [← es]
    have gq := fun k => lw_g0 es fz gp k
    have c23q := lw_23 es fz c23
    simp (disch := first | assumption | exact p_c2i | exact p_c2r | exact p_c2n | omega | ((repeat (first | refine p_a1i.trans ?_ | refine p_a1r.trans ?_)); exact p_a10) | ((repeat (first | refine p_wI ?_ | refine p_wR ?_)); exact p_w0) | decide) only [reduceIte, Int.reduceLT, Int.reduceLE, Int.reduceEq, Int.reduceToNat, Int.reduceAdd, Int.reduceSub, Int.reduceMul, Int.reduceNeg, e262_491, e262_493, e262_494, e262_495, e262_497, e262_498, e262_499, e262_500, e262_501, e262_503, e262_504, e262_505, e262_506, e262_507, e262_509, e262_510, e262_511, e262_512, p_is5, p_c2n, p_c2i, p_c2r, p_al2, p_al0, p_il4, p_push, p_bin, p_sald, p_cv3_0, p_cv3_1, p_cv3_2, p_cv3_3, p_cv3_4, zK_v, zK_0, WN_ncl, WN_nx, WN_nrt, WN_ite, gq, e1, e2, e3]
    refine t_paintM hk (hs _) (hs _) (hs _) t6 hn8 (Or.inl t7) (fun y1 y2 y3 => ?_) (fun y1 y2 y3 => ?_)
    · rw [zK_v]
      have e8 := y3.1
      have tt := fun (Q : ZO → ZT → ZI → Prop) (x : Nat) (w : zW) => t_thrownM (τ := y2) (w := w) (x := x) (Q := Q) (by rw [e8]; omega)
      rw [e8] at tt
      have dn := eq_false z1
      simp (disch := first | assumption | exact p_c2i | exact p_c2r | exact p_c2n | omega | ((repeat (first | refine p_a1i.trans ?_ | refine p_a1r.trans ?_)); exact p_a10) | ((repeat (first | refine p_wI ?_ | refine p_wR ?_)); exact p_w0) | decide) only [reduceIte, Int.reduceLT, Int.reduceLE, Int.reduceEq, Int.reduceToNat, Int.reduceAdd, Int.reduceSub, Int.reduceMul, Int.reduceNeg, e262_515, e262_517, e262_518, e262_521, e262_523, e262_526, e262_527, e262_528, e262_530, e262_533, e262_534, e262_535, e262_536, e262_538, e262_539, e262_540, e262_543, e262_544, e262_545, p_is6, p_c2n, p_c2i, p_c2r, p_al2, p_cv0_0, p_cv0_1, p_cv0_2, p_cv0_3, p_cv0_4, zK_v, zK_0, WN_ncl, p_il5, p_ceq, p_push, p_ret1, p_ifne, p_al3, p_lald, p_il6, p_i2l, p_lcmp, p_ifeq, p_goto, WN_nx, WN_nrt, WN_ite, tt, dn]
      have rr := oPaint_r (w := σ 3554) (a := s0 0 (4 * i + 1)) (b := s0 0 (4 * i + 2)) (hs (4 * i + 3))
      exact K _ _ _ _ _ _ (inv_f hI (by omega) z1 rr.1 rr.2 y3) (by omega)
    · exfalso
      omega
  · rw [zK_v]
    have f0 : ∀ a, (a < 101 ∨ (413 ≤ a ∧ a < 1037) ∨ 3535 ≤ a) → a ≠ 3564 → zup z2 3564 0 (((σ 3554) (10 + (9 * (s0 0 (4 * i + 1)) + (s0 0 (4 * i + 2))).toNat))) a = σ a := fun a ha hb => (zup_f hb).trans (z5 a ha)
    have fz := fun a (ha : a < 100) => f0 a (by omega) (by omega)
    have es := lw_es (f0 3554 (by omega) (by omega))
    have t6 := (congrFun (f0 3553 (by omega) (by omega)) 6).trans hKr.1
    have t7 := (congrFun (f0 3553 (by omega) (by omega)) 7).trans hH.1
    have bb : zi3 (((σ 3554) (10 + (9 * (s0 0 (4 * i + 1)) + (s0 0 (4 * i + 2))).toNat))) := (fun z => b_paint hk z) z1
    obtain ⟨bb1, bb2⟩ := bb
    rw [← es]
    have gq := fun k => lw_g0 es fz gp k
    have c23q := lw_23 es fz c23
    simp (disch := first | assumption | exact p_c2i | exact p_c2r | exact p_c2n | omega | ((repeat (first | refine p_a1i.trans ?_ | refine p_a1r.trans ?_)); exact p_a10) | ((repeat (first | refine p_wI ?_ | refine p_wR ?_)); exact p_w0) | decide) only [reduceIte, Int.reduceLT, Int.reduceLE, Int.reduceEq, Int.reduceToNat, Int.reduceAdd, Int.reduceSub, Int.reduceMul, Int.reduceNeg, e262_491, e262_493, e262_494, e262_495, e262_497, e262_498, e262_499, e262_500, e262_501, e262_503, e262_504, e262_505, e262_506, e262_507, e262_509, e262_510, e262_511, e262_512, p_is5, p_c2n, p_c2i, p_c2r, p_al2, p_al0, p_il4, p_push, p_bin, p_sald, p_cv3_0, p_cv3_1, p_cv3_2, p_cv3_3, p_cv3_4, zK_v, zK_0, WN_ncl, WN_nx, WN_nrt, WN_ite, gq, e1, e2, e3]
    refine t_paintM hk (hs _) (hs _) (hs _) t6 hn8 (Or.inl t7) (fun y1 y2 y3 => ?_) (fun y1 y2 y3 => ?_)
    · exfalso
      omega
    · rw [zK_v]
      have e8 := y3.1
      have tt := fun (Q : ZO → ZT → ZI → Prop) (x : Nat) (w : zW) => t_thrownM (τ := y2) (w := w) (x := x) (Q := Q) (by rw [e8]; exact ⟨Int.le_refl 0, by decide⟩)
      rw [e8] at tt
      have o64 := fun u => lw_64 (u := u) (y3.2.2.2.2.1 3564 (by omega) (by omega) (by omega))
      simp (disch := first | assumption | exact p_c2i | exact p_c2r | exact p_c2n | omega | ((repeat (first | refine p_a1i.trans ?_ | refine p_a1r.trans ?_)); exact p_a10) | ((repeat (first | refine p_wI ?_ | refine p_wR ?_)); exact p_w0) | decide) only [reduceIte, Int.reduceLT, Int.reduceLE, Int.reduceEq, Int.reduceToNat, Int.reduceAdd, Int.reduceSub, Int.reduceMul, Int.reduceNeg, e262_515, e262_517, e262_518, e262_521, e262_523, e262_526, e262_527, e262_528, e262_530, e262_533, e262_534, e262_535, e262_536, e262_538, e262_539, e262_540, e262_543, e262_544, e262_545, p_is6, p_c2n, p_c2i, p_c2r, p_al2, p_cv0_0, p_cv0_1, p_cv0_2, p_cv0_3, p_cv0_4, zK_v, zK_0, WN_ncl, p_il5, p_ceq, p_push, p_ret1, p_ifne, p_al3, p_lald, p_il6, p_i2l, p_lcmp, p_ifeq, p_goto, WN_nx, WN_nrt, WN_ite, tt, o64, lw_lt]
      exact K _ _ _ _ _ _ (inv_c hI (by omega) z3 z4 hKr hn8 hkk z5 y3 (zSok_mono (zSok_W (c := 112) (a1 := s0 0 (4 * i + 1)) (a2 := s0 0 (4 * i + 2)) (a3 := s0 0 (4 * i + 3)) (Or.inr (Or.inl rfl)) hA.2 hN0 z1) (by omega))) (by omega)
theorem t_law5 (hI : zInv s0 N σ) (hN0 : 0 ≤ N) (hN : N ≤ 60000000) (hl : 4 * (i : Int) + 3 < s0 23 0) (hl2 : s0 23 0 ≤ 2048) (hs : ∀ k, zi3 (s0 0 k)) (hz : zTx s0) (K : ∀ (σ' : ZI) (x' : Nat) (l5 l6 l7 l8 : Option ZV), zInv s0 (N + 20000) σ' → x' ≤ x + 1 → Wp 262 2277 [some (.inr (.inl (some 0))), some (.inr (.inl (some 100))), some (.inr (.inl (some 3553))), some (.inr (.inl (some 3564))), some (.inl (4 * (i : Int))), l5, l6, l7, l8] [] (3565, x', zrho) σ' Q) : Wp 262 548 [some (.inr (.inl (some 0))), some (.inr (.inl (some 100))), some (.inr (.inl (some 3553))), some (.inr (.inl (some 3564))), some (.inl (4 * (i : Int))), l5, l6, l7, l8] [] (3565, x, zrho) σ Q := by
  obtain ⟨hA, hB, hC, hD, hE, hF, hG, hH⟩ := id hI
  have hk := hA.2.2.2.1
  have k20 : zkd 0 = 20 := rfl
  have k64 := zo_k
  have n64 := zo_n
  have gp : ∀ k, σ 0 k = s0 0 k := fun k => congrFun (hH.2 0 (by omega)) k
  have c23 : σ 23 0 = s0 23 0 := congrFun (hH.2 23 (by omega)) 0
  have e1 : (4 * (i : Int) + 1).toNat = 4 * i + 1 := by omega
  have e2 : (4 * (i : Int) + 2).toNat = 4 * i + 2 := by omega
  have e3 : (4 * (i : Int) + 3).toNat = 4 * i + 3 := by omega
  have s1 := hs (4 * i + 1)
  have s2 := hs (4 * i + 2)
  have s3 := hs (4 * i + 3)
  obtain ⟨s1a, s1b⟩ := s1
  obtain ⟨s2a, s2b⟩ := s2
  obtain ⟨s3a, s3b⟩ := s3
  obtain ⟨kp, n, hCr, hKr, hn8, hkk⟩ := hB
  simp (disch := first | assumption | exact p_c2i | exact p_c2r | exact p_c2n | omega | ((repeat (first | refine p_a1i.trans ?_ | refine p_a1r.trans ?_)); exact p_a10) | ((repeat (first | refine p_wI ?_ | refine p_wR ?_)); exact p_w0) | decide) only [reduceIte, Int.reduceLT, Int.reduceLE, Int.reduceEq, Int.reduceToNat, Int.reduceAdd, Int.reduceSub, Int.reduceMul, Int.reduceNeg, e262_548, e262_549, e262_550, e262_552, e262_553, e262_554, e262_555, e262_556, p_al1, p_al0, p_il4, p_push, p_bin, p_sald, p_al3, p_cs3_0, p_cs3_1, p_cs3_2, p_cs3_3, p_cs3_4, zK_v, zK_0, WN_ncl, WN_nx, WN_nrt, WN_ite, gp, e1, e2, e3]
  refine t_mannerW (hs _) hA.1 hA.2 hCr hn8 (fun _ => b_w2 hk) (fun z1 => ?_) (fun z1 z2 z3 z4 z5 => ?_)
  · rw [zK_v]
    have ob := oManner_b (w := σ 3554) (r := s0 0 (4 * i + 1))
    have f0 := fun a (ha : a ≠ 100) => zref_f (σ := σ) (o := oManner (σ 3554) (s0 0 (4 * i + 1))) ha
    have fz := fun a (ha : a < 100) => f0 a (by omega)
    have es := lw_es (f0 3554 (by omega))
    have t6 := (congrFun (f0 3553 (by omega)) 6).trans hKr.1
    have t7 := (congrFun (f0 3553 (by omega)) 7).trans hH.1
    rw [← es]
    have gq := fun k => lw_g0 es fz gp k
    have c23q := lw_23 es fz c23
    simp (disch := first | assumption | exact p_c2i | exact p_c2r | exact p_c2n | omega | ((repeat (first | refine p_a1i.trans ?_ | refine p_a1r.trans ?_)); exact p_a10) | ((repeat (first | refine p_wI ?_ | refine p_wR ?_)); exact p_w0) | decide) only [reduceIte, Int.reduceLT, Int.reduceLE, Int.reduceEq, Int.reduceToNat, Int.reduceAdd, Int.reduceSub, Int.reduceMul, Int.reduceNeg, e262_559, e262_561, e262_562, e262_563, e262_565, e262_566, e262_567, e262_568, p_is5, p_c2n, p_c2i, p_c2r, p_al2, p_al0, p_il4, p_push, p_bin, p_sald, p_cv1_0, p_cv1_1, p_cv1_2, p_cv1_3, p_cv1_4, zK_v, zK_0, WN_ncl, WN_nx, WN_nrt, WN_ite, gq, e1, e2, e3]
    refine t_mannerM hk (hs _) t6 hn8 (Or.inl t7) (fun y1 y2 y3 => ?_) (fun y1 y2 y3 => ?_)
    · rw [zK_v]
      have e8 := y3.1
      have tt := fun (Q : ZO → ZT → ZI → Prop) (x : Nat) (w : zW) => t_thrownM (τ := y2) (w := w) (x := x) (Q := Q) (by rw [e8]; omega)
      rw [e8] at tt
      have dn := eq_false z1
      simp (disch := first | assumption | exact p_c2i | exact p_c2r | exact p_c2n | omega | ((repeat (first | refine p_a1i.trans ?_ | refine p_a1r.trans ?_)); exact p_a10) | ((repeat (first | refine p_wI ?_ | refine p_wR ?_)); exact p_w0) | decide) only [reduceIte, Int.reduceLT, Int.reduceLE, Int.reduceEq, Int.reduceToNat, Int.reduceAdd, Int.reduceSub, Int.reduceMul, Int.reduceNeg, e262_571, e262_573, e262_574, e262_577, e262_579, e262_582, e262_583, e262_584, e262_586, e262_589, e262_590, e262_591, e262_592, e262_594, e262_595, e262_596, e262_599, e262_600, e262_601, p_is6, p_c2n, p_c2i, p_c2r, p_al2, p_cv0_0, p_cv0_1, p_cv0_2, p_cv0_3, p_cv0_4, zK_v, zK_0, WN_ncl, p_il5, p_ceq, p_push, p_ret1, p_ifne, p_al3, p_lald, p_il6, p_i2l, p_lcmp, p_ifeq, p_goto, WN_nx, WN_nrt, WN_ite, tt, dn]
      have rr := oManner_r (w := σ 3554) (hs (4 * i + 1))
      exact K _ _ _ _ _ _ (inv_f hI (by omega) z1 rr.1 rr.2 y3) (by omega)
    · exfalso
      omega
  · rw [zK_v]
    have f0 : ∀ a, (a < 101 ∨ (413 ≤ a ∧ a < 1037) ∨ 3535 ≤ a) → a ≠ 3564 → zup z2 3564 0 (((σ 3554) 2)) a = σ a := fun a ha hb => (zup_f hb).trans (z5 a ha)
    have fz := fun a (ha : a < 100) => f0 a (by omega) (by omega)
    have es := lw_es (f0 3554 (by omega) (by omega))
    have t6 := (congrFun (f0 3553 (by omega) (by omega)) 6).trans hKr.1
    have t7 := (congrFun (f0 3553 (by omega) (by omega)) 7).trans hH.1
    have bb : zi3 (((σ 3554) 2)) := (fun _ => b_w2 hk) z1
    obtain ⟨bb1, bb2⟩ := bb
    rw [← es]
    have gq := fun k => lw_g0 es fz gp k
    have c23q := lw_23 es fz c23
    simp (disch := first | assumption | exact p_c2i | exact p_c2r | exact p_c2n | omega | ((repeat (first | refine p_a1i.trans ?_ | refine p_a1r.trans ?_)); exact p_a10) | ((repeat (first | refine p_wI ?_ | refine p_wR ?_)); exact p_w0) | decide) only [reduceIte, Int.reduceLT, Int.reduceLE, Int.reduceEq, Int.reduceToNat, Int.reduceAdd, Int.reduceSub, Int.reduceMul, Int.reduceNeg, e262_559, e262_561, e262_562, e262_563, e262_565, e262_566, e262_567, e262_568, p_is5, p_c2n, p_c2i, p_c2r, p_al2, p_al0, p_il4, p_push, p_bin, p_sald, p_cv1_0, p_cv1_1, p_cv1_2, p_cv1_3, p_cv1_4, zK_v, zK_0, WN_ncl, WN_nx, WN_nrt, WN_ite, gq, e1, e2, e3]
    refine t_mannerM hk (hs _) t6 hn8 (Or.inl t7) (fun y1 y2 y3 => ?_) (fun y1 y2 y3 => ?_)
    · exfalso
      omega
    · rw [zK_v]
      have e8 := y3.1
      have tt := fun (Q : ZO → ZT → ZI → Prop) (x : Nat) (w : zW) => t_thrownM (τ := y2) (w := w) (x := x) (Q := Q) (by rw [e8]; exact ⟨Int.le_refl 0, by decide⟩)
      rw [e8] at tt
      have o64 := fun u => lw_64 (u := u) (y3.2.2.2.2.1 3564 (by omega) (by omega) (by omega))
      simp (disch := first | assumption | exact p_c2i | exact p_c2r | exact p_c2n | omega | ((repeat (first | refine p_a1i.trans ?_ | refine p_a1r.trans ?_)); exact p_a10) | ((repeat (first | refine p_wI ?_ | refine p_wR ?_)); exact p_w0) | decide) only [reduceIte, Int.reduceLT, Int.reduceLE, Int.reduceEq, Int.reduceToNat, Int.reduceAdd, Int.reduceSub, Int.reduceMul, Int.reduceNeg, e262_571, e262_573, e262_574, e262_577, e262_579, e262_582, e262_583, e262_584, e262_586, e262_589, e262_590, e262_591, e262_592, e262_594, e262_595, e262_596, e262_599, e262_600, e262_601, p_is6, p_c2n, p_c2i, p_c2r, p_al2, p_cv0_0, p_cv0_1, p_cv0_2, p_cv0_3, p_cv0_4, zK_v, zK_0, WN_ncl, p_il5, p_ceq, p_push, p_ret1, p_ifne, p_al3, p_lald, p_il6, p_i2l, p_lcmp, p_ifeq, p_goto, WN_nx, WN_nrt, WN_ite, tt, o64, lw_lt]
      exact K _ _ _ _ _ _ (inv_c hI (by omega) z3 z4 hKr hn8 hkk z5 y3 (zSok_mono (zSok_W (c := 109) (a1 := s0 0 (4 * i + 1)) (a2 := s0 0 (4 * i + 2)) (a3 := s0 0 (4 * i + 3)) (Or.inr (Or.inr (Or.inr (Or.inr (Or.inr (Or.inr (Or.inr rfl))))))) hA.2 hN0 z1) (by omega))) (by omega)
theorem t_law6 (hI : zInv s0 N σ) (hN0 : 0 ≤ N) (hN : N ≤ 60000000) (hl : 4 * (i : Int) + 3 < s0 23 0) (hl2 : s0 23 0 ≤ 2048) (hs : ∀ k, zi3 (s0 0 k)) (hz : zTx s0) (K : ∀ (σ' : ZI) (x' : Nat) (l5 l6 l7 l8 : Option ZV), zInv s0 (N + 20000) σ' → x' ≤ x + 1 → Wp 262 2277 [some (.inr (.inl (some 0))), some (.inr (.inl (some 100))), some (.inr (.inl (some 3553))), some (.inr (.inl (some 3564))), some (.inl (4 * (i : Int))), l5, l6, l7, l8] [] (3565, x', zrho) σ' Q) : Wp 262 604 [some (.inr (.inl (some 0))), some (.inr (.inl (some 100))), some (.inr (.inl (some 3553))), some (.inr (.inl (some 3564))), some (.inl (4 * (i : Int))), l5, l6, l7, l8] [] (3565, x, zrho) σ Q := by
  obtain ⟨hA, hB, hC, hD, hE, hF, hG, hH⟩ := id hI
  have hk := hA.2.2.2.1
  have k20 : zkd 0 = 20 := rfl
  have k64 := zo_k
  have n64 := zo_n
  have gp : ∀ k, σ 0 k = s0 0 k := fun k => congrFun (hH.2 0 (by omega)) k
  have c23 : σ 23 0 = s0 23 0 := congrFun (hH.2 23 (by omega)) 0
  have e1 : (4 * (i : Int) + 1).toNat = 4 * i + 1 := by omega
  have e2 : (4 * (i : Int) + 2).toNat = 4 * i + 2 := by omega
  have e3 : (4 * (i : Int) + 3).toNat = 4 * i + 3 := by omega
  have s1 := hs (4 * i + 1)
  have s2 := hs (4 * i + 2)
  have s3 := hs (4 * i + 3)
  obtain ⟨s1a, s1b⟩ := s1
  obtain ⟨s2a, s2b⟩ := s2
  obtain ⟨s3a, s3b⟩ := s3
  simp (disch := first | assumption | exact p_c2i | exact p_c2r | exact p_c2n | omega | ((repeat (first | refine p_a1i.trans ?_ | refine p_a1r.trans ?_)); exact p_a10) | ((repeat (first | refine p_wI ?_ | refine p_wR ?_)); exact p_w0) | decide) only [reduceIte, Int.reduceLT, Int.reduceLE, Int.reduceEq, Int.reduceToNat, Int.reduceAdd, Int.reduceSub, Int.reduceMul, Int.reduceNeg, e262_604, e262_605, e262_606, e262_608, e262_609, e262_610, e262_611, e262_612, e262_614, e262_615, e262_616, e262_617, e262_618, p_al1, p_al0, p_il4, p_push, p_bin, p_sald, p_al3, p_cs4_0, p_cs4_1, p_cs4_2, p_cs4_3, p_cs4_4, zK_v, zK_0, WN_ncl, WN_nx, WN_nrt, WN_ite, gp, e1, e2, e3]
  refine t_atW hA.1 hA.2 (hs _) (hs _) (fun z => b_at hk z) (fun z1 => ?_) (fun z1 z2 z3 => ?_)
  · rw [zK_v]
    have f1 : zfx σ σ := zfx_r
    have fz := fun a (ha : a < 100) => f1 a (by omega) (by omega)
    have es := lw_es (f1 3554 (by omega) (by omega))
    rw [← es]
    have gq := fun k => lw_g0 es fz gp k
    have c23q := lw_23 es fz c23
    simp (disch := first | assumption | exact p_c2i | exact p_c2r | exact p_c2n | omega | ((repeat (first | refine p_a1i.trans ?_ | refine p_a1r.trans ?_)); exact p_a10) | ((repeat (first | refine p_wI ?_ | refine p_wR ?_)); exact p_w0) | decide) only [reduceIte, Int.reduceLT, Int.reduceLE, Int.reduceEq, Int.reduceToNat, Int.reduceAdd, Int.reduceSub, Int.reduceMul, Int.reduceNeg, e262_621, e262_623, e262_624, e262_625, e262_627, e262_628, e262_629, e262_630, e262_631, e262_633, e262_634, e262_635, e262_636, p_is5, p_c2n, p_c2i, p_c2r, p_al2, p_al0, p_il4, p_push, p_bin, p_sald, p_cv2_0, p_cv2_1, p_cv2_2, p_cv2_3, p_cv2_4, zK_v, zK_0, WN_ncl, WN_nx, WN_nrt, WN_ite, gq, e1, e2, e3]
    refine t_atM hk (hs _) (hs _) (fun y1 y2 y3 y4 => ?_) (fun y1 y2 y3 => ?_)
    · rw [zK_v]
      have e8 := y4.1
      have tt := fun (Q : ZO → ZT → ZI → Prop) (x : Nat) (w : zW) => t_thrownM (τ := y2) (w := w) (x := x) (Q := Q) (by rw [e8]; omega)
      rw [e8] at tt
      simp (disch := first | assumption | exact p_c2i | exact p_c2r | exact p_c2n | omega | ((repeat (first | refine p_a1i.trans ?_ | refine p_a1r.trans ?_)); exact p_a10) | ((repeat (first | refine p_wI ?_ | refine p_wR ?_)); exact p_w0) | decide) only [reduceIte, Int.reduceLT, Int.reduceLE, Int.reduceEq, Int.reduceToNat, Int.reduceAdd, Int.reduceSub, Int.reduceMul, Int.reduceNeg, e262_639, e262_641, e262_642, e262_645, e262_647, e262_650, e262_651, e262_652, e262_654, e262_657, e262_658, e262_659, e262_660, e262_662, e262_663, e262_664, e262_667, e262_668, e262_669, p_is6, p_c2n, p_c2i, p_c2r, p_al2, p_cv0_0, p_cv0_1, p_cv0_2, p_cv0_3, p_cv0_4, zK_v, zK_0, WN_ncl, p_il5, p_ceq, p_push, p_ret1, p_ifne, p_al3, p_lald, p_il6, p_i2l, p_lcmp, p_ifeq, p_goto, WN_nx, WN_nrt, WN_ite, tt]
      exact K _ _ _ _ _ _ (inv_q hI (by omega) f1 y4) (by omega)
    · exfalso
      omega
  · rw [zK_v]
    have f1 := zfx_u (v := ((σ 3554) (10 + (9 * (s0 0 (4 * i + 1)) + (s0 0 (4 * i + 2))).toNat))) z3
    have fz := fun a (ha : a < 100) => f1 a (by omega) (by omega)
    have es := lw_es (f1 3554 (by omega) (by omega))
    have bb : zi3 (((σ 3554) (10 + (9 * (s0 0 (4 * i + 1)) + (s0 0 (4 * i + 2))).toNat))) := (fun z => b_at hk z) z1
    obtain ⟨bb1, bb2⟩ := bb
    rw [← es]
    have gq := fun k => lw_g0 es fz gp k
    have c23q := lw_23 es fz c23
    simp (disch := first | assumption | exact p_c2i | exact p_c2r | exact p_c2n | omega | ((repeat (first | refine p_a1i.trans ?_ | refine p_a1r.trans ?_)); exact p_a10) | ((repeat (first | refine p_wI ?_ | refine p_wR ?_)); exact p_w0) | decide) only [reduceIte, Int.reduceLT, Int.reduceLE, Int.reduceEq, Int.reduceToNat, Int.reduceAdd, Int.reduceSub, Int.reduceMul, Int.reduceNeg, e262_621, e262_623, e262_624, e262_625, e262_627, e262_628, e262_629, e262_630, e262_631, e262_633, e262_634, e262_635, e262_636, p_is5, p_c2n, p_c2i, p_c2r, p_al2, p_al0, p_il4, p_push, p_bin, p_sald, p_cv2_0, p_cv2_1, p_cv2_2, p_cv2_3, p_cv2_4, zK_v, zK_0, WN_ncl, WN_nx, WN_nrt, WN_ite, gq, e1, e2, e3]
    refine t_atM hk (hs _) (hs _) (fun y1 y2 y3 y4 => ?_) (fun y1 y2 y3 => ?_)
    · exfalso
      omega
    · rw [zK_v]
      have e8 := y3.1
      have tt := fun (Q : ZO → ZT → ZI → Prop) (x : Nat) (w : zW) => t_thrownM (τ := y2) (w := w) (x := x) (Q := Q) (by rw [e8]; omega)
      rw [e8] at tt
      have o64 := fun u => lw_64 (u := u) (y3.2.2 3564 (by omega) (by omega) (by omega) (by omega) (by omega))
      simp (disch := first | assumption | exact p_c2i | exact p_c2r | exact p_c2n | omega | ((repeat (first | refine p_a1i.trans ?_ | refine p_a1r.trans ?_)); exact p_a10) | ((repeat (first | refine p_wI ?_ | refine p_wR ?_)); exact p_w0) | decide) only [reduceIte, Int.reduceLT, Int.reduceLE, Int.reduceEq, Int.reduceToNat, Int.reduceAdd, Int.reduceSub, Int.reduceMul, Int.reduceNeg, e262_639, e262_641, e262_642, e262_645, e262_647, e262_650, e262_651, e262_652, e262_654, e262_657, e262_658, e262_659, e262_660, e262_662, e262_663, e262_664, e262_667, e262_668, e262_669, p_is6, p_c2n, p_c2i, p_c2r, p_al2, p_cv0_0, p_cv0_1, p_cv0_2, p_cv0_3, p_cv0_4, zK_v, zK_0, WN_ncl, p_il5, p_ceq, p_push, p_ret1, p_ifne, p_al3, p_lald, p_il6, p_i2l, p_lcmp, p_ifeq, p_goto, WN_nx, WN_nrt, WN_ite, tt, o64, lw_lt]
      exact K _ _ _ _ _ _ (inv_q hI (by omega) f1 y3) (by omega)
theorem t_law7 (hI : zInv s0 N σ) (hN0 : 0 ≤ N) (hN : N ≤ 60000000) (hl : 4 * (i : Int) + 3 < s0 23 0) (hl2 : s0 23 0 ≤ 2048) (hs : ∀ k, zi3 (s0 0 k)) (hz : zTx s0) (K : ∀ (σ' : ZI) (x' : Nat) (l5 l6 l7 l8 : Option ZV), zInv s0 (N + 20000) σ' → x' ≤ x + 1 → Wp 262 2277 [some (.inr (.inl (some 0))), some (.inr (.inl (some 100))), some (.inr (.inl (some 3553))), some (.inr (.inl (some 3564))), some (.inl (4 * (i : Int))), l5, l6, l7, l8] [] (3565, x', zrho) σ' Q) : Wp 262 672 [some (.inr (.inl (some 0))), some (.inr (.inl (some 100))), some (.inr (.inl (some 3553))), some (.inr (.inl (some 3564))), some (.inl (4 * (i : Int))), l5, l6, l7, l8] [] (3565, x, zrho) σ Q := by
  obtain ⟨hA, hB, hC, hD, hE, hF, hG, hH⟩ := id hI
  have hk := hA.2.2.2.1
  have k20 : zkd 0 = 20 := rfl
  have k64 := zo_k
  have n64 := zo_n
  have gp : ∀ k, σ 0 k = s0 0 k := fun k => congrFun (hH.2 0 (by omega)) k
  have c23 : σ 23 0 = s0 23 0 := congrFun (hH.2 23 (by omega)) 0
  have e1 : (4 * (i : Int) + 1).toNat = 4 * i + 1 := by omega
  have e2 : (4 * (i : Int) + 2).toNat = 4 * i + 2 := by omega
  have e3 : (4 * (i : Int) + 3).toNat = 4 * i + 3 := by omega
  have s1 := hs (4 * i + 1)
  have s2 := hs (4 * i + 2)
  have s3 := hs (4 * i + 3)
  obtain ⟨s1a, s1b⟩ := s1
  obtain ⟨s2a, s2b⟩ := s2
  obtain ⟨s3a, s3b⟩ := s3
  simp (disch := first | assumption | exact p_c2i | exact p_c2r | exact p_c2n | omega | ((repeat (first | refine p_a1i.trans ?_ | refine p_a1r.trans ?_)); exact p_a10) | ((repeat (first | refine p_wI ?_ | refine p_wR ?_)); exact p_w0) | decide) only [reduceIte, Int.reduceLT, Int.reduceLE, Int.reduceEq, Int.reduceToNat, Int.reduceAdd, Int.reduceSub, Int.reduceMul, Int.reduceNeg, e262_672, e262_673, e262_674, e262_676, e262_677, e262_678, e262_679, e262_680, e262_682, e262_683, e262_684, e262_685, e262_686, p_al1, p_al0, p_il4, p_push, p_bin, p_sald, p_al3, p_cs4_0, p_cs4_1, p_cs4_2, p_cs4_3, p_cs4_4, zK_v, zK_0, WN_ncl, WN_nx, WN_nrt, WN_ite, gp, e1, e2, e3]
  refine t_hoeOfW hA.1 hA.2 (hs _) (hs _) (fun z y => b_hoeOf hk (by omega) z y) (fun z1 => ?_) (fun z1 z2 => ?_) (fun z1 z2 z3 z4 => ?_)
  · rw [zK_v]
    have f1 : zfx σ σ := zfx_r
    have fz := fun a (ha : a < 100) => f1 a (by omega) (by omega)
    have es := lw_es (f1 3554 (by omega) (by omega))
    rw [← es]
    have gq := fun k => lw_g0 es fz gp k
    have c23q := lw_23 es fz c23
    simp (disch := first | assumption | exact p_c2i | exact p_c2r | exact p_c2n | omega | ((repeat (first | refine p_a1i.trans ?_ | refine p_a1r.trans ?_)); exact p_a10) | ((repeat (first | refine p_wI ?_ | refine p_wR ?_)); exact p_w0) | decide) only [reduceIte, Int.reduceLT, Int.reduceLE, Int.reduceEq, Int.reduceToNat, Int.reduceAdd, Int.reduceSub, Int.reduceMul, Int.reduceNeg, e262_689, e262_691, e262_692, e262_693, e262_695, e262_696, e262_697, e262_698, e262_699, e262_701, e262_702, e262_703, e262_704, p_is5, p_c2n, p_c2i, p_c2r, p_al2, p_al0, p_il4, p_push, p_bin, p_sald, p_cv2_0, p_cv2_1, p_cv2_2, p_cv2_3, p_cv2_4, zK_v, zK_0, WN_ncl, WN_nx, WN_nrt, WN_ite, gq, e1, e2, e3]
    refine t_hoeOfM hk (hs _) (hs _) (fun y1 y2 y3 y4 => ?_) (fun y1 y2 y3 y4 y5 => ?_) (fun y1 y2 y3 y4 => ?_)
    · rw [zK_v]
      have e8 := y4.1
      have tt := fun (Q : ZO → ZT → ZI → Prop) (x : Nat) (w : zW) => t_thrownM (τ := y2) (w := w) (x := x) (Q := Q) (by rw [e8]; omega)
      rw [e8] at tt
      simp (disch := first | assumption | exact p_c2i | exact p_c2r | exact p_c2n | omega | ((repeat (first | refine p_a1i.trans ?_ | refine p_a1r.trans ?_)); exact p_a10) | ((repeat (first | refine p_wI ?_ | refine p_wR ?_)); exact p_w0) | decide) only [reduceIte, Int.reduceLT, Int.reduceLE, Int.reduceEq, Int.reduceToNat, Int.reduceAdd, Int.reduceSub, Int.reduceMul, Int.reduceNeg, e262_707, e262_709, e262_710, e262_713, e262_715, e262_718, e262_719, e262_720, e262_722, e262_725, e262_726, e262_727, e262_728, e262_730, e262_731, e262_732, e262_735, e262_736, e262_737, p_is6, p_c2n, p_c2i, p_c2r, p_al2, p_cv0_0, p_cv0_1, p_cv0_2, p_cv0_3, p_cv0_4, zK_v, zK_0, WN_ncl, p_il5, p_ceq, p_push, p_ret1, p_ifne, p_al3, p_lald, p_il6, p_i2l, p_lcmp, p_ifeq, p_goto, WN_nx, WN_nrt, WN_ite, tt]
      exact K _ _ _ _ _ _ (inv_q hI (by omega) f1 y4) (by omega)
    · exfalso
      omega
    · exfalso
      omega
  · rw [zK_v]
    have f1 : zfx σ σ := zfx_r
    have fz := fun a (ha : a < 100) => f1 a (by omega) (by omega)
    have es := lw_es (f1 3554 (by omega) (by omega))
    rw [← es]
    have gq := fun k => lw_g0 es fz gp k
    have c23q := lw_23 es fz c23
    simp (disch := first | assumption | exact p_c2i | exact p_c2r | exact p_c2n | omega | ((repeat (first | refine p_a1i.trans ?_ | refine p_a1r.trans ?_)); exact p_a10) | ((repeat (first | refine p_wI ?_ | refine p_wR ?_)); exact p_w0) | decide) only [reduceIte, Int.reduceLT, Int.reduceLE, Int.reduceEq, Int.reduceToNat, Int.reduceAdd, Int.reduceSub, Int.reduceMul, Int.reduceNeg, e262_689, e262_691, e262_692, e262_693, e262_695, e262_696, e262_697, e262_698, e262_699, e262_701, e262_702, e262_703, e262_704, p_is5, p_c2n, p_c2i, p_c2r, p_al2, p_al0, p_il4, p_push, p_bin, p_sald, p_cv2_0, p_cv2_1, p_cv2_2, p_cv2_3, p_cv2_4, zK_v, zK_0, WN_ncl, WN_nx, WN_nrt, WN_ite, gq, e1, e2, e3]
    refine t_hoeOfM hk (hs _) (hs _) (fun y1 y2 y3 y4 => ?_) (fun y1 y2 y3 y4 y5 => ?_) (fun y1 y2 y3 y4 => ?_)
    · exfalso
      omega
    · rw [zK_v]
      have e8 := y5.1
      have tt := fun (Q : ZO → ZT → ZI → Prop) (x : Nat) (w : zW) => t_thrownM (τ := y3) (w := w) (x := x) (Q := Q) (by rw [e8]; omega)
      rw [e8] at tt
      simp (disch := first | assumption | exact p_c2i | exact p_c2r | exact p_c2n | omega | ((repeat (first | refine p_a1i.trans ?_ | refine p_a1r.trans ?_)); exact p_a10) | ((repeat (first | refine p_wI ?_ | refine p_wR ?_)); exact p_w0) | decide) only [reduceIte, Int.reduceLT, Int.reduceLE, Int.reduceEq, Int.reduceToNat, Int.reduceAdd, Int.reduceSub, Int.reduceMul, Int.reduceNeg, e262_707, e262_709, e262_710, e262_713, e262_715, e262_718, e262_719, e262_720, e262_722, e262_725, e262_726, e262_727, e262_728, e262_730, e262_731, e262_732, e262_735, e262_736, e262_737, p_is6, p_c2n, p_c2i, p_c2r, p_al2, p_cv0_0, p_cv0_1, p_cv0_2, p_cv0_3, p_cv0_4, zK_v, zK_0, WN_ncl, p_il5, p_ceq, p_push, p_ret1, p_ifne, p_al3, p_lald, p_il6, p_i2l, p_lcmp, p_ifeq, p_goto, WN_nx, WN_nrt, WN_ite, tt]
      exact K _ _ _ _ _ _ (inv_q hI (by omega) f1 y5) (by omega)
    · exfalso
      omega
  · rw [zK_v]
    have f1 := zfx_u (v := (if (s0 0 (4 * i + 2)) = 0 then (σ 3554) (172 + 4 * (s0 0 (4 * i + 1)).toNat) / 9 else if (s0 0 (4 * i + 2)) = 1 then (σ 3554) (172 + 4 * (s0 0 (4 * i + 1)).toNat) % 9 else (σ 3554) (172 + 4 * (s0 0 (4 * i + 1)).toNat + ((s0 0 (4 * i + 2)) - 1).toNat))) z4
    have fz := fun a (ha : a < 100) => f1 a (by omega) (by omega)
    have es := lw_es (f1 3554 (by omega) (by omega))
    have bb : zi3 ((if (s0 0 (4 * i + 2)) = 0 then (σ 3554) (172 + 4 * (s0 0 (4 * i + 1)).toNat) / 9 else if (s0 0 (4 * i + 2)) = 1 then (σ 3554) (172 + 4 * (s0 0 (4 * i + 1)).toNat) % 9 else (σ 3554) (172 + 4 * (s0 0 (4 * i + 1)).toNat + ((s0 0 (4 * i + 2)) - 1).toNat))) := (fun z y => b_hoeOf hk (by omega) z y) z1 z2
    obtain ⟨bb1, bb2⟩ := bb
    rw [← es]
    have gq := fun k => lw_g0 es fz gp k
    have c23q := lw_23 es fz c23
    simp (disch := first | assumption | exact p_c2i | exact p_c2r | exact p_c2n | omega | ((repeat (first | refine p_a1i.trans ?_ | refine p_a1r.trans ?_)); exact p_a10) | ((repeat (first | refine p_wI ?_ | refine p_wR ?_)); exact p_w0) | decide) only [reduceIte, Int.reduceLT, Int.reduceLE, Int.reduceEq, Int.reduceToNat, Int.reduceAdd, Int.reduceSub, Int.reduceMul, Int.reduceNeg, e262_689, e262_691, e262_692, e262_693, e262_695, e262_696, e262_697, e262_698, e262_699, e262_701, e262_702, e262_703, e262_704, p_is5, p_c2n, p_c2i, p_c2r, p_al2, p_al0, p_il4, p_push, p_bin, p_sald, p_cv2_0, p_cv2_1, p_cv2_2, p_cv2_3, p_cv2_4, zK_v, zK_0, WN_ncl, WN_nx, WN_nrt, WN_ite, gq, e1, e2, e3]
    refine t_hoeOfM hk (hs _) (hs _) (fun y1 y2 y3 y4 => ?_) (fun y1 y2 y3 y4 y5 => ?_) (fun y1 y2 y3 y4 => ?_)
    · exfalso
      omega
    · exfalso
      omega
    · rw [zK_v]
      have e8 := y4.1
      have tt := fun (Q : ZO → ZT → ZI → Prop) (x : Nat) (w : zW) => t_thrownM (τ := y3) (w := w) (x := x) (Q := Q) (by rw [e8]; omega)
      rw [e8] at tt
      have o64 := fun u => lw_64 (u := u) (y4.2.2 3564 (by omega) (by omega) (by omega) (by omega) (by omega))
      simp (disch := first | assumption | exact p_c2i | exact p_c2r | exact p_c2n | omega | ((repeat (first | refine p_a1i.trans ?_ | refine p_a1r.trans ?_)); exact p_a10) | ((repeat (first | refine p_wI ?_ | refine p_wR ?_)); exact p_w0) | decide) only [reduceIte, Int.reduceLT, Int.reduceLE, Int.reduceEq, Int.reduceToNat, Int.reduceAdd, Int.reduceSub, Int.reduceMul, Int.reduceNeg, e262_707, e262_709, e262_710, e262_713, e262_715, e262_718, e262_719, e262_720, e262_722, e262_725, e262_726, e262_727, e262_728, e262_730, e262_731, e262_732, e262_735, e262_736, e262_737, p_is6, p_c2n, p_c2i, p_c2r, p_al2, p_cv0_0, p_cv0_1, p_cv0_2, p_cv0_3, p_cv0_4, zK_v, zK_0, WN_ncl, p_il5, p_ceq, p_push, p_ret1, p_ifne, p_al3, p_lald, p_il6, p_i2l, p_lcmp, p_ifeq, p_goto, WN_nx, WN_nrt, WN_ite, tt, o64, lw_lt]
      exact K _ _ _ _ _ _ (inv_q hI (by omega) f1 y4) (by omega)
theorem t_law8 (hI : zInv s0 N σ) (hN0 : 0 ≤ N) (hN : N ≤ 60000000) (hl : 4 * (i : Int) + 3 < s0 23 0) (hl2 : s0 23 0 ≤ 2048) (hs : ∀ k, zi3 (s0 0 k)) (hz : zTx s0) (K : ∀ (σ' : ZI) (x' : Nat) (l5 l6 l7 l8 : Option ZV), zInv s0 (N + 20000) σ' → x' ≤ x + 1 → Wp 262 2277 [some (.inr (.inl (some 0))), some (.inr (.inl (some 100))), some (.inr (.inl (some 3553))), some (.inr (.inl (some 3564))), some (.inl (4 * (i : Int))), l5, l6, l7, l8] [] (3565, x', zrho) σ' Q) : Wp 262 740 [some (.inr (.inl (some 0))), some (.inr (.inl (some 100))), some (.inr (.inl (some 3553))), some (.inr (.inl (some 3564))), some (.inl (4 * (i : Int))), l5, l6, l7, l8] [] (3565, x, zrho) σ Q := by
  obtain ⟨hA, hB, hC, hD, hE, hF, hG, hH⟩ := id hI
  have hk := hA.2.2.2.1
  have k20 : zkd 0 = 20 := rfl
  have k64 := zo_k
  have n64 := zo_n
  have gp : ∀ k, σ 0 k = s0 0 k := fun k => congrFun (hH.2 0 (by omega)) k
  have c23 : σ 23 0 = s0 23 0 := congrFun (hH.2 23 (by omega)) 0
  have e1 : (4 * (i : Int) + 1).toNat = 4 * i + 1 := by omega
  have e2 : (4 * (i : Int) + 2).toNat = 4 * i + 2 := by omega
  have e3 : (4 * (i : Int) + 3).toNat = 4 * i + 3 := by omega
  have s1 := hs (4 * i + 1)
  have s2 := hs (4 * i + 2)
  have s3 := hs (4 * i + 3)
  obtain ⟨s1a, s1b⟩ := s1
  obtain ⟨s2a, s2b⟩ := s2
  obtain ⟨s3a, s3b⟩ := s3
  simp (disch := first | assumption | exact p_c2i | exact p_c2r | exact p_c2n | omega | ((repeat (first | refine p_a1i.trans ?_ | refine p_a1r.trans ?_)); exact p_a10) | ((repeat (first | refine p_wI ?_ | refine p_wR ?_)); exact p_w0) | decide) only [reduceIte, Int.reduceLT, Int.reduceLE, Int.reduceEq, Int.reduceToNat, Int.reduceAdd, Int.reduceSub, Int.reduceMul, Int.reduceNeg, e262_740, e262_741, e262_742, e262_744, e262_745, e262_746, e262_747, e262_748, e262_750, e262_751, e262_752, e262_753, e262_754, p_al1, p_al0, p_il4, p_push, p_bin, p_sald, p_al3, p_cs4_0, p_cs4_1, p_cs4_2, p_cs4_3, p_cs4_4, zK_v, zK_0, WN_ncl, WN_nx, WN_nrt, WN_ite, gp, e1, e2, e3]
  refine t_onW hA.1 hA.2 (hs _) (hs _) (fun _ => b_on) (fun z1 => ?_) (fun z1 z2 z3 => ?_)
  · rw [zK_v]
    have f1 : zfx σ σ := zfx_r
    have fz := fun a (ha : a < 100) => f1 a (by omega) (by omega)
    have es := lw_es (f1 3554 (by omega) (by omega))
    rw [← es]
    have gq := fun k => lw_g0 es fz gp k
    have c23q := lw_23 es fz c23
    simp (disch := first | assumption | exact p_c2i | exact p_c2r | exact p_c2n | omega | ((repeat (first | refine p_a1i.trans ?_ | refine p_a1r.trans ?_)); exact p_a10) | ((repeat (first | refine p_wI ?_ | refine p_wR ?_)); exact p_w0) | decide) only [reduceIte, Int.reduceLT, Int.reduceLE, Int.reduceEq, Int.reduceToNat, Int.reduceAdd, Int.reduceSub, Int.reduceMul, Int.reduceNeg, e262_757, e262_759, e262_760, e262_761, e262_763, e262_764, e262_765, e262_766, e262_767, e262_769, e262_770, e262_771, e262_772, p_is5, p_c2n, p_c2i, p_c2r, p_al2, p_al0, p_il4, p_push, p_bin, p_sald, p_cv2_0, p_cv2_1, p_cv2_2, p_cv2_3, p_cv2_4, zK_v, zK_0, WN_ncl, WN_nx, WN_nrt, WN_ite, gq, e1, e2, e3]
    refine t_onM hk (hs _) (hs _) (fun y1 y2 y3 y4 => ?_) (fun y1 y2 y3 => ?_)
    · rw [zK_v]
      have e8 := y4.1
      have tt := fun (Q : ZO → ZT → ZI → Prop) (x : Nat) (w : zW) => t_thrownM (τ := y2) (w := w) (x := x) (Q := Q) (by rw [e8]; omega)
      rw [e8] at tt
      simp (disch := first | assumption | exact p_c2i | exact p_c2r | exact p_c2n | omega | ((repeat (first | refine p_a1i.trans ?_ | refine p_a1r.trans ?_)); exact p_a10) | ((repeat (first | refine p_wI ?_ | refine p_wR ?_)); exact p_w0) | decide) only [reduceIte, Int.reduceLT, Int.reduceLE, Int.reduceEq, Int.reduceToNat, Int.reduceAdd, Int.reduceSub, Int.reduceMul, Int.reduceNeg, e262_775, e262_777, e262_778, e262_781, e262_783, e262_786, e262_787, e262_788, e262_790, e262_793, e262_794, e262_795, e262_796, e262_798, e262_799, e262_800, e262_803, e262_804, e262_805, p_is6, p_c2n, p_c2i, p_c2r, p_al2, p_cv0_0, p_cv0_1, p_cv0_2, p_cv0_3, p_cv0_4, zK_v, zK_0, WN_ncl, p_il5, p_ceq, p_push, p_ret1, p_ifne, p_al3, p_lald, p_il6, p_i2l, p_lcmp, p_ifeq, p_goto, WN_nx, WN_nrt, WN_ite, tt]
      exact K _ _ _ _ _ _ (inv_q hI (by omega) f1 y4) (by omega)
    · exfalso
      omega
  · rw [zK_v]
    have f1 := zfx_u (v := (aOn (σ 3554) (9 * (s0 0 (4 * i + 1)) + (s0 0 (4 * i + 2))))) z3
    have fz := fun a (ha : a < 100) => f1 a (by omega) (by omega)
    have es := lw_es (f1 3554 (by omega) (by omega))
    have bb : zi3 ((aOn (σ 3554) (9 * (s0 0 (4 * i + 1)) + (s0 0 (4 * i + 2))))) := (fun _ => b_on) z1
    obtain ⟨bb1, bb2⟩ := bb
    rw [← es]
    have gq := fun k => lw_g0 es fz gp k
    have c23q := lw_23 es fz c23
    simp (disch := first | assumption | exact p_c2i | exact p_c2r | exact p_c2n | omega | ((repeat (first | refine p_a1i.trans ?_ | refine p_a1r.trans ?_)); exact p_a10) | ((repeat (first | refine p_wI ?_ | refine p_wR ?_)); exact p_w0) | decide) only [reduceIte, Int.reduceLT, Int.reduceLE, Int.reduceEq, Int.reduceToNat, Int.reduceAdd, Int.reduceSub, Int.reduceMul, Int.reduceNeg, e262_757, e262_759, e262_760, e262_761, e262_763, e262_764, e262_765, e262_766, e262_767, e262_769, e262_770, e262_771, e262_772, p_is5, p_c2n, p_c2i, p_c2r, p_al2, p_al0, p_il4, p_push, p_bin, p_sald, p_cv2_0, p_cv2_1, p_cv2_2, p_cv2_3, p_cv2_4, zK_v, zK_0, WN_ncl, WN_nx, WN_nrt, WN_ite, gq, e1, e2, e3]
    refine t_onM hk (hs _) (hs _) (fun y1 y2 y3 y4 => ?_) (fun y1 y2 y3 => ?_)
    · exfalso
      omega
    · rw [zK_v]
      have e8 := y3.1
      have tt := fun (Q : ZO → ZT → ZI → Prop) (x : Nat) (w : zW) => t_thrownM (τ := y2) (w := w) (x := x) (Q := Q) (by rw [e8]; omega)
      rw [e8] at tt
      have o64 := fun u => lw_64 (u := u) (y3.2.2 3564 (by omega) (by omega) (by omega) (by omega) (by omega))
      simp (disch := first | assumption | exact p_c2i | exact p_c2r | exact p_c2n | omega | ((repeat (first | refine p_a1i.trans ?_ | refine p_a1r.trans ?_)); exact p_a10) | ((repeat (first | refine p_wI ?_ | refine p_wR ?_)); exact p_w0) | decide) only [reduceIte, Int.reduceLT, Int.reduceLE, Int.reduceEq, Int.reduceToNat, Int.reduceAdd, Int.reduceSub, Int.reduceMul, Int.reduceNeg, e262_775, e262_777, e262_778, e262_781, e262_783, e262_786, e262_787, e262_788, e262_790, e262_793, e262_794, e262_795, e262_796, e262_798, e262_799, e262_800, e262_803, e262_804, e262_805, p_is6, p_c2n, p_c2i, p_c2r, p_al2, p_cv0_0, p_cv0_1, p_cv0_2, p_cv0_3, p_cv0_4, zK_v, zK_0, WN_ncl, p_il5, p_ceq, p_push, p_ret1, p_ifne, p_al3, p_lald, p_il6, p_i2l, p_lcmp, p_ifeq, p_goto, WN_nx, WN_nrt, WN_ite, tt, o64, lw_lt]
      exact K _ _ _ _ _ _ (inv_q hI (by omega) f1 y3) (by omega)
theorem t_law9 (hI : zInv s0 N σ) (hN0 : 0 ≤ N) (hN : N ≤ 60000000) (hl : 4 * (i : Int) + 3 < s0 23 0) (hl2 : s0 23 0 ≤ 2048) (hs : ∀ k, zi3 (s0 0 k)) (hz : zTx s0) (K : ∀ (σ' : ZI) (x' : Nat) (l5 l6 l7 l8 : Option ZV), zInv s0 (N + 20000) σ' → x' ≤ x + 1 → Wp 262 2277 [some (.inr (.inl (some 0))), some (.inr (.inl (some 100))), some (.inr (.inl (some 3553))), some (.inr (.inl (some 3564))), some (.inl (4 * (i : Int))), l5, l6, l7, l8] [] (3565, x', zrho) σ' Q) : Wp 262 808 [some (.inr (.inl (some 0))), some (.inr (.inl (some 100))), some (.inr (.inl (some 3553))), some (.inr (.inl (some 3564))), some (.inl (4 * (i : Int))), l5, l6, l7, l8] [] (3565, x, zrho) σ Q := by
  obtain ⟨hA, hB, hC, hD, hE, hF, hG, hH⟩ := id hI
  have hk := hA.2.2.2.1
  have k20 : zkd 0 = 20 := rfl
  have k64 := zo_k
  have n64 := zo_n
  have gp : ∀ k, σ 0 k = s0 0 k := fun k => congrFun (hH.2 0 (by omega)) k
  have c23 : σ 23 0 = s0 23 0 := congrFun (hH.2 23 (by omega)) 0
  have e1 : (4 * (i : Int) + 1).toNat = 4 * i + 1 := by omega
  have e2 : (4 * (i : Int) + 2).toNat = 4 * i + 2 := by omega
  have e3 : (4 * (i : Int) + 3).toNat = 4 * i + 3 := by omega
  have s1 := hs (4 * i + 1)
  have s2 := hs (4 * i + 2)
  have s3 := hs (4 * i + 3)
  obtain ⟨s1a, s1b⟩ := s1
  obtain ⟨s2a, s2b⟩ := s2
  obtain ⟨s3a, s3b⟩ := s3
  obtain ⟨kp, n, hCr, hKr, hn8, hkk⟩ := hB
  simp (disch := first | assumption | exact p_c2i | exact p_c2r | exact p_c2n | omega | ((repeat (first | refine p_a1i.trans ?_ | refine p_a1r.trans ?_)); exact p_a10) | ((repeat (first | refine p_wI ?_ | refine p_wR ?_)); exact p_w0) | decide) only [reduceIte, Int.reduceLT, Int.reduceLE, Int.reduceEq, Int.reduceToNat, Int.reduceAdd, Int.reduceSub, Int.reduceMul, Int.reduceNeg, e262_808, e262_809, e262_810, e262_812, e262_813, e262_814, e262_815, e262_816, p_al1, p_al0, p_il4, p_push, p_bin, p_sald, p_al3, p_cs3_0, p_cs3_1, p_cs3_2, p_cs3_3, p_cs3_4, zK_v, zK_0, WN_ncl, WN_nx, WN_nrt, WN_ite, gp, e1, e2, e3]
  refine t_stepW (hs _) hA.1 hA.2 (by omega) hCr hn8 (fun z => b_step hA.2 z) (fun z1 => ?_) (fun z1 z2 z3 z4 z5 => ?_)
  · rw [zK_v]
    have ob := oStep_b (w := σ 3554) (r := s0 0 (4 * i + 1))
    have f0 := fun a (ha : a ≠ 100) => zref_f (σ := σ) (o := oStep (σ 3554) (s0 0 (4 * i + 1))) ha
    have fz := fun a (ha : a < 100) => f0 a (by omega)
    have es := lw_es (f0 3554 (by omega))
    have t6 := (congrFun (f0 3553 (by omega)) 6).trans hKr.1
    have t7 := (congrFun (f0 3553 (by omega)) 7).trans hH.1
    rw [← es]
    have gq := fun k => lw_g0 es fz gp k
    have c23q := lw_23 es fz c23
    simp (disch := first | assumption | exact p_c2i | exact p_c2r | exact p_c2n | omega | ((repeat (first | refine p_a1i.trans ?_ | refine p_a1r.trans ?_)); exact p_a10) | ((repeat (first | refine p_wI ?_ | refine p_wR ?_)); exact p_w0) | decide) only [reduceIte, Int.reduceLT, Int.reduceLE, Int.reduceEq, Int.reduceToNat, Int.reduceAdd, Int.reduceSub, Int.reduceMul, Int.reduceNeg, e262_819, e262_821, e262_822, e262_823, e262_825, e262_826, e262_827, e262_828, p_is5, p_c2n, p_c2i, p_c2r, p_al2, p_al0, p_il4, p_push, p_bin, p_sald, p_cv1_0, p_cv1_1, p_cv1_2, p_cv1_3, p_cv1_4, zK_v, zK_0, WN_ncl, WN_nx, WN_nrt, WN_ite, gq, e1, e2, e3]
    refine t_stepOM hA.2 (by omega) (hs _) t6 hn8 (Or.inl t7) (fun y1 y2 y3 => ?_) (fun y1 y2 y3 => ?_)
    · rw [zK_v]
      have e8 := y3.1
      have tt := fun (Q : ZO → ZT → ZI → Prop) (x : Nat) (w : zW) => t_thrownM (τ := y2) (w := w) (x := x) (Q := Q) (by rw [e8]; omega)
      rw [e8] at tt
      have dn := eq_false z1
      simp (disch := first | assumption | exact p_c2i | exact p_c2r | exact p_c2n | omega | ((repeat (first | refine p_a1i.trans ?_ | refine p_a1r.trans ?_)); exact p_a10) | ((repeat (first | refine p_wI ?_ | refine p_wR ?_)); exact p_w0) | decide) only [reduceIte, Int.reduceLT, Int.reduceLE, Int.reduceEq, Int.reduceToNat, Int.reduceAdd, Int.reduceSub, Int.reduceMul, Int.reduceNeg, e262_831, e262_833, e262_834, e262_837, e262_839, e262_842, e262_843, e262_844, e262_846, e262_849, e262_850, e262_851, e262_852, e262_854, e262_855, e262_856, e262_859, e262_860, e262_861, p_is6, p_c2n, p_c2i, p_c2r, p_al2, p_cv0_0, p_cv0_1, p_cv0_2, p_cv0_3, p_cv0_4, zK_v, zK_0, WN_ncl, p_il5, p_ceq, p_push, p_ret1, p_ifne, p_al3, p_lald, p_il6, p_i2l, p_lcmp, p_ifeq, p_goto, WN_nx, WN_nrt, WN_ite, tt, dn]
      have rr := oStep_r (a := s0 0 (4 * i + 1)) hk (by omega)
      exact K _ _ _ _ _ _ (inv_f hI (by omega) z1 rr.1 rr.2 y3) (by omega)
    · exfalso
      omega
  · rw [zK_v]
    have f0 : ∀ a, (a < 101 ∨ (413 ≤ a ∧ a < 1037) ∨ 3535 ≤ a) → a ≠ 3564 → zup z2 3564 0 ((aGS (σ 3554) (s0 0 (4 * i + 1)).toNat)) a = σ a := fun a ha hb => (zup_f hb).trans (z5 a ha)
    have fz := fun a (ha : a < 100) => f0 a (by omega) (by omega)
    have es := lw_es (f0 3554 (by omega) (by omega))
    have t6 := (congrFun (f0 3553 (by omega) (by omega)) 6).trans hKr.1
    have t7 := (congrFun (f0 3553 (by omega) (by omega)) 7).trans hH.1
    have bb : zi3 ((aGS (σ 3554) (s0 0 (4 * i + 1)).toNat)) := (fun z => b_step hA.2 z) z1
    obtain ⟨bb1, bb2⟩ := bb
    rw [← es]
    have gq := fun k => lw_g0 es fz gp k
    have c23q := lw_23 es fz c23
    simp (disch := first | assumption | exact p_c2i | exact p_c2r | exact p_c2n | omega | ((repeat (first | refine p_a1i.trans ?_ | refine p_a1r.trans ?_)); exact p_a10) | ((repeat (first | refine p_wI ?_ | refine p_wR ?_)); exact p_w0) | decide) only [reduceIte, Int.reduceLT, Int.reduceLE, Int.reduceEq, Int.reduceToNat, Int.reduceAdd, Int.reduceSub, Int.reduceMul, Int.reduceNeg, e262_819, e262_821, e262_822, e262_823, e262_825, e262_826, e262_827, e262_828, p_is5, p_c2n, p_c2i, p_c2r, p_al2, p_al0, p_il4, p_push, p_bin, p_sald, p_cv1_0, p_cv1_1, p_cv1_2, p_cv1_3, p_cv1_4, zK_v, zK_0, WN_ncl, WN_nx, WN_nrt, WN_ite, gq, e1, e2, e3]
    refine t_stepOM hA.2 (by omega) (hs _) t6 hn8 (Or.inl t7) (fun y1 y2 y3 => ?_) (fun y1 y2 y3 => ?_)
    · exfalso
      omega
    · rw [zK_v]
      have e8 := y3.1
      have tt := fun (Q : ZO → ZT → ZI → Prop) (x : Nat) (w : zW) => t_thrownM (τ := y2) (w := w) (x := x) (Q := Q) (by rw [e8]; exact ⟨Int.le_refl 0, by decide⟩)
      rw [e8] at tt
      have o64 := fun u => lw_64 (u := u) (y3.2.2.2.2.1 3564 (by omega) (by omega) (by omega))
      simp (disch := first | assumption | exact p_c2i | exact p_c2r | exact p_c2n | omega | ((repeat (first | refine p_a1i.trans ?_ | refine p_a1r.trans ?_)); exact p_a10) | ((repeat (first | refine p_wI ?_ | refine p_wR ?_)); exact p_w0) | decide) only [reduceIte, Int.reduceLT, Int.reduceLE, Int.reduceEq, Int.reduceToNat, Int.reduceAdd, Int.reduceSub, Int.reduceMul, Int.reduceNeg, e262_831, e262_833, e262_834, e262_837, e262_839, e262_842, e262_843, e262_844, e262_846, e262_849, e262_850, e262_851, e262_852, e262_854, e262_855, e262_856, e262_859, e262_860, e262_861, p_is6, p_c2n, p_c2i, p_c2r, p_al2, p_cv0_0, p_cv0_1, p_cv0_2, p_cv0_3, p_cv0_4, zK_v, zK_0, WN_ncl, p_il5, p_ceq, p_push, p_ret1, p_ifne, p_al3, p_lald, p_il6, p_i2l, p_lcmp, p_ifeq, p_goto, WN_nx, WN_nrt, WN_ite, tt, o64, lw_lt]
      exact K _ _ _ _ _ _ (inv_c hI (by omega) z3 z4 hKr hn8 hkk z5 y3 (zSok_mono (zSok_W (c := 115) (a1 := s0 0 (4 * i + 1)) (a2 := s0 0 (4 * i + 2)) (a3 := s0 0 (4 * i + 3)) (Or.inr (Or.inr (Or.inr (Or.inl rfl)))) hA.2 hN0 z1) (by omega))) (by omega)
theorem t_law11 (hI : zInv s0 N σ) (hN0 : 0 ≤ N) (hN : N ≤ 60000000) (hl : 4 * (i : Int) + 3 < s0 23 0) (hl2 : s0 23 0 ≤ 2048) (hs : ∀ k, zi3 (s0 0 k)) (hz : zTx s0) (K : ∀ (σ' : ZI) (x' : Nat) (l5 l6 l7 l8 : Option ZV), zInv s0 (N + 20000) σ' → x' ≤ x + 1 → Wp 262 2277 [some (.inr (.inl (some 0))), some (.inr (.inl (some 100))), some (.inr (.inl (some 3553))), some (.inr (.inl (some 3564))), some (.inl (4 * (i : Int))), l5, l6, l7, l8] [] (3565, x', zrho) σ' Q) : Wp 262 908 [some (.inr (.inl (some 0))), some (.inr (.inl (some 100))), some (.inr (.inl (some 3553))), some (.inr (.inl (some 3564))), some (.inl (4 * (i : Int))), l5, l6, l7, l8] [] (3565, x, zrho) σ Q := by
  obtain ⟨hA, hB, hC, hD, hE, hF, hG, hH⟩ := id hI
  have hk := hA.2.2.2.1
  have k20 : zkd 0 = 20 := rfl
  have k64 := zo_k
  have n64 := zo_n
  have gp : ∀ k, σ 0 k = s0 0 k := fun k => congrFun (hH.2 0 (by omega)) k
  have c23 : σ 23 0 = s0 23 0 := congrFun (hH.2 23 (by omega)) 0
  have e1 : (4 * (i : Int) + 1).toNat = 4 * i + 1 := by omega
  have e2 : (4 * (i : Int) + 2).toNat = 4 * i + 2 := by omega
  have e3 : (4 * (i : Int) + 3).toNat = 4 * i + 3 := by omega
  have s1 := hs (4 * i + 1)
  have s2 := hs (4 * i + 2)
  have s3 := hs (4 * i + 3)
  obtain ⟨s1a, s1b⟩ := s1
  obtain ⟨s2a, s2b⟩ := s2
  obtain ⟨s3a, s3b⟩ := s3
  simp (disch := first | assumption | exact p_c2i | exact p_c2r | exact p_c2n | omega | ((repeat (first | refine p_a1i.trans ?_ | refine p_a1r.trans ?_)); exact p_a10) | ((repeat (first | refine p_wI ?_ | refine p_wR ?_)); exact p_w0) | decide) only [reduceIte, Int.reduceLT, Int.reduceLE, Int.reduceEq, Int.reduceToNat, Int.reduceAdd, Int.reduceSub, Int.reduceMul, Int.reduceNeg, e262_908, e262_909, e262_910, p_al1, p_al3, p_cs2_0, p_cs2_1, p_cs2_2, p_cs2_3, p_cs2_4, zK_v, zK_0, WN_ncl, WN_nx, WN_nrt, WN_ite, gp, e1, e2, e3]
  refine t_isInverseW hA.1 hA.2 (fun _ => b_inv) (fun z1 => ?_) (fun z1 z2 z3 => ?_)
  · rw [zK_v]
    have f1 : zfx σ σ := zfx_r
    have fz := fun a (ha : a < 100) => f1 a (by omega) (by omega)
    have es := lw_es (f1 3554 (by omega) (by omega))
    rw [← es]
    have gq := fun k => lw_g0 es fz gp k
    have c23q := lw_23 es fz c23
    simp (disch := first | assumption | exact p_c2i | exact p_c2r | exact p_c2n | omega | ((repeat (first | refine p_a1i.trans ?_ | refine p_a1r.trans ?_)); exact p_a10) | ((repeat (first | refine p_wI ?_ | refine p_wR ?_)); exact p_w0) | decide) only [reduceIte, Int.reduceLT, Int.reduceLE, Int.reduceEq, Int.reduceToNat, Int.reduceAdd, Int.reduceSub, Int.reduceMul, Int.reduceNeg, e262_913, e262_915, e262_916, p_is5, p_c2n, p_c2i, p_c2r, p_al2, p_cv0_0, p_cv0_1, p_cv0_2, p_cv0_3, p_cv0_4, zK_v, zK_0, WN_ncl, WN_nx, WN_nrt, WN_ite, gq, e1, e2, e3]
    refine t_isInverseM hA.2 (fun y1 y2 y3 y4 => ?_) (fun y1 y2 y3 => ?_)
    · rw [zK_v]
      have e8 := y4.1
      have tt := fun (Q : ZO → ZT → ZI → Prop) (x : Nat) (w : zW) => t_thrownM (τ := y2) (w := w) (x := x) (Q := Q) (by rw [e8]; omega)
      rw [e8] at tt
      simp (disch := first | assumption | exact p_c2i | exact p_c2r | exact p_c2n | omega | ((repeat (first | refine p_a1i.trans ?_ | refine p_a1r.trans ?_)); exact p_a10) | ((repeat (first | refine p_wI ?_ | refine p_wR ?_)); exact p_w0) | decide) only [reduceIte, Int.reduceLT, Int.reduceLE, Int.reduceEq, Int.reduceToNat, Int.reduceAdd, Int.reduceSub, Int.reduceMul, Int.reduceNeg, e262_919, e262_921, e262_922, e262_925, e262_927, e262_930, e262_931, e262_932, e262_934, e262_937, e262_938, e262_939, e262_940, e262_942, e262_945, e262_946, e262_949, e262_950, e262_951, e262_954, e262_955, e262_956, p_is6, p_c2n, p_c2i, p_c2r, p_al2, p_cv0_0, p_cv0_1, p_cv0_2, p_cv0_3, p_cv0_4, zK_v, zK_0, WN_ncl, p_il5, p_ceq, p_push, p_ret1, p_ifne, p_al3, p_lald, p_il6, p_ifeq, p_goto, p_lcmp, WN_nx, WN_nrt, WN_ite, tt]
      exact K _ _ _ _ _ _ (inv_q hI (by omega) f1 y4) (by omega)
    · exfalso
      omega
  · rw [zK_v]
    have f1 := zfx_u (v := (qInv (σ 3554))) z3
    have fz := fun a (ha : a < 100) => f1 a (by omega) (by omega)
    have es := lw_es (f1 3554 (by omega) (by omega))
    have bb : zi3 ((qInv (σ 3554))) := (fun _ => b_inv) z1
    obtain ⟨bb1, bb2⟩ := bb
    rw [← es]
    have gq := fun k => lw_g0 es fz gp k
    have c23q := lw_23 es fz c23
    simp (disch := first | assumption | exact p_c2i | exact p_c2r | exact p_c2n | omega | ((repeat (first | refine p_a1i.trans ?_ | refine p_a1r.trans ?_)); exact p_a10) | ((repeat (first | refine p_wI ?_ | refine p_wR ?_)); exact p_w0) | decide) only [reduceIte, Int.reduceLT, Int.reduceLE, Int.reduceEq, Int.reduceToNat, Int.reduceAdd, Int.reduceSub, Int.reduceMul, Int.reduceNeg, e262_913, e262_915, e262_916, p_is5, p_c2n, p_c2i, p_c2r, p_al2, p_cv0_0, p_cv0_1, p_cv0_2, p_cv0_3, p_cv0_4, zK_v, zK_0, WN_ncl, WN_nx, WN_nrt, WN_ite, gq, e1, e2, e3]
    refine t_isInverseM hA.2 (fun y1 y2 y3 y4 => ?_) (fun y1 y2 y3 => ?_)
    · exfalso
      omega
    · rw [zK_v]
      have e8 := y3.1
      have tt := fun (Q : ZO → ZT → ZI → Prop) (x : Nat) (w : zW) => t_thrownM (τ := y2) (w := w) (x := x) (Q := Q) (by rw [e8]; omega)
      rw [e8] at tt
      have o64 := fun u => lw_64 (u := u) (y3.2.2 3564 (by omega) (by omega) (by omega) (by omega) (by omega))
      rcases aLook_01 (aInvN (σ 3554 0).toNat (σ 3554)) (zgl (σ 3554 201 - 1).toNat (σ 3554)) with qq | qq
      · unfold qInv at o64 ⊢
        rw [qq] at o64 ⊢
        simp (disch := first | assumption | exact p_c2i | exact p_c2r | exact p_c2n | omega | ((repeat (first | refine p_a1i.trans ?_ | refine p_a1r.trans ?_)); exact p_a10) | ((repeat (first | refine p_wI ?_ | refine p_wR ?_)); exact p_w0) | decide) only [reduceIte, Int.reduceLT, Int.reduceLE, Int.reduceEq, Int.reduceToNat, Int.reduceAdd, Int.reduceSub, Int.reduceMul, Int.reduceNeg, e262_919, e262_921, e262_922, e262_925, e262_927, e262_930, e262_931, e262_932, e262_934, e262_937, e262_938, e262_939, e262_940, e262_942, e262_945, e262_946, e262_949, e262_950, e262_951, e262_954, e262_955, e262_956, p_is6, p_c2n, p_c2i, p_c2r, p_al2, p_cv0_0, p_cv0_1, p_cv0_2, p_cv0_3, p_cv0_4, zK_v, zK_0, WN_ncl, p_il5, p_ceq, p_push, p_ret1, p_ifne, p_al3, p_lald, p_il6, p_ifeq, p_goto, p_lcmp, WN_nx, WN_nrt, WN_ite, tt, o64, lw_lt]
        exact K _ _ _ _ _ _ (inv_q hI (by omega) f1 y3) (by omega)
      · unfold qInv at o64 ⊢
        rw [qq] at o64 ⊢
        have d1 : ((1 : Int) = 0) = False := eq_false (by omega)
        simp (disch := first | assumption | exact p_c2i | exact p_c2r | exact p_c2n | omega | ((repeat (first | refine p_a1i.trans ?_ | refine p_a1r.trans ?_)); exact p_a10) | ((repeat (first | refine p_wI ?_ | refine p_wR ?_)); exact p_w0) | decide) only [reduceIte, Int.reduceLT, Int.reduceLE, Int.reduceEq, Int.reduceToNat, Int.reduceAdd, Int.reduceSub, Int.reduceMul, Int.reduceNeg, e262_919, e262_921, e262_922, e262_925, e262_927, e262_930, e262_931, e262_932, e262_934, e262_937, e262_938, e262_939, e262_940, e262_942, e262_945, e262_946, e262_949, e262_950, e262_951, e262_954, e262_955, e262_956, p_is6, p_c2n, p_c2i, p_c2r, p_al2, p_cv0_0, p_cv0_1, p_cv0_2, p_cv0_3, p_cv0_4, zK_v, zK_0, WN_ncl, p_il5, p_ceq, p_push, p_ret1, p_ifne, p_al3, p_lald, p_il6, p_ifeq, p_goto, p_lcmp, WN_nx, WN_nrt, WN_ite, tt, o64, lw_lt, d1]
        exact K _ _ _ _ _ _ (inv_q hI (by omega) f1 y3) (by omega)
theorem t_law12 (hI : zInv s0 N σ) (hN0 : 0 ≤ N) (hN : N ≤ 60000000) (hl : 4 * (i : Int) + 3 < s0 23 0) (hl2 : s0 23 0 ≤ 2048) (hs : ∀ k, zi3 (s0 0 k)) (hz : zTx s0) (K : ∀ (σ' : ZI) (x' : Nat) (l5 l6 l7 l8 : Option ZV), zInv s0 (N + 20000) σ' → x' ≤ x + 1 → Wp 262 2277 [some (.inr (.inl (some 0))), some (.inr (.inl (some 100))), some (.inr (.inl (some 3553))), some (.inr (.inl (some 3564))), some (.inl (4 * (i : Int))), l5, l6, l7, l8] [] (3565, x', zrho) σ' Q) : Wp 262 959 [some (.inr (.inl (some 0))), some (.inr (.inl (some 100))), some (.inr (.inl (some 3553))), some (.inr (.inl (some 3564))), some (.inl (4 * (i : Int))), l5, l6, l7, l8] [] (3565, x, zrho) σ Q := by
  obtain ⟨hA, hB, hC, hD, hE, hF, hG, hH⟩ := id hI
  have hk := hA.2.2.2.1
  have k20 : zkd 0 = 20 := rfl
  have k64 := zo_k
  have n64 := zo_n
  have gp : ∀ k, σ 0 k = s0 0 k := fun k => congrFun (hH.2 0 (by omega)) k
  have c23 : σ 23 0 = s0 23 0 := congrFun (hH.2 23 (by omega)) 0
  have e1 : (4 * (i : Int) + 1).toNat = 4 * i + 1 := by omega
  have e2 : (4 * (i : Int) + 2).toNat = 4 * i + 2 := by omega
  have e3 : (4 * (i : Int) + 3).toNat = 4 * i + 3 := by omega
  have s1 := hs (4 * i + 1)
  have s2 := hs (4 * i + 2)
  have s3 := hs (4 * i + 3)
  obtain ⟨s1a, s1b⟩ := s1
  obtain ⟨s2a, s2b⟩ := s2
  obtain ⟨s3a, s3b⟩ := s3
  simp (disch := first | assumption | exact p_c2i | exact p_c2r | exact p_c2n | omega | ((repeat (first | refine p_a1i.trans ?_ | refine p_a1r.trans ?_)); exact p_a10) | ((repeat (first | refine p_wI ?_ | refine p_wR ?_)); exact p_w0) | decide) only [reduceIte, Int.reduceLT, Int.reduceLE, Int.reduceEq, Int.reduceToNat, Int.reduceAdd, Int.reduceSub, Int.reduceMul, Int.reduceNeg, e262_959, e262_960, e262_961, e262_963, e262_964, e262_965, e262_966, e262_967, p_al1, p_al0, p_il4, p_push, p_bin, p_sald, p_al3, p_cs3_0, p_cs3_1, p_cs3_2, p_cs3_3, p_cs3_4, zK_v, zK_0, WN_ncl, WN_nx, WN_nrt, WN_ite, gp, e1, e2, e3]
  refine t_trailW hA.1 hA.2 (hs _) (fun z => b_trail hk z) (fun z1 => ?_) (fun z1 z2 z3 => ?_)
  · rw [zK_v]
    have f1 : zfx σ σ := zfx_r
    have fz := fun a (ha : a < 100) => f1 a (by omega) (by omega)
    have es := lw_es (f1 3554 (by omega) (by omega))
    rw [← es]
    have gq := fun k => lw_g0 es fz gp k
    have c23q := lw_23 es fz c23
    simp (disch := first | assumption | exact p_c2i | exact p_c2r | exact p_c2n | omega | ((repeat (first | refine p_a1i.trans ?_ | refine p_a1r.trans ?_)); exact p_a10) | ((repeat (first | refine p_wI ?_ | refine p_wR ?_)); exact p_w0) | decide) only [reduceIte, Int.reduceLT, Int.reduceLE, Int.reduceEq, Int.reduceToNat, Int.reduceAdd, Int.reduceSub, Int.reduceMul, Int.reduceNeg, e262_970, e262_972, e262_973, e262_974, e262_976, e262_977, e262_978, e262_979, p_is5, p_c2n, p_c2i, p_c2r, p_al2, p_al0, p_il4, p_push, p_bin, p_sald, p_cv1_0, p_cv1_1, p_cv1_2, p_cv1_3, p_cv1_4, zK_v, zK_0, WN_ncl, WN_nx, WN_nrt, WN_ite, gq, e1, e2, e3]
    refine t_trailM hk (hs _) (fun y1 y2 y3 y4 => ?_) (fun y1 y2 y3 => ?_)
    · rw [zK_v]
      have e8 := y4.1
      have tt := fun (Q : ZO → ZT → ZI → Prop) (x : Nat) (w : zW) => t_thrownM (τ := y2) (w := w) (x := x) (Q := Q) (by rw [e8]; omega)
      rw [e8] at tt
      simp (disch := first | assumption | exact p_c2i | exact p_c2r | exact p_c2n | omega | ((repeat (first | refine p_a1i.trans ?_ | refine p_a1r.trans ?_)); exact p_a10) | ((repeat (first | refine p_wI ?_ | refine p_wR ?_)); exact p_w0) | decide) only [reduceIte, Int.reduceLT, Int.reduceLE, Int.reduceEq, Int.reduceToNat, Int.reduceAdd, Int.reduceSub, Int.reduceMul, Int.reduceNeg, e262_982, e262_984, e262_985, e262_988, e262_990, e262_993, e262_994, e262_995, e262_997, e262_1000, e262_1001, e262_1002, e262_1003, e262_1005, e262_1006, e262_1007, e262_1010, e262_1011, e262_1012, p_is6, p_c2n, p_c2i, p_c2r, p_al2, p_cv0_0, p_cv0_1, p_cv0_2, p_cv0_3, p_cv0_4, zK_v, zK_0, WN_ncl, p_il5, p_ceq, p_push, p_ret1, p_ifne, p_al3, p_lald, p_il6, p_i2l, p_lcmp, p_ifeq, p_goto, WN_nx, WN_nrt, WN_ite, tt]
      exact K _ _ _ _ _ _ (inv_q hI (by omega) f1 y4) (by omega)
    · exfalso
      omega
  · rw [zK_v]
    have f1 := zfx_u (v := ((σ 3554) (188 + (s0 0 (4 * i + 1)).toNat))) z3
    have fz := fun a (ha : a < 100) => f1 a (by omega) (by omega)
    have es := lw_es (f1 3554 (by omega) (by omega))
    have bb : zi3 (((σ 3554) (188 + (s0 0 (4 * i + 1)).toNat))) := (fun z => b_trail hk z) z1
    obtain ⟨bb1, bb2⟩ := bb
    rw [← es]
    have gq := fun k => lw_g0 es fz gp k
    have c23q := lw_23 es fz c23
    simp (disch := first | assumption | exact p_c2i | exact p_c2r | exact p_c2n | omega | ((repeat (first | refine p_a1i.trans ?_ | refine p_a1r.trans ?_)); exact p_a10) | ((repeat (first | refine p_wI ?_ | refine p_wR ?_)); exact p_w0) | decide) only [reduceIte, Int.reduceLT, Int.reduceLE, Int.reduceEq, Int.reduceToNat, Int.reduceAdd, Int.reduceSub, Int.reduceMul, Int.reduceNeg, e262_970, e262_972, e262_973, e262_974, e262_976, e262_977, e262_978, e262_979, p_is5, p_c2n, p_c2i, p_c2r, p_al2, p_al0, p_il4, p_push, p_bin, p_sald, p_cv1_0, p_cv1_1, p_cv1_2, p_cv1_3, p_cv1_4, zK_v, zK_0, WN_ncl, WN_nx, WN_nrt, WN_ite, gq, e1, e2, e3]
    refine t_trailM hk (hs _) (fun y1 y2 y3 y4 => ?_) (fun y1 y2 y3 => ?_)
    · exfalso
      omega
    · rw [zK_v]
      have e8 := y3.1
      have tt := fun (Q : ZO → ZT → ZI → Prop) (x : Nat) (w : zW) => t_thrownM (τ := y2) (w := w) (x := x) (Q := Q) (by rw [e8]; omega)
      rw [e8] at tt
      have o64 := fun u => lw_64 (u := u) (y3.2.2 3564 (by omega) (by omega) (by omega) (by omega) (by omega))
      simp (disch := first | assumption | exact p_c2i | exact p_c2r | exact p_c2n | omega | ((repeat (first | refine p_a1i.trans ?_ | refine p_a1r.trans ?_)); exact p_a10) | ((repeat (first | refine p_wI ?_ | refine p_wR ?_)); exact p_w0) | decide) only [reduceIte, Int.reduceLT, Int.reduceLE, Int.reduceEq, Int.reduceToNat, Int.reduceAdd, Int.reduceSub, Int.reduceMul, Int.reduceNeg, e262_982, e262_984, e262_985, e262_988, e262_990, e262_993, e262_994, e262_995, e262_997, e262_1000, e262_1001, e262_1002, e262_1003, e262_1005, e262_1006, e262_1007, e262_1010, e262_1011, e262_1012, p_is6, p_c2n, p_c2i, p_c2r, p_al2, p_cv0_0, p_cv0_1, p_cv0_2, p_cv0_3, p_cv0_4, zK_v, zK_0, WN_ncl, p_il5, p_ceq, p_push, p_ret1, p_ifne, p_al3, p_lald, p_il6, p_i2l, p_lcmp, p_ifeq, p_goto, WN_nx, WN_nrt, WN_ite, tt, o64, lw_lt]
      exact K _ _ _ _ _ _ (inv_q hI (by omega) f1 y3) (by omega)
theorem t_law13 (hI : zInv s0 N σ) (hN0 : 0 ≤ N) (hN : N ≤ 60000000) (hl : 4 * (i : Int) + 3 < s0 23 0) (hl2 : s0 23 0 ≤ 2048) (hs : ∀ k, zi3 (s0 0 k)) (hz : zTx s0) (K : ∀ (σ' : ZI) (x' : Nat) (l5 l6 l7 l8 : Option ZV), zInv s0 (N + 20000) σ' → x' ≤ x + 1 → Wp 262 2277 [some (.inr (.inl (some 0))), some (.inr (.inl (some 100))), some (.inr (.inl (some 3553))), some (.inr (.inl (some 3564))), some (.inl (4 * (i : Int))), l5, l6, l7, l8] [] (3565, x', zrho) σ' Q) : Wp 262 1015 [some (.inr (.inl (some 0))), some (.inr (.inl (some 100))), some (.inr (.inl (some 3553))), some (.inr (.inl (some 3564))), some (.inl (4 * (i : Int))), l5, l6, l7, l8] [] (3565, x, zrho) σ Q := by
  obtain ⟨hA, hB, hC, hD, hE, hF, hG, hH⟩ := id hI
  have hk := hA.2.2.2.1
  have k20 : zkd 0 = 20 := rfl
  have k64 := zo_k
  have n64 := zo_n
  have gp : ∀ k, σ 0 k = s0 0 k := fun k => congrFun (hH.2 0 (by omega)) k
  have c23 : σ 23 0 = s0 23 0 := congrFun (hH.2 23 (by omega)) 0
  have e1 : (4 * (i : Int) + 1).toNat = 4 * i + 1 := by omega
  have e2 : (4 * (i : Int) + 2).toNat = 4 * i + 2 := by omega
  have e3 : (4 * (i : Int) + 3).toNat = 4 * i + 3 := by omega
  have s1 := hs (4 * i + 1)
  have s2 := hs (4 * i + 2)
  have s3 := hs (4 * i + 3)
  obtain ⟨s1a, s1b⟩ := s1
  obtain ⟨s2a, s2b⟩ := s2
  obtain ⟨s3a, s3b⟩ := s3
  simp (disch := first | assumption | exact p_c2i | exact p_c2r | exact p_c2n | omega | ((repeat (first | refine p_a1i.trans ?_ | refine p_a1r.trans ?_)); exact p_a10) | ((repeat (first | refine p_wI ?_ | refine p_wR ?_)); exact p_w0) | decide) only [reduceIte, Int.reduceLT, Int.reduceLE, Int.reduceEq, Int.reduceToNat, Int.reduceAdd, Int.reduceSub, Int.reduceMul, Int.reduceNeg, e262_1015, e262_1016, e262_1017, e262_1019, e262_1020, e262_1021, e262_1022, e262_1023, e262_1025, e262_1026, e262_1027, e262_1028, e262_1029, p_al1, p_al0, p_il4, p_push, p_bin, p_sald, p_al3, p_cs4_0, p_cs4_1, p_cs4_2, p_cs4_3, p_cs4_4, zK_v, zK_0, WN_ncl, WN_nx, WN_nrt, WN_ite, gp, e1, e2, e3]
  refine t_paintedW hA.1 hA.2 (hs _) (hs _) (fun z => b_painted hk (by omega) z) (fun z1 => ?_) (fun z1 z2 z3 => ?_)
  · rw [zK_v]
    have f1 : zfx σ σ := zfx_r
    have fz := fun a (ha : a < 100) => f1 a (by omega) (by omega)
    have es := lw_es (f1 3554 (by omega) (by omega))
    rw [← es]
    have gq := fun k => lw_g0 es fz gp k
    have c23q := lw_23 es fz c23
    simp (disch := first | assumption | exact p_c2i | exact p_c2r | exact p_c2n | omega | ((repeat (first | refine p_a1i.trans ?_ | refine p_a1r.trans ?_)); exact p_a10) | ((repeat (first | refine p_wI ?_ | refine p_wR ?_)); exact p_w0) | decide) only [reduceIte, Int.reduceLT, Int.reduceLE, Int.reduceEq, Int.reduceToNat, Int.reduceAdd, Int.reduceSub, Int.reduceMul, Int.reduceNeg, e262_1032, e262_1034, e262_1035, e262_1036, e262_1038, e262_1039, e262_1040, e262_1041, e262_1042, e262_1044, e262_1045, e262_1046, e262_1047, p_is5, p_c2n, p_c2i, p_c2r, p_al2, p_al0, p_il4, p_push, p_bin, p_sald, p_cv2_0, p_cv2_1, p_cv2_2, p_cv2_3, p_cv2_4, zK_v, zK_0, WN_ncl, WN_nx, WN_nrt, WN_ite, gq, e1, e2, e3]
    refine t_paintedM hk (hs _) (hs _) (fun y1 y2 y3 y4 => ?_) (fun y1 y2 y3 => ?_)
    · rw [zK_v]
      have e8 := y4.1
      have tt := fun (Q : ZO → ZT → ZI → Prop) (x : Nat) (w : zW) => t_thrownM (τ := y2) (w := w) (x := x) (Q := Q) (by rw [e8]; omega)
      rw [e8] at tt
      simp (disch := first | assumption | exact p_c2i | exact p_c2r | exact p_c2n | omega | ((repeat (first | refine p_a1i.trans ?_ | refine p_a1r.trans ?_)); exact p_a10) | ((repeat (first | refine p_wI ?_ | refine p_wR ?_)); exact p_w0) | decide) only [reduceIte, Int.reduceLT, Int.reduceLE, Int.reduceEq, Int.reduceToNat, Int.reduceAdd, Int.reduceSub, Int.reduceMul, Int.reduceNeg, e262_1050, e262_1052, e262_1053, e262_1056, e262_1058, e262_1061, e262_1062, e262_1063, e262_1065, e262_1068, e262_1069, e262_1070, e262_1071, e262_1073, e262_1074, e262_1075, e262_1078, e262_1079, e262_1080, p_is6, p_c2n, p_c2i, p_c2r, p_al2, p_cv0_0, p_cv0_1, p_cv0_2, p_cv0_3, p_cv0_4, zK_v, zK_0, WN_ncl, p_il5, p_ceq, p_push, p_ret1, p_ifne, p_al3, p_lald, p_il6, p_i2l, p_lcmp, p_ifeq, p_goto, WN_nx, WN_nrt, WN_ite, tt]
      exact K _ _ _ _ _ _ (inv_q hI (by omega) f1 y4) (by omega)
    · exfalso
      omega
  · rw [zK_v]
    have f1 := zfx_u (v := ((σ 3554) (91 + (9 * (s0 0 (4 * i + 1)) + (s0 0 (4 * i + 2))).toNat))) z3
    have fz := fun a (ha : a < 100) => f1 a (by omega) (by omega)
    have es := lw_es (f1 3554 (by omega) (by omega))
    have bb : zi3 (((σ 3554) (91 + (9 * (s0 0 (4 * i + 1)) + (s0 0 (4 * i + 2))).toNat))) := (fun z => b_painted hk (by omega) z) z1
    obtain ⟨bb1, bb2⟩ := bb
    rw [← es]
    have gq := fun k => lw_g0 es fz gp k
    have c23q := lw_23 es fz c23
    simp (disch := first | assumption | exact p_c2i | exact p_c2r | exact p_c2n | omega | ((repeat (first | refine p_a1i.trans ?_ | refine p_a1r.trans ?_)); exact p_a10) | ((repeat (first | refine p_wI ?_ | refine p_wR ?_)); exact p_w0) | decide) only [reduceIte, Int.reduceLT, Int.reduceLE, Int.reduceEq, Int.reduceToNat, Int.reduceAdd, Int.reduceSub, Int.reduceMul, Int.reduceNeg, e262_1032, e262_1034, e262_1035, e262_1036, e262_1038, e262_1039, e262_1040, e262_1041, e262_1042, e262_1044, e262_1045, e262_1046, e262_1047, p_is5, p_c2n, p_c2i, p_c2r, p_al2, p_al0, p_il4, p_push, p_bin, p_sald, p_cv2_0, p_cv2_1, p_cv2_2, p_cv2_3, p_cv2_4, zK_v, zK_0, WN_ncl, WN_nx, WN_nrt, WN_ite, gq, e1, e2, e3]
    refine t_paintedM hk (hs _) (hs _) (fun y1 y2 y3 y4 => ?_) (fun y1 y2 y3 => ?_)
    · exfalso
      omega
    · rw [zK_v]
      have e8 := y3.1
      have tt := fun (Q : ZO → ZT → ZI → Prop) (x : Nat) (w : zW) => t_thrownM (τ := y2) (w := w) (x := x) (Q := Q) (by rw [e8]; omega)
      rw [e8] at tt
      have o64 := fun u => lw_64 (u := u) (y3.2.2 3564 (by omega) (by omega) (by omega) (by omega) (by omega))
      simp (disch := first | assumption | exact p_c2i | exact p_c2r | exact p_c2n | omega | ((repeat (first | refine p_a1i.trans ?_ | refine p_a1r.trans ?_)); exact p_a10) | ((repeat (first | refine p_wI ?_ | refine p_wR ?_)); exact p_w0) | decide) only [reduceIte, Int.reduceLT, Int.reduceLE, Int.reduceEq, Int.reduceToNat, Int.reduceAdd, Int.reduceSub, Int.reduceMul, Int.reduceNeg, e262_1050, e262_1052, e262_1053, e262_1056, e262_1058, e262_1061, e262_1062, e262_1063, e262_1065, e262_1068, e262_1069, e262_1070, e262_1071, e262_1073, e262_1074, e262_1075, e262_1078, e262_1079, e262_1080, p_is6, p_c2n, p_c2i, p_c2r, p_al2, p_cv0_0, p_cv0_1, p_cv0_2, p_cv0_3, p_cv0_4, zK_v, zK_0, WN_ncl, p_il5, p_ceq, p_push, p_ret1, p_ifne, p_al3, p_lald, p_il6, p_i2l, p_lcmp, p_ifeq, p_goto, WN_nx, WN_nrt, WN_ite, tt, o64, lw_lt]
      exact K _ _ _ _ _ _ (inv_q hI (by omega) f1 y3) (by omega)
theorem t_law14 (hI : zInv s0 N σ) (hN0 : 0 ≤ N) (hN : N ≤ 60000000) (hl : 4 * (i : Int) + 3 < s0 23 0) (hl2 : s0 23 0 ≤ 2048) (hs : ∀ k, zi3 (s0 0 k)) (hz : zTx s0) (K : ∀ (σ' : ZI) (x' : Nat) (l5 l6 l7 l8 : Option ZV), zInv s0 (N + 20000) σ' → x' ≤ x + 1 → Wp 262 2277 [some (.inr (.inl (some 0))), some (.inr (.inl (some 100))), some (.inr (.inl (some 3553))), some (.inr (.inl (some 3564))), some (.inl (4 * (i : Int))), l5, l6, l7, l8] [] (3565, x', zrho) σ' Q) : Wp 262 1083 [some (.inr (.inl (some 0))), some (.inr (.inl (some 100))), some (.inr (.inl (some 3553))), some (.inr (.inl (some 3564))), some (.inl (4 * (i : Int))), l5, l6, l7, l8] [] (3565, x, zrho) σ Q := by
  obtain ⟨hA, hB, hC, hD, hE, hF, hG, hH⟩ := id hI
  have hk := hA.2.2.2.1
  have k20 : zkd 0 = 20 := rfl
  have k64 := zo_k
  have n64 := zo_n
  have gp : ∀ k, σ 0 k = s0 0 k := fun k => congrFun (hH.2 0 (by omega)) k
  have c23 : σ 23 0 = s0 23 0 := congrFun (hH.2 23 (by omega)) 0
  have e1 : (4 * (i : Int) + 1).toNat = 4 * i + 1 := by omega
  have e2 : (4 * (i : Int) + 2).toNat = 4 * i + 2 := by omega
  have e3 : (4 * (i : Int) + 3).toNat = 4 * i + 3 := by omega
  have s1 := hs (4 * i + 1)
  have s2 := hs (4 * i + 2)
  have s3 := hs (4 * i + 3)
  obtain ⟨s1a, s1b⟩ := s1
  obtain ⟨s2a, s2b⟩ := s2
  obtain ⟨s3a, s3b⟩ := s3
  simp (disch := first | assumption | exact p_c2i | exact p_c2r | exact p_c2n | omega | ((repeat (first | refine p_a1i.trans ?_ | refine p_a1r.trans ?_)); exact p_a10) | ((repeat (first | refine p_wI ?_ | refine p_wR ?_)); exact p_w0) | decide) only [reduceIte, Int.reduceLT, Int.reduceLE, Int.reduceEq, Int.reduceToNat, Int.reduceAdd, Int.reduceSub, Int.reduceMul, Int.reduceNeg, e262_1083, e262_1084, e262_1085, e262_1087, e262_1088, e262_1089, e262_1090, e262_1091, p_al1, p_al0, p_il4, p_push, p_bin, p_sald, p_al3, p_cs3_0, p_cs3_1, p_cs3_2, p_cs3_3, p_cs3_4, zK_v, zK_0, WN_ncl, WN_nx, WN_nrt, WN_ite, gp, e1, e2, e3]
  refine t_countW hA.1 hA.2 (hs _) (fun _ => b_zct) (fun z1 => ?_) (fun z1 z2 z3 => ?_)
  · rw [zK_v]
    have f1 : zfx σ σ := zfx_r
    have fz := fun a (ha : a < 100) => f1 a (by omega) (by omega)
    have es := lw_es (f1 3554 (by omega) (by omega))
    rw [← es]
    have gq := fun k => lw_g0 es fz gp k
    have c23q := lw_23 es fz c23
    simp (disch := first | assumption | exact p_c2i | exact p_c2r | exact p_c2n | omega | ((repeat (first | refine p_a1i.trans ?_ | refine p_a1r.trans ?_)); exact p_a10) | ((repeat (first | refine p_wI ?_ | refine p_wR ?_)); exact p_w0) | decide) only [reduceIte, Int.reduceLT, Int.reduceLE, Int.reduceEq, Int.reduceToNat, Int.reduceAdd, Int.reduceSub, Int.reduceMul, Int.reduceNeg, e262_1094, e262_1096, e262_1097, e262_1098, e262_1100, e262_1101, e262_1102, e262_1103, p_is5, p_c2n, p_c2i, p_c2r, p_al2, p_al0, p_il4, p_push, p_bin, p_sald, p_cv1_0, p_cv1_1, p_cv1_2, p_cv1_3, p_cv1_4, zK_v, zK_0, WN_ncl, WN_nx, WN_nrt, WN_ite, gq, e1, e2, e3]
    refine t_countM hk (hs _) (fun y1 y2 y3 y4 => ?_) (fun y1 y2 y3 => ?_)
    · rw [zK_v]
      have e8 := y4.1
      have tt := fun (Q : ZO → ZT → ZI → Prop) (x : Nat) (w : zW) => t_thrownM (τ := y2) (w := w) (x := x) (Q := Q) (by rw [e8]; omega)
      rw [e8] at tt
      simp (disch := first | assumption | exact p_c2i | exact p_c2r | exact p_c2n | omega | ((repeat (first | refine p_a1i.trans ?_ | refine p_a1r.trans ?_)); exact p_a10) | ((repeat (first | refine p_wI ?_ | refine p_wR ?_)); exact p_w0) | decide) only [reduceIte, Int.reduceLT, Int.reduceLE, Int.reduceEq, Int.reduceToNat, Int.reduceAdd, Int.reduceSub, Int.reduceMul, Int.reduceNeg, e262_1106, e262_1108, e262_1109, e262_1112, e262_1114, e262_1117, e262_1118, e262_1119, e262_1121, e262_1124, e262_1125, e262_1126, e262_1127, e262_1129, e262_1130, e262_1131, e262_1134, e262_1135, e262_1136, p_is6, p_c2n, p_c2i, p_c2r, p_al2, p_cv0_0, p_cv0_1, p_cv0_2, p_cv0_3, p_cv0_4, zK_v, zK_0, WN_ncl, p_il5, p_ceq, p_push, p_ret1, p_ifne, p_al3, p_lald, p_il6, p_i2l, p_lcmp, p_ifeq, p_goto, WN_nx, WN_nrt, WN_ite, tt]
      exact K _ _ _ _ _ _ (inv_q hI (by omega) f1 y4) (by omega)
    · exfalso
      omega
  · rw [zK_v]
    have f1 := zfx_u (v := (zct (fun c => decide ((σ 3554) (10 + c) = (s0 0 (4 * i + 1)))) 81)) z3
    have fz := fun a (ha : a < 100) => f1 a (by omega) (by omega)
    have es := lw_es (f1 3554 (by omega) (by omega))
    have bb : zi3 ((zct (fun c => decide ((σ 3554) (10 + c) = (s0 0 (4 * i + 1)))) 81)) := (fun _ => b_zct) z1
    obtain ⟨bb1, bb2⟩ := bb
    rw [← es]
    have gq := fun k => lw_g0 es fz gp k
    have c23q := lw_23 es fz c23
    simp (disch := first | assumption | exact p_c2i | exact p_c2r | exact p_c2n | omega | ((repeat (first | refine p_a1i.trans ?_ | refine p_a1r.trans ?_)); exact p_a10) | ((repeat (first | refine p_wI ?_ | refine p_wR ?_)); exact p_w0) | decide) only [reduceIte, Int.reduceLT, Int.reduceLE, Int.reduceEq, Int.reduceToNat, Int.reduceAdd, Int.reduceSub, Int.reduceMul, Int.reduceNeg, e262_1094, e262_1096, e262_1097, e262_1098, e262_1100, e262_1101, e262_1102, e262_1103, p_is5, p_c2n, p_c2i, p_c2r, p_al2, p_al0, p_il4, p_push, p_bin, p_sald, p_cv1_0, p_cv1_1, p_cv1_2, p_cv1_3, p_cv1_4, zK_v, zK_0, WN_ncl, WN_nx, WN_nrt, WN_ite, gq, e1, e2, e3]
    refine t_countM hk (hs _) (fun y1 y2 y3 y4 => ?_) (fun y1 y2 y3 => ?_)
    · exfalso
      omega
    · rw [zK_v]
      have e8 := y3.1
      have tt := fun (Q : ZO → ZT → ZI → Prop) (x : Nat) (w : zW) => t_thrownM (τ := y2) (w := w) (x := x) (Q := Q) (by rw [e8]; omega)
      rw [e8] at tt
      have o64 := fun u => lw_64 (u := u) (y3.2.2 3564 (by omega) (by omega) (by omega) (by omega) (by omega))
      simp (disch := first | assumption | exact p_c2i | exact p_c2r | exact p_c2n | omega | ((repeat (first | refine p_a1i.trans ?_ | refine p_a1r.trans ?_)); exact p_a10) | ((repeat (first | refine p_wI ?_ | refine p_wR ?_)); exact p_w0) | decide) only [reduceIte, Int.reduceLT, Int.reduceLE, Int.reduceEq, Int.reduceToNat, Int.reduceAdd, Int.reduceSub, Int.reduceMul, Int.reduceNeg, e262_1106, e262_1108, e262_1109, e262_1112, e262_1114, e262_1117, e262_1118, e262_1119, e262_1121, e262_1124, e262_1125, e262_1126, e262_1127, e262_1129, e262_1130, e262_1131, e262_1134, e262_1135, e262_1136, p_is6, p_c2n, p_c2i, p_c2r, p_al2, p_cv0_0, p_cv0_1, p_cv0_2, p_cv0_3, p_cv0_4, zK_v, zK_0, WN_ncl, p_il5, p_ceq, p_push, p_ret1, p_ifne, p_al3, p_lald, p_il6, p_i2l, p_lcmp, p_ifeq, p_goto, WN_nx, WN_nrt, WN_ite, tt, o64, lw_lt]
      exact K _ _ _ _ _ _ (inv_q hI (by omega) f1 y3) (by omega)
theorem t_law15 (hI : zInv s0 N σ) (hN0 : 0 ≤ N) (hN : N ≤ 60000000) (hl : 4 * (i : Int) + 3 < s0 23 0) (hl2 : s0 23 0 ≤ 2048) (hs : ∀ k, zi3 (s0 0 k)) (hz : zTx s0) (K : ∀ (σ' : ZI) (x' : Nat) (l5 l6 l7 l8 : Option ZV), zInv s0 (N + 20000) σ' → x' ≤ x + 1 → Wp 262 2277 [some (.inr (.inl (some 0))), some (.inr (.inl (some 100))), some (.inr (.inl (some 3553))), some (.inr (.inl (some 3564))), some (.inl (4 * (i : Int))), l5, l6, l7, l8] [] (3565, x', zrho) σ' Q) : Wp 262 1139 [some (.inr (.inl (some 0))), some (.inr (.inl (some 100))), some (.inr (.inl (some 3553))), some (.inr (.inl (some 3564))), some (.inl (4 * (i : Int))), l5, l6, l7, l8] [] (3565, x, zrho) σ Q := by
  obtain ⟨hA, hB, hC, hD, hE, hF, hG, hH⟩ := id hI
  have hk := hA.2.2.2.1
  have k20 : zkd 0 = 20 := rfl
  have k64 := zo_k
  have n64 := zo_n
  have gp : ∀ k, σ 0 k = s0 0 k := fun k => congrFun (hH.2 0 (by omega)) k
  have c23 : σ 23 0 = s0 23 0 := congrFun (hH.2 23 (by omega)) 0
  have e1 : (4 * (i : Int) + 1).toNat = 4 * i + 1 := by omega
  have e2 : (4 * (i : Int) + 2).toNat = 4 * i + 2 := by omega
  have e3 : (4 * (i : Int) + 3).toNat = 4 * i + 3 := by omega
  have s1 := hs (4 * i + 1)
  have s2 := hs (4 * i + 2)
  have s3 := hs (4 * i + 3)
  obtain ⟨s1a, s1b⟩ := s1
  obtain ⟨s2a, s2b⟩ := s2
  obtain ⟨s3a, s3b⟩ := s3
  simp (disch := first | assumption | exact p_c2i | exact p_c2r | exact p_c2n | omega | ((repeat (first | refine p_a1i.trans ?_ | refine p_a1r.trans ?_)); exact p_a10) | ((repeat (first | refine p_wI ?_ | refine p_wR ?_)); exact p_w0) | decide) only [reduceIte, Int.reduceLT, Int.reduceLE, Int.reduceEq, Int.reduceToNat, Int.reduceAdd, Int.reduceSub, Int.reduceMul, Int.reduceNeg, e262_1139, e262_1140, e262_1141, e262_1143, e262_1144, e262_1145, e262_1146, e262_1147, p_al1, p_al0, p_il4, p_push, p_bin, p_sald, p_al3, p_cs3_0, p_cs3_1, p_cs3_2, p_cs3_3, p_cs3_4, zK_v, zK_0, WN_ncl, WN_nx, WN_nrt, WN_ite, gp, e1, e2, e3]
  refine t_fieldsW hA.1 hA.2 (hs _) (fun _ => b_fMany) (fun z1 => ?_) (fun z1 z2 z3 => ?_)
  · rw [zK_v]
    have f1 : zfx σ σ := zfx_r
    have fz := fun a (ha : a < 100) => f1 a (by omega) (by omega)
    have es := lw_es (f1 3554 (by omega) (by omega))
    rw [← es]
    have gq := fun k => lw_g0 es fz gp k
    have c23q := lw_23 es fz c23
    simp (disch := first | assumption | exact p_c2i | exact p_c2r | exact p_c2n | omega | ((repeat (first | refine p_a1i.trans ?_ | refine p_a1r.trans ?_)); exact p_a10) | ((repeat (first | refine p_wI ?_ | refine p_wR ?_)); exact p_w0) | decide) only [reduceIte, Int.reduceLT, Int.reduceLE, Int.reduceEq, Int.reduceToNat, Int.reduceAdd, Int.reduceSub, Int.reduceMul, Int.reduceNeg, e262_1150, e262_1152, e262_1153, e262_1154, e262_1156, e262_1157, e262_1158, e262_1159, p_is5, p_c2n, p_c2i, p_c2r, p_al2, p_al0, p_il4, p_push, p_bin, p_sald, p_cv1_0, p_cv1_1, p_cv1_2, p_cv1_3, p_cv1_4, zK_v, zK_0, WN_ncl, WN_nx, WN_nrt, WN_ite, gq, e1, e2, e3]
    refine t_fieldsM hk (hs _) (fun y1 y2 y3 y4 => ?_) (fun y1 y2 y3 => ?_)
    · rw [zK_v]
      have e8 := y4.1
      have tt := fun (Q : ZO → ZT → ZI → Prop) (x : Nat) (w : zW) => t_thrownM (τ := y2) (w := w) (x := x) (Q := Q) (by rw [e8]; omega)
      rw [e8] at tt
      simp (disch := first | assumption | exact p_c2i | exact p_c2r | exact p_c2n | omega | ((repeat (first | refine p_a1i.trans ?_ | refine p_a1r.trans ?_)); exact p_a10) | ((repeat (first | refine p_wI ?_ | refine p_wR ?_)); exact p_w0) | decide) only [reduceIte, Int.reduceLT, Int.reduceLE, Int.reduceEq, Int.reduceToNat, Int.reduceAdd, Int.reduceSub, Int.reduceMul, Int.reduceNeg, e262_1162, e262_1164, e262_1165, e262_1168, e262_1170, e262_1173, e262_1174, e262_1175, e262_1177, e262_1180, e262_1181, e262_1182, e262_1183, e262_1185, e262_1186, e262_1187, e262_1190, e262_1191, e262_1192, p_is6, p_c2n, p_c2i, p_c2r, p_al2, p_cv0_0, p_cv0_1, p_cv0_2, p_cv0_3, p_cv0_4, zK_v, zK_0, WN_ncl, p_il5, p_ceq, p_push, p_ret1, p_ifne, p_al3, p_lald, p_il6, p_i2l, p_lcmp, p_ifeq, p_goto, WN_nx, WN_nrt, WN_ite, tt]
      exact K _ _ _ _ _ _ (inv_q hI (by omega) f1 y4) (by omega)
    · exfalso
      omega
  · rw [zK_v]
    have f1 := zfx_u (v := (fMany (σ 3554) (s0 0 (4 * i + 1)))) z3
    have fz := fun a (ha : a < 100) => f1 a (by omega) (by omega)
    have es := lw_es (f1 3554 (by omega) (by omega))
    have bb : zi3 ((fMany (σ 3554) (s0 0 (4 * i + 1)))) := (fun _ => b_fMany) z1
    obtain ⟨bb1, bb2⟩ := bb
    rw [← es]
    have gq := fun k => lw_g0 es fz gp k
    have c23q := lw_23 es fz c23
    simp (disch := first | assumption | exact p_c2i | exact p_c2r | exact p_c2n | omega | ((repeat (first | refine p_a1i.trans ?_ | refine p_a1r.trans ?_)); exact p_a10) | ((repeat (first | refine p_wI ?_ | refine p_wR ?_)); exact p_w0) | decide) only [reduceIte, Int.reduceLT, Int.reduceLE, Int.reduceEq, Int.reduceToNat, Int.reduceAdd, Int.reduceSub, Int.reduceMul, Int.reduceNeg, e262_1150, e262_1152, e262_1153, e262_1154, e262_1156, e262_1157, e262_1158, e262_1159, p_is5, p_c2n, p_c2i, p_c2r, p_al2, p_al0, p_il4, p_push, p_bin, p_sald, p_cv1_0, p_cv1_1, p_cv1_2, p_cv1_3, p_cv1_4, zK_v, zK_0, WN_ncl, WN_nx, WN_nrt, WN_ite, gq, e1, e2, e3]
    refine t_fieldsM hk (hs _) (fun y1 y2 y3 y4 => ?_) (fun y1 y2 y3 => ?_)
    · exfalso
      omega
    · rw [zK_v]
      have e8 := y3.1
      have tt := fun (Q : ZO → ZT → ZI → Prop) (x : Nat) (w : zW) => t_thrownM (τ := y2) (w := w) (x := x) (Q := Q) (by rw [e8]; omega)
      rw [e8] at tt
      have o64 := fun u => lw_64 (u := u) (y3.2.2 3564 (by omega) (by omega) (by omega) (by omega) (by omega))
      simp (disch := first | assumption | exact p_c2i | exact p_c2r | exact p_c2n | omega | ((repeat (first | refine p_a1i.trans ?_ | refine p_a1r.trans ?_)); exact p_a10) | ((repeat (first | refine p_wI ?_ | refine p_wR ?_)); exact p_w0) | decide) only [reduceIte, Int.reduceLT, Int.reduceLE, Int.reduceEq, Int.reduceToNat, Int.reduceAdd, Int.reduceSub, Int.reduceMul, Int.reduceNeg, e262_1162, e262_1164, e262_1165, e262_1168, e262_1170, e262_1173, e262_1174, e262_1175, e262_1177, e262_1180, e262_1181, e262_1182, e262_1183, e262_1185, e262_1186, e262_1187, e262_1190, e262_1191, e262_1192, p_is6, p_c2n, p_c2i, p_c2r, p_al2, p_cv0_0, p_cv0_1, p_cv0_2, p_cv0_3, p_cv0_4, zK_v, zK_0, WN_ncl, p_il5, p_ceq, p_push, p_ret1, p_ifne, p_al3, p_lald, p_il6, p_i2l, p_lcmp, p_ifeq, p_goto, WN_nx, WN_nrt, WN_ite, tt, o64, lw_lt]
      exact K _ _ _ _ _ _ (inv_q hI (by omega) f1 y3) (by omega)
theorem t_law16 (hI : zInv s0 N σ) (hN0 : 0 ≤ N) (hN : N ≤ 60000000) (hl : 4 * (i : Int) + 3 < s0 23 0) (hl2 : s0 23 0 ≤ 2048) (hs : ∀ k, zi3 (s0 0 k)) (hz : zTx s0) (K : ∀ (σ' : ZI) (x' : Nat) (l5 l6 l7 l8 : Option ZV), zInv s0 (N + 20000) σ' → x' ≤ x + 1 → Wp 262 2277 [some (.inr (.inl (some 0))), some (.inr (.inl (some 100))), some (.inr (.inl (some 3553))), some (.inr (.inl (some 3564))), some (.inl (4 * (i : Int))), l5, l6, l7, l8] [] (3565, x', zrho) σ' Q) : Wp 262 1195 [some (.inr (.inl (some 0))), some (.inr (.inl (some 100))), some (.inr (.inl (some 3553))), some (.inr (.inl (some 3564))), some (.inl (4 * (i : Int))), l5, l6, l7, l8] [] (3565, x, zrho) σ Q := by
  obtain ⟨hA, hB, hC, hD, hE, hF, hG, hH⟩ := id hI
  have hk := hA.2.2.2.1
  have k20 : zkd 0 = 20 := rfl
  have k64 := zo_k
  have n64 := zo_n
  have gp : ∀ k, σ 0 k = s0 0 k := fun k => congrFun (hH.2 0 (by omega)) k
  have c23 : σ 23 0 = s0 23 0 := congrFun (hH.2 23 (by omega)) 0
  have e1 : (4 * (i : Int) + 1).toNat = 4 * i + 1 := by omega
  have e2 : (4 * (i : Int) + 2).toNat = 4 * i + 2 := by omega
  have e3 : (4 * (i : Int) + 3).toNat = 4 * i + 3 := by omega
  have s1 := hs (4 * i + 1)
  have s2 := hs (4 * i + 2)
  have s3 := hs (4 * i + 3)
  obtain ⟨s1a, s1b⟩ := s1
  obtain ⟨s2a, s2b⟩ := s2
  obtain ⟨s3a, s3b⟩ := s3
  simp (disch := first | assumption | exact p_c2i | exact p_c2r | exact p_c2n | omega | ((repeat (first | refine p_a1i.trans ?_ | refine p_a1r.trans ?_)); exact p_a10) | ((repeat (first | refine p_wI ?_ | refine p_wR ?_)); exact p_w0) | decide) only [reduceIte, Int.reduceLT, Int.reduceLE, Int.reduceEq, Int.reduceToNat, Int.reduceAdd, Int.reduceSub, Int.reduceMul, Int.reduceNeg, e262_1195, e262_1196, e262_1197, e262_1199, e262_1200, e262_1201, e262_1202, e262_1203, p_al1, p_al0, p_il4, p_push, p_bin, p_sald, p_al3, p_cs3_0, p_cs3_1, p_cs3_2, p_cs3_3, p_cs3_4, zK_v, zK_0, WN_ncl, WN_nx, WN_nrt, WN_ite, gp, e1, e2, e3]
  refine t_fieldsAgainW hA.1 hA.2 (hs _) (fun _ => b_fMany) (fun z1 => ?_) (fun z1 z2 z3 => ?_)
  · rw [zK_v]
    have f1 : zfx σ σ := zfx_r
    have fz := fun a (ha : a < 100) => f1 a (by omega) (by omega)
    have es := lw_es (f1 3554 (by omega) (by omega))
    rw [← es]
    have gq := fun k => lw_g0 es fz gp k
    have c23q := lw_23 es fz c23
    simp (disch := first | assumption | exact p_c2i | exact p_c2r | exact p_c2n | omega | ((repeat (first | refine p_a1i.trans ?_ | refine p_a1r.trans ?_)); exact p_a10) | ((repeat (first | refine p_wI ?_ | refine p_wR ?_)); exact p_w0) | decide) only [reduceIte, Int.reduceLT, Int.reduceLE, Int.reduceEq, Int.reduceToNat, Int.reduceAdd, Int.reduceSub, Int.reduceMul, Int.reduceNeg, e262_1206, e262_1208, e262_1209, e262_1210, e262_1212, e262_1213, e262_1214, e262_1215, p_is5, p_c2n, p_c2i, p_c2r, p_al2, p_al0, p_il4, p_push, p_bin, p_sald, p_cv1_0, p_cv1_1, p_cv1_2, p_cv1_3, p_cv1_4, zK_v, zK_0, WN_ncl, WN_nx, WN_nrt, WN_ite, gq, e1, e2, e3]
    refine t_fieldsAgainM hk (hs _) (fun y1 y2 y3 y4 => ?_) (fun y1 y2 y3 => ?_)
    · rw [zK_v]
      have e8 := y4.1
      have tt := fun (Q : ZO → ZT → ZI → Prop) (x : Nat) (w : zW) => t_thrownM (τ := y2) (w := w) (x := x) (Q := Q) (by rw [e8]; omega)
      rw [e8] at tt
      simp (disch := first | assumption | exact p_c2i | exact p_c2r | exact p_c2n | omega | ((repeat (first | refine p_a1i.trans ?_ | refine p_a1r.trans ?_)); exact p_a10) | ((repeat (first | refine p_wI ?_ | refine p_wR ?_)); exact p_w0) | decide) only [reduceIte, Int.reduceLT, Int.reduceLE, Int.reduceEq, Int.reduceToNat, Int.reduceAdd, Int.reduceSub, Int.reduceMul, Int.reduceNeg, e262_1218, e262_1220, e262_1221, e262_1224, e262_1226, e262_1229, e262_1230, e262_1231, e262_1233, e262_1236, e262_1237, e262_1238, e262_1239, e262_1241, e262_1242, e262_1243, e262_1246, e262_1247, e262_1248, p_is6, p_c2n, p_c2i, p_c2r, p_al2, p_cv0_0, p_cv0_1, p_cv0_2, p_cv0_3, p_cv0_4, zK_v, zK_0, WN_ncl, p_il5, p_ceq, p_push, p_ret1, p_ifne, p_al3, p_lald, p_il6, p_i2l, p_lcmp, p_ifeq, p_goto, WN_nx, WN_nrt, WN_ite, tt]
      exact K _ _ _ _ _ _ (inv_q hI (by omega) f1 y4) (by omega)
    · exfalso
      omega
  · rw [zK_v]
    have f1 := zfx_u (v := (fMany (σ 3554) (s0 0 (4 * i + 1)))) z3
    have fz := fun a (ha : a < 100) => f1 a (by omega) (by omega)
    have es := lw_es (f1 3554 (by omega) (by omega))
    have bb : zi3 ((fMany (σ 3554) (s0 0 (4 * i + 1)))) := (fun _ => b_fMany) z1
    obtain ⟨bb1, bb2⟩ := bb
    rw [← es]
    have gq := fun k => lw_g0 es fz gp k
    have c23q := lw_23 es fz c23
    simp (disch := first | assumption | exact p_c2i | exact p_c2r | exact p_c2n | omega | ((repeat (first | refine p_a1i.trans ?_ | refine p_a1r.trans ?_)); exact p_a10) | ((repeat (first | refine p_wI ?_ | refine p_wR ?_)); exact p_w0) | decide) only [reduceIte, Int.reduceLT, Int.reduceLE, Int.reduceEq, Int.reduceToNat, Int.reduceAdd, Int.reduceSub, Int.reduceMul, Int.reduceNeg, e262_1206, e262_1208, e262_1209, e262_1210, e262_1212, e262_1213, e262_1214, e262_1215, p_is5, p_c2n, p_c2i, p_c2r, p_al2, p_al0, p_il4, p_push, p_bin, p_sald, p_cv1_0, p_cv1_1, p_cv1_2, p_cv1_3, p_cv1_4, zK_v, zK_0, WN_ncl, WN_nx, WN_nrt, WN_ite, gq, e1, e2, e3]
    refine t_fieldsAgainM hk (hs _) (fun y1 y2 y3 y4 => ?_) (fun y1 y2 y3 => ?_)
    · exfalso
      omega
    · rw [zK_v]
      have e8 := y3.1
      have tt := fun (Q : ZO → ZT → ZI → Prop) (x : Nat) (w : zW) => t_thrownM (τ := y2) (w := w) (x := x) (Q := Q) (by rw [e8]; omega)
      rw [e8] at tt
      have o64 := fun u => lw_64 (u := u) (y3.2.2 3564 (by omega) (by omega) (by omega) (by omega) (by omega))
      simp (disch := first | assumption | exact p_c2i | exact p_c2r | exact p_c2n | omega | ((repeat (first | refine p_a1i.trans ?_ | refine p_a1r.trans ?_)); exact p_a10) | ((repeat (first | refine p_wI ?_ | refine p_wR ?_)); exact p_w0) | decide) only [reduceIte, Int.reduceLT, Int.reduceLE, Int.reduceEq, Int.reduceToNat, Int.reduceAdd, Int.reduceSub, Int.reduceMul, Int.reduceNeg, e262_1218, e262_1220, e262_1221, e262_1224, e262_1226, e262_1229, e262_1230, e262_1231, e262_1233, e262_1236, e262_1237, e262_1238, e262_1239, e262_1241, e262_1242, e262_1243, e262_1246, e262_1247, e262_1248, p_is6, p_c2n, p_c2i, p_c2r, p_al2, p_cv0_0, p_cv0_1, p_cv0_2, p_cv0_3, p_cv0_4, zK_v, zK_0, WN_ncl, p_il5, p_ceq, p_push, p_ret1, p_ifne, p_al3, p_lald, p_il6, p_i2l, p_lcmp, p_ifeq, p_goto, WN_nx, WN_nrt, WN_ite, tt, o64, lw_lt]
      exact K _ _ _ _ _ _ (inv_q hI (by omega) f1 y3) (by omega)
theorem t_law17 (hI : zInv s0 N σ) (hN0 : 0 ≤ N) (hN : N ≤ 60000000) (hl : 4 * (i : Int) + 3 < s0 23 0) (hl2 : s0 23 0 ≤ 2048) (hs : ∀ k, zi3 (s0 0 k)) (hz : zTx s0) (K : ∀ (σ' : ZI) (x' : Nat) (l5 l6 l7 l8 : Option ZV), zInv s0 (N + 20000) σ' → x' ≤ x + 1 → Wp 262 2277 [some (.inr (.inl (some 0))), some (.inr (.inl (some 100))), some (.inr (.inl (some 3553))), some (.inr (.inl (some 3564))), some (.inl (4 * (i : Int))), l5, l6, l7, l8] [] (3565, x', zrho) σ' Q) : Wp 262 1251 [some (.inr (.inl (some 0))), some (.inr (.inl (some 100))), some (.inr (.inl (some 3553))), some (.inr (.inl (some 3564))), some (.inl (4 * (i : Int))), l5, l6, l7, l8] [] (3565, x, zrho) σ Q := by
  obtain ⟨hA, hB, hC, hD, hE, hF, hG, hH⟩ := id hI
  have hk := hA.2.2.2.1
  have k20 : zkd 0 = 20 := rfl
  have k64 := zo_k
  have n64 := zo_n
  have gp : ∀ k, σ 0 k = s0 0 k := fun k => congrFun (hH.2 0 (by omega)) k
  have c23 : σ 23 0 = s0 23 0 := congrFun (hH.2 23 (by omega)) 0
  have e1 : (4 * (i : Int) + 1).toNat = 4 * i + 1 := by omega
  have e2 : (4 * (i : Int) + 2).toNat = 4 * i + 2 := by omega
  have e3 : (4 * (i : Int) + 3).toNat = 4 * i + 3 := by omega
  have s1 := hs (4 * i + 1)
  have s2 := hs (4 * i + 2)
  have s3 := hs (4 * i + 3)
  obtain ⟨s1a, s1b⟩ := s1
  obtain ⟨s2a, s2b⟩ := s2
  obtain ⟨s3a, s3b⟩ := s3
  simp (disch := first | assumption | exact p_c2i | exact p_c2r | exact p_c2n | omega | ((repeat (first | refine p_a1i.trans ?_ | refine p_a1r.trans ?_)); exact p_a10) | ((repeat (first | refine p_wI ?_ | refine p_wR ?_)); exact p_w0) | decide) only [reduceIte, Int.reduceLT, Int.reduceLE, Int.reduceEq, Int.reduceToNat, Int.reduceAdd, Int.reduceSub, Int.reduceMul, Int.reduceNeg, e262_1251, e262_1252, e262_1253, e262_1255, e262_1256, e262_1257, e262_1258, e262_1259, e262_1261, e262_1262, e262_1263, e262_1264, e262_1265, p_al1, p_al0, p_il4, p_push, p_bin, p_sald, p_al3, p_cs4_0, p_cs4_1, p_cs4_2, p_cs4_3, p_cs4_4, zK_v, zK_0, WN_ncl, WN_nx, WN_nrt, WN_ite, gp, e1, e2, e3]
  refine t_fieldW hA.1 hA.2 (hs _) (hs _) (fun _ => b_field) (fun z1 => ?_) (fun z1 z2 z3 => ?_)
  · rw [zK_v]
    have f1 : zfx σ σ := zfx_r
    have fz := fun a (ha : a < 100) => f1 a (by omega) (by omega)
    have es := lw_es (f1 3554 (by omega) (by omega))
    rw [← es]
    have gq := fun k => lw_g0 es fz gp k
    have c23q := lw_23 es fz c23
    simp (disch := first | assumption | exact p_c2i | exact p_c2r | exact p_c2n | omega | ((repeat (first | refine p_a1i.trans ?_ | refine p_a1r.trans ?_)); exact p_a10) | ((repeat (first | refine p_wI ?_ | refine p_wR ?_)); exact p_w0) | decide) only [reduceIte, Int.reduceLT, Int.reduceLE, Int.reduceEq, Int.reduceToNat, Int.reduceAdd, Int.reduceSub, Int.reduceMul, Int.reduceNeg, e262_1268, e262_1270, e262_1271, e262_1272, e262_1274, e262_1275, e262_1276, e262_1277, e262_1278, e262_1280, e262_1281, e262_1282, e262_1283, p_is5, p_c2n, p_c2i, p_c2r, p_al2, p_al0, p_il4, p_push, p_bin, p_sald, p_cv2_0, p_cv2_1, p_cv2_2, p_cv2_3, p_cv2_4, zK_v, zK_0, WN_ncl, WN_nx, WN_nrt, WN_ite, gq, e1, e2, e3]
    refine t_fieldM hk (hs _) (hs _) (fun y1 y2 y3 y4 => ?_) (fun y1 y2 y3 => ?_)
    · rw [zK_v]
      have e8 := y4.1
      have tt := fun (Q : ZO → ZT → ZI → Prop) (x : Nat) (w : zW) => t_thrownM (τ := y2) (w := w) (x := x) (Q := Q) (by rw [e8]; omega)
      rw [e8] at tt
      simp (disch := first | assumption | exact p_c2i | exact p_c2r | exact p_c2n | omega | ((repeat (first | refine p_a1i.trans ?_ | refine p_a1r.trans ?_)); exact p_a10) | ((repeat (first | refine p_wI ?_ | refine p_wR ?_)); exact p_w0) | decide) only [reduceIte, Int.reduceLT, Int.reduceLE, Int.reduceEq, Int.reduceToNat, Int.reduceAdd, Int.reduceSub, Int.reduceMul, Int.reduceNeg, e262_1286, e262_1288, e262_1289, e262_1292, e262_1294, e262_1297, e262_1298, e262_1299, e262_1301, e262_1304, e262_1305, e262_1306, e262_1307, e262_1309, e262_1310, e262_1311, e262_1314, e262_1315, e262_1316, p_is6, p_c2n, p_c2i, p_c2r, p_al2, p_cv0_0, p_cv0_1, p_cv0_2, p_cv0_3, p_cv0_4, zK_v, zK_0, WN_ncl, p_il5, p_ceq, p_push, p_ret1, p_ifne, p_al3, p_lald, p_il6, p_i2l, p_lcmp, p_ifeq, p_goto, WN_nx, WN_nrt, WN_ite, tt]
      exact K _ _ _ _ _ _ (inv_q hI (by omega) f1 y4) (by omega)
    · exfalso
      omega
  · rw [zK_v]
    have f1 := zfx_u (v := (fSize (σ 3554) (9 * (s0 0 (4 * i + 1)) + (s0 0 (4 * i + 2))).toNat)) z3
    have fz := fun a (ha : a < 100) => f1 a (by omega) (by omega)
    have es := lw_es (f1 3554 (by omega) (by omega))
    have bb : zi3 ((fSize (σ 3554) (9 * (s0 0 (4 * i + 1)) + (s0 0 (4 * i + 2))).toNat)) := (fun _ => b_field) z1
    obtain ⟨bb1, bb2⟩ := bb
    rw [← es]
    have gq := fun k => lw_g0 es fz gp k
    have c23q := lw_23 es fz c23
    simp (disch := first | assumption | exact p_c2i | exact p_c2r | exact p_c2n | omega | ((repeat (first | refine p_a1i.trans ?_ | refine p_a1r.trans ?_)); exact p_a10) | ((repeat (first | refine p_wI ?_ | refine p_wR ?_)); exact p_w0) | decide) only [reduceIte, Int.reduceLT, Int.reduceLE, Int.reduceEq, Int.reduceToNat, Int.reduceAdd, Int.reduceSub, Int.reduceMul, Int.reduceNeg, e262_1268, e262_1270, e262_1271, e262_1272, e262_1274, e262_1275, e262_1276, e262_1277, e262_1278, e262_1280, e262_1281, e262_1282, e262_1283, p_is5, p_c2n, p_c2i, p_c2r, p_al2, p_al0, p_il4, p_push, p_bin, p_sald, p_cv2_0, p_cv2_1, p_cv2_2, p_cv2_3, p_cv2_4, zK_v, zK_0, WN_ncl, WN_nx, WN_nrt, WN_ite, gq, e1, e2, e3]
    refine t_fieldM hk (hs _) (hs _) (fun y1 y2 y3 y4 => ?_) (fun y1 y2 y3 => ?_)
    · exfalso
      omega
    · rw [zK_v]
      have e8 := y3.1
      have tt := fun (Q : ZO → ZT → ZI → Prop) (x : Nat) (w : zW) => t_thrownM (τ := y2) (w := w) (x := x) (Q := Q) (by rw [e8]; omega)
      rw [e8] at tt
      have o64 := fun u => lw_64 (u := u) (y3.2.2 3564 (by omega) (by omega) (by omega) (by omega) (by omega))
      simp (disch := first | assumption | exact p_c2i | exact p_c2r | exact p_c2n | omega | ((repeat (first | refine p_a1i.trans ?_ | refine p_a1r.trans ?_)); exact p_a10) | ((repeat (first | refine p_wI ?_ | refine p_wR ?_)); exact p_w0) | decide) only [reduceIte, Int.reduceLT, Int.reduceLE, Int.reduceEq, Int.reduceToNat, Int.reduceAdd, Int.reduceSub, Int.reduceMul, Int.reduceNeg, e262_1286, e262_1288, e262_1289, e262_1292, e262_1294, e262_1297, e262_1298, e262_1299, e262_1301, e262_1304, e262_1305, e262_1306, e262_1307, e262_1309, e262_1310, e262_1311, e262_1314, e262_1315, e262_1316, p_is6, p_c2n, p_c2i, p_c2r, p_al2, p_cv0_0, p_cv0_1, p_cv0_2, p_cv0_3, p_cv0_4, zK_v, zK_0, WN_ncl, p_il5, p_ceq, p_push, p_ret1, p_ifne, p_al3, p_lald, p_il6, p_i2l, p_lcmp, p_ifeq, p_goto, WN_nx, WN_nrt, WN_ite, tt, o64, lw_lt]
      exact K _ _ _ _ _ _ (inv_q hI (by omega) f1 y3) (by omega)
theorem t_law18 (hI : zInv s0 N σ) (hN0 : 0 ≤ N) (hN : N ≤ 60000000) (hl : 4 * (i : Int) + 3 < s0 23 0) (hl2 : s0 23 0 ≤ 2048) (hs : ∀ k, zi3 (s0 0 k)) (hz : zTx s0) (K : ∀ (σ' : ZI) (x' : Nat) (l5 l6 l7 l8 : Option ZV), zInv s0 (N + 20000) σ' → x' ≤ x + 1 → Wp 262 2277 [some (.inr (.inl (some 0))), some (.inr (.inl (some 100))), some (.inr (.inl (some 3553))), some (.inr (.inl (some 3564))), some (.inl (4 * (i : Int))), l5, l6, l7, l8] [] (3565, x', zrho) σ' Q) : Wp 262 1319 [some (.inr (.inl (some 0))), some (.inr (.inl (some 100))), some (.inr (.inl (some 3553))), some (.inr (.inl (some 3564))), some (.inl (4 * (i : Int))), l5, l6, l7, l8] [] (3565, x, zrho) σ Q := by
  obtain ⟨hA, hB, hC, hD, hE, hF, hG, hH⟩ := id hI
  have hk := hA.2.2.2.1
  have k20 : zkd 0 = 20 := rfl
  have k64 := zo_k
  have n64 := zo_n
  have gp : ∀ k, σ 0 k = s0 0 k := fun k => congrFun (hH.2 0 (by omega)) k
  have c23 : σ 23 0 = s0 23 0 := congrFun (hH.2 23 (by omega)) 0
  have e1 : (4 * (i : Int) + 1).toNat = 4 * i + 1 := by omega
  have e2 : (4 * (i : Int) + 2).toNat = 4 * i + 2 := by omega
  have e3 : (4 * (i : Int) + 3).toNat = 4 * i + 3 := by omega
  have s1 := hs (4 * i + 1)
  have s2 := hs (4 * i + 2)
  have s3 := hs (4 * i + 3)
  obtain ⟨s1a, s1b⟩ := s1
  obtain ⟨s2a, s2b⟩ := s2
  obtain ⟨s3a, s3b⟩ := s3
  simp (disch := first | assumption | exact p_c2i | exact p_c2r | exact p_c2n | omega | ((repeat (first | refine p_a1i.trans ?_ | refine p_a1r.trans ?_)); exact p_a10) | ((repeat (first | refine p_wI ?_ | refine p_wR ?_)); exact p_w0) | decide) only [reduceIte, Int.reduceLT, Int.reduceLE, Int.reduceEq, Int.reduceToNat, Int.reduceAdd, Int.reduceSub, Int.reduceMul, Int.reduceNeg, e262_1319, e262_1320, e262_1321, e262_1323, e262_1324, e262_1325, e262_1326, e262_1327, p_al1, p_al0, p_il4, p_push, p_bin, p_sald, p_al3, p_cs3_0, p_cs3_1, p_cs3_2, p_cs3_3, p_cs3_4, zK_v, zK_0, WN_ncl, WN_nx, WN_nrt, WN_ite, gp, e1, e2, e3]
  refine t_greatestW hA.1 hA.2 (hs _) (fun _ => b_great) (fun z1 => ?_) (fun z1 z2 z3 => ?_)
  · rw [zK_v]
    have f1 : zfx σ σ := zfx_r
    have fz := fun a (ha : a < 100) => f1 a (by omega) (by omega)
    have es := lw_es (f1 3554 (by omega) (by omega))
    rw [← es]
    have gq := fun k => lw_g0 es fz gp k
    have c23q := lw_23 es fz c23
    simp (disch := first | assumption | exact p_c2i | exact p_c2r | exact p_c2n | omega | ((repeat (first | refine p_a1i.trans ?_ | refine p_a1r.trans ?_)); exact p_a10) | ((repeat (first | refine p_wI ?_ | refine p_wR ?_)); exact p_w0) | decide) only [reduceIte, Int.reduceLT, Int.reduceLE, Int.reduceEq, Int.reduceToNat, Int.reduceAdd, Int.reduceSub, Int.reduceMul, Int.reduceNeg, e262_1330, e262_1332, e262_1333, e262_1334, e262_1336, e262_1337, e262_1338, e262_1339, p_is5, p_c2n, p_c2i, p_c2r, p_al2, p_al0, p_il4, p_push, p_bin, p_sald, p_cv1_0, p_cv1_1, p_cv1_2, p_cv1_3, p_cv1_4, zK_v, zK_0, WN_ncl, WN_nx, WN_nrt, WN_ite, gq, e1, e2, e3]
    refine t_greatM hk (hs _) (fun y1 y2 y3 y4 => ?_) (fun y1 y2 y3 => ?_)
    · rw [zK_v]
      have e8 := y4.1
      have tt := fun (Q : ZO → ZT → ZI → Prop) (x : Nat) (w : zW) => t_thrownM (τ := y2) (w := w) (x := x) (Q := Q) (by rw [e8]; omega)
      rw [e8] at tt
      simp (disch := first | assumption | exact p_c2i | exact p_c2r | exact p_c2n | omega | ((repeat (first | refine p_a1i.trans ?_ | refine p_a1r.trans ?_)); exact p_a10) | ((repeat (first | refine p_wI ?_ | refine p_wR ?_)); exact p_w0) | decide) only [reduceIte, Int.reduceLT, Int.reduceLE, Int.reduceEq, Int.reduceToNat, Int.reduceAdd, Int.reduceSub, Int.reduceMul, Int.reduceNeg, e262_1342, e262_1344, e262_1345, e262_1348, e262_1350, e262_1353, e262_1354, e262_1355, e262_1357, e262_1360, e262_1361, e262_1362, e262_1363, e262_1365, e262_1366, e262_1367, e262_1370, e262_1371, e262_1372, p_is6, p_c2n, p_c2i, p_c2r, p_al2, p_cv0_0, p_cv0_1, p_cv0_2, p_cv0_3, p_cv0_4, zK_v, zK_0, WN_ncl, p_il5, p_ceq, p_push, p_ret1, p_ifne, p_al3, p_lald, p_il6, p_i2l, p_lcmp, p_ifeq, p_goto, WN_nx, WN_nrt, WN_ite, tt]
      exact K _ _ _ _ _ _ (inv_q hI (by omega) f1 y4) (by omega)
    · exfalso
      omega
  · rw [zK_v]
    have f1 := zfx_u (v := (fGreat (σ 3554) (s0 0 (4 * i + 1)) 81)) z3
    have fz := fun a (ha : a < 100) => f1 a (by omega) (by omega)
    have es := lw_es (f1 3554 (by omega) (by omega))
    have bb : zi3 ((fGreat (σ 3554) (s0 0 (4 * i + 1)) 81)) := (fun _ => b_great) z1
    obtain ⟨bb1, bb2⟩ := bb
    rw [← es]
    have gq := fun k => lw_g0 es fz gp k
    have c23q := lw_23 es fz c23
    simp (disch := first | assumption | exact p_c2i | exact p_c2r | exact p_c2n | omega | ((repeat (first | refine p_a1i.trans ?_ | refine p_a1r.trans ?_)); exact p_a10) | ((repeat (first | refine p_wI ?_ | refine p_wR ?_)); exact p_w0) | decide) only [reduceIte, Int.reduceLT, Int.reduceLE, Int.reduceEq, Int.reduceToNat, Int.reduceAdd, Int.reduceSub, Int.reduceMul, Int.reduceNeg, e262_1330, e262_1332, e262_1333, e262_1334, e262_1336, e262_1337, e262_1338, e262_1339, p_is5, p_c2n, p_c2i, p_c2r, p_al2, p_al0, p_il4, p_push, p_bin, p_sald, p_cv1_0, p_cv1_1, p_cv1_2, p_cv1_3, p_cv1_4, zK_v, zK_0, WN_ncl, WN_nx, WN_nrt, WN_ite, gq, e1, e2, e3]
    refine t_greatM hk (hs _) (fun y1 y2 y3 y4 => ?_) (fun y1 y2 y3 => ?_)
    · exfalso
      omega
    · rw [zK_v]
      have e8 := y3.1
      have tt := fun (Q : ZO → ZT → ZI → Prop) (x : Nat) (w : zW) => t_thrownM (τ := y2) (w := w) (x := x) (Q := Q) (by rw [e8]; omega)
      rw [e8] at tt
      have o64 := fun u => lw_64 (u := u) (y3.2.2 3564 (by omega) (by omega) (by omega) (by omega) (by omega))
      simp (disch := first | assumption | exact p_c2i | exact p_c2r | exact p_c2n | omega | ((repeat (first | refine p_a1i.trans ?_ | refine p_a1r.trans ?_)); exact p_a10) | ((repeat (first | refine p_wI ?_ | refine p_wR ?_)); exact p_w0) | decide) only [reduceIte, Int.reduceLT, Int.reduceLE, Int.reduceEq, Int.reduceToNat, Int.reduceAdd, Int.reduceSub, Int.reduceMul, Int.reduceNeg, e262_1342, e262_1344, e262_1345, e262_1348, e262_1350, e262_1353, e262_1354, e262_1355, e262_1357, e262_1360, e262_1361, e262_1362, e262_1363, e262_1365, e262_1366, e262_1367, e262_1370, e262_1371, e262_1372, p_is6, p_c2n, p_c2i, p_c2r, p_al2, p_cv0_0, p_cv0_1, p_cv0_2, p_cv0_3, p_cv0_4, zK_v, zK_0, WN_ncl, p_il5, p_ceq, p_push, p_ret1, p_ifne, p_al3, p_lald, p_il6, p_i2l, p_lcmp, p_ifeq, p_goto, WN_nx, WN_nrt, WN_ite, tt, o64, lw_lt]
      exact K _ _ _ _ _ _ (inv_q hI (by omega) f1 y3) (by omega)
theorem t_law19 (hI : zInv s0 N σ) (hN0 : 0 ≤ N) (hN : N ≤ 60000000) (hl : 4 * (i : Int) + 3 < s0 23 0) (hl2 : s0 23 0 ≤ 2048) (hs : ∀ k, zi3 (s0 0 k)) (hz : zTx s0) (K : ∀ (σ' : ZI) (x' : Nat) (l5 l6 l7 l8 : Option ZV), zInv s0 (N + 20000) σ' → x' ≤ x + 1 → Wp 262 2277 [some (.inr (.inl (some 0))), some (.inr (.inl (some 100))), some (.inr (.inl (some 3553))), some (.inr (.inl (some 3564))), some (.inl (4 * (i : Int))), l5, l6, l7, l8] [] (3565, x', zrho) σ' Q) : Wp 262 1375 [some (.inr (.inl (some 0))), some (.inr (.inl (some 100))), some (.inr (.inl (some 3553))), some (.inr (.inl (some 3564))), some (.inl (4 * (i : Int))), l5, l6, l7, l8] [] (3565, x, zrho) σ Q := by
  obtain ⟨hA, hB, hC, hD, hE, hF, hG, hH⟩ := id hI
  have hk := hA.2.2.2.1
  have k20 : zkd 0 = 20 := rfl
  have k64 := zo_k
  have n64 := zo_n
  have gp : ∀ k, σ 0 k = s0 0 k := fun k => congrFun (hH.2 0 (by omega)) k
  have c23 : σ 23 0 = s0 23 0 := congrFun (hH.2 23 (by omega)) 0
  have e1 : (4 * (i : Int) + 1).toNat = 4 * i + 1 := by omega
  have e2 : (4 * (i : Int) + 2).toNat = 4 * i + 2 := by omega
  have e3 : (4 * (i : Int) + 3).toNat = 4 * i + 3 := by omega
  have s1 := hs (4 * i + 1)
  have s2 := hs (4 * i + 2)
  have s3 := hs (4 * i + 3)
  obtain ⟨s1a, s1b⟩ := s1
  obtain ⟨s2a, s2b⟩ := s2
  obtain ⟨s3a, s3b⟩ := s3
  simp (disch := first | assumption | exact p_c2i | exact p_c2r | exact p_c2n | omega | ((repeat (first | refine p_a1i.trans ?_ | refine p_a1r.trans ?_)); exact p_a10) | ((repeat (first | refine p_wI ?_ | refine p_wR ?_)); exact p_w0) | decide) only [reduceIte, Int.reduceLT, Int.reduceLE, Int.reduceEq, Int.reduceToNat, Int.reduceAdd, Int.reduceSub, Int.reduceMul, Int.reduceNeg, e262_1375, e262_1376, e262_1377, e262_1379, e262_1380, e262_1381, e262_1382, e262_1383, e262_1385, e262_1386, e262_1387, e262_1388, e262_1389, p_al1, p_al0, p_il4, p_push, p_bin, p_sald, p_al3, p_cs4_0, p_cs4_1, p_cs4_2, p_cs4_3, p_cs4_4, zK_v, zK_0, WN_ncl, WN_nx, WN_nrt, WN_ite, gp, e1, e2, e3]
  refine t_willBeW hA.1 hA.2 (by omega) (hs _) (hs _) (fun z _ => b_willBe hk z) (fun z1 => ?_) (fun z1 z2 => ?_) (fun z1 z2 z3 z4 => ?_)
  · rw [zK_v]
    have f1 : zfx σ σ := zfx_r
    have fz := fun a (ha : a < 100) => f1 a (by omega) (by omega)
    have es := lw_es (f1 3554 (by omega) (by omega))
    rw [← es]
    have gq := fun k => lw_g0 es fz gp k
    have c23q := lw_23 es fz c23
    simp (disch := first | assumption | exact p_c2i | exact p_c2r | exact p_c2n | omega | ((repeat (first | refine p_a1i.trans ?_ | refine p_a1r.trans ?_)); exact p_a10) | ((repeat (first | refine p_wI ?_ | refine p_wR ?_)); exact p_w0) | decide) only [reduceIte, Int.reduceLT, Int.reduceLE, Int.reduceEq, Int.reduceToNat, Int.reduceAdd, Int.reduceSub, Int.reduceMul, Int.reduceNeg, e262_1392, e262_1394, e262_1395, e262_1396, e262_1398, e262_1399, e262_1400, e262_1401, e262_1402, e262_1404, e262_1405, e262_1406, e262_1407, p_is5, p_c2n, p_c2i, p_c2r, p_al2, p_al0, p_il4, p_push, p_bin, p_sald, p_cv2_0, p_cv2_1, p_cv2_2, p_cv2_3, p_cv2_4, zK_v, zK_0, WN_ncl, WN_nx, WN_nrt, WN_ite, gq, e1, e2, e3]
    refine t_willBeM hk (by omega) (hs _) (hs _) (fun y1 y2 y3 y4 => ?_) (fun y1 y2 y3 y4 y5 => ?_) (fun y1 y2 y3 y4 => ?_)
    · rw [zK_v]
      have e8 := y4.1
      have tt := fun (Q : ZO → ZT → ZI → Prop) (x : Nat) (w : zW) => t_thrownM (τ := y2) (w := w) (x := x) (Q := Q) (by rw [e8]; omega)
      rw [e8] at tt
      simp (disch := first | assumption | exact p_c2i | exact p_c2r | exact p_c2n | omega | ((repeat (first | refine p_a1i.trans ?_ | refine p_a1r.trans ?_)); exact p_a10) | ((repeat (first | refine p_wI ?_ | refine p_wR ?_)); exact p_w0) | decide) only [reduceIte, Int.reduceLT, Int.reduceLE, Int.reduceEq, Int.reduceToNat, Int.reduceAdd, Int.reduceSub, Int.reduceMul, Int.reduceNeg, e262_1410, e262_1412, e262_1413, e262_1416, e262_1418, e262_1421, e262_1422, e262_1423, e262_1425, e262_1428, e262_1429, e262_1430, e262_1431, e262_1433, e262_1434, e262_1435, e262_1438, e262_1439, e262_1440, p_is6, p_c2n, p_c2i, p_c2r, p_al2, p_cv0_0, p_cv0_1, p_cv0_2, p_cv0_3, p_cv0_4, zK_v, zK_0, WN_ncl, p_il5, p_ceq, p_push, p_ret1, p_ifne, p_al3, p_lald, p_il6, p_i2l, p_lcmp, p_ifeq, p_goto, WN_nx, WN_nrt, WN_ite, tt]
      exact K _ _ _ _ _ _ (inv_q hI (by omega) f1 y4) (by omega)
    · exfalso
      omega
    · exfalso
      omega
  · rw [zK_v]
    have f1 : zfx σ σ := zfx_r
    have fz := fun a (ha : a < 100) => f1 a (by omega) (by omega)
    have es := lw_es (f1 3554 (by omega) (by omega))
    rw [← es]
    have gq := fun k => lw_g0 es fz gp k
    have c23q := lw_23 es fz c23
    simp (disch := first | assumption | exact p_c2i | exact p_c2r | exact p_c2n | omega | ((repeat (first | refine p_a1i.trans ?_ | refine p_a1r.trans ?_)); exact p_a10) | ((repeat (first | refine p_wI ?_ | refine p_wR ?_)); exact p_w0) | decide) only [reduceIte, Int.reduceLT, Int.reduceLE, Int.reduceEq, Int.reduceToNat, Int.reduceAdd, Int.reduceSub, Int.reduceMul, Int.reduceNeg, e262_1392, e262_1394, e262_1395, e262_1396, e262_1398, e262_1399, e262_1400, e262_1401, e262_1402, e262_1404, e262_1405, e262_1406, e262_1407, p_is5, p_c2n, p_c2i, p_c2r, p_al2, p_al0, p_il4, p_push, p_bin, p_sald, p_cv2_0, p_cv2_1, p_cv2_2, p_cv2_3, p_cv2_4, zK_v, zK_0, WN_ncl, WN_nx, WN_nrt, WN_ite, gq, e1, e2, e3]
    refine t_willBeM hk (by omega) (hs _) (hs _) (fun y1 y2 y3 y4 => ?_) (fun y1 y2 y3 y4 y5 => ?_) (fun y1 y2 y3 y4 => ?_)
    · exfalso
      omega
    · rw [zK_v]
      have e8 := y5.1
      have tt := fun (Q : ZO → ZT → ZI → Prop) (x : Nat) (w : zW) => t_thrownM (τ := y3) (w := w) (x := x) (Q := Q) (by rw [e8]; omega)
      rw [e8] at tt
      simp (disch := first | assumption | exact p_c2i | exact p_c2r | exact p_c2n | omega | ((repeat (first | refine p_a1i.trans ?_ | refine p_a1r.trans ?_)); exact p_a10) | ((repeat (first | refine p_wI ?_ | refine p_wR ?_)); exact p_w0) | decide) only [reduceIte, Int.reduceLT, Int.reduceLE, Int.reduceEq, Int.reduceToNat, Int.reduceAdd, Int.reduceSub, Int.reduceMul, Int.reduceNeg, e262_1410, e262_1412, e262_1413, e262_1416, e262_1418, e262_1421, e262_1422, e262_1423, e262_1425, e262_1428, e262_1429, e262_1430, e262_1431, e262_1433, e262_1434, e262_1435, e262_1438, e262_1439, e262_1440, p_is6, p_c2n, p_c2i, p_c2r, p_al2, p_cv0_0, p_cv0_1, p_cv0_2, p_cv0_3, p_cv0_4, zK_v, zK_0, WN_ncl, p_il5, p_ceq, p_push, p_ret1, p_ifne, p_al3, p_lald, p_il6, p_i2l, p_lcmp, p_ifeq, p_goto, WN_nx, WN_nrt, WN_ite, tt]
      exact K _ _ _ _ _ _ (inv_q hI (by omega) f1 y5) (by omega)
    · exfalso
      omega
  · rw [zK_v]
    have f1 := zfx_u (v := (aIt (s0 0 (4 * i + 2)).toNat (σ 3554) (172 + 4 * (s0 0 (4 * i + 1)).toNat))) z4
    have fz := fun a (ha : a < 100) => f1 a (by omega) (by omega)
    have es := lw_es (f1 3554 (by omega) (by omega))
    have bb : zi3 ((aIt (s0 0 (4 * i + 2)).toNat (σ 3554) (172 + 4 * (s0 0 (4 * i + 1)).toNat))) := (fun z _ => b_willBe hk z) z1 z2
    obtain ⟨bb1, bb2⟩ := bb
    rw [← es]
    have gq := fun k => lw_g0 es fz gp k
    have c23q := lw_23 es fz c23
    simp (disch := first | assumption | exact p_c2i | exact p_c2r | exact p_c2n | omega | ((repeat (first | refine p_a1i.trans ?_ | refine p_a1r.trans ?_)); exact p_a10) | ((repeat (first | refine p_wI ?_ | refine p_wR ?_)); exact p_w0) | decide) only [reduceIte, Int.reduceLT, Int.reduceLE, Int.reduceEq, Int.reduceToNat, Int.reduceAdd, Int.reduceSub, Int.reduceMul, Int.reduceNeg, e262_1392, e262_1394, e262_1395, e262_1396, e262_1398, e262_1399, e262_1400, e262_1401, e262_1402, e262_1404, e262_1405, e262_1406, e262_1407, p_is5, p_c2n, p_c2i, p_c2r, p_al2, p_al0, p_il4, p_push, p_bin, p_sald, p_cv2_0, p_cv2_1, p_cv2_2, p_cv2_3, p_cv2_4, zK_v, zK_0, WN_ncl, WN_nx, WN_nrt, WN_ite, gq, e1, e2, e3]
    refine t_willBeM hk (by omega) (hs _) (hs _) (fun y1 y2 y3 y4 => ?_) (fun y1 y2 y3 y4 y5 => ?_) (fun y1 y2 y3 y4 => ?_)
    · exfalso
      omega
    · exfalso
      omega
    · rw [zK_v]
      have e8 := y4.1
      have tt := fun (Q : ZO → ZT → ZI → Prop) (x : Nat) (w : zW) => t_thrownM (τ := y3) (w := w) (x := x) (Q := Q) (by rw [e8]; omega)
      rw [e8] at tt
      have o64 := fun u => lw_64 (u := u) (y4.2.2 3564 (by omega) (by omega) (by omega) (by omega) (by omega))
      simp (disch := first | assumption | exact p_c2i | exact p_c2r | exact p_c2n | omega | ((repeat (first | refine p_a1i.trans ?_ | refine p_a1r.trans ?_)); exact p_a10) | ((repeat (first | refine p_wI ?_ | refine p_wR ?_)); exact p_w0) | decide) only [reduceIte, Int.reduceLT, Int.reduceLE, Int.reduceEq, Int.reduceToNat, Int.reduceAdd, Int.reduceSub, Int.reduceMul, Int.reduceNeg, e262_1410, e262_1412, e262_1413, e262_1416, e262_1418, e262_1421, e262_1422, e262_1423, e262_1425, e262_1428, e262_1429, e262_1430, e262_1431, e262_1433, e262_1434, e262_1435, e262_1438, e262_1439, e262_1440, p_is6, p_c2n, p_c2i, p_c2r, p_al2, p_cv0_0, p_cv0_1, p_cv0_2, p_cv0_3, p_cv0_4, zK_v, zK_0, WN_ncl, p_il5, p_ceq, p_push, p_ret1, p_ifne, p_al3, p_lald, p_il6, p_i2l, p_lcmp, p_ifeq, p_goto, WN_nx, WN_nrt, WN_ite, tt, o64, lw_lt]
      exact K _ _ _ _ _ _ (inv_q hI (by omega) f1 y4) (by omega)
theorem t_law20 (hI : zInv s0 N σ) (hN0 : 0 ≤ N) (hN : N ≤ 60000000) (hl : 4 * (i : Int) + 3 < s0 23 0) (hl2 : s0 23 0 ≤ 2048) (hs : ∀ k, zi3 (s0 0 k)) (hz : zTx s0) (K : ∀ (σ' : ZI) (x' : Nat) (l5 l6 l7 l8 : Option ZV), zInv s0 (N + 20000) σ' → x' ≤ x + 1 → Wp 262 2277 [some (.inr (.inl (some 0))), some (.inr (.inl (some 100))), some (.inr (.inl (some 3553))), some (.inr (.inl (some 3564))), some (.inl (4 * (i : Int))), l5, l6, l7, l8] [] (3565, x', zrho) σ' Q) : Wp 262 1443 [some (.inr (.inl (some 0))), some (.inr (.inl (some 100))), some (.inr (.inl (some 3553))), some (.inr (.inl (some 3564))), some (.inl (4 * (i : Int))), l5, l6, l7, l8] [] (3565, x, zrho) σ Q := by
  obtain ⟨hA, hB, hC, hD, hE, hF, hG, hH⟩ := id hI
  have hk := hA.2.2.2.1
  have k20 : zkd 0 = 20 := rfl
  have k64 := zo_k
  have n64 := zo_n
  have gp : ∀ k, σ 0 k = s0 0 k := fun k => congrFun (hH.2 0 (by omega)) k
  have c23 : σ 23 0 = s0 23 0 := congrFun (hH.2 23 (by omega)) 0
  have e1 : (4 * (i : Int) + 1).toNat = 4 * i + 1 := by omega
  have e2 : (4 * (i : Int) + 2).toNat = 4 * i + 2 := by omega
  have e3 : (4 * (i : Int) + 3).toNat = 4 * i + 3 := by omega
  have s1 := hs (4 * i + 1)
  have s2 := hs (4 * i + 2)
  have s3 := hs (4 * i + 3)
  obtain ⟨s1a, s1b⟩ := s1
  obtain ⟨s2a, s2b⟩ := s2
  obtain ⟨s3a, s3b⟩ := s3
  simp (disch := first | assumption | exact p_c2i | exact p_c2r | exact p_c2n | omega | ((repeat (first | refine p_a1i.trans ?_ | refine p_a1r.trans ?_)); exact p_a10) | ((repeat (first | refine p_wI ?_ | refine p_wR ?_)); exact p_w0) | decide) only [reduceIte, Int.reduceLT, Int.reduceLE, Int.reduceEq, Int.reduceToNat, Int.reduceAdd, Int.reduceSub, Int.reduceMul, Int.reduceNeg, e262_1443, e262_1444, e262_1445, e262_1447, e262_1448, e262_1449, e262_1450, e262_1451, p_al1, p_al0, p_il4, p_push, p_bin, p_sald, p_al3, p_cs3_0, p_cs3_1, p_cs3_2, p_cs3_3, p_cs3_4, zK_v, zK_0, WN_ncl, WN_nx, WN_nrt, WN_ite, gp, e1, e2, e3]
  refine t_willMeetW hA.1 hA.2 (by omega) (hs _) (fun z => b_willMeet hk (by omega) z) (fun z1 => ?_) (fun z1 z2 z3 => ?_)
  · rw [zK_v]
    have f1 : zfx σ σ := zfx_r
    have fz := fun a (ha : a < 100) => f1 a (by omega) (by omega)
    have es := lw_es (f1 3554 (by omega) (by omega))
    rw [← es]
    have gq := fun k => lw_g0 es fz gp k
    have c23q := lw_23 es fz c23
    simp (disch := first | assumption | exact p_c2i | exact p_c2r | exact p_c2n | omega | ((repeat (first | refine p_a1i.trans ?_ | refine p_a1r.trans ?_)); exact p_a10) | ((repeat (first | refine p_wI ?_ | refine p_wR ?_)); exact p_w0) | decide) only [reduceIte, Int.reduceLT, Int.reduceLE, Int.reduceEq, Int.reduceToNat, Int.reduceAdd, Int.reduceSub, Int.reduceMul, Int.reduceNeg, e262_1454, e262_1456, e262_1457, e262_1458, e262_1460, e262_1461, e262_1462, e262_1463, p_is5, p_c2n, p_c2i, p_c2r, p_al2, p_al0, p_il4, p_push, p_bin, p_sald, p_cv1_0, p_cv1_1, p_cv1_2, p_cv1_3, p_cv1_4, zK_v, zK_0, WN_ncl, WN_nx, WN_nrt, WN_ite, gq, e1, e2, e3]
    refine t_willMeetM hk (by omega) (hs _) (fun y1 y2 y3 y4 => ?_) (fun y1 y2 y3 => ?_)
    · rw [zK_v]
      have e8 := y4.1
      have tt := fun (Q : ZO → ZT → ZI → Prop) (x : Nat) (w : zW) => t_thrownM (τ := y2) (w := w) (x := x) (Q := Q) (by rw [e8]; omega)
      rw [e8] at tt
      simp (disch := first | assumption | exact p_c2i | exact p_c2r | exact p_c2n | omega | ((repeat (first | refine p_a1i.trans ?_ | refine p_a1r.trans ?_)); exact p_a10) | ((repeat (first | refine p_wI ?_ | refine p_wR ?_)); exact p_w0) | decide) only [reduceIte, Int.reduceLT, Int.reduceLE, Int.reduceEq, Int.reduceToNat, Int.reduceAdd, Int.reduceSub, Int.reduceMul, Int.reduceNeg, e262_1466, e262_1468, e262_1469, e262_1472, e262_1474, e262_1477, e262_1478, e262_1479, e262_1481, e262_1484, e262_1485, e262_1486, e262_1487, e262_1489, e262_1490, e262_1491, e262_1494, e262_1495, e262_1496, p_is6, p_c2n, p_c2i, p_c2r, p_al2, p_cv0_0, p_cv0_1, p_cv0_2, p_cv0_3, p_cv0_4, zK_v, zK_0, WN_ncl, p_il5, p_ceq, p_push, p_ret1, p_ifne, p_al3, p_lald, p_il6, p_i2l, p_lcmp, p_ifeq, p_goto, WN_nx, WN_nrt, WN_ite, tt]
      exact K _ _ _ _ _ _ (inv_q hI (by omega) f1 y4) (by omega)
    · exfalso
      omega
  · rw [zK_v]
    have f1 := zfx_u (v := (aIt (s0 0 (4 * i + 1)).toNat (σ 3554) 5 - (σ 3554) 5)) z3
    have fz := fun a (ha : a < 100) => f1 a (by omega) (by omega)
    have es := lw_es (f1 3554 (by omega) (by omega))
    have bb : zi3 ((aIt (s0 0 (4 * i + 1)).toNat (σ 3554) 5 - (σ 3554) 5)) := (fun z => b_willMeet hk (by omega) z) z1
    obtain ⟨bb1, bb2⟩ := bb
    rw [← es]
    have gq := fun k => lw_g0 es fz gp k
    have c23q := lw_23 es fz c23
    simp (disch := first | assumption | exact p_c2i | exact p_c2r | exact p_c2n | omega | ((repeat (first | refine p_a1i.trans ?_ | refine p_a1r.trans ?_)); exact p_a10) | ((repeat (first | refine p_wI ?_ | refine p_wR ?_)); exact p_w0) | decide) only [reduceIte, Int.reduceLT, Int.reduceLE, Int.reduceEq, Int.reduceToNat, Int.reduceAdd, Int.reduceSub, Int.reduceMul, Int.reduceNeg, e262_1454, e262_1456, e262_1457, e262_1458, e262_1460, e262_1461, e262_1462, e262_1463, p_is5, p_c2n, p_c2i, p_c2r, p_al2, p_al0, p_il4, p_push, p_bin, p_sald, p_cv1_0, p_cv1_1, p_cv1_2, p_cv1_3, p_cv1_4, zK_v, zK_0, WN_ncl, WN_nx, WN_nrt, WN_ite, gq, e1, e2, e3]
    refine t_willMeetM hk (by omega) (hs _) (fun y1 y2 y3 y4 => ?_) (fun y1 y2 y3 => ?_)
    · exfalso
      omega
    · rw [zK_v]
      have e8 := y3.1
      have tt := fun (Q : ZO → ZT → ZI → Prop) (x : Nat) (w : zW) => t_thrownM (τ := y2) (w := w) (x := x) (Q := Q) (by rw [e8]; omega)
      rw [e8] at tt
      have o64 := fun u => lw_64 (u := u) (y3.2.2 3564 (by omega) (by omega) (by omega) (by omega) (by omega))
      simp (disch := first | assumption | exact p_c2i | exact p_c2r | exact p_c2n | omega | ((repeat (first | refine p_a1i.trans ?_ | refine p_a1r.trans ?_)); exact p_a10) | ((repeat (first | refine p_wI ?_ | refine p_wR ?_)); exact p_w0) | decide) only [reduceIte, Int.reduceLT, Int.reduceLE, Int.reduceEq, Int.reduceToNat, Int.reduceAdd, Int.reduceSub, Int.reduceMul, Int.reduceNeg, e262_1466, e262_1468, e262_1469, e262_1472, e262_1474, e262_1477, e262_1478, e262_1479, e262_1481, e262_1484, e262_1485, e262_1486, e262_1487, e262_1489, e262_1490, e262_1491, e262_1494, e262_1495, e262_1496, p_is6, p_c2n, p_c2i, p_c2r, p_al2, p_cv0_0, p_cv0_1, p_cv0_2, p_cv0_3, p_cv0_4, zK_v, zK_0, WN_ncl, p_il5, p_ceq, p_push, p_ret1, p_ifne, p_al3, p_lald, p_il6, p_i2l, p_lcmp, p_ifeq, p_goto, WN_nx, WN_nrt, WN_ite, tt, o64, lw_lt]
      exact K _ _ _ _ _ _ (inv_q hI (by omega) f1 y3) (by omega)
theorem t_law21 (hI : zInv s0 N σ) (hN0 : 0 ≤ N) (hN : N ≤ 60000000) (hl : 4 * (i : Int) + 3 < s0 23 0) (hl2 : s0 23 0 ≤ 2048) (hs : ∀ k, zi3 (s0 0 k)) (hz : zTx s0) (K : ∀ (σ' : ZI) (x' : Nat) (l5 l6 l7 l8 : Option ZV), zInv s0 (N + 20000) σ' → x' ≤ x + 1 → Wp 262 2277 [some (.inr (.inl (some 0))), some (.inr (.inl (some 100))), some (.inr (.inl (some 3553))), some (.inr (.inl (some 3564))), some (.inl (4 * (i : Int))), l5, l6, l7, l8] [] (3565, x', zrho) σ' Q) : Wp 262 1499 [some (.inr (.inl (some 0))), some (.inr (.inl (some 100))), some (.inr (.inl (some 3553))), some (.inr (.inl (some 3564))), some (.inl (4 * (i : Int))), l5, l6, l7, l8] [] (3565, x, zrho) σ Q := by
  obtain ⟨hA, hB, hC, hD, hE, hF, hG, hH⟩ := id hI
  have hk := hA.2.2.2.1
  have k20 : zkd 0 = 20 := rfl
  have k64 := zo_k
  have n64 := zo_n
  have gp : ∀ k, σ 0 k = s0 0 k := fun k => congrFun (hH.2 0 (by omega)) k
  have c23 : σ 23 0 = s0 23 0 := congrFun (hH.2 23 (by omega)) 0
  have e1 : (4 * (i : Int) + 1).toNat = 4 * i + 1 := by omega
  have e2 : (4 * (i : Int) + 2).toNat = 4 * i + 2 := by omega
  have e3 : (4 * (i : Int) + 3).toNat = 4 * i + 3 := by omega
  have s1 := hs (4 * i + 1)
  have s2 := hs (4 * i + 2)
  have s3 := hs (4 * i + 3)
  obtain ⟨s1a, s1b⟩ := s1
  obtain ⟨s2a, s2b⟩ := s2
  obtain ⟨s3a, s3b⟩ := s3
  simp (disch := first | assumption | exact p_c2i | exact p_c2r | exact p_c2n | omega | ((repeat (first | refine p_a1i.trans ?_ | refine p_a1r.trans ?_)); exact p_a10) | ((repeat (first | refine p_wI ?_ | refine p_wR ?_)); exact p_w0) | decide) only [reduceIte, Int.reduceLT, Int.reduceLE, Int.reduceEq, Int.reduceToNat, Int.reduceAdd, Int.reduceSub, Int.reduceMul, Int.reduceNeg, e262_1499, e262_1500, e262_1501, p_al1, p_al3, p_cs2_0, p_cs2_1, p_cs2_2, p_cs2_3, p_cs2_4, zK_v, zK_0, WN_ncl, WN_nx, WN_nrt, WN_ite, gp, e1, e2, e3]
  refine t_meetInW hA.1 hA.2 (by omega) (fun _ => b_fst (by omega)) (fun z1 z2 z3 => ?_) (fun z1 z2 z3 => ?_)
  · rw [zK_v]
    have f1 := zfx_q z3
    have fz := fun a (ha : a < 100) => f1 a (by omega) (by omega)
    have es := lw_es (f1 3554 (by omega) (by omega))
    rw [← es]
    have gq := fun k => lw_g0 es fz gp k
    have c23q := lw_23 es fz c23
    simp (disch := first | assumption | exact p_c2i | exact p_c2r | exact p_c2n | omega | ((repeat (first | refine p_a1i.trans ?_ | refine p_a1r.trans ?_)); exact p_a10) | ((repeat (first | refine p_wI ?_ | refine p_wR ?_)); exact p_w0) | decide) only [reduceIte, Int.reduceLT, Int.reduceLE, Int.reduceEq, Int.reduceToNat, Int.reduceAdd, Int.reduceSub, Int.reduceMul, Int.reduceNeg, e262_1504, e262_1506, e262_1507, p_is5, p_c2n, p_c2i, p_c2r, p_al2, p_cv0_0, p_cv0_1, p_cv0_2, p_cv0_3, p_cv0_4, zK_v, zK_0, WN_ncl, WN_nx, WN_nrt, WN_ite, gq, e1, e2, e3]
    refine t_meetInM hk (by omega) (fun y1 y2 y3 y4 => ?_) (fun y1 y2 y3 => ?_)
    · rw [zK_v]
      have e8 := y4.1
      have tt := fun (Q : ZO → ZT → ZI → Prop) (x : Nat) (w : zW) => t_thrownM (τ := y2) (w := w) (x := x) (Q := Q) (by rw [e8]; omega)
      rw [e8] at tt
      simp (disch := first | assumption | exact p_c2i | exact p_c2r | exact p_c2n | omega | ((repeat (first | refine p_a1i.trans ?_ | refine p_a1r.trans ?_)); exact p_a10) | ((repeat (first | refine p_wI ?_ | refine p_wR ?_)); exact p_w0) | decide) only [reduceIte, Int.reduceLT, Int.reduceLE, Int.reduceEq, Int.reduceToNat, Int.reduceAdd, Int.reduceSub, Int.reduceMul, Int.reduceNeg, e262_1510, e262_1512, e262_1513, e262_1516, e262_1518, e262_1521, e262_1522, e262_1523, e262_1525, e262_1528, e262_1529, e262_1530, e262_1531, e262_1533, e262_1534, e262_1535, e262_1538, e262_1539, e262_1540, p_is6, p_c2n, p_c2i, p_c2r, p_al2, p_cv0_0, p_cv0_1, p_cv0_2, p_cv0_3, p_cv0_4, zK_v, zK_0, WN_ncl, p_il5, p_ceq, p_push, p_ret1, p_ifne, p_al3, p_lald, p_il6, p_i2l, p_lcmp, p_ifeq, p_goto, WN_nx, WN_nrt, WN_ite, tt]
      exact K _ _ _ _ _ _ (inv_q hI (by omega) f1 y4) (by omega)
    · exfalso
      omega
  · rw [zK_v]
    have f1 := zfx_u (v := ((aFst (fun k => decide (aIt k (σ 3554) 5 ≠ (σ 3554) 5)) 1 200 : Nat) : Int)) z3
    have fz := fun a (ha : a < 100) => f1 a (by omega) (by omega)
    have es := lw_es (f1 3554 (by omega) (by omega))
    have bb : zi3 (((aFst (fun k => decide (aIt k (σ 3554) 5 ≠ (σ 3554) 5)) 1 200 : Nat) : Int)) := (fun _ => b_fst (by omega)) z1
    obtain ⟨bb1, bb2⟩ := bb
    rw [← es]
    have gq := fun k => lw_g0 es fz gp k
    have c23q := lw_23 es fz c23
    simp (disch := first | assumption | exact p_c2i | exact p_c2r | exact p_c2n | omega | ((repeat (first | refine p_a1i.trans ?_ | refine p_a1r.trans ?_)); exact p_a10) | ((repeat (first | refine p_wI ?_ | refine p_wR ?_)); exact p_w0) | decide) only [reduceIte, Int.reduceLT, Int.reduceLE, Int.reduceEq, Int.reduceToNat, Int.reduceAdd, Int.reduceSub, Int.reduceMul, Int.reduceNeg, e262_1504, e262_1506, e262_1507, p_is5, p_c2n, p_c2i, p_c2r, p_al2, p_cv0_0, p_cv0_1, p_cv0_2, p_cv0_3, p_cv0_4, zK_v, zK_0, WN_ncl, WN_nx, WN_nrt, WN_ite, gq, e1, e2, e3]
    refine t_meetInM hk (by omega) (fun y1 y2 y3 y4 => ?_) (fun y1 y2 y3 => ?_)
    · exfalso
      omega
    · rw [zK_v]
      have e8 := y3.1
      have tt := fun (Q : ZO → ZT → ZI → Prop) (x : Nat) (w : zW) => t_thrownM (τ := y2) (w := w) (x := x) (Q := Q) (by rw [e8]; omega)
      rw [e8] at tt
      have o64 := fun u => lw_64 (u := u) (y3.2.2 3564 (by omega) (by omega) (by omega) (by omega) (by omega))
      simp (disch := first | assumption | exact p_c2i | exact p_c2r | exact p_c2n | omega | ((repeat (first | refine p_a1i.trans ?_ | refine p_a1r.trans ?_)); exact p_a10) | ((repeat (first | refine p_wI ?_ | refine p_wR ?_)); exact p_w0) | decide) only [reduceIte, Int.reduceLT, Int.reduceLE, Int.reduceEq, Int.reduceToNat, Int.reduceAdd, Int.reduceSub, Int.reduceMul, Int.reduceNeg, e262_1510, e262_1512, e262_1513, e262_1516, e262_1518, e262_1521, e262_1522, e262_1523, e262_1525, e262_1528, e262_1529, e262_1530, e262_1531, e262_1533, e262_1534, e262_1535, e262_1538, e262_1539, e262_1540, p_is6, p_c2n, p_c2i, p_c2r, p_al2, p_cv0_0, p_cv0_1, p_cv0_2, p_cv0_3, p_cv0_4, zK_v, zK_0, WN_ncl, p_il5, p_ceq, p_push, p_ret1, p_ifne, p_al3, p_lald, p_il6, p_i2l, p_lcmp, p_ifeq, p_goto, WN_nx, WN_nrt, WN_ite, tt, o64, lw_lt]
      exact K _ _ _ _ _ _ (inv_q hI (by omega) f1 y3) (by omega)
theorem t_law22 (hI : zInv s0 N σ) (hN0 : 0 ≤ N) (hN : N ≤ 60000000) (hl : 4 * (i : Int) + 3 < s0 23 0) (hl2 : s0 23 0 ≤ 2048) (hs : ∀ k, zi3 (s0 0 k)) (hz : zTx s0) (K : ∀ (σ' : ZI) (x' : Nat) (l5 l6 l7 l8 : Option ZV), zInv s0 (N + 20000) σ' → x' ≤ x + 1 → Wp 262 2277 [some (.inr (.inl (some 0))), some (.inr (.inl (some 100))), some (.inr (.inl (some 3553))), some (.inr (.inl (some 3564))), some (.inl (4 * (i : Int))), l5, l6, l7, l8] [] (3565, x', zrho) σ' Q) : Wp 262 1543 [some (.inr (.inl (some 0))), some (.inr (.inl (some 100))), some (.inr (.inl (some 3553))), some (.inr (.inl (some 3564))), some (.inl (4 * (i : Int))), l5, l6, l7, l8] [] (3565, x, zrho) σ Q := by
  obtain ⟨hA, hB, hC, hD, hE, hF, hG, hH⟩ := id hI
  have hk := hA.2.2.2.1
  have k20 : zkd 0 = 20 := rfl
  have k64 := zo_k
  have n64 := zo_n
  have gp : ∀ k, σ 0 k = s0 0 k := fun k => congrFun (hH.2 0 (by omega)) k
  have c23 : σ 23 0 = s0 23 0 := congrFun (hH.2 23 (by omega)) 0
  have e1 : (4 * (i : Int) + 1).toNat = 4 * i + 1 := by omega
  have e2 : (4 * (i : Int) + 2).toNat = 4 * i + 2 := by omega
  have e3 : (4 * (i : Int) + 3).toNat = 4 * i + 3 := by omega
  have s1 := hs (4 * i + 1)
  have s2 := hs (4 * i + 2)
  have s3 := hs (4 * i + 3)
  obtain ⟨s1a, s1b⟩ := s1
  obtain ⟨s2a, s2b⟩ := s2
  obtain ⟨s3a, s3b⟩ := s3
  simp (disch := first | assumption | exact p_c2i | exact p_c2r | exact p_c2n | omega | ((repeat (first | refine p_a1i.trans ?_ | refine p_a1r.trans ?_)); exact p_a10) | ((repeat (first | refine p_wI ?_ | refine p_wR ?_)); exact p_w0) | decide) only [reduceIte, Int.reduceLT, Int.reduceLE, Int.reduceEq, Int.reduceToNat, Int.reduceAdd, Int.reduceSub, Int.reduceMul, Int.reduceNeg, e262_1543, e262_1544, e262_1545, e262_1547, e262_1548, e262_1549, e262_1550, e262_1551, p_al1, p_al0, p_il4, p_push, p_bin, p_sald, p_al3, p_cs3_0, p_cs3_1, p_cs3_2, p_cs3_3, p_cs3_4, zK_v, zK_0, WN_ncl, WN_nx, WN_nrt, WN_ite, gp, e1, e2, e3]
  refine t_isBackInW hA.1 hA.2 (by omega) (hs _) (fun _ _ => b_fst (by omega)) (fun z1 => ?_) (fun z1 z2 z3 z4 => ?_) (fun z1 z2 z3 z4 => ?_)
  · rw [zK_v]
    have f1 : zfx σ σ := zfx_r
    have fz := fun a (ha : a < 100) => f1 a (by omega) (by omega)
    have es := lw_es (f1 3554 (by omega) (by omega))
    rw [← es]
    have gq := fun k => lw_g0 es fz gp k
    have c23q := lw_23 es fz c23
    simp (disch := first | assumption | exact p_c2i | exact p_c2r | exact p_c2n | omega | ((repeat (first | refine p_a1i.trans ?_ | refine p_a1r.trans ?_)); exact p_a10) | ((repeat (first | refine p_wI ?_ | refine p_wR ?_)); exact p_w0) | decide) only [reduceIte, Int.reduceLT, Int.reduceLE, Int.reduceEq, Int.reduceToNat, Int.reduceAdd, Int.reduceSub, Int.reduceMul, Int.reduceNeg, e262_1554, e262_1556, e262_1557, e262_1558, e262_1560, e262_1561, e262_1562, e262_1563, p_is5, p_c2n, p_c2i, p_c2r, p_al2, p_al0, p_il4, p_push, p_bin, p_sald, p_cv1_0, p_cv1_1, p_cv1_2, p_cv1_3, p_cv1_4, zK_v, zK_0, WN_ncl, WN_nx, WN_nrt, WN_ite, gq, e1, e2, e3]
    refine t_isBackM hk (by omega) (hs _) (fun y1 y2 y3 y4 => ?_) (fun y1 y2 y3 y4 y5 => ?_) (fun y1 y2 y3 y4 => ?_)
    · rw [zK_v]
      have e8 := y4.1
      have tt := fun (Q : ZO → ZT → ZI → Prop) (x : Nat) (w : zW) => t_thrownM (τ := y2) (w := w) (x := x) (Q := Q) (by rw [e8]; omega)
      rw [e8] at tt
      simp (disch := first | assumption | exact p_c2i | exact p_c2r | exact p_c2n | omega | ((repeat (first | refine p_a1i.trans ?_ | refine p_a1r.trans ?_)); exact p_a10) | ((repeat (first | refine p_wI ?_ | refine p_wR ?_)); exact p_w0) | decide) only [reduceIte, Int.reduceLT, Int.reduceLE, Int.reduceEq, Int.reduceToNat, Int.reduceAdd, Int.reduceSub, Int.reduceMul, Int.reduceNeg, e262_1566, e262_1568, e262_1569, e262_1572, e262_1574, e262_1577, e262_1578, e262_1579, e262_1581, e262_1584, e262_1585, e262_1586, e262_1587, e262_1589, e262_1590, e262_1591, e262_1594, e262_1595, e262_1596, p_is6, p_c2n, p_c2i, p_c2r, p_al2, p_cv0_0, p_cv0_1, p_cv0_2, p_cv0_3, p_cv0_4, zK_v, zK_0, WN_ncl, p_il5, p_ceq, p_push, p_ret1, p_ifne, p_al3, p_lald, p_il6, p_i2l, p_lcmp, p_ifeq, p_goto, WN_nx, WN_nrt, WN_ite, tt]
      exact K _ _ _ _ _ _ (inv_q hI (by omega) f1 y4) (by omega)
    · exfalso
      omega
    · exfalso
      omega
  · rw [zK_v]
    have f1 := zfx_q z4
    have fz := fun a (ha : a < 100) => f1 a (by omega) (by omega)
    have es := lw_es (f1 3554 (by omega) (by omega))
    rw [← es]
    have gq := fun k => lw_g0 es fz gp k
    have c23q := lw_23 es fz c23
    simp (disch := first | assumption | exact p_c2i | exact p_c2r | exact p_c2n | omega | ((repeat (first | refine p_a1i.trans ?_ | refine p_a1r.trans ?_)); exact p_a10) | ((repeat (first | refine p_wI ?_ | refine p_wR ?_)); exact p_w0) | decide) only [reduceIte, Int.reduceLT, Int.reduceLE, Int.reduceEq, Int.reduceToNat, Int.reduceAdd, Int.reduceSub, Int.reduceMul, Int.reduceNeg, e262_1554, e262_1556, e262_1557, e262_1558, e262_1560, e262_1561, e262_1562, e262_1563, p_is5, p_c2n, p_c2i, p_c2r, p_al2, p_al0, p_il4, p_push, p_bin, p_sald, p_cv1_0, p_cv1_1, p_cv1_2, p_cv1_3, p_cv1_4, zK_v, zK_0, WN_ncl, WN_nx, WN_nrt, WN_ite, gq, e1, e2, e3]
    refine t_isBackM hk (by omega) (hs _) (fun y1 y2 y3 y4 => ?_) (fun y1 y2 y3 y4 y5 => ?_) (fun y1 y2 y3 y4 => ?_)
    · exfalso
      omega
    · rw [zK_v]
      have e8 := y5.1
      have tt := fun (Q : ZO → ZT → ZI → Prop) (x : Nat) (w : zW) => t_thrownM (τ := y3) (w := w) (x := x) (Q := Q) (by rw [e8]; omega)
      rw [e8] at tt
      simp (disch := first | assumption | exact p_c2i | exact p_c2r | exact p_c2n | omega | ((repeat (first | refine p_a1i.trans ?_ | refine p_a1r.trans ?_)); exact p_a10) | ((repeat (first | refine p_wI ?_ | refine p_wR ?_)); exact p_w0) | decide) only [reduceIte, Int.reduceLT, Int.reduceLE, Int.reduceEq, Int.reduceToNat, Int.reduceAdd, Int.reduceSub, Int.reduceMul, Int.reduceNeg, e262_1566, e262_1568, e262_1569, e262_1572, e262_1574, e262_1577, e262_1578, e262_1579, e262_1581, e262_1584, e262_1585, e262_1586, e262_1587, e262_1589, e262_1590, e262_1591, e262_1594, e262_1595, e262_1596, p_is6, p_c2n, p_c2i, p_c2r, p_al2, p_cv0_0, p_cv0_1, p_cv0_2, p_cv0_3, p_cv0_4, zK_v, zK_0, WN_ncl, p_il5, p_ceq, p_push, p_ret1, p_ifne, p_al3, p_lald, p_il6, p_i2l, p_lcmp, p_ifeq, p_goto, WN_nx, WN_nrt, WN_ite, tt]
      exact K _ _ _ _ _ _ (inv_q hI (by omega) f1 y5) (by omega)
    · exfalso
      omega
  · rw [zK_v]
    have f1 := zfx_u (v := ((aFst (fun k => decide (aIt k (σ 3554) (172 + 4 * (s0 0 (4 * i + 1)).toNat) = (σ 3554) (172 + 4 * (s0 0 (4 * i + 1)).toNat))) 1 200 : Nat) : Int)) z4
    have fz := fun a (ha : a < 100) => f1 a (by omega) (by omega)
    have es := lw_es (f1 3554 (by omega) (by omega))
    have bb : zi3 (((aFst (fun k => decide (aIt k (σ 3554) (172 + 4 * (s0 0 (4 * i + 1)).toNat) = (σ 3554) (172 + 4 * (s0 0 (4 * i + 1)).toNat))) 1 200 : Nat) : Int)) := (fun _ _ => b_fst (by omega)) z1 z2
    obtain ⟨bb1, bb2⟩ := bb
    rw [← es]
    have gq := fun k => lw_g0 es fz gp k
    have c23q := lw_23 es fz c23
    simp (disch := first | assumption | exact p_c2i | exact p_c2r | exact p_c2n | omega | ((repeat (first | refine p_a1i.trans ?_ | refine p_a1r.trans ?_)); exact p_a10) | ((repeat (first | refine p_wI ?_ | refine p_wR ?_)); exact p_w0) | decide) only [reduceIte, Int.reduceLT, Int.reduceLE, Int.reduceEq, Int.reduceToNat, Int.reduceAdd, Int.reduceSub, Int.reduceMul, Int.reduceNeg, e262_1554, e262_1556, e262_1557, e262_1558, e262_1560, e262_1561, e262_1562, e262_1563, p_is5, p_c2n, p_c2i, p_c2r, p_al2, p_al0, p_il4, p_push, p_bin, p_sald, p_cv1_0, p_cv1_1, p_cv1_2, p_cv1_3, p_cv1_4, zK_v, zK_0, WN_ncl, WN_nx, WN_nrt, WN_ite, gq, e1, e2, e3]
    refine t_isBackM hk (by omega) (hs _) (fun y1 y2 y3 y4 => ?_) (fun y1 y2 y3 y4 y5 => ?_) (fun y1 y2 y3 y4 => ?_)
    · exfalso
      omega
    · exfalso
      omega
    · rw [zK_v]
      have e8 := y4.1
      have tt := fun (Q : ZO → ZT → ZI → Prop) (x : Nat) (w : zW) => t_thrownM (τ := y3) (w := w) (x := x) (Q := Q) (by rw [e8]; omega)
      rw [e8] at tt
      have o64 := fun u => lw_64 (u := u) (y4.2.2 3564 (by omega) (by omega) (by omega) (by omega) (by omega))
      simp (disch := first | assumption | exact p_c2i | exact p_c2r | exact p_c2n | omega | ((repeat (first | refine p_a1i.trans ?_ | refine p_a1r.trans ?_)); exact p_a10) | ((repeat (first | refine p_wI ?_ | refine p_wR ?_)); exact p_w0) | decide) only [reduceIte, Int.reduceLT, Int.reduceLE, Int.reduceEq, Int.reduceToNat, Int.reduceAdd, Int.reduceSub, Int.reduceMul, Int.reduceNeg, e262_1566, e262_1568, e262_1569, e262_1572, e262_1574, e262_1577, e262_1578, e262_1579, e262_1581, e262_1584, e262_1585, e262_1586, e262_1587, e262_1589, e262_1590, e262_1591, e262_1594, e262_1595, e262_1596, p_is6, p_c2n, p_c2i, p_c2r, p_al2, p_cv0_0, p_cv0_1, p_cv0_2, p_cv0_3, p_cv0_4, zK_v, zK_0, WN_ncl, p_il5, p_ceq, p_push, p_ret1, p_ifne, p_al3, p_lald, p_il6, p_i2l, p_lcmp, p_ifeq, p_goto, WN_nx, WN_nrt, WN_ite, tt, o64, lw_lt]
      exact K _ _ _ _ _ _ (inv_q hI (by omega) f1 y4) (by omega)
theorem t_law23 (hI : zInv s0 N σ) (hN0 : 0 ≤ N) (hN : N ≤ 60000000) (hl : 4 * (i : Int) + 3 < s0 23 0) (hl2 : s0 23 0 ≤ 2048) (hs : ∀ k, zi3 (s0 0 k)) (hz : zTx s0) (K : ∀ (σ' : ZI) (x' : Nat) (l5 l6 l7 l8 : Option ZV), zInv s0 (N + 20000) σ' → x' ≤ x + 1 → Wp 262 2277 [some (.inr (.inl (some 0))), some (.inr (.inl (some 100))), some (.inr (.inl (some 3553))), some (.inr (.inl (some 3564))), some (.inl (4 * (i : Int))), l5, l6, l7, l8] [] (3565, x', zrho) σ' Q) : Wp 262 1599 [some (.inr (.inl (some 0))), some (.inr (.inl (some 100))), some (.inr (.inl (some 3553))), some (.inr (.inl (some 3564))), some (.inl (4 * (i : Int))), l5, l6, l7, l8] [] (3565, x, zrho) σ Q := by
  obtain ⟨hA, hB, hC, hD, hE, hF, hG, hH⟩ := id hI
  have hk := hA.2.2.2.1
  have k20 : zkd 0 = 20 := rfl
  have k64 := zo_k
  have n64 := zo_n
  have gp : ∀ k, σ 0 k = s0 0 k := fun k => congrFun (hH.2 0 (by omega)) k
  have c23 : σ 23 0 = s0 23 0 := congrFun (hH.2 23 (by omega)) 0
  have e1 : (4 * (i : Int) + 1).toNat = 4 * i + 1 := by omega
  have e2 : (4 * (i : Int) + 2).toNat = 4 * i + 2 := by omega
  have e3 : (4 * (i : Int) + 3).toNat = 4 * i + 3 := by omega
  have s1 := hs (4 * i + 1)
  have s2 := hs (4 * i + 2)
  have s3 := hs (4 * i + 3)
  obtain ⟨s1a, s1b⟩ := s1
  obtain ⟨s2a, s2b⟩ := s2
  obtain ⟨s3a, s3b⟩ := s3
  simp (disch := first | assumption | exact p_c2i | exact p_c2r | exact p_c2n | omega | ((repeat (first | refine p_a1i.trans ?_ | refine p_a1r.trans ?_)); exact p_a10) | ((repeat (first | refine p_wI ?_ | refine p_wR ?_)); exact p_w0) | decide) only [reduceIte, Int.reduceLT, Int.reduceLE, Int.reduceEq, Int.reduceToNat, Int.reduceAdd, Int.reduceSub, Int.reduceMul, Int.reduceNeg, e262_1599, e262_1600, e262_1601, e262_1603, e262_1604, e262_1605, e262_1606, e262_1607, p_al1, p_al0, p_il4, p_push, p_bin, p_sald, p_al3, p_cs3_0, p_cs3_1, p_cs3_2, p_cs3_3, p_cs3_4, zK_v, zK_0, WN_ncl, WN_nx, WN_nrt, WN_ite, gp, e1, e2, e3]
  refine t_highwayW hA.1 hA.2 (by omega) (hs _) (fun _ _ => b_fst (by omega)) (fun z1 => ?_) (fun z1 z2 z3 z4 => ?_) (fun z1 z2 z3 z4 => ?_)
  · rw [zK_v]
    have f1 : zfx σ σ := zfx_r
    have fz := fun a (ha : a < 100) => f1 a (by omega) (by omega)
    have es := lw_es (f1 3554 (by omega) (by omega))
    rw [← es]
    have gq := fun k => lw_g0 es fz gp k
    have c23q := lw_23 es fz c23
    simp (disch := first | assumption | exact p_c2i | exact p_c2r | exact p_c2n | omega | ((repeat (first | refine p_a1i.trans ?_ | refine p_a1r.trans ?_)); exact p_a10) | ((repeat (first | refine p_wI ?_ | refine p_wR ?_)); exact p_w0) | decide) only [reduceIte, Int.reduceLT, Int.reduceLE, Int.reduceEq, Int.reduceToNat, Int.reduceAdd, Int.reduceSub, Int.reduceMul, Int.reduceNeg, e262_1610, e262_1612, e262_1613, e262_1614, e262_1616, e262_1617, e262_1618, e262_1619, p_is5, p_c2n, p_c2i, p_c2r, p_al2, p_al0, p_il4, p_push, p_bin, p_sald, p_cv1_0, p_cv1_1, p_cv1_2, p_cv1_3, p_cv1_4, zK_v, zK_0, WN_ncl, WN_nx, WN_nrt, WN_ite, gq, e1, e2, e3]
    refine t_highwayM hk (by omega) (hs _) (fun y1 y2 y3 y4 => ?_) (fun y1 y2 y3 y4 y5 => ?_) (fun y1 y2 y3 y4 => ?_)
    · rw [zK_v]
      have e8 := y4.1
      have tt := fun (Q : ZO → ZT → ZI → Prop) (x : Nat) (w : zW) => t_thrownM (τ := y2) (w := w) (x := x) (Q := Q) (by rw [e8]; omega)
      rw [e8] at tt
      simp (disch := first | assumption | exact p_c2i | exact p_c2r | exact p_c2n | omega | ((repeat (first | refine p_a1i.trans ?_ | refine p_a1r.trans ?_)); exact p_a10) | ((repeat (first | refine p_wI ?_ | refine p_wR ?_)); exact p_w0) | decide) only [reduceIte, Int.reduceLT, Int.reduceLE, Int.reduceEq, Int.reduceToNat, Int.reduceAdd, Int.reduceSub, Int.reduceMul, Int.reduceNeg, e262_1622, e262_1624, e262_1625, e262_1628, e262_1630, e262_1633, e262_1634, e262_1635, e262_1637, e262_1640, e262_1641, e262_1642, e262_1643, e262_1645, e262_1646, e262_1647, e262_1650, e262_1651, e262_1652, p_is6, p_c2n, p_c2i, p_c2r, p_al2, p_cv0_0, p_cv0_1, p_cv0_2, p_cv0_3, p_cv0_4, zK_v, zK_0, WN_ncl, p_il5, p_ceq, p_push, p_ret1, p_ifne, p_al3, p_lald, p_il6, p_i2l, p_lcmp, p_ifeq, p_goto, WN_nx, WN_nrt, WN_ite, tt]
      exact K _ _ _ _ _ _ (inv_q hI (by omega) f1 y4) (by omega)
    · exfalso
      omega
    · exfalso
      omega
  · rw [zK_v]
    have f1 := zfx_q z4
    have fz := fun a (ha : a < 100) => f1 a (by omega) (by omega)
    have es := lw_es (f1 3554 (by omega) (by omega))
    rw [← es]
    have gq := fun k => lw_g0 es fz gp k
    have c23q := lw_23 es fz c23
    simp (disch := first | assumption | exact p_c2i | exact p_c2r | exact p_c2n | omega | ((repeat (first | refine p_a1i.trans ?_ | refine p_a1r.trans ?_)); exact p_a10) | ((repeat (first | refine p_wI ?_ | refine p_wR ?_)); exact p_w0) | decide) only [reduceIte, Int.reduceLT, Int.reduceLE, Int.reduceEq, Int.reduceToNat, Int.reduceAdd, Int.reduceSub, Int.reduceMul, Int.reduceNeg, e262_1610, e262_1612, e262_1613, e262_1614, e262_1616, e262_1617, e262_1618, e262_1619, p_is5, p_c2n, p_c2i, p_c2r, p_al2, p_al0, p_il4, p_push, p_bin, p_sald, p_cv1_0, p_cv1_1, p_cv1_2, p_cv1_3, p_cv1_4, zK_v, zK_0, WN_ncl, WN_nx, WN_nrt, WN_ite, gq, e1, e2, e3]
    refine t_highwayM hk (by omega) (hs _) (fun y1 y2 y3 y4 => ?_) (fun y1 y2 y3 y4 y5 => ?_) (fun y1 y2 y3 y4 => ?_)
    · exfalso
      omega
    · rw [zK_v]
      have e8 := y5.1
      have tt := fun (Q : ZO → ZT → ZI → Prop) (x : Nat) (w : zW) => t_thrownM (τ := y3) (w := w) (x := x) (Q := Q) (by rw [e8]; omega)
      rw [e8] at tt
      simp (disch := first | assumption | exact p_c2i | exact p_c2r | exact p_c2n | omega | ((repeat (first | refine p_a1i.trans ?_ | refine p_a1r.trans ?_)); exact p_a10) | ((repeat (first | refine p_wI ?_ | refine p_wR ?_)); exact p_w0) | decide) only [reduceIte, Int.reduceLT, Int.reduceLE, Int.reduceEq, Int.reduceToNat, Int.reduceAdd, Int.reduceSub, Int.reduceMul, Int.reduceNeg, e262_1622, e262_1624, e262_1625, e262_1628, e262_1630, e262_1633, e262_1634, e262_1635, e262_1637, e262_1640, e262_1641, e262_1642, e262_1643, e262_1645, e262_1646, e262_1647, e262_1650, e262_1651, e262_1652, p_is6, p_c2n, p_c2i, p_c2r, p_al2, p_cv0_0, p_cv0_1, p_cv0_2, p_cv0_3, p_cv0_4, zK_v, zK_0, WN_ncl, p_il5, p_ceq, p_push, p_ret1, p_ifne, p_al3, p_lald, p_il6, p_i2l, p_lcmp, p_ifeq, p_goto, WN_nx, WN_nrt, WN_ite, tt]
      exact K _ _ _ _ _ _ (inv_q hI (by omega) f1 y5) (by omega)
    · exfalso
      omega
  · rw [zK_v]
    have f1 := zfx_u (v := ((aFst (aPer (aTr (σ 3554) (s0 0 (4 * i + 1)).toNat)) 1 40 : Nat) : Int)) z4
    have fz := fun a (ha : a < 100) => f1 a (by omega) (by omega)
    have es := lw_es (f1 3554 (by omega) (by omega))
    have bb : zi3 (((aFst (aPer (aTr (σ 3554) (s0 0 (4 * i + 1)).toNat)) 1 40 : Nat) : Int)) := (fun _ _ => b_fst (by omega)) z1 z2
    obtain ⟨bb1, bb2⟩ := bb
    rw [← es]
    have gq := fun k => lw_g0 es fz gp k
    have c23q := lw_23 es fz c23
    simp (disch := first | assumption | exact p_c2i | exact p_c2r | exact p_c2n | omega | ((repeat (first | refine p_a1i.trans ?_ | refine p_a1r.trans ?_)); exact p_a10) | ((repeat (first | refine p_wI ?_ | refine p_wR ?_)); exact p_w0) | decide) only [reduceIte, Int.reduceLT, Int.reduceLE, Int.reduceEq, Int.reduceToNat, Int.reduceAdd, Int.reduceSub, Int.reduceMul, Int.reduceNeg, e262_1610, e262_1612, e262_1613, e262_1614, e262_1616, e262_1617, e262_1618, e262_1619, p_is5, p_c2n, p_c2i, p_c2r, p_al2, p_al0, p_il4, p_push, p_bin, p_sald, p_cv1_0, p_cv1_1, p_cv1_2, p_cv1_3, p_cv1_4, zK_v, zK_0, WN_ncl, WN_nx, WN_nrt, WN_ite, gq, e1, e2, e3]
    refine t_highwayM hk (by omega) (hs _) (fun y1 y2 y3 y4 => ?_) (fun y1 y2 y3 y4 y5 => ?_) (fun y1 y2 y3 y4 => ?_)
    · exfalso
      omega
    · exfalso
      omega
    · rw [zK_v]
      have e8 := y4.1
      have tt := fun (Q : ZO → ZT → ZI → Prop) (x : Nat) (w : zW) => t_thrownM (τ := y3) (w := w) (x := x) (Q := Q) (by rw [e8]; omega)
      rw [e8] at tt
      have o64 := fun u => lw_64 (u := u) (y4.2.2 3564 (by omega) (by omega) (by omega) (by omega) (by omega))
      simp (disch := first | assumption | exact p_c2i | exact p_c2r | exact p_c2n | omega | ((repeat (first | refine p_a1i.trans ?_ | refine p_a1r.trans ?_)); exact p_a10) | ((repeat (first | refine p_wI ?_ | refine p_wR ?_)); exact p_w0) | decide) only [reduceIte, Int.reduceLT, Int.reduceLE, Int.reduceEq, Int.reduceToNat, Int.reduceAdd, Int.reduceSub, Int.reduceMul, Int.reduceNeg, e262_1622, e262_1624, e262_1625, e262_1628, e262_1630, e262_1633, e262_1634, e262_1635, e262_1637, e262_1640, e262_1641, e262_1642, e262_1643, e262_1645, e262_1646, e262_1647, e262_1650, e262_1651, e262_1652, p_is6, p_c2n, p_c2i, p_c2r, p_al2, p_cv0_0, p_cv0_1, p_cv0_2, p_cv0_3, p_cv0_4, zK_v, zK_0, WN_ncl, p_il5, p_ceq, p_push, p_ret1, p_ifne, p_al3, p_lald, p_il6, p_i2l, p_lcmp, p_ifeq, p_goto, WN_nx, WN_nrt, WN_ite, tt, o64, lw_lt]
      exact K _ _ _ _ _ _ (inv_q hI (by omega) f1 y4) (by omega)
theorem t_law24 (hI : zInv s0 N σ) (hN0 : 0 ≤ N) (hN : N ≤ 60000000) (hl : 4 * (i : Int) + 3 < s0 23 0) (hl2 : s0 23 0 ≤ 2048) (hs : ∀ k, zi3 (s0 0 k)) (hz : zTx s0) (K : ∀ (σ' : ZI) (x' : Nat) (l5 l6 l7 l8 : Option ZV), zInv s0 (N + 20000) σ' → x' ≤ x + 1 → Wp 262 2277 [some (.inr (.inl (some 0))), some (.inr (.inl (some 100))), some (.inr (.inl (some 3553))), some (.inr (.inl (some 3564))), some (.inl (4 * (i : Int))), l5, l6, l7, l8] [] (3565, x', zrho) σ' Q) : Wp 262 1655 [some (.inr (.inl (some 0))), some (.inr (.inl (some 100))), some (.inr (.inl (some 3553))), some (.inr (.inl (some 3564))), some (.inl (4 * (i : Int))), l5, l6, l7, l8] [] (3565, x, zrho) σ Q := by
  obtain ⟨hA, hB, hC, hD, hE, hF, hG, hH⟩ := id hI
  have hk := hA.2.2.2.1
  have k20 : zkd 0 = 20 := rfl
  have k64 := zo_k
  have n64 := zo_n
  have gp : ∀ k, σ 0 k = s0 0 k := fun k => congrFun (hH.2 0 (by omega)) k
  have c23 : σ 23 0 = s0 23 0 := congrFun (hH.2 23 (by omega)) 0
  have e1 : (4 * (i : Int) + 1).toNat = 4 * i + 1 := by omega
  have e2 : (4 * (i : Int) + 2).toNat = 4 * i + 2 := by omega
  have e3 : (4 * (i : Int) + 3).toNat = 4 * i + 3 := by omega
  have s1 := hs (4 * i + 1)
  have s2 := hs (4 * i + 2)
  have s3 := hs (4 * i + 3)
  obtain ⟨s1a, s1b⟩ := s1
  obtain ⟨s2a, s2b⟩ := s2
  obtain ⟨s3a, s3b⟩ := s3
  simp (disch := first | assumption | exact p_c2i | exact p_c2r | exact p_c2n | omega | ((repeat (first | refine p_a1i.trans ?_ | refine p_a1r.trans ?_)); exact p_a10) | ((repeat (first | refine p_wI ?_ | refine p_wR ?_)); exact p_w0) | decide) only [reduceIte, Int.reduceLT, Int.reduceLE, Int.reduceEq, Int.reduceToNat, Int.reduceAdd, Int.reduceSub, Int.reduceMul, Int.reduceNeg, e262_1655, e262_1656, e262_1657, e262_1659, e262_1660, e262_1661, e262_1662, e262_1663, p_al1, p_al0, p_il4, p_push, p_bin, p_sald, p_al3, p_cs3_0, p_cs3_1, p_cs3_2, p_cs3_3, p_cs3_4, zK_v, zK_0, WN_ncl, WN_nx, WN_nrt, WN_ite, gp, e1, e2, e3]
  refine t_rankedW hA.1 hA.2 (by omega) (hs _) (fun _ => b_ranked hk) (fun z1 => ?_) (fun z1 z2 z3 => ?_)
  · rw [zK_v]
    have f1 : zfx σ σ := zfx_r
    have fz := fun a (ha : a < 100) => f1 a (by omega) (by omega)
    have es := lw_es (f1 3554 (by omega) (by omega))
    rw [← es]
    have gq := fun k => lw_g0 es fz gp k
    have c23q := lw_23 es fz c23
    simp (disch := first | assumption | exact p_c2i | exact p_c2r | exact p_c2n | omega | ((repeat (first | refine p_a1i.trans ?_ | refine p_a1r.trans ?_)); exact p_a10) | ((repeat (first | refine p_wI ?_ | refine p_wR ?_)); exact p_w0) | decide) only [reduceIte, Int.reduceLT, Int.reduceLE, Int.reduceEq, Int.reduceToNat, Int.reduceAdd, Int.reduceSub, Int.reduceMul, Int.reduceNeg, e262_1666, e262_1668, e262_1669, e262_1670, e262_1672, e262_1673, e262_1674, e262_1675, p_is5, p_c2n, p_c2i, p_c2r, p_al2, p_al0, p_il4, p_push, p_bin, p_sald, p_cv1_0, p_cv1_1, p_cv1_2, p_cv1_3, p_cv1_4, zK_v, zK_0, WN_ncl, WN_nx, WN_nrt, WN_ite, gq, e1, e2, e3]
    refine t_rankedM hk (by omega) (hs _) (fun y1 y2 y3 y4 => ?_) (fun y1 y2 y3 => ?_)
    · rw [zK_v]
      have e8 := y4.1
      have tt := fun (Q : ZO → ZT → ZI → Prop) (x : Nat) (w : zW) => t_thrownM (τ := y2) (w := w) (x := x) (Q := Q) (by rw [e8]; omega)
      rw [e8] at tt
      simp (disch := first | assumption | exact p_c2i | exact p_c2r | exact p_c2n | omega | ((repeat (first | refine p_a1i.trans ?_ | refine p_a1r.trans ?_)); exact p_a10) | ((repeat (first | refine p_wI ?_ | refine p_wR ?_)); exact p_w0) | decide) only [reduceIte, Int.reduceLT, Int.reduceLE, Int.reduceEq, Int.reduceToNat, Int.reduceAdd, Int.reduceSub, Int.reduceMul, Int.reduceNeg, e262_1678, e262_1680, e262_1681, e262_1684, e262_1686, e262_1689, e262_1690, e262_1691, e262_1693, e262_1696, e262_1697, e262_1698, e262_1699, e262_1701, e262_1702, e262_1703, e262_1706, e262_1707, e262_1708, p_is6, p_c2n, p_c2i, p_c2r, p_al2, p_cv0_0, p_cv0_1, p_cv0_2, p_cv0_3, p_cv0_4, zK_v, zK_0, WN_ncl, p_il5, p_ceq, p_push, p_ret1, p_ifne, p_al3, p_lald, p_il6, p_i2l, p_lcmp, p_ifeq, p_goto, WN_nx, WN_nrt, WN_ite, tt]
      exact K _ _ _ _ _ _ (inv_q hI (by omega) f1 y4) (by omega)
    · exfalso
      omega
  · rw [zK_v]
    have f1 := zfx_u (v := (aRanked (σ 3554) (s0 0 (4 * i + 1)))) z3
    have fz := fun a (ha : a < 100) => f1 a (by omega) (by omega)
    have es := lw_es (f1 3554 (by omega) (by omega))
    have bb : zi3 ((aRanked (σ 3554) (s0 0 (4 * i + 1)))) := (fun _ => b_ranked hk) z1
    obtain ⟨bb1, bb2⟩ := bb
    rw [← es]
    have gq := fun k => lw_g0 es fz gp k
    have c23q := lw_23 es fz c23
    simp (disch := first | assumption | exact p_c2i | exact p_c2r | exact p_c2n | omega | ((repeat (first | refine p_a1i.trans ?_ | refine p_a1r.trans ?_)); exact p_a10) | ((repeat (first | refine p_wI ?_ | refine p_wR ?_)); exact p_w0) | decide) only [reduceIte, Int.reduceLT, Int.reduceLE, Int.reduceEq, Int.reduceToNat, Int.reduceAdd, Int.reduceSub, Int.reduceMul, Int.reduceNeg, e262_1666, e262_1668, e262_1669, e262_1670, e262_1672, e262_1673, e262_1674, e262_1675, p_is5, p_c2n, p_c2i, p_c2r, p_al2, p_al0, p_il4, p_push, p_bin, p_sald, p_cv1_0, p_cv1_1, p_cv1_2, p_cv1_3, p_cv1_4, zK_v, zK_0, WN_ncl, WN_nx, WN_nrt, WN_ite, gq, e1, e2, e3]
    refine t_rankedM hk (by omega) (hs _) (fun y1 y2 y3 y4 => ?_) (fun y1 y2 y3 => ?_)
    · exfalso
      omega
    · rw [zK_v]
      have e8 := y3.1
      have tt := fun (Q : ZO → ZT → ZI → Prop) (x : Nat) (w : zW) => t_thrownM (τ := y2) (w := w) (x := x) (Q := Q) (by rw [e8]; omega)
      rw [e8] at tt
      have o64 := fun u => lw_64 (u := u) (y3.2.2 3564 (by omega) (by omega) (by omega) (by omega) (by omega))
      simp (disch := first | assumption | exact p_c2i | exact p_c2r | exact p_c2n | omega | ((repeat (first | refine p_a1i.trans ?_ | refine p_a1r.trans ?_)); exact p_a10) | ((repeat (first | refine p_wI ?_ | refine p_wR ?_)); exact p_w0) | decide) only [reduceIte, Int.reduceLT, Int.reduceLE, Int.reduceEq, Int.reduceToNat, Int.reduceAdd, Int.reduceSub, Int.reduceMul, Int.reduceNeg, e262_1678, e262_1680, e262_1681, e262_1684, e262_1686, e262_1689, e262_1690, e262_1691, e262_1693, e262_1696, e262_1697, e262_1698, e262_1699, e262_1701, e262_1702, e262_1703, e262_1706, e262_1707, e262_1708, p_is6, p_c2n, p_c2i, p_c2r, p_al2, p_cv0_0, p_cv0_1, p_cv0_2, p_cv0_3, p_cv0_4, zK_v, zK_0, WN_ncl, p_il5, p_ceq, p_push, p_ret1, p_ifne, p_al3, p_lald, p_il6, p_i2l, p_lcmp, p_ifeq, p_goto, WN_nx, WN_nrt, WN_ite, tt, o64, lw_lt]
      exact K _ _ _ _ _ _ (inv_q hI (by omega) f1 y3) (by omega)
theorem t_law32 (hI : zInv s0 N σ) (hN0 : 0 ≤ N) (hN : N ≤ 60000000) (hl : 4 * (i : Int) + 3 < s0 23 0) (hl2 : s0 23 0 ≤ 2048) (hs : ∀ k, zi3 (s0 0 k)) (hz : zTx s0) (K : ∀ (σ' : ZI) (x' : Nat) (l5 l6 l7 l8 : Option ZV), zInv s0 (N + 20000) σ' → x' ≤ x + 1 → Wp 262 2277 [some (.inr (.inl (some 0))), some (.inr (.inl (some 100))), some (.inr (.inl (some 3553))), some (.inr (.inl (some 3564))), some (.inl (4 * (i : Int))), l5, l6, l7, l8] [] (3565, x', zrho) σ' Q) : Wp 262 2023 [some (.inr (.inl (some 0))), some (.inr (.inl (some 100))), some (.inr (.inl (some 3553))), some (.inr (.inl (some 3564))), some (.inl (4 * (i : Int))), l5, l6, l7, l8] [] (3565, x, zrho) σ Q := by
  obtain ⟨hA, hB, hC, hD, hE, hF, hG, hH⟩ := id hI
  have hk := hA.2.2.2.1
  have k20 : zkd 0 = 20 := rfl
  have k64 := zo_k
  have n64 := zo_n
  have gp : ∀ k, σ 0 k = s0 0 k := fun k => congrFun (hH.2 0 (by omega)) k
  have c23 : σ 23 0 = s0 23 0 := congrFun (hH.2 23 (by omega)) 0
  have e1 : (4 * (i : Int) + 1).toNat = 4 * i + 1 := by omega
  have e2 : (4 * (i : Int) + 2).toNat = 4 * i + 2 := by omega
  have e3 : (4 * (i : Int) + 3).toNat = 4 * i + 3 := by omega
  have s1 := hs (4 * i + 1)
  have s2 := hs (4 * i + 2)
  have s3 := hs (4 * i + 3)
  obtain ⟨s1a, s1b⟩ := s1
  obtain ⟨s2a, s2b⟩ := s2
  obtain ⟨s3a, s3b⟩ := s3
  obtain ⟨kp, n, hCr, hKr, hn8, hkk⟩ := hB
  obtain ⟨ts, tl, hT1, hT2, hT3⟩ := hE
  have x50 := hT2.1
  have x37 : σ 1037 2 = (n : Int) := by obtain ⟨q, q1, q2, q3, q4⟩ := hCr; exact q3
  have h60 := hT1.1
  simp (disch := first | assumption | exact p_c2i | exact p_c2r | exact p_c2n | omega | ((repeat (first | refine p_a1i.trans ?_ | refine p_a1r.trans ?_)); exact p_a10) | ((repeat (first | refine p_wI ?_ | refine p_wR ?_)); exact p_w0) | decide) only [reduceIte, Int.reduceLT, Int.reduceLE, Int.reduceEq, Int.reduceToNat, Int.reduceAdd, Int.reduceSub, Int.reduceMul, Int.reduceNeg, e262_2023, e262_2024, e262_2025, e262_2027, e262_2028, e262_2029, e262_2030, e262_2031, p_al1, p_al0, p_il4, p_push, p_bin, p_sald, p_al3, p_cs3_0, p_cs3_1, p_cs3_2, p_cs3_3, p_cs3_4, zK_v, zK_0, WN_ncl, WN_nx, WN_nrt, WN_ite, gp, e1, e2, e3]
  refine t_accountW hA.1 hA.2 (by omega) (hs _) x50 x37 (fun z => b_acc hA.2 (by omega) z (by omega) (by omega)) (fun z1 => ?_) (fun z1 z2 z3 => ?_)
  · rw [zK_v]
    have f1 : zfx σ σ := zfx_r
    have fz := fun a (ha : a < 100) => f1 a (by omega) (by omega)
    have es := lw_es (f1 3554 (by omega) (by omega))
    rw [← es]
    have gq := fun k => lw_g0 es fz gp k
    have c23q := lw_23 es fz c23
    simp (disch := first | assumption | exact p_c2i | exact p_c2r | exact p_c2n | omega | ((repeat (first | refine p_a1i.trans ?_ | refine p_a1r.trans ?_)); exact p_a10) | ((repeat (first | refine p_wI ?_ | refine p_wR ?_)); exact p_w0) | decide) only [reduceIte, Int.reduceLT, Int.reduceLE, Int.reduceEq, Int.reduceToNat, Int.reduceAdd, Int.reduceSub, Int.reduceMul, Int.reduceNeg, e262_2034, e262_2036, e262_2037, e262_2038, e262_2040, e262_2041, e262_2042, e262_2043, p_is5, p_c2n, p_c2i, p_c2r, p_al2, p_al0, p_il4, p_push, p_bin, p_sald, p_cv1_0, p_cv1_1, p_cv1_2, p_cv1_3, p_cv1_4, zK_v, zK_0, WN_ncl, WN_nx, WN_nrt, WN_ite, gq, e1, e2, e3]
    have y12 := (congrFun (f1 3553 (by omega) (by omega)) 12).trans hT3.1
    have y6 := (congrFun (f1 3553 (by omega) (by omega)) 6).trans hKr.1
    refine t_accountM hA.2 (by omega) (hs _) y12 y6 (fun y1 y2 y3 y4 => ?_) (fun y1 y2 y3 => ?_)
    · rw [zK_v]
      have e8 := y4.1
      have tt := fun (Q : ZO → ZT → ZI → Prop) (x : Nat) (w : zW) => t_thrownM (τ := y2) (w := w) (x := x) (Q := Q) (by rw [e8]; omega)
      rw [e8] at tt
      simp (disch := first | assumption | exact p_c2i | exact p_c2r | exact p_c2n | omega | ((repeat (first | refine p_a1i.trans ?_ | refine p_a1r.trans ?_)); exact p_a10) | ((repeat (first | refine p_wI ?_ | refine p_wR ?_)); exact p_w0) | decide) only [reduceIte, Int.reduceLT, Int.reduceLE, Int.reduceEq, Int.reduceToNat, Int.reduceAdd, Int.reduceSub, Int.reduceMul, Int.reduceNeg, e262_2046, e262_2048, e262_2049, e262_2052, e262_2054, e262_2057, e262_2058, e262_2059, e262_2061, e262_2064, e262_2065, e262_2066, e262_2067, e262_2069, e262_2070, e262_2071, e262_2074, e262_2075, e262_2076, p_is6, p_c2n, p_c2i, p_c2r, p_al2, p_cv0_0, p_cv0_1, p_cv0_2, p_cv0_3, p_cv0_4, zK_v, zK_0, WN_ncl, p_il5, p_ceq, p_push, p_ret1, p_ifne, p_al3, p_lald, p_il6, p_i2l, p_lcmp, p_ifeq, p_goto, WN_nx, WN_nrt, WN_ite, tt]
      exact K _ _ _ _ _ _ (inv_q hI (by omega) f1 y4) (by omega)
    · exfalso
      omega
  · rw [zK_v]
    have f1 := zfx_u (v := (qAcc (σ 3554) (s0 0 (4 * i + 1)) ((tl : Int)) ((n : Int)))) z3
    have fz := fun a (ha : a < 100) => f1 a (by omega) (by omega)
    have es := lw_es (f1 3554 (by omega) (by omega))
    have bb : zi3 ((qAcc (σ 3554) (s0 0 (4 * i + 1)) ((tl : Int)) ((n : Int)))) := (fun z => b_acc hA.2 (by omega) z (by omega) (by omega)) z1
    obtain ⟨bb1, bb2⟩ := bb
    rw [← es]
    have gq := fun k => lw_g0 es fz gp k
    have c23q := lw_23 es fz c23
    simp (disch := first | assumption | exact p_c2i | exact p_c2r | exact p_c2n | omega | ((repeat (first | refine p_a1i.trans ?_ | refine p_a1r.trans ?_)); exact p_a10) | ((repeat (first | refine p_wI ?_ | refine p_wR ?_)); exact p_w0) | decide) only [reduceIte, Int.reduceLT, Int.reduceLE, Int.reduceEq, Int.reduceToNat, Int.reduceAdd, Int.reduceSub, Int.reduceMul, Int.reduceNeg, e262_2034, e262_2036, e262_2037, e262_2038, e262_2040, e262_2041, e262_2042, e262_2043, p_is5, p_c2n, p_c2i, p_c2r, p_al2, p_al0, p_il4, p_push, p_bin, p_sald, p_cv1_0, p_cv1_1, p_cv1_2, p_cv1_3, p_cv1_4, zK_v, zK_0, WN_ncl, WN_nx, WN_nrt, WN_ite, gq, e1, e2, e3]
    have y12 := (congrFun (f1 3553 (by omega) (by omega)) 12).trans hT3.1
    have y6 := (congrFun (f1 3553 (by omega) (by omega)) 6).trans hKr.1
    refine t_accountM hA.2 (by omega) (hs _) y12 y6 (fun y1 y2 y3 y4 => ?_) (fun y1 y2 y3 => ?_)
    · exfalso
      omega
    · rw [zK_v]
      have e8 := y3.1
      have tt := fun (Q : ZO → ZT → ZI → Prop) (x : Nat) (w : zW) => t_thrownM (τ := y2) (w := w) (x := x) (Q := Q) (by rw [e8]; omega)
      rw [e8] at tt
      have o64 := fun u => lw_64 (u := u) (y3.2.2 3564 (by omega) (by omega) (by omega) (by omega) (by omega))
      simp (disch := first | assumption | exact p_c2i | exact p_c2r | exact p_c2n | omega | ((repeat (first | refine p_a1i.trans ?_ | refine p_a1r.trans ?_)); exact p_a10) | ((repeat (first | refine p_wI ?_ | refine p_wR ?_)); exact p_w0) | decide) only [reduceIte, Int.reduceLT, Int.reduceLE, Int.reduceEq, Int.reduceToNat, Int.reduceAdd, Int.reduceSub, Int.reduceMul, Int.reduceNeg, e262_2046, e262_2048, e262_2049, e262_2052, e262_2054, e262_2057, e262_2058, e262_2059, e262_2061, e262_2064, e262_2065, e262_2066, e262_2067, e262_2069, e262_2070, e262_2071, e262_2074, e262_2075, e262_2076, p_is6, p_c2n, p_c2i, p_c2r, p_al2, p_cv0_0, p_cv0_1, p_cv0_2, p_cv0_3, p_cv0_4, zK_v, zK_0, WN_ncl, p_il5, p_ceq, p_push, p_ret1, p_ifne, p_al3, p_lald, p_il6, p_i2l, p_lcmp, p_ifeq, p_goto, WN_nx, WN_nrt, WN_ite, tt, o64, lw_lt]
      exact K _ _ _ _ _ _ (inv_q hI (by omega) f1 y3) (by omega)
end
