/-! THE CLASS: what the orders set -/
theorem zSok_0 {g : zW} {N : Int} (h : zok N g) (h1 : g 201 = 0) (h2 : 0 ≤ g 200 ∧ g 200 ≤ N) : zSok N g := ⟨by omega, h2, h, fun k hk => by omega⟩
section
variable {w : zW} {N : Int}
theorem zok_f10 {m : Nat} (ok : zok N w) (h0 : w 0 = (m : Int)) (h4 : m < 4) (hn : (0 ≤ w (172 + 4 * m) ∧ w (172 + 4 * m) < 81) ∧ (0 ≤ w (173 + 4 * m) ∧ w (173 + 4 * m) < 4) ∧ (0 ≤ w (174 + 4 * m) ∧ w (174 + 4 * m) ≤ N) ∧ (0 ≤ w (175 + 4 * m) ∧ w (175 + 4 * m) ≤ N)) : zok N (wu w 0 ((m : Int) + 1)) := by
  obtain ⟨a0, a1, a2, a3, a4, a5, a6, a7, a8, a9, a10⟩ := ok
  refine ⟨by rw [wu_s]; omega, by rw [wu_o (by omega)]; exact a1, by rw [wu_o (by omega)]; exact a2, by rw [wu_o (by omega)]; exact a3, by rw [wu_o (by omega)]; exact a4, by rw [wu_o (by omega)]; exact a5, fun t h => by rw [wu_o (by omega)]; exact a6 t h, fun t h => by rw [wu_o (by omega), wu_o (by omega)]; exact a7 t h, fun t h => by rw [wu_o (by omega)]; exact a8 t h, fun k h => ?_, fun k h => by rw [wu_o (by omega)] at h; rw [wu_o (by omega)]; exact a10 k h⟩
  rw [wu_s] at h
  rw [wu_o (by omega), wu_o (by omega), wu_o (by omega), wu_o (by omega)]
  by_cases e : (k : Int) < w 0
  · exact a9 k e
  · have ek : k = m := by omega
    subst ek
    exact hn
theorem zok_add {c d : Int} (ok : zok N w) (h4 : w 0 < 4) (hN : 0 ≤ N) (hc : 0 ≤ c ∧ c < 81) (hd : 0 ≤ d ∧ d < 4) : zok N (aAdd c d w) := by
  have o0 := ok.1
  obtain ⟨m, hm⟩ : ∃ m : Nat, w 0 = (m : Int) := ⟨(w 0).toNat, (Int.toNat_of_nonneg o0.1).symm⟩
  have h1 := zok_hoe (i := m) (j := 0) (v := c) ok (by omega) (by omega) ⟨fun _ => hc, by omega, by omega⟩
  have h2 := zok_hoe (i := m) (j := 1) (v := d) h1 (by omega) (by omega) ⟨by omega, fun _ => hd, by omega⟩
  have h3 := zok_hoe (i := m) (j := 2) (v := 0) h2 (by omega) (by omega) ⟨by omega, by omega, fun _ => by omega⟩
  have h5 := zok_hoe (i := m) (j := 3) (v := 0) h3 (by omega) (by omega) ⟨by omega, by omega, fun _ => by omega⟩
  unfold aAdd
  rw [hm, Int.toNat_natCast]
  have e0 : wu (wu (wu (wu w (172 + 4 * m + 0) c) (172 + 4 * m + 1) d) (172 + 4 * m + 2) 0) (172 + 4 * m + 3) 0 (172 + 4 * m) = c := by
    rw [wu_o (by omega), wu_o (by omega), wu_o (by omega)]; exact wu_s
  have e1 : wu (wu (wu (wu w (172 + 4 * m + 0) c) (172 + 4 * m + 1) d) (172 + 4 * m + 2) 0) (172 + 4 * m + 3) 0 (173 + 4 * m) = d := by
    rw [show 173 + 4 * m = 172 + 4 * m + 1 by omega, wu_o (by omega), wu_o (by omega), wu_s]
  have e2 : wu (wu (wu (wu w (172 + 4 * m + 0) c) (172 + 4 * m + 1) d) (172 + 4 * m + 2) 0) (172 + 4 * m + 3) 0 (174 + 4 * m) = 0 := by
    rw [show 174 + 4 * m = 172 + 4 * m + 2 by omega, wu_o (by omega), wu_s]
  have e3 : wu (wu (wu (wu w (172 + 4 * m + 0) c) (172 + 4 * m + 1) d) (172 + 4 * m + 2) 0) (172 + 4 * m + 3) 0 (175 + 4 * m) = 0 := by
    rw [show 175 + 4 * m = 172 + 4 * m + 3 by omega, wu_s]
  refine zok_f10 h5 (by rw [wu_o (by omega), wu_o (by omega), wu_o (by omega), wu_o (by omega)]; exact hm) (by omega) ?_
  rw [e0, e1, e2, e3]
  exact ⟨hc, hd, by omega, by omega⟩
theorem zok_drop {h : Nat} (ok : zok N w) (hh : (h : Int) < w 0) : zok N (aDrop h w) := by
  have o0 := ok.1
  have ho : ∀ j, j ≠ 0 → (j < 172 ∨ 172 + 4 * (w 0).toNat ≤ j) → aDrop h w j = w j := fun j h1 h2 => aDrop_o h1 hh h2
  have m0 : aDrop h w 0 = w 0 - 1 := by unfold aDrop; rw [if_pos rfl]
  obtain ⟨a0, a1, a2, a3, a4, a5, a6, a7, a8, a9, a10⟩ := ok
  refine ⟨by rw [m0]; omega, by rw [ho _ (by omega) (by omega)]; exact a1, by rw [ho _ (by omega) (by omega)]; exact a2, by rw [ho _ (by omega) (by omega)]; exact a3, by rw [ho _ (by omega) (by omega)]; exact a4, by rw [ho _ (by omega) (by omega)]; exact a5, fun t h => by rw [ho _ (by omega) (by omega)]; exact a6 t h, fun t h => by rw [ho _ (by omega) (by omega), ho 1 (by omega) (by omega)]; exact a7 t h, fun t h => by rw [ho _ (by omega) (by omega)]; exact a8 t h, fun k hk => ?_, fun k h => by rw [ho _ (by omega) (by omega)] at h; rw [ho _ (by omega) (by omega)]; exact a10 k h⟩
  rw [m0] at hk
  have kk : ∀ j, j < 4 → aDrop h w (172 + 4 * k + j) = if h ≤ k then w (172 + 4 * (k + 1) + j) else w (172 + 4 * k + j) := by
    intro j hj
    unfold aDrop
    rw [if_neg (by omega)]
    by_cases e : h ≤ k
    · rw [if_pos (by omega), if_pos e, show 172 + 4 * (k + 1) + j = 172 + 4 * k + j + 4 by omega]
    · rw [if_neg (by omega), if_neg (by omega), if_neg e]
  have k0 := kk 0 (by omega)
  have k1 := kk 1 (by omega)
  have k2 := kk 2 (by omega)
  have k3 := kk 3 (by omega)
  rw [show 172 + 4 * k + 0 = 172 + 4 * k by omega] at k0
  rw [show 172 + 4 * k + 1 = 173 + 4 * k by omega] at k1
  rw [show 172 + 4 * k + 2 = 174 + 4 * k by omega] at k2
  rw [show 172 + 4 * k + 3 = 175 + 4 * k by omega] at k3
  rw [k0, k1, k2, k3]
  by_cases e : h ≤ k
  · have g := a9 (k + 1) (by omega)
    simp only [if_pos e]
    rw [show 172 + 4 * (k + 1) + 1 = 173 + 4 * (k + 1) by omega, show 172 + 4 * (k + 1) + 2 = 174 + 4 * (k + 1) by omega, show 172 + 4 * (k + 1) + 3 = 175 + 4 * (k + 1) by omega]
    exact g
  · simp only [if_neg e]
    exact a9 k (by omega)
theorem zok_many {v : Int} (ok : zok N w) (hv : 2 ≤ v ∧ v ≤ 4) : zok N (aMany v w) := by
  obtain ⟨a0, a1, a2, a3, a4, a5, a6, a7, a8, a9, a10⟩ := ok
  have ho : ∀ j, j ≠ 1 → (j < 10 ∨ 91 ≤ j) → aMany v w j = w j := fun j h1 h2 => aMany_o h1 h2
  have m1 : aMany v w 1 = v := by unfold aMany; rw [if_pos rfl]
  refine ⟨by rw [ho _ (by omega) (by omega)]; exact a0, by rw [m1]; exact hv, by rw [ho _ (by omega) (by omega)]; exact a2, by rw [ho _ (by omega) (by omega)]; exact a3, by rw [ho _ (by omega) (by omega)]; exact a4, by rw [ho _ (by omega) (by omega)]; exact a5, fun t h => by rw [ho _ (by omega) (by omega)]; exact a6 t h, fun t h => ?_, fun t h => by rw [ho _ (by omega) (by omega)]; exact a8 t h, fun k hk => by rw [ho _ (by omega) (by omega)] at hk; rw [ho _ (by omega) (by omega), ho _ (by omega) (by omega), ho _ (by omega) (by omega), ho _ (by omega) (by omega)]; exact a9 k hk, fun k h => by rw [ho _ (by omega) (by omega)] at h; rw [ho _ (by omega) (by omega)]; exact a10 k h⟩
  rw [m1]
  have := a7 t h
  unfold aMany
  rw [if_neg (by omega)]
  split
  · omega
  · next e => omega
theorem zok_trn {t : Nat} {v : Int} (ok : zok N w) (ht : t < 4) (hv : 0 ≤ v ∧ v < 4) : zok N (wu w (6 + t) v) := by
  have o0 := ok.1
  obtain ⟨a0, a1, a2, a3, a4, a5, a6, a7, a8, a9, a10⟩ := ok
  refine ⟨by rw [wu_o (by omega)]; exact a0, by rw [wu_o (by omega)]; exact a1, by rw [wu_o (by omega)]; exact a2, by rw [wu_o (by omega)]; exact a3, by rw [wu_o (by omega)]; exact a4, by rw [wu_o (by omega)]; exact a5, fun s h => ?_, fun t h => by rw [wu_o (by omega), wu_o (by omega)]; exact a7 t h, fun t h => by rw [wu_o (by omega)]; exact a8 t h, fun k h => by rw [wu_o (by omega)] at h; rw [wu_o (by omega), wu_o (by omega), wu_o (by omega), wu_o (by omega)]; exact a9 k h, fun k h => by rw [wu_o (by omega)] at h; rw [wu_o (by omega)]; exact a10 k h⟩
  by_cases e : s = t
  · subst e; rw [wu_s]; exact hv
  · rw [wu_o (by omega)]; exact a6 s h
theorem zok_man {v : Int} (ok : zok N w) (hv : 0 ≤ v ∧ v ≤ 2) : zok N (wu w 2 v) := by
  have o0 := ok.1
  obtain ⟨a0, a1, a2, a3, a4, a5, a6, a7, a8, a9, a10⟩ := ok
  exact ⟨by rw [wu_o (by omega)]; exact a0, by rw [wu_o (by omega)]; exact a1, by rw [wu_s]; exact hv, by rw [wu_o (by omega)]; exact a3, by rw [wu_o (by omega)]; exact a4, by rw [wu_o (by omega)]; exact a5, fun s h => by rw [wu_o (by omega)]; exact a6 s h, fun t h => by rw [wu_o (by omega), wu_o (by omega)]; exact a7 t h, fun t h => by rw [wu_o (by omega)]; exact a8 t h, fun k h => by rw [wu_o (by omega)] at h; rw [wu_o (by omega), wu_o (by omega), wu_o (by omega), wu_o (by omega)]; exact a9 k h, fun k h => by rw [wu_o (by omega)] at h; rw [wu_o (by omega)]; exact a10 k h⟩
end
section
variable {σ : ZI} {Q : ZO → ZT → ZI → Prop} {x n : Nat} {w : zW} {N : Int}
theorem zfS_l {σ σ' σ'' : ZI} (h : zfS σ σ' 101) (k : zfr σ' σ'' 102) : zfS σ σ'' 101 := fun a ha => (k a (by omega)).trans (h a ha)
theorem t_setHoe {r c h : Int} (hR : zSr σ 101 w) (ok : zSok N w) (h4 : w 0 < 4) (K : ∀ σ', zSr σ' 101 (aAdd (9 * r + c) h (wu w 201 0)) → zfS σ σ' 101 → Q (.inl (some (.inl (w 0)))) (3565, x, zrho) σ') : WM 120 [.inr (.inl (some 100)), .inl r, .inl c, .inl h] (3565, x, zrho) σ Q := by
  show Wp 120 0 [some (.inr (.inl (some 100))), some (.inl r), some (.inl c), some (.inl h)] [] _ _ Q
  have k := zx_k
  have k1 := zx_k1
  have k2 := zx_k2
  have o0 := ok.2.2.1.1
  simp (disch := first | assumption | exact p_c2i | exact p_c2r | exact p_c2n | omega | ((repeat (first | refine p_a1i.trans ?_ | refine p_a1r.trans ?_)); exact p_a10) | ((repeat (first | refine p_wI ?_ | refine p_wR ?_)); exact p_w0) | decide) only [reduceIte, Int.reduceLT, Int.reduceLE, Int.reduceEq, Int.reduceToNat, Int.reduceAdd, Int.reduceSub, Int.reduceMul, Int.reduceNeg, e120_0, e120_1, e120_4, p_al0, p_getR, p_cv0_0, p_cv0_1, p_cv0_2, p_cv0_3, p_cv0_4, zK_v, zK_0, WN_ncl, WN_nx, WN_nrt, WN_ite, zx_r0]
  refine t_forgetSteps zx_s hR ok (fun σ1 h1 f1 => ?_)
  rw [zK_0]
  simp (disch := first | assumption | exact p_c2i | exact p_c2r | exact p_c2n | omega | ((repeat (first | refine p_a1i.trans ?_ | refine p_a1r.trans ?_)); exact p_a10) | ((repeat (first | refine p_wI ?_ | refine p_wR ?_)); exact p_w0) | decide) only [reduceIte, Int.reduceLT, Int.reduceLE, Int.reduceEq, Int.reduceToNat, Int.reduceAdd, Int.reduceSub, Int.reduceMul, Int.reduceNeg, e120_7, e120_8, e120_11, e120_14, e120_15, e120_16, e120_19, e120_20, p_al0, p_getR, p_il1, p_il2, p_cs2_0, p_cs2_1, p_cs2_2, p_cs2_3, p_cs2_4, zK_v, zK_0, WN_ncl, p_il3, p_cv2_0, p_cv2_1, p_cv2_2, p_cv2_3, p_cv2_4, WN_nx, WN_nrt, WN_ite, zx_r0, zx_l, t_cellOf]
  have e0 : wu w 201 0 0 = w 0 := wu_o (by omega)
  refine t_addHoe (L := 102) k2 h1.lw (by rw [e0]; omega) (by rw [e0]; exact h4) (fun σ2 h2 f2 => ?_)
  rw [zK_v, e0]
  simp (disch := first | assumption | exact p_c2i | exact p_c2r | exact p_c2n | omega | ((repeat (first | refine p_a1i.trans ?_ | refine p_a1r.trans ?_)); exact p_a10) | ((repeat (first | refine p_wI ?_ | refine p_wR ?_)); exact p_w0) | decide) only [reduceIte, Int.reduceLT, Int.reduceLE, Int.reduceEq, Int.reduceToNat, Int.reduceAdd, Int.reduceSub, Int.reduceMul, Int.reduceNeg, e120_23, p_ret0, WN_nx, WN_nrt, WN_ite]
  exact K σ2 (h1.lawn h2 f2 (fun j hj => aAdd_hi (by rw [e0]; omega) hj)) (zfS_l f1 f2)
theorem t_dropHoe {h : Nat} (hR : zSr σ 101 w) (ok : zSok N w) (h4 : (h : Int) < w 0) (K : ∀ σ', zSr σ' 101 (aDrop h (wu w 201 0)) → zfS σ σ' 101 → Q (.inl (some (.inl (w 0 - 1)))) (3565, x, zrho) σ') : WM 122 [.inr (.inl (some 100)), .inl ((h : Int))] (3565, x, zrho) σ Q := by
  show Wp 122 0 [some (.inr (.inl (some 100))), some (.inl ((h : Int)))] [] _ _ Q
  have k := zx_k
  have k1 := zx_k1
  have k2 := zx_k2
  have o0 := ok.2.2.1.1
  simp (disch := first | assumption | exact p_c2i | exact p_c2r | exact p_c2n | omega | ((repeat (first | refine p_a1i.trans ?_ | refine p_a1r.trans ?_)); exact p_a10) | ((repeat (first | refine p_wI ?_ | refine p_wR ?_)); exact p_w0) | decide) only [reduceIte, Int.reduceLT, Int.reduceLE, Int.reduceEq, Int.reduceToNat, Int.reduceAdd, Int.reduceSub, Int.reduceMul, Int.reduceNeg, e122_0, e122_1, e122_4, p_al0, p_getR, p_cv0_0, p_cv0_1, p_cv0_2, p_cv0_3, p_cv0_4, zK_v, zK_0, WN_ncl, WN_nx, WN_nrt, WN_ite, zx_r0]
  refine t_forgetSteps zx_s hR ok (fun σ1 h1 f1 => ?_)
  rw [zK_0]
  simp (disch := first | assumption | exact p_c2i | exact p_c2r | exact p_c2n | omega | ((repeat (first | refine p_a1i.trans ?_ | refine p_a1r.trans ?_)); exact p_a10) | ((repeat (first | refine p_wI ?_ | refine p_wR ?_)); exact p_w0) | decide) only [reduceIte, Int.reduceLT, Int.reduceLE, Int.reduceEq, Int.reduceToNat, Int.reduceAdd, Int.reduceSub, Int.reduceMul, Int.reduceNeg, e122_7, e122_8, e122_11, e122_14, e122_15, p_al0, p_getR, p_il1, p_cv1_0, p_cv1_1, p_cv1_2, p_cv1_3, p_cv1_4, zK_v, zK_0, WN_ncl, WN_nx, WN_nrt, WN_ite, zx_r0, zx_l]
  have e0 : wu w 201 0 0 = w 0 := wu_o (by omega)
  refine t_removeHoe (L := 102) k2 h1.lw (by rw [e0]; exact o0) (by rw [e0]; exact h4) (fun σ2 h2 f2 => ?_)
  rw [zK_v, e0]
  simp (disch := first | assumption | exact p_c2i | exact p_c2r | exact p_c2n | omega | ((repeat (first | refine p_a1i.trans ?_ | refine p_a1r.trans ?_)); exact p_a10) | ((repeat (first | refine p_wI ?_ | refine p_wR ?_)); exact p_w0) | decide) only [reduceIte, Int.reduceLT, Int.reduceLE, Int.reduceEq, Int.reduceToNat, Int.reduceAdd, Int.reduceSub, Int.reduceMul, Int.reduceNeg, e122_18, p_ret0, WN_nx, WN_nrt, WN_ite]
  exact K σ2 (h1.lawn h2 f2 (fun j hj => aDrop_hi (by rw [e0]; omega) hj)) (zfS_l f1 f2)
theorem t_setColours {v : Int} (hR : zSr σ 101 w) (ok : zSok N w) (hv : 2 ≤ v ∧ v ≤ 4) (K : ∀ σ', zSr σ' 101 (aMany v (wu w 201 0)) → zfS σ σ' 101 → Q (.inl (some (.inl (zct (fun c => decide (v ≤ w (10 + c))) 81)))) (3565, x, zrho) σ') : WM 124 [.inr (.inl (some 100)), .inl v] (3565, x, zrho) σ Q := by
  show Wp 124 0 [some (.inr (.inl (some 100))), some (.inl v)] [] _ _ Q
  have k := zx_k
  have k1 := zx_k1
  have k2 := zx_k2
  simp (disch := first | assumption | exact p_c2i | exact p_c2r | exact p_c2n | omega | ((repeat (first | refine p_a1i.trans ?_ | refine p_a1r.trans ?_)); exact p_a10) | ((repeat (first | refine p_wI ?_ | refine p_wR ?_)); exact p_w0) | decide) only [reduceIte, Int.reduceLT, Int.reduceLE, Int.reduceEq, Int.reduceToNat, Int.reduceAdd, Int.reduceSub, Int.reduceMul, Int.reduceNeg, e124_0, e124_1, e124_4, p_al0, p_getR, p_cv0_0, p_cv0_1, p_cv0_2, p_cv0_3, p_cv0_4, zK_v, zK_0, WN_ncl, WN_nx, WN_nrt, WN_ite, zx_r0]
  refine t_forgetSteps zx_s hR ok (fun σ1 h1 f1 => ?_)
  rw [zK_0]
  simp (disch := first | assumption | exact p_c2i | exact p_c2r | exact p_c2n | omega | ((repeat (first | refine p_a1i.trans ?_ | refine p_a1r.trans ?_)); exact p_a10) | ((repeat (first | refine p_wI ?_ | refine p_wR ?_)); exact p_w0) | decide) only [reduceIte, Int.reduceLT, Int.reduceLE, Int.reduceEq, Int.reduceToNat, Int.reduceAdd, Int.reduceSub, Int.reduceMul, Int.reduceNeg, e124_7, e124_8, e124_11, e124_14, e124_15, p_al0, p_getR, p_il1, p_cv1_0, p_cv1_1, p_cv1_2, p_cv1_3, p_cv1_4, zK_v, zK_0, WN_ncl, WN_nx, WN_nrt, WN_ite, zx_r0, zx_l]
  refine t_changeMany (L := 102) k2 (by omega) h1.lw (zSr_z ok) (fun σ2 h2 f2 => ?_)
  have ez : zct (fun c => decide (v ≤ wu w 201 0 (10 + c))) 81 = zct (fun c => decide (v ≤ w (10 + c))) 81 := by
    have : ∀ n, n ≤ 81 → zct (fun c => decide (v ≤ wu w 201 0 (10 + c))) n = zct (fun c => decide (v ≤ w (10 + c))) n := by
      intro n
      induction n with
      | zero => intro _; rfl
      | succ n ih => intro h; rw [zct_s, zct_s, ih (by omega), wu_o (by omega)]
    exact this 81 (Nat.le_refl _)
  rw [zK_v, ez]
  have ci := zct_in (p := fun c => decide (v ≤ w (10 + c))) 81
  simp (disch := first | assumption | exact p_c2i | exact p_c2r | exact p_c2n | omega | ((repeat (first | refine p_a1i.trans ?_ | refine p_a1r.trans ?_)); exact p_a10) | ((repeat (first | refine p_wI ?_ | refine p_wR ?_)); exact p_w0) | decide) only [reduceIte, Int.reduceLT, Int.reduceLE, Int.reduceEq, Int.reduceToNat, Int.reduceAdd, Int.reduceSub, Int.reduceMul, Int.reduceNeg, e124_18, p_ret0, WN_nx, WN_nrt, WN_ite]
  exact K σ2 (h1.lawn h2 f2 (fun j hj => aMany_o (by omega) (by omega))) (zfS_l f1 f2)
theorem t_setTurn {t v : Int} (hR : zSr σ 101 w) (ok : zSok N w) (ht : 0 ≤ t ∧ t < 4) (K : ∀ σ', zSr σ' 101 (wu (wu w 201 0) (6 + t.toNat) v) → zfS σ σ' 101 → Q (.inl (some (.inl (w (6 + t.toNat))))) (3565, x, zrho) σ') : WM 126 [.inr (.inl (some 100)), .inl t, .inl v] (3565, x, zrho) σ Q := by
  show Wp 126 0 [some (.inr (.inl (some 100))), some (.inl t), some (.inl v)] [] _ _ Q
  have k := zx_k
  have k1 := zx_k1
  have k2 := zx_k2
  simp (disch := first | assumption | exact p_c2i | exact p_c2r | exact p_c2n | omega | ((repeat (first | refine p_a1i.trans ?_ | refine p_a1r.trans ?_)); exact p_a10) | ((repeat (first | refine p_wI ?_ | refine p_wR ?_)); exact p_w0) | decide) only [reduceIte, Int.reduceLT, Int.reduceLE, Int.reduceEq, Int.reduceToNat, Int.reduceAdd, Int.reduceSub, Int.reduceMul, Int.reduceNeg, e126_0, e126_1, e126_4, p_al0, p_getR, p_cv0_0, p_cv0_1, p_cv0_2, p_cv0_3, p_cv0_4, zK_v, zK_0, WN_ncl, WN_nx, WN_nrt, WN_ite, zx_r0]
  refine t_forgetSteps zx_s hR ok (fun σ1 h1 f1 => ?_)
  rw [zK_0]
  simp (disch := first | assumption | exact p_c2i | exact p_c2r | exact p_c2n | omega | ((repeat (first | refine p_a1i.trans ?_ | refine p_a1r.trans ?_)); exact p_a10) | ((repeat (first | refine p_wI ?_ | refine p_wR ?_)); exact p_w0) | decide) only [reduceIte, Int.reduceLT, Int.reduceLE, Int.reduceEq, Int.reduceToNat, Int.reduceAdd, Int.reduceSub, Int.reduceMul, Int.reduceNeg, e126_7, e126_8, e126_11, e126_14, e126_15, e126_16, p_al0, p_getR, p_il1, p_il2, p_cv2_0, p_cv2_1, p_cv2_2, p_cv2_3, p_cv2_4, zK_v, zK_0, WN_ncl, WN_nx, WN_nrt, WN_ite, zx_r0, zx_l]
  refine t_changeTurn (L := 102) k2 ht h1.lw (fun σ2 h2 f2 => ?_)
  rw [zK_v, wu_o (by omega)]
  simp (disch := first | assumption | exact p_c2i | exact p_c2r | exact p_c2n | omega | ((repeat (first | refine p_a1i.trans ?_ | refine p_a1r.trans ?_)); exact p_a10) | ((repeat (first | refine p_wI ?_ | refine p_wR ?_)); exact p_w0) | decide) only [reduceIte, Int.reduceLT, Int.reduceLE, Int.reduceEq, Int.reduceToNat, Int.reduceAdd, Int.reduceSub, Int.reduceMul, Int.reduceNeg, e126_19, p_ret0, WN_nx, WN_nrt, WN_ite]
  exact K σ2 (h1.lawn h2 f2 (fun j hj => wu_o (by omega))) (zfS_l f1 f2)
theorem t_setColour {r c v : Int} (hR : zSr σ 101 w) (ok : zSok N w) (hc : (0 ≤ r ∧ r < 9) ∧ (0 ≤ c ∧ c < 9)) (K : ∀ σ', zSr σ' 101 (wu (wu w 201 0) (10 + (9 * r + c).toNat) v) → zfS σ σ' 101 → Q (.inl (some (.inl (w (10 + (9 * r + c).toNat))))) (3565, x, zrho) σ') : WM 128 [.inr (.inl (some 100)), .inl r, .inl c, .inl v] (3565, x, zrho) σ Q := by
  show Wp 128 0 [some (.inr (.inl (some 100))), some (.inl r), some (.inl c), some (.inl v)] [] _ _ Q
  have k := zx_k
  have k1 := zx_k1
  have k2 := zx_k2
  simp (disch := first | assumption | exact p_c2i | exact p_c2r | exact p_c2n | omega | ((repeat (first | refine p_a1i.trans ?_ | refine p_a1r.trans ?_)); exact p_a10) | ((repeat (first | refine p_wI ?_ | refine p_wR ?_)); exact p_w0) | decide) only [reduceIte, Int.reduceLT, Int.reduceLE, Int.reduceEq, Int.reduceToNat, Int.reduceAdd, Int.reduceSub, Int.reduceMul, Int.reduceNeg, e128_0, e128_1, e128_4, p_al0, p_getR, p_cv0_0, p_cv0_1, p_cv0_2, p_cv0_3, p_cv0_4, zK_v, zK_0, WN_ncl, WN_nx, WN_nrt, WN_ite, zx_r0]
  refine t_forgetSteps zx_s hR ok (fun σ1 h1 f1 => ?_)
  rw [zK_0]
  simp (disch := first | assumption | exact p_c2i | exact p_c2r | exact p_c2n | omega | ((repeat (first | refine p_a1i.trans ?_ | refine p_a1r.trans ?_)); exact p_a10) | ((repeat (first | refine p_wI ?_ | refine p_wR ?_)); exact p_w0) | decide) only [reduceIte, Int.reduceLT, Int.reduceLE, Int.reduceEq, Int.reduceToNat, Int.reduceAdd, Int.reduceSub, Int.reduceMul, Int.reduceNeg, e128_7, e128_8, e128_11, e128_14, e128_15, e128_16, e128_19, e128_20, p_al0, p_getR, p_il1, p_il2, p_cs2_0, p_cs2_1, p_cs2_2, p_cs2_3, p_cs2_4, zK_v, zK_0, WN_ncl, p_il3, p_cv2_0, p_cv2_1, p_cv2_2, p_cv2_3, p_cv2_4, WN_nx, WN_nrt, WN_ite, zx_r0, zx_l, t_cellOf]
  refine t_changeColour (L := 102) k2 (by omega) h1.lw (fun σ2 h2 f2 => ?_)
  rw [zK_v, wu_o (by omega)]
  simp (disch := first | assumption | exact p_c2i | exact p_c2r | exact p_c2n | omega | ((repeat (first | refine p_a1i.trans ?_ | refine p_a1r.trans ?_)); exact p_a10) | ((repeat (first | refine p_wI ?_ | refine p_wR ?_)); exact p_w0) | decide) only [reduceIte, Int.reduceLT, Int.reduceLE, Int.reduceEq, Int.reduceToNat, Int.reduceAdd, Int.reduceSub, Int.reduceMul, Int.reduceNeg, e128_23, p_ret0, WN_nx, WN_nrt, WN_ite]
  exact K σ2 (h1.lawn h2 f2 (fun j hj => wu_o (by omega))) (zfS_l f1 f2)
theorem t_setManner {v : Int} (hR : zSr σ 101 w) (ok : zSok N w) (K : ∀ σ', zSr σ' 101 (wu (wu w 201 0) 2 v) → zfS σ σ' 101 → Q (.inl (some (.inl (w 2)))) (3565, x, zrho) σ') : WM 130 [.inr (.inl (some 100)), .inl v] (3565, x, zrho) σ Q := by
  show Wp 130 0 [some (.inr (.inl (some 100))), some (.inl v), none] [] _ _ Q
  have k := zx_k
  have k1 := zx_k1
  have k2 := zx_k2
  simp (disch := first | assumption | exact p_c2i | exact p_c2r | exact p_c2n | omega | ((repeat (first | refine p_a1i.trans ?_ | refine p_a1r.trans ?_)); exact p_a10) | ((repeat (first | refine p_wI ?_ | refine p_wR ?_)); exact p_w0) | decide) only [reduceIte, Int.reduceLT, Int.reduceLE, Int.reduceEq, Int.reduceToNat, Int.reduceAdd, Int.reduceSub, Int.reduceMul, Int.reduceNeg, e130_0, e130_1, e130_4, p_al0, p_getR, p_cv0_0, p_cv0_1, p_cv0_2, p_cv0_3, p_cv0_4, zK_v, zK_0, WN_ncl, WN_nx, WN_nrt, WN_ite, zx_r0]
  refine t_forgetSteps zx_s hR ok (fun σ1 h1 f1 => ?_)
  rw [zK_0]
  have g2 : σ1 102 12 = w 2 := h1.lw.h2.trans (wu_o (by omega))
  simp (disch := first | assumption | exact p_c2i | exact p_c2r | exact p_c2n | omega | ((repeat (first | refine p_a1i.trans ?_ | refine p_a1r.trans ?_)); exact p_a10) | ((repeat (first | refine p_wI ?_ | refine p_wR ?_)); exact p_w0) | decide) only [reduceIte, Int.reduceLT, Int.reduceLE, Int.reduceEq, Int.reduceToNat, Int.reduceAdd, Int.reduceSub, Int.reduceMul, Int.reduceNeg, e130_7, e130_8, e130_11, e130_14, e130_17, e130_18, e130_19, e130_22, e130_25, e130_26, e130_29, e130_30, p_al0, p_getR, p_getI, p_is2, p_c2n, p_c2i, p_c2r, p_il1, p_putI, p_il2, p_ret0, WN_nx, WN_nrt, WN_ite, zx_r0, zx_l, g2]
  exact K _ (h1.lawn h1.lw.f12 zfr_u0 (fun j hj => wu_o (by omega))) (zfS_l f1 zfr_u0)
theorem aPre_g {i h : Nat} (ok : zok N w) (hi : (i : Int) < w 0) (hh : h < 4) : aPre i w (172 + 4 * h + 2) = w (172 + 4 * h + 2) ∧ aPre i w (172 + 4 * h + 3) = w (172 + 4 * h + 3) := by
  have o0 := ok.1
  have o := (ok.2.2.2.2.2.2.2.2.2.1 i hi).1
  exact ⟨aPre_h o (by omega) (by omega) (by omega), aPre_h o (by omega) (by omega) (by omega)⟩
theorem aMv_g {i : Nat} (ok : zok N w) (hi : (i : Int) < w 0) (h : Nat) (hh : h < 4) : aMove i w (172 + 4 * h + 2) = w (172 + 4 * h + 2) + if h = i then aGoes i w else 0 := by
  have o0 := ok.1
  have hp := (aPre_g ok hi hh).1
  have o2 := ok.2.2.1
  have hgo : ∀ (t : Int) (u : zW), aGo i t u (172 + 4 * h + 2) = u (172 + 4 * h + 2) + if h = i then 1 else 0 := by
    intro t u
    unfold aGo
    by_cases e : h = i
    · subst e; rw [wu_s, if_pos rfl]
    · rw [wu_o (by omega), wu_o (by omega), if_neg e, Int.add_zero]
  have hme : ∀ (u : zW), aMeet i u (172 + 4 * h + 2) = u (172 + 4 * h + 2) := by
    intro u
    unfold aMeet
    rw [wu_o (by omega), wu_o (by omega)]
  have hbk : ∀ p (u : zW), aBk p u (172 + 4 * h + 2) = u (172 + 4 * h + 2) := by
    intro p u
    unfold aBk
    rw [if_neg (by omega)]
  unfold aMove aGoes
  by_cases h1 : 0 < aOn (aPre i w) (aNext i w)
  · rw [if_pos h1, if_pos h1]
    by_cases h2 : w 2 = 0
    · rw [if_pos h2, if_neg (show ¬ 0 < w 2 by omega), hgo, hme, hp]
    · rw [if_neg h2, if_pos (show 0 < w 2 by omega)]
      have z : (if h = i then (0 : Int) else 0) = 0 := by split <;> rfl
      rw [z, Int.add_zero]
      by_cases h3 : w 2 = 2
      · rw [if_pos h3, hbk, hme, hp]
      · rw [if_neg h3, hme, hp]
  · rw [if_neg h1, if_neg h1, hgo, hp]
theorem zsm_up {f g : Nat → Int} {i : Nat} {v : Int} (h : ∀ k, g k = f k + if k = i then v else 0) : ∀ n, zsm g n = zsm f n + if i < n then v else 0 := by
  intro n
  induction n with
  | zero => rw [if_neg (Nat.not_lt_zero _)]; rfl
  | succ n ih =>
    rw [zsm_s, zsm_s, ih, h n]
    by_cases e : n = i
    · subst e; rw [if_neg (Nat.lt_irrefl _), if_pos rfl, if_pos (Nat.lt_succ_self _)]; omega
    · rw [if_neg e]
      by_cases l : i < n
      · rw [if_pos l, if_pos (by omega)]; omega
      · rw [if_neg l, if_neg (by omega)]; omega
theorem zsm_cg {f g : Nat → Int} : ∀ n, (∀ k, k < n → g k = f k) → zsm g n = zsm f n := by
  intro n
  induction n with
  | zero => intro _; rfl
  | succ n ih => intro h; rw [zsm_s, zsm_s, ih (fun k hk => h k (by omega)), h n (by omega)]
/-- the goings of all hoes in a step -/
theorem aSm_N {m : Nat} (ok : zok N w) (hm4 : m ≤ 4) : ∀ n : Nat, (n : Int) ≤ w 0 → n ≤ m → aSm (aMvN w n) 2 m = aSm w 2 m + aGN w n := by
  have o0 := ok.1
  intro n
  induction n with
  | zero => intro _ _; exact (Int.add_zero _).symm
  | succ n ih =>
    intro h1 h2
    obtain ⟨k1, k2⟩ := aMvN_ok ok n (by omega)
    have hi : (n : Int) < aMvN w n 0 := by rw [k2 0 (by omega)]; omega
    have e : aSm (aMvN w (n + 1)) 2 m = aSm (aMvN w n) 2 m + aGoes n (aMvN w n) := by
      unfold aSm
      have z := zsm_up (f := fun h => aMvN w n (172 + 4 * h + 2)) (g := fun h => aMvN w n (172 + 4 * h + 2) + if h = n then aGoes n (aMvN w n) else 0) (i := n) (v := aGoes n (aMvN w n)) (fun k => rfl) m
      rw [if_pos (by omega)] at z
      rw [← z]
      exact zsm_cg m (fun k hk => aMv_g k1 hi k (by omega))
    rw [e, ih (by omega) (by omega), aGN_s]
    omega
theorem aSm_step (ok : zok N w) : aSm (aStep w) 2 (w 0).toNat = aSm w 2 (w 0).toNat + aGN w (w 0).toNat := by
  have o0 := ok.1
  rw [← aSm_N ok (by omega) (w 0).toNat (by omega) (Nat.le_refl _)]
  unfold aSm
  refine zsm_cg _ (fun k hk => ?_)
  unfold aStep
  rw [wu_o (by omega)]
theorem aKeep_lo {j : Nat} (h : j < 200) : aKeep w j = w j := by
  unfold aKeep
  split
  · rw [if_neg (by omega), if_neg (by omega)]
  · rw [if_neg (by omega), if_neg (by omega)]
theorem aSm_St (ok : zSok N w) : ∀ k : Nat, aSm (aStN k w) 2 (w 0).toNat = aSm w 2 (w 0).toNat + aGS w k := by
  intro k
  induction k with
  | zero => exact (Int.add_zero _).symm
  | succ k ih =>
    obtain ⟨h1, h2⟩ := aStN_ok ok k
    have h3 := zSok_keep h1
    have o0 := h1.2.2.1.1
    have e0 : aKeep (aStN k w) 0 = w 0 := (aKeep_lo (by omega)).trans h2
    have e := aSm_step h3.2.2.1
    rw [e0] at e
    show aSm (aStep (aKeep (aStN k w))) 2 (w 0).toNat = aSm w 2 (w 0).toNat + (aGS w k + aGN (aKeep (aStN k w)) (w 0).toNat)
    rw [e]
    have e2 : aSm (aKeep (aStN k w)) 2 (w 0).toNat = aSm (aStN k w) 2 (w 0).toNat := by
      unfold aSm
      exact zsm_cg _ (fun j hj => aKeep_lo (by omega))
    rw [e2, ih]
    omega
theorem l_makeSteps {m : Nat} {b : Int} (ok : zSok N w) (hN : N ≤ 80000000) (hm : m ≤ 40) (K : ∀ σ', zSr σ' 101 (aStN m w) → zfS σ σ' 101 → Q (.inl (some (.inl (aSm (aStN m w) 2 (w 0).toNat - b)))) (3565, x, zrho) σ') : ∀ (n i : Nat) (σ1 : ZI), i + n = m → zSr σ1 101 (aStN i w) → zfS σ σ1 101 → Wp 132 13 [some (.inr (.inl (some 100))), some (.inl ((m : Int))), some (.inl b), some (.inl ((i : Int)))] [] (3565, x, zrho) σ1 Q := by
  have k := zx_k
  have k1 := zx_k1
  have k2 := zx_k2
  intro n
  induction n with
  | zero =>
    intro i σ1 hi hR hf
    have e : i = m := by omega
    subst e
    obtain ⟨h1, h2⟩ := aStN_ok ok i
    have c1 : ((i : Int) < (i : Int)) = False := eq_false (by omega)
    have tg := fun (Q : ZO → ZT → ZI → Prop) => t_allGoings (L := 102) (Q := Q) (x := x) k2 hR.lw h1.2.2.1 (by omega)
    rw [h2] at tg
    simp (disch := first | assumption | exact p_c2i | exact p_c2r | exact p_c2n | omega | ((repeat (first | refine p_a1i.trans ?_ | refine p_a1r.trans ?_)); exact p_a10) | ((repeat (first | refine p_wI ?_ | refine p_wR ?_)); exact p_w0) | decide) only [reduceIte, Int.reduceLT, Int.reduceLE, Int.reduceEq, Int.reduceToNat, Int.reduceAdd, Int.reduceSub, Int.reduceMul, Int.reduceNeg, e132_13, e132_14, e132_15, e132_18, e132_19, e132_22, e132_25, e132_26, e132_29, e132_32, e132_35, e132_38, e132_41, e132_42, e132_45, e132_48, e132_51, e132_52, e132_53, p_il3, p_il1, p_cge, p_al0, p_getR, p_cv0_0, p_cv0_1, p_cv0_2, p_cv0_3, p_cv0_4, zK_v, zK_0, WN_ncl, p_ii3, p_goto, p_il2, p_bin, p_ret0, WN_nx, WN_nrt, WN_ite, c1, zx_r0, zx_l, tg]
    exact K σ1 hR hf
  | succ n ih =>
    intro i σ1 hi hR hf
    obtain ⟨h1, h2⟩ := aStN_ok ok i
    have c1 : ((i : Int) < (m : Int)) = True := eq_true (by omega)
    have e1 : (i : Int) + 1 = ((i + 1 : Nat) : Int) := by omega
    rw [e132_13]
    simp (disch := first | assumption | exact p_c2i | exact p_c2r | exact p_c2n | omega | ((repeat (first | refine p_a1i.trans ?_ | refine p_a1r.trans ?_)); exact p_a10) | ((repeat (first | refine p_wI ?_ | refine p_wR ?_)); exact p_w0) | decide) only [reduceIte, Int.reduceLT, Int.reduceLE, Int.reduceEq, Int.reduceToNat, Int.reduceAdd, Int.reduceSub, Int.reduceMul, Int.reduceNeg, e132_14, e132_15, e132_18, e132_19, e132_22, p_il3, p_il1, p_cge, p_al0, p_getR, p_cv0_0, p_cv0_1, p_cv0_2, p_cv0_3, p_cv0_4, zK_v, zK_0, WN_ncl, WN_nx, WN_nrt, WN_ite, c1, zx_r0]
    refine t_keepLawn zx_s hR h1 (fun σ2 hR2 hf2 => ?_)
    rw [zK_0]
    simp (disch := first | assumption | exact p_c2i | exact p_c2r | exact p_c2n | omega | ((repeat (first | refine p_a1i.trans ?_ | refine p_a1r.trans ?_)); exact p_a10) | ((repeat (first | refine p_wI ?_ | refine p_wR ?_)); exact p_w0) | decide) only [reduceIte, Int.reduceLT, Int.reduceLE, Int.reduceEq, Int.reduceToNat, Int.reduceAdd, Int.reduceSub, Int.reduceMul, Int.reduceNeg, e132_25, e132_26, e132_29, e132_32, p_al0, p_getR, p_cv0_0, p_cv0_1, p_cv0_2, p_cv0_3, p_cv0_4, zK_v, zK_0, WN_ncl, WN_nx, WN_nrt, WN_ite, zx_r0, zx_l]
    have h3 := zSok_keep h1
    refine t_moveAll (L := 102) k2 hR2.lw h3.2.2.1 (by omega) (fun σ3 hR3 hf3 _ => ?_)
    rw [zK_0]
    simp (disch := first | assumption | exact p_c2i | exact p_c2r | exact p_c2n | omega | ((repeat (first | refine p_a1i.trans ?_ | refine p_a1r.trans ?_)); exact p_a10) | ((repeat (first | refine p_wI ?_ | refine p_wR ?_)); exact p_w0) | decide) only [reduceIte, Int.reduceLT, Int.reduceLE, Int.reduceEq, Int.reduceToNat, Int.reduceAdd, Int.reduceSub, Int.reduceMul, Int.reduceNeg, e132_35, e132_38, p_ii3, p_goto, WN_nx, WN_nrt, WN_ite, e1]
    exact ih (i + 1) σ3 (by omega) (hR2.lawn hR3 hf3 (fun j hj => aStep_hi h3.2.2.1 hj)) (zfS_l (zfS_t hf hf2) hf3)
theorem t_makeSteps {v : Int} (hR : zSr σ 101 w) (ok : zSok N w) (hN : N ≤ 80000000) (hv : 1 ≤ v ∧ v ≤ 40) (K : ∀ σ', zSr σ' 101 (aStN v.toNat w) → zfS σ σ' 101 → Q (.inl (some (.inl (aGS w v.toNat)))) (3565, x, zrho) σ') : WM 132 [.inr (.inl (some 100)), .inl v] (3565, x, zrho) σ Q := by
  show Wp 132 0 [some (.inr (.inl (some 100))), some (.inl v), none, none] [] _ _ Q
  have k := zx_k
  have k1 := zx_k1
  have k2 := zx_k2
  obtain ⟨m, hm⟩ : ∃ m : Nat, v = (m : Int) := ⟨v.toNat, by omega⟩
  subst hm
  have tg := fun (Q : ZO → ZT → ZI → Prop) => t_allGoings (L := 102) (Q := Q) (x := x) k2 hR.lw ok.2.2.1 (by omega)
  simp (disch := first | assumption | exact p_c2i | exact p_c2r | exact p_c2n | omega | ((repeat (first | refine p_a1i.trans ?_ | refine p_a1r.trans ?_)); exact p_a10) | ((repeat (first | refine p_wI ?_ | refine p_wR ?_)); exact p_w0) | decide) only [reduceIte, Int.reduceLT, Int.reduceLE, Int.reduceEq, Int.reduceToNat, Int.reduceAdd, Int.reduceSub, Int.reduceMul, Int.reduceNeg, e132_0, e132_1, e132_4, e132_7, e132_10, e132_11, e132_12, p_al0, p_getR, p_cv0_0, p_cv0_1, p_cv0_2, p_cv0_3, p_cv0_4, zK_v, zK_0, WN_ncl, p_is2, p_c2n, p_c2i, p_c2r, p_push, p_is3, WN_nx, WN_nrt, WN_ite, zx_r0, zx_l, tg]
  refine l_makeSteps (m := m) ok hN (by omega) (fun σ' h1 h2 => ?_) m 0 σ (by omega) hR zfS_r
  have e := K σ' h1 h2
  rw [Int.toNat_natCast] at e
  rw [aSm_St ok m, show aSm w 2 (w 0).toNat + aGS w m - aSm w 2 (w 0).toNat = aGS w m by omega]
  exact e
end
