/-! A LAWN: a hoe less; the inverse; the same look -/
def aInv (i : Nat) (w : zW) : zW :=
  wu (wu (wu w (10 + (aTo (w (172 + 4 * i + 0)) ((w (172 + 4 * i + 1) + 2) % 4)).toNat) (if 0 < w (10 + (aTo (w (172 + 4 * i + 0)) ((w (172 + 4 * i + 1) + 2) % 4)).toNat) then w (10 + (aTo (w (172 + 4 * i + 0)) ((w (172 + 4 * i + 1) + 2) % 4)).toNat) - 1 else w 1 - 1)) (172 + 4 * i + 0) (aTo (w (172 + 4 * i + 0)) ((w (172 + 4 * i + 1) + 2) % 4))) (172 + 4 * i + 1)
    ((w (172 + 4 * i + 1) - aQ (w (6 + (if 0 < w (10 + (aTo (w (172 + 4 * i + 0)) ((w (172 + 4 * i + 1) + 2) % 4)).toNat) then w (10 + (aTo (w (172 + 4 * i + 0)) ((w (172 + 4 * i + 1) + 2) % 4)).toNat) - 1 else w 1 - 1).toNat))) % 4)
def aInvN : Nat → zW → zW
  | 0, w => w
  | n + 1, w => aInvN n (aInv n w)
def zfa (p : Nat → Bool) : Nat → Nat → Bool
  | _, 0 => true
  | i, f + 1 => if p i = true then zfa p (i + 1) f else false
theorem zfa_s {p : Nat → Bool} {i f : Nat} : zfa p i (f + 1) = if p i = true then zfa p (i + 1) f else false := rfl
theorem zfa_iff {p : Nat → Bool} : ∀ f i : Nat, zfa p i f = true ↔ ∀ j, i ≤ j → j < i + f → p j = true := by
  intro f
  induction f with
  | zero => intro i; exact ⟨fun _ j h1 h2 => absurd h2 (by omega), fun _ => rfl⟩
  | succ f ih =>
    intro i
    rw [zfa_s]
    by_cases h : p i = true
    · rw [if_pos h, ih]
      refine ⟨fun g j h1 h2 => ?_, fun g j h1 h2 => g j (by omega) (by omega)⟩
      by_cases e : j = i
      · exact e ▸ h
      · exact g j (by omega) (by omega)
    · rw [if_neg h]
      exact ⟨fun z => absurd z (by decide), fun g => absurd (g i (by omega) (by omega)) h⟩
/-- 1 if they look alike -/
def aLook (w v : zW) : Int := if w 0 = v 0 then (if zfa (fun c => decide (w (10 + c) = v (10 + c))) 0 81 = true then (if zfa (fun h => decide (w (172 + 4 * h) = v (172 + 4 * h) ∧ w (173 + 4 * h) = v (173 + 4 * h))) 0 (w 0).toNat = true then 1 else 0) else 0) else 0
section
variable {L : Nat} {σ : ZI} {Q : ZO → ZT → ZI → Prop} {x : Nat} {w : zW} {N : Int}
theorem zok_col {c : Nat} {v : Int} (ok : zok N w) (hc : c < 81) (hv : 0 ≤ v ∧ v < w 1) : zok N (wu w (10 + c) v) := by
  have o0 := ok.1
  obtain ⟨a0, a1, a2, a3, a4, a5, a6, a7, a8, a9, a10⟩ := ok
  refine ⟨by rw [wu_o (by omega)]; exact a0, by rw [wu_o (by omega)]; exact a1, by rw [wu_o (by omega)]; exact a2, by rw [wu_o (by omega)]; exact a3, by rw [wu_o (by omega)]; exact a4, by rw [wu_o (by omega)]; exact a5, fun t h => by rw [wu_o (by omega)]; exact a6 t h, fun t h => ?_, fun t h => by rw [wu_o (by omega)]; exact a8 t h, fun k h => by rw [wu_o (by omega)] at h; rw [wu_o (by omega), wu_o (by omega), wu_o (by omega), wu_o (by omega)]; exact a9 k h, fun k h => by rw [wu_o (by omega)] at h; rw [wu_o (by omega)]; exact a10 k h⟩
  rw [wu_o (j := 1) (by omega)]
  by_cases e : t = c
  · subst e; rw [wu_s]; exact hv
  · rw [wu_o (by omega)]; exact a7 t h
theorem aInv_0 {i k : Nat} (ok : zok N w) (hi : (i : Int) < w 0) (hk : k < 10) : aInv i w k = w k := by
  have o := ok.2.2.2.2.2.2.2.2.2.1 i hi
  unfold aInv
  rw [wu_o (by omega), wu_o (by omega), wu_o (by omega)]
theorem zok_inv {i : Nat} (ok : zok N w) (hi : (i : Int) < w 0) : zok N (aInv i w) := by
  have o0 := ok.1
  have o1 := ok.2.1
  have o := ok.2.2.2.2.2.2.2.2.2.1 i hi
  have ht := aTo_in (c := w (172 + 4 * i + 0)) (d := (w (172 + 4 * i + 1) + 2) % 4) o.1.1 o.1.2
  unfold aInv
  generalize aTo (w (172 + 4 * i + 0)) ((w (172 + 4 * i + 1) + 2) % 4) = c at ht ⊢
  have oc := ok.2.2.2.2.2.2.2.1 c.toNat (by omega)
  refine zok_hoe (zok_hoe (zok_col ok (by omega) ?_) (by omega) (by omega) ⟨fun _ => ht, by omega, by omega⟩) (by omega) (by omega) ⟨by omega, fun _ => by omega, by omega⟩
  split <;> omega
theorem aInvN_ok : ∀ (n : Nat) {w : zW}, zok N w → (n : Int) ≤ w 0 → zok N (aInvN n w) ∧ ∀ k, k < 10 → aInvN n w k = w k := by
  intro n
  induction n with
  | zero => intro w ok _; exact ⟨ok, fun _ _ => rfl⟩
  | succ n ih =>
    intro w ok hn
    have h0 := aInv_0 (i := n) (k := 0) ok (by omega) (by omega)
    obtain ⟨h1, h2⟩ := ih (zok_inv (i := n) ok (by omega)) (by omega)
    exact ⟨h1, fun k hk => (h2 k hk).trans (aInv_0 ok (by omega) hk)⟩
theorem l_makeInverse (hk : zkd L = 2) (K : ∀ σ', zLr σ' L (aInvN (w 0).toNat w) → zfr σ σ' L → Q (.inl none) (3565, x, zrho) σ') : ∀ (n : Nat) (σ1 : ZI) (w1 : zW) (l2 l3 : Option ZV), n ≤ 4 → w1 0 = w 0 → zok N w1 → zLr σ1 L w1 → zfr σ σ1 L → aInvN (min n (w 0).toNat) w1 = aInvN (w 0).toNat w → Wp 38 2 [some (.inr (.inl (some L))), some (.inl ((n : Int) - 1)), l2, l3] [] (3565, x, zrho) σ1 Q := by
  have k5 := zkL5 hk
  have n5 := znL5 hk
  have k6 := zkL6 hk
  have n6 := znL6 hk
  intro n
  induction n with
  | zero =>
    intro σ1 w1 l2 l3 hn e0 ok hR hf he
    simp (disch := first | assumption | exact p_c2i | exact p_c2r | exact p_c2n | omega | ((repeat (first | refine p_a1i.trans ?_ | refine p_a1r.trans ?_)); exact p_a10) | ((repeat (first | refine p_wI ?_ | refine p_wR ?_)); exact p_w0) | decide) only [reduceIte, Int.reduceLT, Int.reduceLE, Int.reduceEq, Int.reduceToNat, Int.reduceAdd, Int.reduceSub, Int.reduceMul, Int.reduceNeg, e38_0, e38_1, e38_2, e38_3, e38_6, e38_7, e38_8, e38_11, e38_14, e38_15, e38_18, e38_19, e38_20, e38_21, e38_24, e38_25, e38_26, e38_27, e38_28, e38_29, e38_30, e38_33, e38_34, e38_35, e38_36, e38_39, e38_42, e38_43, e38_44, e38_47, e38_48, e38_49, e38_52, e38_53, e38_56, e38_57, e38_58, e38_59, e38_60, e38_61, e38_62, e38_65, e38_66, e38_67, e38_70, e38_71, e38_72, e38_73, e38_74, e38_77, e38_78, e38_79, e38_82, e38_83, e38_84, e38_85, e38_86, e38_89, e38_92, e38_93, e38_94, e38_95, e38_96, e38_99, e38_102, p_push, p_is1, p_c2n, p_c2i, p_c2r, p_il1, p_iflt, p_al0, p_getI, p_cge, p_getR, p_iald, p_bin, p_cs2_0, p_cs2_1, p_cs2_2, p_cs2_3, p_cs2_4, zK_v, zK_0, WN_ncl, p_is2, p_il2, p_cv1_0, p_cv1_1, p_cv1_2, p_cv1_3, p_cv1_4, p_ifle, p_goto, p_is3, p_il3, p_cv2_0, p_cv2_1, p_cv2_2, p_cv2_3, p_cv2_4, p_popi, p_popr, p_iast, p_cs1_0, p_cs1_1, p_cs1_2, p_cs1_3, p_cs1_4, p_ii1, p_vret, WN_nx, WN_nrt, WN_ite, show ((0 : Nat) : Int) = 0 from rfl]
    rw [show min 0 (w 0).toNat = 0 by omega] at he
    refine K _ ?_ hf
    rw [← he]
    exact hR
  | succ n ih =>
    intro σ1 w1 l2 l3 hn e0 ok hR hf he
    have o0 := ok.1
    have o1 := ok.2.1
    have h0 := hR.h0
    have h1 := hR.h1
    have e1 : ((n + 1 : Nat) : Int) - 1 = (n : Int) := by omega
    have c1 : ((n : Int) < 0) = False := eq_false (by omega)
    have e2 : (n : Int) + -1 = (n : Int) - 1 := by omega
    by_cases hc : (n : Int) < w1 0
    · have c2 : ((n : Int) < w1 0) = True := eq_true hc
      have g := hR.2.2.2.2.1 n hc
      have o := ok.2.2.2.2.2.2.2.2.2.1 n hc
      have g1 : σ1 (L + 5) n = w1 (172 + 4 * n + 0) := g.1
      have g2 : σ1 (L + 6) n = w1 (172 + 4 * n + 1) := by rw [g.2.1]; congr 1; omega
      have o2 : 0 ≤ w1 (172 + 4 * n + 0) ∧ w1 (172 + 4 * n + 0) < 81 := o.1
      have o3 : 0 ≤ w1 (172 + 4 * n + 1) ∧ w1 (172 + 4 * n + 1) < 4 := by rw [show 172 + 4 * n + 1 = 173 + 4 * n by omega]; exact o.2.1
      have z1 : z_and (w1 (172 + 4 * n + 1) + 2) 3 = (w1 (172 + 4 * n + 1) + 2) % 4 := zand3 (by omega) (by omega)
      have ht := aTo_in (c := w1 (172 + 4 * n + 0)) (d := (w1 (172 + 4 * n + 1) + 2) % 4) o2.1 o2.2
      have tb := fun (Q : ZO → ZT → ZI → Prop) (σ : ZI) (θ : ZT) => t_cellBeside (Q := Q) (σ := σ) (θ := θ) (c := w1 (172 + 4 * n + 0)) (d := (w1 (172 + 4 * n + 1) + 2) % 4) o2.1 o2.2 (by omega) (by omega)
      have ok2 := zok_inv ok hc
      have hi0 := aInv_0 (k := 0) ok hc (by omega)
      have he2 : aInvN (min n (w 0).toNat) (aInv n w1) = aInvN (w 0).toNat w := by
        rw [← he, show min (n + 1) (w 0).toNat = n + 1 by omega, show min n (w 0).toNat = n by omega]
        rfl
      have fin : ∀ (σ' : ZI) (l2 l3 : Option ZV), zLr σ' L (aInv n w1) → zfr σ σ' L → Wp 38 96 [some (.inr (.inl (some L))), some (.inl ((n : Int))), l2, l3] [] (3565, x, zrho) σ' Q := by
        intro σ' l2 l3 hR' hf'
        simp (disch := first | assumption | exact p_c2i | exact p_c2r | exact p_c2n | omega | ((repeat (first | refine p_a1i.trans ?_ | refine p_a1r.trans ?_)); exact p_a10) | ((repeat (first | refine p_wI ?_ | refine p_wR ?_)); exact p_w0) | decide) only [reduceIte, Int.reduceLT, Int.reduceLE, Int.reduceEq, Int.reduceToNat, Int.reduceAdd, Int.reduceSub, Int.reduceMul, Int.reduceNeg, e38_96, e38_99, p_ii1, p_goto, WN_nx, WN_nrt, WN_ite, e2]
        exact ih σ' _ l2 l3 (by omega) (hi0.trans e0) ok2 hR' hf' he2
      unfold aInv at fin
      generalize hcc : aTo (w1 (172 + 4 * n + 0)) ((w1 (172 + 4 * n + 1) + 2) % 4) = c at ht tb fin
      have oc := ok.2.2.2.2.2.2.2.1 c.toNat (by omega)
      have gc := hR.2.2.1 c.toNat (by omega)
      obtain ⟨ht1, ht2⟩ := ht
      -- the rest, once the colour is known
      have rest : ∀ (v : Int) (l3 : Option ZV), (0 ≤ v ∧ v < w1 1) → v = (if 0 < w1 (10 + c.toNat) then w1 (10 + c.toNat) - 1 else w1 1 - 1) → Wp 38 58 [some (.inr (.inl (some L))), some (.inl ((n : Int))), some (.inl c), l3] [.inl v] (3565, x, zrho) σ1 Q := by
        intro v l3 hv ev
        obtain ⟨hv1, hv2⟩ := hv
        rw [← ev] at fin
        have qv := aQ_in (w1 (6 + v.toNat))
        have gt := hR.2.1 v.toNat (by omega)
        have ot := ok.2.2.2.2.2.2.1 v.toNat (by omega)
        simp (disch := first | assumption | exact p_c2i | exact p_c2r | exact p_c2n | omega | ((repeat (first | refine p_a1i.trans ?_ | refine p_a1r.trans ?_)); exact p_a10) | ((repeat (first | refine p_wI ?_ | refine p_wR ?_)); exact p_w0) | decide) only [reduceIte, Int.reduceLT, Int.reduceLE, Int.reduceEq, Int.reduceToNat, Int.reduceAdd, Int.reduceSub, Int.reduceMul, Int.reduceNeg, e38_58, e38_59, e38_60, e38_61, e38_62, p_is3, p_c2n, p_c2i, p_c2r, p_al0, p_il2, p_il3, p_cv2_0, p_cv2_1, p_cv2_2, p_cv2_3, p_cv2_4, zK_v, zK_0, WN_ncl, WN_nx, WN_nrt, WN_ite]
        refine t_changeColour hk ⟨ht1, ht2⟩ hR (fun σ2 hR2 hf2 => ?_)
        rw [zK_v]
        have hR3 := hR2.hoe (i := n) (j := 0) (v := c) (by omega) (by omega)
        have h6 : zup σ2 (L + 5) n c (L + 6) n = w1 (172 + 4 * n + 1) := by
          rw [zup_o (by omega)]
          have := (hR2.2.2.2.2.1 n (by rw [wu_o (by omega)]; exact hc)).2.1
          rw [this, wu_o (by omega)]
          congr 1
          omega
        have h3 : zup σ2 (L + 5) n c (L + 3) v.toNat = w1 (6 + v.toNat) := by
          rw [zup_o (by omega)]
          have := hR2.2.1 v.toNat (by omega)
          rw [this, wu_o (by omega)]
        have z2 : z_and (w1 (172 + 4 * n + 1) - aQ (w1 (6 + v.toNat))) 3 = (w1 (172 + 4 * n + 1) - aQ (w1 (6 + v.toNat))) % 4 := zand3 (by omega) (by omega)
        simp (disch := first | assumption | exact p_c2i | exact p_c2r | exact p_c2n | omega | ((repeat (first | refine p_a1i.trans ?_ | refine p_a1r.trans ?_)); exact p_a10) | ((repeat (first | refine p_wI ?_ | refine p_wR ?_)); exact p_w0) | decide) only [reduceIte, Int.reduceLT, Int.reduceLE, Int.reduceEq, Int.reduceToNat, Int.reduceAdd, Int.reduceSub, Int.reduceMul, Int.reduceNeg, e38_65, e38_66, e38_67, e38_70, e38_71, e38_72, e38_73, e38_74, e38_77, e38_78, e38_79, e38_82, e38_83, e38_84, e38_85, e38_86, e38_89, e38_92, e38_93, e38_94, e38_95, p_popi, p_popr, p_al0, p_getR, p_il1, p_il2, p_iast, p_iald, p_il3, p_cv1_0, p_cv1_1, p_cv1_2, p_cv1_3, p_cv1_4, zK_v, zK_0, WN_ncl, p_cs1_0, p_cs1_1, p_cs1_2, p_cs1_3, p_cs1_4, p_bin, p_push, WN_nx, WN_nrt, WN_ite, zrL4 hk, zrL5 hk, h6, t_turnOf, h3, t_quarters, z2, Int.toNat_natCast]
        refine fin _ _ _ (hR3.hoe (i := n) (j := 1) (by omega) (by omega)) ?_
        exact zfr_t hf (zfr_t hf2 (zfr_t (zfr_u (by omega)) (zfr_u (by omega))))
      by_cases hpos : 0 < w1 (10 + c.toNat)
      · have c3 : (0 < w1 (10 + c.toNat)) = True := eq_true hpos
        rw [e38_2]
        simp (disch := first | assumption | exact p_c2i | exact p_c2r | exact p_c2n | omega | ((repeat (first | refine p_a1i.trans ?_ | refine p_a1r.trans ?_)); exact p_a10) | ((repeat (first | refine p_wI ?_ | refine p_wR ?_)); exact p_w0) | decide) only [reduceIte, Int.reduceLT, Int.reduceLE, Int.reduceEq, Int.reduceToNat, Int.reduceAdd, Int.reduceSub, Int.reduceMul, Int.reduceNeg, e38_3, e38_6, e38_7, e38_8, e38_11, e38_14, e38_15, e38_18, e38_19, e38_20, e38_21, e38_24, e38_25, e38_26, e38_27, e38_28, e38_29, e38_30, e38_33, e38_34, e38_35, e38_36, e38_39, e38_42, e38_43, e38_44, e38_47, e38_48, e38_49, p_il1, p_iflt, p_al0, p_getI, p_cge, p_getR, p_iald, p_push, p_bin, p_cs2_0, p_cs2_1, p_cs2_2, p_cs2_3, p_cs2_4, zK_v, zK_0, WN_ncl, p_is2, p_c2n, p_c2i, p_c2r, p_il2, p_cv1_0, p_cv1_1, p_cv1_2, p_cv1_3, p_cv1_4, p_ifle, p_goto, WN_nx, WN_nrt, WN_ite, e1, c1, c2, h0, g1, g2, z1, tb, t_colourOf, gc, c3, zrL4 hk, zrL5 hk, Int.toNat_natCast]
        exact rest _ _ (by omega) (by rw [if_pos hpos])
      · have c3 : (0 < w1 (10 + c.toNat)) = False := eq_false hpos
        rw [e38_2]
        simp (disch := first | assumption | exact p_c2i | exact p_c2r | exact p_c2n | omega | ((repeat (first | refine p_a1i.trans ?_ | refine p_a1r.trans ?_)); exact p_a10) | ((repeat (first | refine p_wI ?_ | refine p_wR ?_)); exact p_w0) | decide) only [reduceIte, Int.reduceLT, Int.reduceLE, Int.reduceEq, Int.reduceToNat, Int.reduceAdd, Int.reduceSub, Int.reduceMul, Int.reduceNeg, e38_3, e38_6, e38_7, e38_8, e38_11, e38_14, e38_15, e38_18, e38_19, e38_20, e38_21, e38_24, e38_25, e38_26, e38_27, e38_28, e38_29, e38_30, e38_33, e38_34, e38_35, e38_36, e38_39, e38_42, e38_43, e38_44, e38_47, e38_48, e38_49, e38_52, e38_53, e38_56, e38_57, p_il1, p_iflt, p_al0, p_getI, p_cge, p_getR, p_iald, p_push, p_bin, p_cs2_0, p_cs2_1, p_cs2_2, p_cs2_3, p_cs2_4, zK_v, zK_0, WN_ncl, p_is2, p_c2n, p_c2i, p_c2r, p_il2, p_cv1_0, p_cv1_1, p_cv1_2, p_cv1_3, p_cv1_4, p_ifle, p_goto, WN_nx, WN_nrt, WN_ite, e1, c1, c2, h0, h1, g1, g2, z1, tb, t_colourOf, gc, c3, zrL4 hk, zrL5 hk, Int.toNat_natCast]
        exact rest _ _ (by omega) (by rw [if_neg hpos])
    · have c2 : ((n : Int) < w1 0) = False := eq_false hc
      rw [e38_2]
      simp (disch := first | assumption | exact p_c2i | exact p_c2r | exact p_c2n | omega | ((repeat (first | refine p_a1i.trans ?_ | refine p_a1r.trans ?_)); exact p_a10) | ((repeat (first | refine p_wI ?_ | refine p_wR ?_)); exact p_w0) | decide) only [reduceIte, Int.reduceLT, Int.reduceLE, Int.reduceEq, Int.reduceToNat, Int.reduceAdd, Int.reduceSub, Int.reduceMul, Int.reduceNeg, e38_3, e38_6, e38_7, e38_8, e38_11, e38_96, e38_99, p_il1, p_iflt, p_al0, p_getI, p_cge, p_ii1, p_goto, WN_nx, WN_nrt, WN_ite, e1, c1, c2, h0, e2]
      refine ih σ1 w1 l2 l3 (by omega) e0 ok hR hf ?_
      rw [← he]
      congr 1
      omega
theorem t_makeInverse (hk : zkd L = 2) (hR : zLr σ L w) (ok : zok N w) (K : ∀ σ', zLr σ' L (aInvN (w 0).toNat w) → zfr σ σ' L → Q (.inl none) (3565, x, zrho) σ') : WM 38 [.inr (.inl (some L))] (3565, x, zrho) σ Q := by
  show Wp 38 0 [some (.inr (.inl (some L))), none, none, none] [] _ σ Q
  have o0 := ok.1
  simp (disch := first | assumption | exact p_c2i | exact p_c2r | exact p_c2n | omega | ((repeat (first | refine p_a1i.trans ?_ | refine p_a1r.trans ?_)); exact p_a10) | ((repeat (first | refine p_wI ?_ | refine p_wR ?_)); exact p_w0) | decide) only [reduceIte, Int.reduceLT, Int.reduceLE, Int.reduceEq, Int.reduceToNat, Int.reduceAdd, Int.reduceSub, Int.reduceMul, Int.reduceNeg, e38_0, e38_1, p_push, p_is1, p_c2n, p_c2i, p_c2r, WN_nx, WN_nrt, WN_ite]
  exact l_makeInverse hk K 4 σ w none none (Nat.le_refl _) rfl ok hR zfr_r (by rw [show min 4 (w 0).toNat = (w 0).toNat by omega])
theorem l_look1 {M : Nat} {v : zW} {N' : Int} (hk : zkd L = 2) (hm : zkd M = 2) (hR : zLr σ L w) (hV : zLr σ M v) (ok : zok N w) (ov : zok N' v) : ∀ n i : Nat, i + n = 81 → Wp 39 19 [some (.inr (.inl (some L))), some (.inr (.inl (some M))), some (.inl ((i : Int)))] [] (3565, x, zrho) σ Q = if zfa (fun c => decide (w (10 + c) = v (10 + c))) i n = true then Wp 39 48 [some (.inr (.inl (some L))), some (.inr (.inl (some M))), some (.inl 81)] [] (3565, x, zrho) σ Q else Q (.inl (some (.inl 0))) (3565, x, zrho) σ := by
  have k1 := zkL1 hk
  have n1 := znL1 hk
  have k2 := zkL1 hm
  have n2 := znL1 hm
  intro n
  induction n with
  | zero =>
    intro i hi
    have e : i = 81 := by omega
    subst e
    rw [e39_19]
    simp (disch := first | assumption | exact p_c2i | exact p_c2r | exact p_c2n | omega | ((repeat (first | refine p_a1i.trans ?_ | refine p_a1r.trans ?_)); exact p_a10) | ((repeat (first | refine p_wI ?_ | refine p_wR ?_)); exact p_w0) | decide) only [reduceIte, Int.reduceLT, Int.reduceLE, Int.reduceEq, Int.reduceToNat, Int.reduceAdd, Int.reduceSub, Int.reduceMul, Int.reduceNeg, e39_20, e39_22, p_il2, p_push, p_cge, WN_nx, WN_nrt, WN_ite, show ((81 : Nat) : Int) = 81 from rfl]
    rw [if_pos (show zfa _ 81 0 = true from rfl)]
  | succ n ih =>
    intro i hi
    have hi8 : ((i : Int) < 81) = True := eq_true (by omega)
    have e1 : (i : Int) + 1 = ((i + 1 : Nat) : Int) := by omega
    have ih2 := ih (i + 1) (by omega)
    have c1 := hR.2.2.1 i (by omega)
    have c2 := hV.2.2.1 i (by omega)
    have o1 := ok.2.2.2.2.2.2.2.1 i (by omega)
    have o2 := ov.2.2.2.2.2.2.2.1 i (by omega)
    have o3 := ok.2.1
    have o4 := ov.2.1
    by_cases hcc : w (10 + i) = v (10 + i)
    · rw [e39_19]
      simp (disch := first | assumption | exact p_c2i | exact p_c2r | exact p_c2n | omega | ((repeat (first | refine p_a1i.trans ?_ | refine p_a1r.trans ?_)); exact p_a10) | ((repeat (first | refine p_wI ?_ | refine p_wR ?_)); exact p_w0) | decide) only [reduceIte, Int.reduceLT, Int.reduceLE, Int.reduceEq, Int.reduceToNat, Int.reduceAdd, Int.reduceSub, Int.reduceMul, Int.reduceNeg, e39_20, e39_22, e39_25, e39_26, e39_29, e39_30, e39_31, e39_32, e39_35, e39_36, e39_37, e39_40, e39_41, e39_42, e39_45, p_il2, p_push, p_cge, p_al0, p_getR, p_iald, p_al1, p_ceq, p_ret1, p_ii2, p_goto, WN_nx, WN_nrt, WN_ite, zrL0 hk, zrL0 hm, hi8, c1, c2, hcc, Int.toNat_natCast, e1]
      rw [ih2, zfa_s, if_pos (decide_eq_true hcc)]
    · rw [e39_19]
      simp (disch := first | assumption | exact p_c2i | exact p_c2r | exact p_c2n | omega | ((repeat (first | refine p_a1i.trans ?_ | refine p_a1r.trans ?_)); exact p_a10) | ((repeat (first | refine p_wI ?_ | refine p_wR ?_)); exact p_w0) | decide) only [reduceIte, Int.reduceLT, Int.reduceLE, Int.reduceEq, Int.reduceToNat, Int.reduceAdd, Int.reduceSub, Int.reduceMul, Int.reduceNeg, e39_20, e39_22, e39_25, e39_26, e39_29, e39_30, e39_31, e39_32, e39_35, e39_36, e39_37, e39_40, e39_41, e39_42, e39_45, p_il2, p_push, p_cge, p_al0, p_getR, p_iald, p_al1, p_ceq, p_ret1, p_ii2, p_goto, WN_nx, WN_nrt, WN_ite, zrL0 hk, zrL0 hm, hi8, c1, c2, hcc, Int.toNat_natCast, e1]
      rw [zfa_s, if_neg (show ¬ decide (w (10 + i) = v (10 + i)) = true by rw [decide_eq_true_iff]; exact hcc), if_neg (by decide)]
theorem l_look2 {M : Nat} {v : zW} {N' : Int} (hk : zkd L = 2) (hm : zkd M = 2) (hR : zLr σ L w) (hV : zLr σ M v) (ok : zok N w) (ov : zok N' v) (o0 : 0 ≤ w 0 ∧ w 0 ≤ 4) (he : w 0 = v 0) : ∀ n i : Nat, ((i + n : Nat) : Int) = w 0 → Wp 39 50 [some (.inr (.inl (some L))), some (.inr (.inl (some M))), some (.inl ((i : Int)))] [] (3565, x, zrho) σ Q = Q (.inl (some (.inl (if zfa (fun h => decide (w (172 + 4 * h) = v (172 + 4 * h) ∧ w (173 + 4 * h) = v (173 + 4 * h))) i n = true then 1 else 0)))) (3565, x, zrho) σ := by
  have h0 := hR.h0
  have h0v := hV.h0
  rw [← he] at h0v
  intro n
  induction n with
  | zero =>
    intro i hi
    have hc : ((i : Int) < w 0) = False := eq_false (by omega)
    simp (disch := first | assumption | exact p_c2i | exact p_c2r | exact p_c2n | omega | ((repeat (first | refine p_a1i.trans ?_ | refine p_a1r.trans ?_)); exact p_a10) | ((repeat (first | refine p_wI ?_ | refine p_wR ?_)); exact p_w0) | decide) only [reduceIte, Int.reduceLT, Int.reduceLE, Int.reduceEq, Int.reduceToNat, Int.reduceAdd, Int.reduceSub, Int.reduceMul, Int.reduceNeg, e39_50, e39_51, e39_52, e39_55, e39_58, e39_59, e39_60, e39_63, e39_64, e39_65, e39_68, e39_71, e39_72, e39_73, e39_76, e39_77, e39_78, e39_81, e39_84, e39_85, e39_86, e39_89, e39_92, e39_93, p_il2, p_al0, p_getI, p_cge, p_cv1_0, p_cv1_1, p_cv1_2, p_cv1_3, p_cv1_4, zK_v, zK_0, WN_ncl, p_al1, p_cne, p_ceq, p_push, p_ret1, p_ii2, p_goto, WN_nx, WN_nrt, WN_ite, h0, hc]
    rw [if_pos (show zfa _ i 0 = true from rfl)]
  | succ n ih =>
    intro i hi
    have hi0 : (i : Int) < w 0 := by omega
    have hc : ((i : Int) < w 0) = True := eq_true hi0
    have e1 : (i : Int) + 1 = ((i + 1 : Nat) : Int) := by omega
    have ih2 := ih (i + 1) (by omega)
    have a1 := (hR.2.2.2.2.1 i hi0).1
    have a2 := (hR.2.2.2.2.1 i hi0).2.1
    have b1 := (hV.2.2.2.2.1 i (by omega)).1
    have b2 := (hV.2.2.2.2.1 i (by omega)).2.1
    have o1 := ok.2.2.2.2.2.2.2.2.2.1 i hi0
    have o2 := ov.2.2.2.2.2.2.2.2.2.1 i (by omega)
    have t1 := fun (Q : ZO → ZT → ZI → Prop) => t_cellOfHoe (Q := Q) (x := x) (σ := σ) (h := (i : Int)) hk (by omega) (by omega) (by omega)
    have t2 := fun (Q : ZO → ZT → ZI → Prop) => t_cellOfHoe (Q := Q) (x := x) (σ := σ) (h := (i : Int)) hm (by omega) (by omega) (by omega)
    have t3 := fun (Q : ZO → ZT → ZI → Prop) => t_headingOfHoe (Q := Q) (x := x) (σ := σ) (h := (i : Int)) hk (by omega) (by omega) (by omega)
    have t4 := fun (Q : ZO → ZT → ZI → Prop) => t_headingOfHoe (Q := Q) (x := x) (σ := σ) (h := (i : Int)) hm (by omega) (by omega) (by omega)
    by_cases hc1 : w (172 + 4 * i) = v (172 + 4 * i)
    · by_cases hc2 : w (173 + 4 * i) = v (173 + 4 * i)
      · rw [e39_50]
        simp (disch := first | assumption | exact p_c2i | exact p_c2r | exact p_c2n | omega | ((repeat (first | refine p_a1i.trans ?_ | refine p_a1r.trans ?_)); exact p_a10) | ((repeat (first | refine p_wI ?_ | refine p_wR ?_)); exact p_w0) | decide) only [reduceIte, Int.reduceLT, Int.reduceLE, Int.reduceEq, Int.reduceToNat, Int.reduceAdd, Int.reduceSub, Int.reduceMul, Int.reduceNeg, e39_51, e39_52, e39_55, e39_58, e39_59, e39_60, e39_63, e39_64, e39_65, e39_68, e39_71, e39_72, e39_73, e39_76, e39_77, e39_78, e39_81, e39_84, e39_85, e39_86, e39_89, p_il2, p_al0, p_getI, p_cge, p_cv1_0, p_cv1_1, p_cv1_2, p_cv1_3, p_cv1_4, zK_v, zK_0, WN_ncl, p_al1, p_cne, p_ceq, p_push, p_ret1, p_ii2, p_goto, WN_nx, WN_nrt, WN_ite, h0, hc, t1, t2, t3, t4, a1, a2, b1, b2, hc1, hc2, Int.toNat_natCast, e1]
        rw [ih2, zfa_s, if_pos (decide_eq_true ⟨hc1, hc2⟩)]
      · rw [e39_50]
        simp (disch := first | assumption | exact p_c2i | exact p_c2r | exact p_c2n | omega | ((repeat (first | refine p_a1i.trans ?_ | refine p_a1r.trans ?_)); exact p_a10) | ((repeat (first | refine p_wI ?_ | refine p_wR ?_)); exact p_w0) | decide) only [reduceIte, Int.reduceLT, Int.reduceLE, Int.reduceEq, Int.reduceToNat, Int.reduceAdd, Int.reduceSub, Int.reduceMul, Int.reduceNeg, e39_51, e39_52, e39_55, e39_58, e39_59, e39_60, e39_63, e39_64, e39_65, e39_68, e39_71, e39_72, e39_73, e39_76, e39_77, e39_78, e39_81, e39_84, e39_85, e39_86, e39_89, p_il2, p_al0, p_getI, p_cge, p_cv1_0, p_cv1_1, p_cv1_2, p_cv1_3, p_cv1_4, zK_v, zK_0, WN_ncl, p_al1, p_cne, p_ceq, p_push, p_ret1, p_ii2, p_goto, WN_nx, WN_nrt, WN_ite, h0, hc, t1, t2, t3, t4, a1, a2, b1, b2, hc1, hc2, Int.toNat_natCast, e1]
        rw [zfa_s, if_neg (show ¬ decide (w (172 + 4 * i) = v (172 + 4 * i) ∧ w (173 + 4 * i) = v (173 + 4 * i)) = true by rw [decide_eq_true_iff]; exact fun z => hc2 z.2), if_neg (by decide)]
    · rw [e39_50]
      simp (disch := first | assumption | exact p_c2i | exact p_c2r | exact p_c2n | omega | ((repeat (first | refine p_a1i.trans ?_ | refine p_a1r.trans ?_)); exact p_a10) | ((repeat (first | refine p_wI ?_ | refine p_wR ?_)); exact p_w0) | decide) only [reduceIte, Int.reduceLT, Int.reduceLE, Int.reduceEq, Int.reduceToNat, Int.reduceAdd, Int.reduceSub, Int.reduceMul, Int.reduceNeg, e39_51, e39_52, e39_55, e39_58, e39_59, e39_60, e39_63, e39_64, e39_65, e39_68, e39_71, e39_72, e39_73, e39_76, e39_77, e39_78, e39_81, e39_84, e39_85, e39_86, e39_89, p_il2, p_al0, p_getI, p_cge, p_cv1_0, p_cv1_1, p_cv1_2, p_cv1_3, p_cv1_4, zK_v, zK_0, WN_ncl, p_al1, p_cne, p_ceq, p_push, p_ret1, p_ii2, p_goto, WN_nx, WN_nrt, WN_ite, h0, hc, t1, t2, t3, t4, a1, a2, b1, b2, hc1, Int.toNat_natCast, e1]
      rw [zfa_s, if_neg (show ¬ decide (w (172 + 4 * i) = v (172 + 4 * i) ∧ w (173 + 4 * i) = v (173 + 4 * i)) = true by rw [decide_eq_true_iff]; exact fun z => hc1 z.1), if_neg (by decide)]
theorem t_looksLike {M : Nat} {v : zW} {N' : Int} (hk : zkd L = 2) (hm : zkd M = 2) (hR : zLr σ L w) (hV : zLr σ M v) (ok : zok N w) (ov : zok N' v) : WM 39 [.inr (.inl (some L)), .inr (.inl (some M))] (3565, x, zrho) σ Q = Q (.inl (some (.inl (aLook w v)))) (3565, x, zrho) σ := by
  show Wp 39 0 [some (.inr (.inl (some L))), some (.inr (.inl (some M))), none] [] _ σ Q = _
  have h0 := hR.h0
  have h0v := hV.h0
  have o0 := ok.1
  have o0v := ov.1
  unfold aLook
  by_cases he : w 0 = v 0
  · simp (disch := first | assumption | exact p_c2i | exact p_c2r | exact p_c2n | omega | ((repeat (first | refine p_a1i.trans ?_ | refine p_a1r.trans ?_)); exact p_a10) | ((repeat (first | refine p_wI ?_ | refine p_wR ?_)); exact p_w0) | decide) only [reduceIte, Int.reduceLT, Int.reduceLE, Int.reduceEq, Int.reduceToNat, Int.reduceAdd, Int.reduceSub, Int.reduceMul, Int.reduceNeg, e39_0, e39_1, e39_4, e39_5, e39_8, e39_9, e39_12, e39_15, e39_16, e39_17, e39_18, p_al1, p_null0, p_null1, p_al0, p_getI, p_ceq, p_push, p_ret1, p_is2, p_c2n, p_c2i, p_c2r, WN_nx, WN_nrt, WN_ite, h0, h0v, he]
    refine (l_look1 hk hm hR hV ok ov 81 0 rfl).trans ?_
    by_cases hz : zfa (fun c => decide (w (10 + c) = v (10 + c))) 0 81 = true
    · rw [if_pos hz, if_pos hz]
      simp (disch := first | assumption | exact p_c2i | exact p_c2r | exact p_c2n | omega | ((repeat (first | refine p_a1i.trans ?_ | refine p_a1r.trans ?_)); exact p_a10) | ((repeat (first | refine p_wI ?_ | refine p_wR ?_)); exact p_w0) | decide) only [reduceIte, Int.reduceLT, Int.reduceLE, Int.reduceEq, Int.reduceToNat, Int.reduceAdd, Int.reduceSub, Int.reduceMul, Int.reduceNeg, e39_48, e39_49, p_push, p_is2, p_c2n, p_c2i, p_c2r, WN_nx, WN_nrt, WN_ite]
      rw [← he]
      exact l_look2 hk hm hR hV ok ov o0 he (w 0).toNat 0 (by omega)
    · rw [if_neg hz, if_neg hz]
  · simp (disch := first | assumption | exact p_c2i | exact p_c2r | exact p_c2n | omega | ((repeat (first | refine p_a1i.trans ?_ | refine p_a1r.trans ?_)); exact p_a10) | ((repeat (first | refine p_wI ?_ | refine p_wR ?_)); exact p_w0) | decide) only [reduceIte, Int.reduceLT, Int.reduceLE, Int.reduceEq, Int.reduceToNat, Int.reduceAdd, Int.reduceSub, Int.reduceMul, Int.reduceNeg, e39_0, e39_1, e39_4, e39_5, e39_8, e39_9, e39_12, e39_15, e39_16, e39_17, e39_18, p_al1, p_null0, p_null1, p_al0, p_getI, p_ceq, p_push, p_ret1, p_is2, p_c2n, p_c2i, p_c2r, WN_nx, WN_nrt, WN_ite, h0, h0v, he]
theorem t_removeHoe {h : Nat} (hk : zkd L = 2) (hR : zLr σ L w) (o0 : 0 ≤ w 0 ∧ w 0 ≤ 4) (hh : (h : Int) < w 0) (K : ∀ σ', zLr σ' L (aDrop h w) → zfr σ σ' L → Q (.inl (some (.inl (w 0 - 1)))) (3565, x, zrho) σ') : WM 27 [.inr (.inl (some L)), .inl ((h : Int))] (3565, x, zrho) σ Q := by
  show Wp 27 0 [some (.inr (.inl (some L))), some (.inl ((h : Int))), none] [] _ σ Q
  have h0 := hR.h0
  have k5 := zkL5 hk
  have n5 := znL5 hk
  have k6 := zkL6 hk
  have n6 := znL6 hk
  have k7 := zkL7 hk
  have n7 := znL7 hk
  have k8 := zkL8 hk
  have n8 := znL8 hk
  have h04 : w 0 ≤ 4 := o0.2
  have hT : (if 0 ≤ (h : Int) ∧ (h : Int) < w 0 then (1 : Int) else 0) = 1 := if_pos ⟨by omega, hh⟩
  -- the loop
  have key : ∀ (n i : Nat) (σ1 : ZI), h ≤ i → i + n = 3 → (∀ j, σ1 L j = σ L j) → (∀ a, a < L + 5 ∨ L + 9 ≤ a → σ1 a = σ a) → (∀ o k, 5 ≤ o → o < 9 → σ1 (L + o) k = if h ≤ k ∧ k < i then σ (L + o) (k + 1) else σ (L + o) k) → Wp 27 17 [some (.inr (.inl (some L))), some (.inl ((h : Int))), some (.inl ((i : Int) + 1))] [] (3565, x, zrho) σ1 Q := by
    intro n
    induction n with
    | zero =>
      intro i σ1 h1 h2 hL ha hb
      have ei : i = 3 := by omega
      subst ei
      have h0' : σ1 L 10 = w 0 := (hL 10).trans h0
      simp (disch := first | assumption | exact p_c2i | exact p_c2r | exact p_c2n | omega | ((repeat (first | refine p_a1i.trans ?_ | refine p_a1r.trans ?_)); exact p_a10) | ((repeat (first | refine p_wI ?_ | refine p_wR ?_)); exact p_w0) | decide) only [reduceIte, Int.reduceLT, Int.reduceLE, Int.reduceEq, Int.reduceToNat, Int.reduceAdd, Int.reduceSub, Int.reduceMul, Int.reduceNeg, e27_17, e27_18, e27_19, e27_22, e27_23, e27_26, e27_27, e27_28, e27_29, e27_30, e27_33, e27_34, e27_35, e27_36, e27_37, e27_40, e27_41, e27_42, e27_43, e27_44, e27_47, e27_48, e27_49, e27_50, e27_51, e27_54, e27_55, e27_56, e27_57, e27_58, e27_61, e27_62, e27_63, e27_64, e27_65, e27_68, e27_69, e27_70, e27_71, e27_72, e27_75, e27_76, e27_77, e27_78, e27_81, e27_84, e27_85, e27_86, e27_89, e27_90, e27_91, e27_94, e27_95, e27_98, p_il2, p_push, p_cge, p_al0, p_getR, p_bin, p_iald, p_iast, p_ii2, p_goto, p_dupi, p_dupr, p_getI, p_putI, p_ret0, WN_nx, WN_nrt, WN_ite, h0', show ((3 : Nat) : Int) = 3 from rfl, zup_s]
      refine K _ ?_ ?_
      · obtain ⟨⟨a0, a1, a2, a3, a4⟩, b1, b2, b3, b4, b5⟩ := hR
        have m0 : aDrop h w 0 = w 0 - 1 := by unfold aDrop; rw [if_pos rfl]
        refine ⟨⟨by rw [zup_s, m0], by rw [zup_j (by omega), hL, aDrop_o (by omega) hh (by omega)]; exact a1, by rw [zup_j (by omega), hL, aDrop_o (by omega) hh (by omega)]; exact a2, by rw [zup_j (by omega), hL, aDrop_o (by omega) hh (by omega)]; exact a3, by rw [zup_j (by omega), hL, aDrop_o (by omega) hh (by omega)]; exact a4⟩, fun t ht => by rw [zup_o (by omega), ha _ (by omega), aDrop_o (by omega) hh (by omega)]; exact b1 t ht, fun t ht => by rw [zup_o (by omega), ha _ (by omega), aDrop_o (by omega) hh (by omega)]; exact b2 t ht, fun t ht => by rw [zup_o (by omega), ha _ (by omega), aDrop_o (by omega) hh (by omega)]; exact b3 t ht, fun i hi => ?_, fun k hk => ?_⟩
        · rw [m0] at hi
          have q1 : i < 3 := by omega
          rw [zup_o (by omega), zup_o (by omega), zup_o (by omega), zup_o (by omega), hb 5 i (by omega) (by omega), hb 6 i (by omega) (by omega), hb 7 i (by omega) (by omega), hb 8 i (by omega) (by omega)]
          have kk : ∀ j, j < 4 → aDrop h w (172 + 4 * i + j) = if h ≤ i then w (172 + 4 * (i + 1) + j) else w (172 + 4 * i + j) := by
            intro j hj
            unfold aDrop
            rw [if_neg (by omega)]
            by_cases e : h ≤ i
            · rw [if_pos (by omega), if_pos e, show 172 + 4 * (i + 1) + j = 172 + 4 * i + j + 4 by omega]
            · rw [if_neg (by omega), if_neg (by omega), if_neg e]
          have k0 := kk 0 (by omega)
          have k1 := kk 1 (by omega)
          have k2 := kk 2 (by omega)
          have k3 := kk 3 (by omega)
          rw [show 172 + 4 * i + 0 = 172 + 4 * i by omega] at k0
          rw [show 172 + 4 * i + 1 = 173 + 4 * i by omega] at k1
          rw [show 172 + 4 * i + 2 = 174 + 4 * i by omega] at k2
          rw [show 172 + 4 * i + 3 = 175 + 4 * i by omega] at k3
          rw [k0, k1, k2, k3]
          by_cases e : h ≤ i
          · have g := b4 (i + 1) (by omega)
            have eq : h ≤ i ∧ i < 3 := ⟨e, q1⟩
            simp only [if_pos eq, if_pos e]
            rw [show 172 + 4 * (i + 1) + 1 = 173 + 4 * (i + 1) by omega, show 172 + 4 * (i + 1) + 2 = 174 + 4 * (i + 1) by omega, show 172 + 4 * (i + 1) + 3 = 175 + 4 * (i + 1) by omega]
            exact g
          · have g := b4 i (by omega)
            have eq : ¬ (h ≤ i ∧ i < 3) := fun z => e z.1
            simp only [if_neg eq, if_neg e]
            exact g
        · rw [aDrop_o (by omega) hh (by omega)] at hk
          rw [zup_o (by omega), ha _ (by omega), aDrop_o (by omega) hh (by omega)]
          exact b5 k hk
      · intro a h'
        rw [zup_f (by omega), ha _ (by omega)]
    | succ n ih =>
      intro i σ1 h1 h2 hL ha hb
      have c1 : ((i : Int) + 1 < 4) = True := eq_true (by omega)
      have e1 : (i : Int) + 1 - 1 = (i : Int) := by omega
      have e2 : ((i : Int) + 1).toNat = i + 1 := by omega
      have e3 : (i : Int) + 1 + 1 = ((i + 1 : Nat) : Int) + 1 := by omega
      rw [e27_17]
      simp (disch := first | assumption | exact p_c2i | exact p_c2r | exact p_c2n | omega | ((repeat (first | refine p_a1i.trans ?_ | refine p_a1r.trans ?_)); exact p_a10) | ((repeat (first | refine p_wI ?_ | refine p_wR ?_)); exact p_w0) | decide) only [reduceIte, Int.reduceLT, Int.reduceLE, Int.reduceEq, Int.reduceToNat, Int.reduceAdd, Int.reduceSub, Int.reduceMul, Int.reduceNeg, e27_18, e27_19, e27_22, e27_23, e27_26, e27_27, e27_28, e27_29, e27_30, e27_33, e27_34, e27_35, e27_36, e27_37, e27_40, e27_41, e27_42, e27_43, e27_44, e27_47, e27_48, e27_49, e27_50, e27_51, e27_54, e27_55, e27_56, e27_57, e27_58, e27_61, e27_62, e27_63, e27_64, e27_65, e27_68, e27_69, e27_70, e27_71, e27_72, e27_75, e27_76, e27_77, e27_78, e27_81, p_il2, p_push, p_cge, p_al0, p_getR, p_bin, p_iald, p_iast, p_ii2, p_goto, WN_nx, WN_nrt, WN_ite, c1, e1, e2, zrL4 hk, zrL5 hk, zrL6 hk, zrL7 hk, Int.toNat_natCast, e3]
      refine ih (i + 1) _ (by omega) (by omega) (fun j => ?_) (fun a h' => ?_) (fun o k o5 o10 => ?_)
      · simp (disch := omega) only [zup_o]
        exact hL j
      · funext j
        simp (disch := omega) only [zup_o]
        rw [ha a h']
      · have hb1 := hb o k o5 o10
        have hb2 := hb o (i + 1) o5 o10
        rw [if_neg (by omega)] at hb2
        by_cases ek : k = i
        · subst ek
          rw [if_pos (by omega), ← hb2]
          have : o = 5 ∨ o = 6 ∨ o = 7 ∨ o = 8 := by omega
          rcases this with rfl | rfl | rfl | rfl <;> simp (disch := omega) only [zup_o, zup_s]
        · have hz : (if h ≤ k ∧ k < i + 1 then σ (L + o) (k + 1) else σ (L + o) k) = σ1 (L + o) k := by
            rw [hb1]
            by_cases hki : h ≤ k ∧ k < i
            · rw [if_pos hki, if_pos ⟨hki.1, by omega⟩]
            · rw [if_neg hki, if_neg (by omega)]
          rw [hz]
          have : ∀ (σ2 : ZI) (a : Nat) (u : Int), zup σ2 a i u (L + o) k = σ2 (L + o) k := fun σ2 a u => by unfold zup; rw [if_neg (fun z => ek z.2)]
          rw [this, this, this, this]
  simp (disch := first | assumption | exact p_c2i | exact p_c2r | exact p_c2n | omega | ((repeat (first | refine p_a1i.trans ?_ | refine p_a1r.trans ?_)); exact p_a10) | ((repeat (first | refine p_wI ?_ | refine p_wR ?_)); exact p_w0) | decide) only [reduceIte, Int.reduceLT, Int.reduceLE, Int.reduceEq, Int.reduceToNat, Int.reduceAdd, Int.reduceSub, Int.reduceMul, Int.reduceNeg, e27_0, e27_1, e27_2, e27_5, e27_8, e27_9, e27_12, e27_13, e27_14, e27_15, e27_16, p_al0, p_il1, p_cv1_0, p_cv1_1, p_cv1_2, p_cv1_3, p_cv1_4, zK_v, zK_0, WN_ncl, p_ifne, p_getI, p_ret0, p_push, p_bin, p_is2, p_c2n, p_c2i, p_c2r, WN_nx, WN_nrt, WN_ite, t_isHoe, h0, hT]
  exact key (3 - h) h σ (Nat.le_refl _) (by omega) (fun _ => rfl) (fun _ _ => rfl) (fun o k _ _ => by rw [if_neg (by omega)])
end
