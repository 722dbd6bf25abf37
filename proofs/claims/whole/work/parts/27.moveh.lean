/-! A HOE MOVES; a step -/
section
variable {w : zW} {N : Int} {i : Nat}
theorem zok_pre (ok : zok N w) (hi : (i : Int) < w 0) : zok (N + 1) (aPre i w) := by
  have o5 := (ok.2.2.2.2.2.2.2.2.2.1 i hi).1
  exact zok_trail (zok_paint (zok_face ok hi) (by omega)) o5
theorem zok_hoe {j : Nat} {v : Int} (ok : zok N w) (hi4 : i < 4) (hj : j < 4) (hv : (j = 0 → 0 ≤ v ∧ v < 81) ∧ (j = 1 → 0 ≤ v ∧ v < 4) ∧ (2 ≤ j → 0 ≤ v ∧ v ≤ N)) : zok N (wu w (172 + 4 * i + j) v) := by
  have o0 := ok.1
  obtain ⟨a0, a1, a2, a3, a4, a5, a6, a7, a8, a9, a10⟩ := ok
  refine ⟨by rw [wu_o (by omega)]; exact a0, by rw [wu_o (by omega)]; exact a1, by rw [wu_o (by omega)]; exact a2, by rw [wu_o (by omega)]; exact a3, by rw [wu_o (by omega)]; exact a4, by rw [wu_o (by omega)]; exact a5, fun t h => by rw [wu_o (by omega)]; exact a6 t h, fun t h => by rw [wu_o (by omega), wu_o (by omega)]; exact a7 t h, fun t h => by rw [wu_o (by omega)]; exact a8 t h, fun k h => ?_, fun k h => by rw [wu_o (by omega)] at h; rw [wu_o (by omega)]; exact a10 k h⟩
  rw [wu_o (by omega)] at h
  obtain ⟨b1, b2, b3, b4⟩ := a9 k h
  have key : ∀ j' : Nat, j' < 4 → wu w (172 + 4 * i + j) v (172 + 4 * k + j') = if k = i ∧ j' = j then v else w (172 + 4 * k + j') := by
    intro j' hj'
    by_cases e : k = i ∧ j' = j
    · rw [if_pos e, e.1, e.2, wu_s]
    · rw [if_neg e, wu_o (by omega)]
  rw [show 173 + 4 * k = 172 + 4 * k + 1 by omega] at b2 ⊢
  rw [show 174 + 4 * k = 172 + 4 * k + 2 by omega] at b3 ⊢
  rw [show 175 + 4 * k = 172 + 4 * k + 3 by omega] at b4 ⊢
  have k0 := key 0 (by omega)
  rw [Nat.add_zero] at k0
  rw [k0, key 1 (by omega), key 2 (by omega), key 3 (by omega)]
  refine ⟨?_, ?_, ?_, ?_⟩
  · split
    next e => exact hv.1 e.2.symm
    next => exact b1
  · split
    next e => exact hv.2.1 e.2.symm
    next => exact b2
  · split
    next e => exact hv.2.2 (by omega)
    next => exact b3
  · split
    next e => exact hv.2.2 (by omega)
    next => exact b4
theorem zok_5 {v : Int} (ok : zok N w) (hv : 0 ≤ v ∧ v ≤ N) : zok N (wu w 5 v) := by
  obtain ⟨a0, a1, a2, a3, a4, a5, a6, a7, a8, a9, a10⟩ := ok
  refine ⟨by rw [wu_o (by omega)]; exact a0, by rw [wu_o (by omega)]; exact a1, by rw [wu_o (by omega)]; exact a2, by rw [wu_o (by omega)]; exact a3, by rw [wu_o (by omega)]; exact a4, by rw [wu_s]; exact hv, fun t h => by rw [wu_o (by omega)]; exact a6 t h, fun t h => by rw [wu_o (by omega), wu_o (by omega)]; exact a7 t h, fun t h => by rw [wu_o (by omega)]; exact a8 t h, fun k h => ?_, fun k h => by rw [wu_o (by omega)] at h; rw [wu_o (by omega)]; exact a10 k h⟩
  rw [wu_o (by omega)] at h
  rw [wu_o (by omega), wu_o (by omega), wu_o (by omega), wu_o (by omega)]
  exact a9 k h
theorem zok_go {t : Int} (ok : zok N w) (hi : (i : Int) < w 0) (ht : 0 ≤ t ∧ t < 81) : zok (N + 1) (aGo i t w) := by
  have o := ok.2.2.2.2.2.2.2.2.2.1 i hi
  rw [show 174 + 4 * i = 172 + 4 * i + 2 by omega] at o
  have hi4 : i < 4 := by have := ok.1; omega
  unfold aGo
  exact zok_hoe (zok_hoe (zok_mono ok (by omega)) hi4 (by omega) ⟨fun _ => ht, by omega, by omega⟩) hi4 (by omega) ⟨by omega, by omega, fun _ => by omega⟩
theorem zok_meet (ok : zok N w) (hi : (i : Int) < w 0) : zok (N + 1) (aMeet i w) := by
  have o := ok.2.2.2.2.2.2.2.2.2.1 i hi
  have o5 := ok.2.2.2.2.2.1
  rw [show 175 + 4 * i = 172 + 4 * i + 3 by omega] at o
  have hi4 : i < 4 := by have := ok.1; omega
  unfold aMeet
  exact zok_5 (zok_hoe (zok_mono ok (by omega)) hi4 (by omega) ⟨by omega, by omega, fun _ => by omega⟩) (by omega)
theorem zok_bk {p : Nat → Bool} (ok : zok N w) : zok N (aBk p w) := by
  have o0 := ok.1
  have hd : ∀ j, j < 172 ∨ 188 ≤ j → aBk p w j = w j := fun j h => by unfold aBk; rw [if_neg (by omega)]
  obtain ⟨a0, a1, a2, a3, a4, a5, a6, a7, a8, a9, a10⟩ := ok
  refine ⟨by rw [hd _ (by omega)]; exact a0, by rw [hd _ (by omega)]; exact a1, by rw [hd _ (by omega)]; exact a2, by rw [hd _ (by omega)]; exact a3, by rw [hd _ (by omega)]; exact a4, by rw [hd _ (by omega)]; exact a5, fun t h => by rw [hd _ (by omega)]; exact a6 t h, fun t h => by rw [hd _ (by omega), hd _ (by omega)]; exact a7 t h, fun t h => by rw [hd _ (by omega)]; exact a8 t h, fun k h => ?_, fun k h => by rw [hd _ (by omega)] at h; rw [hd _ (by omega)]; exact a10 k h⟩
  rw [hd _ (by omega)] at h
  obtain ⟨b1, b2, b3, b4⟩ := a9 k h
  refine ⟨by unfold aBk; rw [if_neg (by omega)]; exact b1, ?_, by unfold aBk; rw [if_neg (by omega)]; exact b3, by unfold aBk; rw [if_neg (by omega)]; exact b4⟩
  unfold aBk
  split <;> omega
theorem aPre_0 (hc : 0 ≤ w (172 + 4 * i) ∧ w (172 + 4 * i) < 81) : aPre i w 0 = w 0 ∧ aPre i w 1 = w 1 ∧ aPre i w 2 = w 2 ∧ aPre i w 3 = w 3 := ⟨aPre_k hc (by omega) (by omega), aPre_k hc (by omega) (by omega), aPre_k hc (by omega) (by omega), aPre_k hc (by omega) (by omega)⟩
theorem aNext_in (ok : zok N w) (hi : (i : Int) < w 0) : 0 ≤ aNext i w ∧ aNext i w < 81 := by
  have o := ok.2.2.2.2.2.2.2.2.2.1 i hi
  exact aTo_in o.1.1 o.1.2
theorem zok_move (ok : zok N w) (hi : (i : Int) < w 0) : zok (N + 3) (aMove i w) := by
  have o := ok.2.2.2.2.2.2.2.2.2.1 i hi
  have hp := zok_pre ok hi
  have h0 := aPre_0 o.1
  have hn := aNext_in ok hi
  have hi2 : (i : Int) < aPre i w 0 := by rw [h0.1]; exact hi
  have hm := zok_meet hp hi2
  have hm0 : (i : Int) < aMeet i (aPre i w) 0 := by unfold aMeet; rw [wu_o (by omega), wu_o (by omega)]; exact hi2
  unfold aMove
  split
  · split
    · exact zok_mono (zok_go hm hm0 hn) (by omega)
    · split
      · exact zok_mono (zok_bk hm) (by omega)
      · exact zok_mono hm (by omega)
  · exact zok_mono (zok_go hp hi2 hn) (by omega)
end
section
variable {L : Nat} {σ : ZI} {Q : ZO → ZT → ZI → Prop} {x : Nat} {w : zW} {N : Int}
theorem zLr.wu5 {v : Int} (h : zLr σ L w) : zLr σ L (wu w 5 v) := h.to (wu_o (by omega)) (wu_o (by omega)) (fun k hk => wu_o (by omega)) (fun k h1 h2 => wu_o (by omega)) (fun i _ j _ => wu_o (by omega)) (fun k _ => wu_o (by omega))
theorem t_moveHoe {i : Nat} (hk : zkd L = 2) (hR : zLr σ L w) (ok : zok N w) (hN : N ≤ 100000000) (hi : (i : Int) < w 0) (K : ∀ σ', zLr σ' L (aMove i w) → zfr σ σ' L → σ' (L + 9) = zup σ (L + 9) i (aTurn w i) (L + 9) → Q (.inl none) (3565, x, zrho) σ') : WM 34 [.inr (.inl (some L)), .inl ((i : Int))] (3565, x, zrho) σ Q := by
  show Wp 34 0 [some (.inr (.inl (some L))), some (.inl ((i : Int))), none, none, none] [] _ σ Q
  have o0 := ok.1
  have h0 := hR.h0
  have hi4 : i < 4 := by omega
  have k5 := zkL5 hk
  have n5 := znL5 hk
  have k6 := zkL6 hk
  have n6 := znL6 hk
  have k7 := zkL7 hk
  have n7 := znL7 hk
  have k8 := zkL8 hk
  have n8 := znL8 hk
  have k9 := zkL9 hk
  have n9 := znL9 hk
  have o9 := ok.2.2.2.2.2.2.2.2.2.1 i hi
  have b4 := hR.2.2.2.2.1 i hi
  obtain ⟨c, hc⟩ : ∃ c : Nat, w (172 + 4 * i) = (c : Int) := ⟨(w (172 + 4 * i)).toNat, (Int.toNat_of_nonneg o9.1.1).symm⟩
  have hc81 : c < 81 := by omega
  have o10 := ok.2.2.2.2.2.2.2.1 c hc81
  have ok1 := ok.2.1
  have hcol := hR.2.2.1 c hc81
  have hT : σ (L + 3) (w (10 + c)).toNat = aTurn w i := by
    unfold aTurn
    rw [hc, Int.toNat_natCast]
    exact hR.2.1 _ (by omega)
  have oT := ok.2.2.2.2.2.2.1 (w (10 + c)).toNat (by omega)
  rw [← hR.2.1 _ (by omega), hT] at oT
  have e173 : (173 + 4 * i) = 172 + 4 * i + 1 := by omega
  rw [hc, e173] at b4
  have q4 := aQ_in (aTurn w i)
  have z3 : z_and (w (172 + 4 * i + 1) + aQ (aTurn w i)) 3 = (w (172 + 4 * i + 1) + aQ (aTurn w i)) % 4 := by
    rw [e173] at o9
    exact zand3 (by omega) (by omega)
  have hTi : (if 0 ≤ (i : Int) ∧ (i : Int) < w 0 then (1 : Int) else 0) = 1 := if_pos ⟨by omega, hi⟩
  have u1 : zup σ (L + 9) i (aTurn w i) (L + 6) i = w (172 + 4 * i + 1) := by rw [zup_o (by omega)]; exact b4.2.1
  have u2 : zup σ (L + 9) i (aTurn w i) (L + 9) i = aTurn w i := zup_s
  have hR2 : zLr (zup (zup σ (L + 9) i (aTurn w i)) (L + 6) i ((w (172 + 4 * i + 1) + aQ (aTurn w i)) % 4)) L (aFace i w) := (hR.lat (v := aTurn w i) (i := i)).hoe (j := 1) hi4 (by omega)
  simp (disch := first | assumption | exact p_c2i | exact p_c2r | exact p_c2n | omega | ((repeat (first | refine p_a1i.trans ?_ | refine p_a1r.trans ?_)); exact p_a10) | ((repeat (first | refine p_wI ?_ | refine p_wR ?_)); exact p_w0) | decide) only [reduceIte, Int.reduceLT, Int.reduceLE, Int.reduceEq, Int.reduceToNat, Int.reduceAdd, Int.reduceSub, Int.reduceMul, Int.reduceNeg, e34_0, e34_1, e34_2, e34_5, e34_8, e34_9, e34_10, e34_13, e34_14, e34_15, e34_16, e34_17, e34_20, e34_21, e34_22, e34_23, e34_24, e34_27, e34_30, e34_31, e34_32, e34_35, e34_36, e34_37, e34_40, e34_41, e34_42, e34_43, e34_46, e34_47, e34_48, e34_51, e34_52, e34_53, e34_54, e34_55, e34_56, e34_57, p_al0, p_il1, p_cv1_0, p_cv1_1, p_cv1_2, p_cv1_3, p_cv1_4, zK_v, zK_0, WN_ncl, p_ifne, p_vret, p_getR, p_iald, p_is2, p_c2n, p_c2i, p_c2r, p_il2, p_iast, p_cs1_0, p_cs1_1, p_cs1_2, p_cs1_3, p_cs1_4, p_bin, p_push, WN_nx, WN_nrt, WN_ite, t_isHoe, h0, hTi, zrL4 hk, zrL5 hk, zrL8 hk, b4.1, t_colourOf, t_turnOf, hcol, hT, t_quarters, u1, u2, z3, Int.toNat_natCast]
  refine t_paintByHoe hk hR2 (zok_face ok hi) hN hc81 (fun σ3 hR3 hf3 hl3 => ?_)
  rw [zK_0]
  simp (disch := first | assumption | exact p_c2i | exact p_c2r | exact p_c2n | omega | ((repeat (first | refine p_a1i.trans ?_ | refine p_a1r.trans ?_)); exact p_a10) | ((repeat (first | refine p_wI ?_ | refine p_wR ?_)); exact p_w0) | decide) only [reduceIte, Int.reduceLT, Int.reduceLE, Int.reduceEq, Int.reduceToNat, Int.reduceAdd, Int.reduceSub, Int.reduceMul, Int.reduceNeg, e34_60, e34_61, e34_62, p_al0, p_il2, p_cv1_0, p_cv1_1, p_cv1_2, p_cv1_3, p_cv1_4, zK_v, zK_0, WN_ncl, WN_nx, WN_nrt, WN_ite]
  have okp := zok_paint (zok_face ok hi) hc81
  refine t_putOnTrail hk hR3 okp ⟨by omega, by omega⟩ (fun σ4 hR4 hf4 hl4 => ?_)
  rw [zK_0]
  have hpre : aTrail (c : Int) (aPaint c (aFace i w)) = aPre i w := by unfold aPre; rw [hc, Int.toNat_natCast]
  rw [hpre] at hR4
  have ok4 := zok_pre ok hi
  have hfz : zfr σ σ4 L := zfr_t (zfr_t (zfr_t (zfr_u (o := 9) (by omega)) (zfr_u (o := 6) (by omega))) hf3) hf4
  have hl9 : σ4 (L + 9) = zup σ (L + 9) i (aTurn w i) (L + 9) := by rw [hl4, hl3, zup_f (by omega)]
  have p0 := aPre_0 o9.1
  have hi4' : (i : Int) < aPre i w 0 := by rw [p0.1]; exact hi
  have b44 := hR4.2.2.2.2.1 i hi4'
  have od := ok4.2.2.2.2.2.2.2.2.2.1 i hi4'
  have hd := aPre_d (w := w) (i := i) o9.1 hi4
  rw [e173] at b44 od
  rw [hd] at b44 od
  have hnx : aTo (c : Int) ((w (172 + 4 * i + 1) + aQ (aTurn w i)) % 4) = aNext i w := by unfold aNext; rw [hc]
  have hn81 := aNext_in ok hi
  have hon := aOnN_in (w := aPre i w) (c := aNext i w) 4
  have hon' : 0 ≤ aOn (aPre i w) (aNext i w) ∧ aOn (aPre i w) (aNext i w) ≤ 4 := hon
  simp (disch := first | assumption | exact p_c2i | exact p_c2r | exact p_c2n | omega | ((repeat (first | refine p_a1i.trans ?_ | refine p_a1r.trans ?_)); exact p_a10) | ((repeat (first | refine p_wI ?_ | refine p_wR ?_)); exact p_w0) | decide) only [reduceIte, Int.reduceLT, Int.reduceLE, Int.reduceEq, Int.reduceToNat, Int.reduceAdd, Int.reduceSub, Int.reduceMul, Int.reduceNeg, e34_65, e34_66, e34_67, e34_70, e34_71, e34_72, e34_75, e34_76, e34_77, e34_78, p_il2, p_al0, p_getR, p_il1, p_iald, p_cs2_0, p_cs2_1, p_cs2_2, p_cs2_3, p_cs2_4, zK_v, zK_0, WN_ncl, p_is3, p_c2n, p_c2i, p_c2r, p_il3, p_cv1_0, p_cv1_1, p_cv1_2, p_cv1_3, p_cv1_4, WN_nx, WN_nrt, WN_ite, zrL5 hk, b44.2.1, t_cellBeside, hnx, t_hoesOn hk hR4 ok4, Int.toNat_natCast]
  have h2 : ∀ j, j ≠ 10 → True := fun _ _ => trivial
  have m2 : σ4 L 12 = w 2 := by rw [hR4.h2]; exact p0.2.2.1
  have om := ok.2.2.1
  have e174 : (174 + 4 * i) = 172 + 4 * i + 2 := by omega
  have e175 : (175 + 4 * i) = 172 + 4 * i + 3 := by omega
  rw [e174, e175] at b44
  unfold aMove at K
  by_cases hmt : 0 < aOn (aPre i w) (aNext i w)
  · rw [if_pos hmt] at K
    have hR5 : zLr (zup σ4 (L + 8) i (aPre i w (172 + 4 * i + 3) + 1)) L (aMeet i (aPre i w)) := (hR4.hoe (j := 3) hi4 (by omega)).wu5
    have v7 : zup σ4 (L + 8) i (aPre i w (172 + 4 * i + 3) + 1) (L + 7) i = aPre i w (172 + 4 * i + 2) := by rw [zup_o (by omega)]; exact b44.2.2.1
    have v12 : zup σ4 (L + 8) i (aPre i w (172 + 4 * i + 3) + 1) L 12 = w 2 := by rw [zup_o (by omega)]; exact m2
    have hfm : zfr σ (zup σ4 (L + 8) i (aPre i w (172 + 4 * i + 3) + 1)) L := zfr_t hfz (zfr_u (o := 8) (by omega))
    by_cases hm0 : w 2 = 0
    · rw [if_pos hm0] at K
      have w7 : zup (zup σ4 (L + 8) i (aPre i w (172 + 4 * i + 3) + 1)) (L + 5) i (aNext i w) (L + 7) i = aPre i w (172 + 4 * i + 2) := by rw [zup_o (by omega)]; exact v7
      simp (disch := first | assumption | exact p_c2i | exact p_c2r | exact p_c2n | omega | ((repeat (first | refine p_a1i.trans ?_ | refine p_a1r.trans ?_)); exact p_a10) | ((repeat (first | refine p_wI ?_ | refine p_wR ?_)); exact p_w0) | decide) only [reduceIte, Int.reduceLT, Int.reduceLE, Int.reduceEq, Int.reduceToNat, Int.reduceAdd, Int.reduceSub, Int.reduceMul, Int.reduceNeg, e34_81, e34_84, e34_85, e34_88, e34_89, e34_91, e34_93, e34_96, e34_97, e34_100, e34_101, e34_102, e34_103, e34_104, e34_105, e34_106, e34_108, e34_111, e34_112, e34_115, e34_118, e34_119, e34_122, e34_123, e34_124, e34_125, e34_126, e34_129, e34_130, e34_131, e34_132, e34_133, e34_134, e34_135, e34_138, e34_139, e34_142, e34_143, e34_146, e34_147, e34_148, e34_151, e34_152, e34_155, e34_156, e34_157, e34_160, e34_161, e34_162, e34_163, e34_164, e34_165, e34_166, e34_167, p_ifle, p_push, p_goto, p_is4, p_c2n, p_c2i, p_c2r, p_il4, p_ifeq, p_al0, p_getR, p_il1, p_dup2, p_iald, p_bin, p_iast, p_getI, p_ifne, p_il3, p_cne, p_cv1_0, p_cv1_1, p_cv1_2, p_cv1_3, p_cv1_4, zK_v, zK_0, WN_ncl, p_vret, WN_nx, WN_nrt, WN_ite, hmt, zrL4 hk, zrL6 hk, zrL7 hk, b44.2.2.2, v12, hm0, w7, Int.toNat_natCast]
      refine K _ ?_ ?_ ?_
      · have := (hR5.hoe (i := i) (j := 0) (v := aNext i w) hi4 (by omega)).hoe (i := i) (j := 2) (v := aPre i w (172 + 4 * i + 2) + 1) hi4 (by omega)
        have ee : aGo i (aNext i w) (aMeet i (aPre i w)) = wu (wu (aMeet i (aPre i w)) (172 + 4 * i + 0) (aNext i w)) (172 + 4 * i + 2) (aPre i w (172 + 4 * i + 2) + 1) := by
          unfold aGo aMeet
          rw [wu_o (j := 172 + 4 * i + 2) (by omega), wu_o (j := 172 + 4 * i + 2) (by omega)]
        rw [ee]
        exact this
      · exact zfr_t (zfr_t hfm (zfr_u (o := 5) (by omega))) (zfr_u (o := 7) (by omega))
      · rw [zup_f (by omega), zup_f (by omega), zup_f (by omega)]; exact hl9
    · rw [if_neg hm0] at K
      by_cases hm2 : w 2 = 2
      · rw [if_pos hm2] at K
        have m20 : ((2 : Int) = 0) = False := eq_false (by omega)
        have okm := zok_meet ok4 hi4'
        have hbt := fun (Q : ZO → ZT → ZI → Prop) => t_turnBackOn (Q := Q) (x := x) (c := aNext i w) hk hR5 okm ⟨by omega, by omega⟩
        have hmw : ∀ k : Nat, (k : Int) < w 0 → aMeet i (aPre i w) (172 + 4 * k) = aPre i w (172 + 4 * k) := fun k hk2 => by unfold aMeet; rw [wu_o (by omega), wu_o (by omega)]
        have hm00 : aMeet i (aPre i w) 0 = w 0 := by unfold aMeet; rw [wu_o (by omega), wu_o (by omega)]; exact p0.1
        have hnei : aPre i w (172 + 4 * i) ≠ aNext i w := by
          rw [aPre_h o9.1 (by omega) (by omega) (by omega)]
          exact (aTo_ne o9.1.1 o9.1.2).symm
        have hpi : ∀ p : Nat → Bool, p i = false → zbk (zup σ4 (L + 8) i (aPre i w (172 + 4 * i + 3) + 1)) (L + 6) 4 p (L + 6) i = (w (172 + 4 * i + 1) + aQ (aTurn w i)) % 4 := by
          intro p hp
          unfold zbk
          rw [if_neg (by rw [hp]; intro z; cases z.2.2), zup_o (by omega)]
          exact b44.2.1
        have hpf : (fun k : Nat => decide ((k : Int) < aMeet i (aPre i w) 0 ∧ aMeet i (aPre i w) (172 + 4 * k) = aNext i w)) i = false := by
          refine decide_eq_false (fun z => ?_)
          rw [hmw i hi] at z
          exact hnei z.2
        have hh := hpi (fun k : Nat => decide ((k : Int) < aMeet i (aPre i w) 0 ∧ aMeet i (aPre i w) (172 + 4 * k) = aNext i w)) hpf
        have z4 : z_and ((w (172 + 4 * i + 1) + aQ (aTurn w i)) % 4 + 2) 3 = ((w (172 + 4 * i + 1) + aQ (aTurn w i)) % 4 + 2) % 4 := zand3 (by omega) (by omega)
        simp (disch := first | assumption | exact p_c2i | exact p_c2r | exact p_c2n | omega | ((repeat (first | refine p_a1i.trans ?_ | refine p_a1r.trans ?_)); exact p_a10) | ((repeat (first | refine p_wI ?_ | refine p_wR ?_)); exact p_w0) | decide) only [reduceIte, Int.reduceLT, Int.reduceLE, Int.reduceEq, Int.reduceToNat, Int.reduceAdd, Int.reduceSub, Int.reduceMul, Int.reduceNeg, e34_81, e34_84, e34_85, e34_88, e34_89, e34_91, e34_93, e34_96, e34_97, e34_100, e34_101, e34_102, e34_103, e34_104, e34_105, e34_106, e34_108, e34_111, e34_112, e34_115, e34_118, e34_119, e34_122, e34_123, e34_124, e34_125, e34_126, e34_129, e34_130, e34_131, e34_132, e34_133, e34_134, e34_135, e34_138, e34_139, e34_142, e34_143, e34_146, e34_147, e34_148, e34_151, e34_152, e34_155, e34_156, e34_157, e34_160, e34_161, e34_162, e34_163, e34_164, e34_165, e34_166, e34_167, p_ifle, p_push, p_goto, p_is4, p_c2n, p_c2i, p_c2r, p_il4, p_ifeq, p_al0, p_getR, p_il1, p_dup2, p_iald, p_bin, p_iast, p_getI, p_ifne, p_il3, p_cne, p_cv1_0, p_cv1_1, p_cv1_2, p_cv1_3, p_cv1_4, zK_v, zK_0, WN_ncl, p_vret, WN_nx, WN_nrt, WN_ite, hmt, zrL5 hk, zrL7 hk, b44.2.2.2, v12, hm2, m20, hbt, hh, z4, Int.toNat_natCast]
        have es : zup (zbk (zup σ4 (L + 8) i (aPre i w (172 + 4 * i + 3) + 1)) (L + 6) 4 (fun k => decide ((k : Int) < aMeet i (aPre i w) 0 ∧ aMeet i (aPre i w) (172 + 4 * k) = aNext i w))) (L + 6) i (((w (172 + 4 * i + 1) + aQ (aTurn w i)) % 4 + 2) % 4) = zbk (zup σ4 (L + 8) i (aPre i w (172 + 4 * i + 3) + 1)) (L + 6) 4 (fun k => decide ((k : Int) < w 0 ∧ (k = i ∨ aPre i w (172 + 4 * k) = aNext i w))) := by
          funext b j
          have b6 : zup σ4 (L + 8) i (aPre i w (172 + 4 * i + 3) + 1) (L + 6) i = (w (172 + 4 * i + 1) + aQ (aTurn w i)) % 4 := by rw [zup_o (by omega)]; exact b44.2.1
          by_cases h1 : b = L + 6 ∧ j = i
          · obtain ⟨rfl, rfl⟩ := h1
            rw [zup_s]
            unfold zbk
            rw [if_pos ⟨rfl, hi4, decide_eq_true ⟨hi, Or.inl rfl⟩⟩, b6]
          · have h2 : zup (zbk (zup σ4 (L + 8) i (aPre i w (172 + 4 * i + 3) + 1)) (L + 6) 4 (fun k => decide ((k : Int) < aMeet i (aPre i w) 0 ∧ aMeet i (aPre i w) (172 + 4 * k) = aNext i w))) (L + 6) i (((w (172 + 4 * i + 1) + aQ (aTurn w i)) % 4 + 2) % 4) b j = zbk (zup σ4 (L + 8) i (aPre i w (172 + 4 * i + 3) + 1)) (L + 6) 4 (fun k => decide ((k : Int) < aMeet i (aPre i w) 0 ∧ aMeet i (aPre i w) (172 + 4 * k) = aNext i w)) b j := if_neg h1
            rw [h2]
            unfold zbk
            by_cases h3 : b = L + 6 ∧ j < 4
            · have hji : j ≠ i := fun e => h1 ⟨h3.1, e⟩
              have hq : decide ((j : Int) < aMeet i (aPre i w) 0 ∧ aMeet i (aPre i w) (172 + 4 * j) = aNext i w) = decide ((j : Int) < w 0 ∧ (j = i ∨ aPre i w (172 + 4 * j) = aNext i w)) := by
                rw [hm00]
                by_cases hj0 : (j : Int) < w 0
                · rw [hmw j hj0]; simp [hj0, hji]
                · simp [hj0]
              simp only [hq]
            · rw [if_neg (fun z => h3 ⟨z.1, z.2.1⟩), if_neg (fun z => h3 ⟨z.1, z.2.1⟩)]
        rw [es]
        refine K _ (hR5.bk okm) ?_ ?_
        · intro a ha
          rw [zbk_x (by omega)]
          exact hfm a ha
        · rw [zbk_x (by omega), zup_f (by omega)]; exact hl9
      · rw [if_neg hm2] at K
        simp (disch := first | assumption | exact p_c2i | exact p_c2r | exact p_c2n | omega | ((repeat (first | refine p_a1i.trans ?_ | refine p_a1r.trans ?_)); exact p_a10) | ((repeat (first | refine p_wI ?_ | refine p_wR ?_)); exact p_w0) | decide) only [reduceIte, Int.reduceLT, Int.reduceLE, Int.reduceEq, Int.reduceToNat, Int.reduceAdd, Int.reduceSub, Int.reduceMul, Int.reduceNeg, e34_81, e34_84, e34_85, e34_88, e34_89, e34_91, e34_93, e34_96, e34_97, e34_100, e34_101, e34_102, e34_103, e34_104, e34_105, e34_106, e34_108, e34_111, e34_112, e34_115, e34_118, e34_119, e34_122, e34_123, e34_124, e34_125, e34_126, e34_129, e34_130, e34_131, e34_132, e34_133, e34_134, e34_135, e34_138, e34_139, e34_142, e34_143, e34_146, e34_147, e34_148, e34_151, e34_152, e34_155, e34_156, e34_157, e34_160, e34_161, e34_162, e34_163, e34_164, e34_165, e34_166, e34_167, p_ifle, p_push, p_goto, p_is4, p_c2n, p_c2i, p_c2r, p_il4, p_ifeq, p_al0, p_getR, p_il1, p_dup2, p_iald, p_bin, p_iast, p_getI, p_ifne, p_il3, p_cne, p_cv1_0, p_cv1_1, p_cv1_2, p_cv1_3, p_cv1_4, zK_v, zK_0, WN_ncl, p_vret, WN_nx, WN_nrt, WN_ite, hmt, zrL7 hk, b44.2.2.2, v12, hm0, hm2, Int.toNat_natCast]
        exact K _ hR5 hfm (by rw [zup_f (by omega)]; exact hl9)
  · rw [if_neg hmt] at K
    have v7 : zup σ4 (L + 5) i (aNext i w) (L + 7) i = aPre i w (172 + 4 * i + 2) := by rw [zup_o (by omega)]; exact b44.2.2.1
    simp (disch := first | assumption | exact p_c2i | exact p_c2r | exact p_c2n | omega | ((repeat (first | refine p_a1i.trans ?_ | refine p_a1r.trans ?_)); exact p_a10) | ((repeat (first | refine p_wI ?_ | refine p_wR ?_)); exact p_w0) | decide) only [reduceIte, Int.reduceLT, Int.reduceLE, Int.reduceEq, Int.reduceToNat, Int.reduceAdd, Int.reduceSub, Int.reduceMul, Int.reduceNeg, e34_81, e34_84, e34_85, e34_88, e34_89, e34_91, e34_93, e34_96, e34_97, e34_100, e34_101, e34_102, e34_103, e34_104, e34_105, e34_106, e34_108, e34_111, e34_112, e34_115, e34_118, e34_119, e34_122, e34_123, e34_124, e34_125, e34_126, e34_129, e34_130, e34_131, e34_132, e34_133, e34_134, e34_135, e34_138, e34_139, e34_142, e34_143, e34_146, e34_147, e34_148, e34_151, e34_152, e34_155, e34_156, e34_157, e34_160, e34_161, e34_162, e34_163, e34_164, e34_165, e34_166, e34_167, p_ifle, p_push, p_goto, p_is4, p_c2n, p_c2i, p_c2r, p_il4, p_ifeq, p_al0, p_getR, p_il1, p_dup2, p_iald, p_bin, p_iast, p_getI, p_ifne, p_il3, p_cne, p_cv1_0, p_cv1_1, p_cv1_2, p_cv1_3, p_cv1_4, zK_v, zK_0, WN_ncl, p_vret, WN_nx, WN_nrt, WN_ite, hmt, zrL4 hk, zrL6 hk, v7, Int.toNat_natCast]
    refine K _ ((hR4.hoe (j := 0) hi4 (by omega)).hoe (j := 2) hi4 (by omega)) ?_ ?_
    · exact zfr_t (zfr_t hfz (zfr_u (o := 5) (by omega))) (zfr_u (o := 7) (by omega))
    · rw [zup_f (by omega), zup_f (by omega)]; exact hl9
end
