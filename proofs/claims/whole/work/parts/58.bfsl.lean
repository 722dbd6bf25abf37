/-! THE CLASS: the size of a field not seen yet -/
section
variable {σ σ0 : ZI} {Q : ZO → ZT → ZI → Prop} {x a L : Nat} {w : zW} {N : Int} {s0 : Nat → Bool}
theorem zlw_lt (hk : zkd L = 2) : L + 10 ≤ 3545 := by
  rcases zkd2 hk with ⟨S, hS, h⟩ | h
  · have := zst_in hS
    rcases h with h | ⟨j, hj, h⟩ <;> omega
  · omega
theorem l_bfs (hk : zkd L = 2) (hR : zLr σ0 L w) (ok : zok N w) (ha : a < 81) (K : ∀ (σ' : ZI) (s : Nat → Bool) (fd : Nat → Nat) (n : Nat), zBf (zco w) a s0 s fd n → zBs σ0 σ' s fd n → (∀ i e, i < n → e < 4 → zco w (zT (fd i) e) = zco w (fd i) → s (zT (fd i) e) = true) → Q (.inl (some (.inl (n : Int)))) (3565, x, zrho) σ') : ∀ (k p d : Nat) (σ1 : ZI) (s : Nat → Bool) (fd : Nat → Nat) (n : Nat) (l5 : Option ZV), k = 5 * (80 - p) + (4 - d) → d ≤ 4 → p < n → zBf (zco w) a s0 s fd n → zBs σ0 σ1 s fd n → (∀ i e, e < 4 → (i < p ∨ (i = p ∧ e < d)) → zco w (zT (fd i) e) = zco w (fd i) → s (zT (fd i) e) = true) → Wp 10 29 [some (.inr (.inl (some 3545))), some (.inr (.inl (some L))), some (.inl ((a : Int))), some (.inl ((p : Int))), some (.inl ((d : Int))), l5] [] (3565, x, zrho) σ1 Q := by
  have kf := zf_k
  have k7 := zf_7
  have n7 := zf_n7
  have hL := zlw_lt hk
  have o1 := ok.2.1
  intro k
  induction k with
  | zero =>
    intro p d σ1 s fd n l5 hk' hd hp hb hs hD
    have z1 := zct_in (p := s) 81
    have z0 := zct_in (p := s0) 81
    have hn := hb.2.2.1
    have ep : p = 80 := by omega
    have ed : d = 4 := by omega
    subst ep
    subst ed
    have en : n = 81 := by omega
    subst en
    have h2 := hs.2.2.1
    simp (disch := first | assumption | exact p_c2i | exact p_c2r | exact p_c2n | omega | ((repeat (first | refine p_a1i.trans ?_ | refine p_a1r.trans ?_)); exact p_a10) | ((repeat (first | refine p_wI ?_ | refine p_wR ?_)); exact p_w0) | decide) only [reduceIte, Int.reduceLT, Int.reduceLE, Int.reduceEq, Int.reduceToNat, Int.reduceAdd, Int.reduceSub, Int.reduceMul, Int.reduceNeg, e10_12, e10_13, e10_14, e10_17, e10_29, e10_31, e10_32, e10_74, e10_77, e10_80, e10_81, e10_84, p_il3, p_al0, p_getI, p_cge, p_il4, p_push, p_ii3, p_goto, p_ret0, WN_nx, WN_nrt, WN_ite, show ((4 : Nat) : Int) = 4 from rfl, show ((80 : Nat) : Int) = 80 from rfl, show ((81 : Nat) : Int) = 81 from rfl, h2]
    exact K σ1 s fd 81 hb hs (fun i e hi he hc => hD i e he (by omega) hc)
  | succ k ih =>
    intro p d σ1 s fd n l5 hk' hd hp hb hs hD
    have z1 := zct_in (p := s) 81
    have z0 := zct_in (p := s0) 81
    have hn := hb.2.2.1
    have h2 := hs.2.2.1
    by_cases hd4 : d = 4
    · subst hd4
      have e1 : (p : Int) + 1 = ((p + 1 : Nat) : Int) := by omega
      by_cases hpn : p + 1 < n
      · have c1 : (((p + 1 : Nat) : Int) < (n : Int)) = True := eq_true (by omega)
        have c2 : (((p + 1 : Nat) : Int) < 81) = True := eq_true (by omega)
        rw [e10_29]
        simp (disch := first | assumption | exact p_c2i | exact p_c2r | exact p_c2n | omega | ((repeat (first | refine p_a1i.trans ?_ | refine p_a1r.trans ?_)); exact p_a10) | ((repeat (first | refine p_wI ?_ | refine p_wR ?_)); exact p_w0) | decide) only [reduceIte, Int.reduceLT, Int.reduceLE, Int.reduceEq, Int.reduceToNat, Int.reduceAdd, Int.reduceSub, Int.reduceMul, Int.reduceNeg, e10_12, e10_13, e10_14, e10_17, e10_20, e10_21, e10_23, e10_26, e10_27, e10_31, e10_32, e10_74, e10_77, p_il3, p_al0, p_getI, p_cge, p_push, p_is4, p_c2n, p_c2i, p_c2r, p_il4, p_ii3, p_goto, WN_nx, WN_nrt, WN_ite, show ((4 : Nat) : Int) = 4 from rfl, e1, h2, c1, c2]
        exact ih (p + 1) 0 σ1 s fd n _ (by omega) (by omega) hpn hb hs (fun i e he hh hc => hD i e he (by omega) hc)
      · have c1 : (((p + 1 : Nat) : Int) < (n : Int)) = False := eq_false (by omega)
        simp (disch := first | assumption | exact p_c2i | exact p_c2r | exact p_c2n | omega | ((repeat (first | refine p_a1i.trans ?_ | refine p_a1r.trans ?_)); exact p_a10) | ((repeat (first | refine p_wI ?_ | refine p_wR ?_)); exact p_w0) | decide) only [reduceIte, Int.reduceLT, Int.reduceLE, Int.reduceEq, Int.reduceToNat, Int.reduceAdd, Int.reduceSub, Int.reduceMul, Int.reduceNeg, e10_12, e10_13, e10_14, e10_17, e10_29, e10_31, e10_32, e10_74, e10_77, e10_80, e10_81, e10_84, p_il3, p_al0, p_getI, p_cge, p_il4, p_push, p_ii3, p_goto, p_ret0, WN_nx, WN_nrt, WN_ite, show ((4 : Nat) : Int) = 4 from rfl, e1, h2, c1]
        exact K σ1 s fd n hb hs (fun i e hi he hc => hD i e he (by omega) hc)
    · have c1 : ((d : Int) < 4) = True := eq_true (by omega)
      have e1 : (d : Int) + 1 = ((d + 1 : Nat) : Int) := by omega
      obtain ⟨f81, fcm⟩ := hb.2.1 p hp
      have hp81 : p < 81 := by omega
      have g := hs.2.1 p hp
      have ht := zT_in (d := d) f81
      have et := zT_c (d := d) f81
      have tb := fun (Q : ZO → ZT → ZI → Prop) (σ : ZI) (θ : ZT) => t_cellBeside (Q := Q) (σ := σ) (θ := θ) (c := ((fd p : Nat) : Int)) (d := (d : Int)) (by omega) (by omega) (by omega) (by omega)
      rw [et] at tb
      have hR1 : zLr σ1 L w := hR.frame (fun b h1 h2 => hs.2.2.2 b (by omega) (by omega) (by omega))
      have gc := hR1.2.2.1 (zT (fd p) d) ht
      have ga := hR1.2.2.1 a ha
      have b1 := ok.2.2.2.2.2.2.2.1 (zT (fd p) d) ht
      have b2 := ok.2.2.2.2.2.2.2.1 a ha
      have hca : zco w (fd p) = zco w a := zcm_c ha f81 fcm
      by_cases hcol : w (10 + zT (fd p) d) = w (10 + a)
      · have c2 : (w (10 + zT (fd p) d) = w (10 + a)) = True := eq_true hcol
        have hcc : zco w (zT (fd p) d) = zco w (fd p) := hcol.trans hca.symm
        rw [e10_29]
        simp (disch := first | assumption | exact p_c2i | exact p_c2r | exact p_c2n | omega | ((repeat (first | refine p_a1i.trans ?_ | refine p_a1r.trans ?_)); exact p_a10) | ((repeat (first | refine p_wI ?_ | refine p_wR ?_)); exact p_w0) | decide) only [reduceIte, Int.reduceLT, Int.reduceLE, Int.reduceEq, Int.reduceToNat, Int.reduceAdd, Int.reduceSub, Int.reduceMul, Int.reduceNeg, e10_31, e10_32, e10_35, e10_36, e10_39, e10_40, e10_41, e10_43, e10_46, e10_48, e10_49, e10_51, e10_54, e10_55, e10_56, e10_59, e10_62, e10_63, e10_65, p_il4, p_push, p_cge, p_al0, p_getR, p_il3, p_iald, p_cs2_0, p_cs2_1, p_cs2_2, p_cs2_3, p_cs2_4, zK_v, zK_0, WN_ncl, p_is5, p_c2n, p_c2i, p_c2r, p_al1, p_il5, p_cv1_0, p_cv1_1, p_cv1_2, p_cv1_3, p_cv1_4, p_il2, p_cne, WN_nx, WN_nrt, WN_ite, c1, zf_r1, g, tb, t_colourOf, gc, ga, c2, Int.toNat_natCast]
        refine t_find ht (zcm_s ha f81 (by omega) fcm hcc) hb hs (fun σ' s' fd' n' hb' hs' hnn hfd hsc hss => ?_)
        rw [zK_0]
        simp (disch := first | assumption | exact p_c2i | exact p_c2r | exact p_c2n | omega | ((repeat (first | refine p_a1i.trans ?_ | refine p_a1r.trans ?_)); exact p_a10) | ((repeat (first | refine p_wI ?_ | refine p_wR ?_)); exact p_w0) | decide) only [reduceIte, Int.reduceLT, Int.reduceLE, Int.reduceEq, Int.reduceToNat, Int.reduceAdd, Int.reduceSub, Int.reduceMul, Int.reduceNeg, e10_68, e10_71, p_ii4, p_goto, WN_nx, WN_nrt, WN_ite, e1]
        refine ih p (d + 1) σ' s' fd' n' _ (by omega) (by omega) (by omega) hb' hs' (fun i e he hh hc => ?_)
        have hi : i < n := by omega
        rw [hfd i hi] at hc ⊢
        by_cases q : i = p ∧ e = d
        · rw [q.1, q.2]; exact hsc
        · exact hss _ (hD i e he (by omega) hc)
      · rw [e10_29]
        simp (disch := first | assumption | exact p_c2i | exact p_c2r | exact p_c2n | omega | ((repeat (first | refine p_a1i.trans ?_ | refine p_a1r.trans ?_)); exact p_a10) | ((repeat (first | refine p_wI ?_ | refine p_wR ?_)); exact p_w0) | decide) only [reduceIte, Int.reduceLT, Int.reduceLE, Int.reduceEq, Int.reduceToNat, Int.reduceAdd, Int.reduceSub, Int.reduceMul, Int.reduceNeg, e10_31, e10_32, e10_35, e10_36, e10_39, e10_40, e10_41, e10_43, e10_46, e10_48, e10_49, e10_51, e10_54, e10_55, e10_56, e10_59, e10_62, e10_63, e10_65, e10_68, e10_71, p_il4, p_push, p_cge, p_al0, p_getR, p_il3, p_iald, p_cs2_0, p_cs2_1, p_cs2_2, p_cs2_3, p_cs2_4, zK_v, zK_0, WN_ncl, p_is5, p_c2n, p_c2i, p_c2r, p_al1, p_il5, p_cv1_0, p_cv1_1, p_cv1_2, p_cv1_3, p_cv1_4, p_il2, p_cne, p_ii4, p_goto, WN_nx, WN_nrt, WN_ite, c1, zf_r1, g, tb, t_colourOf, gc, ga, hcol, e1, Int.toNat_natCast]
        refine ih p (d + 1) σ1 s fd n _ (by omega) (by omega) hp hb hs (fun i e he hh hc => ?_)
        by_cases q : i = p ∧ e = d
        · rw [q.1, q.2] at hc
          exact absurd (hc.trans hca) hcol
        · exact hD i e he (by omega) hc
/-- what is seen is closed -/
def zclo (col : Nat → Int) (s : Nat → Bool) : Prop := ∀ c d, c < 81 → d < 4 → s c = true → col (zT c d) = col c → s (zT c d) = true
theorem t_unlessSeen {s : Nat → Bool} {n0 : Int} (hk : zkd L = 2) (hR : zLr σ L w) (ok : zok N w) (ha : a < 81) (hs : ∀ c, c < 81 → σ 3546 c = if s c = true then 1 else 0) (hcl : zclo (zco w) s) (K : ∀ (σ' : ZI) (s' : Nat → Bool), (∀ c, c < 81 → σ' 3546 c = if s' c = true then 1 else 0) → (∀ c, c < 81 → (s' c = true ↔ s c = true ∨ zcm (zco w) a c = true)) → (∀ b, b ≠ 3545 → b ≠ 3546 → b ≠ 3547 → σ' b = σ b) → Q (.inl (some (.inl (if s a = true then 0 else fSize w a)))) (3565, x, zrho) σ') : WM 10 [.inr (.inl (some 3545)), .inr (.inl (some L)), .inl ((a : Int))] (3565, x, zrho) σ Q := by
  show Wp 10 0 [some (.inr (.inl (some 3545))), some (.inr (.inl (some L))), some (.inl ((a : Int))), none, none, none] [] _ _ Q
  have kf := zf_k
  have cm : ∀ c, c < 81 → s a = true → zcm (zco w) a c = true → s c = true := fun c hc h h2 => zcm_ind (P := fun c => s c = true) ha h (fun e d he hd h3 hl => hcl e d he hd h3 hl) hc h2
  by_cases h : s a = true
  · have h6 : zup σ 3545 2 0 3546 a = 1 := by rw [zup_o (by omega), hs a ha, if_pos h]
    have tf := fun (Q : ZO → ZT → ZI → Prop) => t_findY (Q := Q) (x := x) (σ := zup σ 3545 2 0) (c := a) (n := 0) ha (by omega) zup_s h6
    rw [if_pos h] at K
    have u0 : zup σ 3545 2 0 3545 2 = 0 := zup_s
    simp (disch := first | assumption | exact p_c2i | exact p_c2r | exact p_c2n | omega | ((repeat (first | refine p_a1i.trans ?_ | refine p_a1r.trans ?_)); exact p_a10) | ((repeat (first | refine p_wI ?_ | refine p_wR ?_)); exact p_w0) | decide) only [reduceIte, Int.reduceLT, Int.reduceLE, Int.reduceEq, Int.reduceToNat, Int.reduceAdd, Int.reduceSub, Int.reduceMul, Int.reduceNeg, e10_0, e10_1, e10_2, e10_5, e10_6, e10_7, e10_10, e10_11, e10_12, e10_13, e10_14, e10_17, e10_20, e10_21, e10_23, e10_26, e10_27, e10_29, e10_31, e10_32, e10_35, e10_36, e10_39, e10_40, e10_41, e10_43, e10_46, e10_48, e10_49, e10_51, e10_54, e10_55, e10_56, e10_59, e10_62, e10_63, e10_65, e10_68, e10_71, e10_74, e10_77, e10_80, e10_81, e10_84, p_al0, p_push, p_putI, p_il2, p_cv1_0, p_cv1_1, p_cv1_2, p_cv1_3, p_cv1_4, zK_v, zK_0, WN_ncl, p_is3, p_c2n, p_c2i, p_c2r, p_il3, p_getI, p_cge, p_is4, p_il4, p_getR, p_iald, p_cs2_0, p_cs2_1, p_cs2_2, p_cs2_3, p_cs2_4, p_is5, p_al1, p_il5, p_cne, p_ii4, p_goto, p_ii3, p_ret0, WN_nx, WN_nrt, WN_ite, tf, u0, Int.lt_irrefl]
    exact K _ s (fun c hc => by rw [zup_o (by omega)]; exact hs c hc) (fun c hc => ⟨Or.inl, fun z => z.elim id (cm c hc h)⟩) (fun b h1 _ _ => zup_f h1)
  · have h6 : zup σ 3545 2 0 3546 a = 0 := by rw [zup_o (by omega), hs a ha, if_neg h]
    have tf := fun (Q : ZO → ZT → ZI → Prop) => t_findN (Q := Q) (x := x) (σ := zup σ 3545 2 0) (c := a) (n := 0) ha (by omega) zup_s h6
    rw [if_neg h] at K
    have u1 : zup (zup (zup (zup σ 3545 2 0) 3546 a 1) 3547 0 (a : Int)) 3545 2 1 3545 2 = 1 := zup_s
    have e01 : ((0 : Nat) : Int) + 1 = 1 := rfl
    simp (disch := first | assumption | exact p_c2i | exact p_c2r | exact p_c2n | omega | ((repeat (first | refine p_a1i.trans ?_ | refine p_a1r.trans ?_)); exact p_a10) | ((repeat (first | refine p_wI ?_ | refine p_wR ?_)); exact p_w0) | decide) only [reduceIte, Int.reduceLT, Int.reduceLE, Int.reduceEq, Int.reduceToNat, Int.reduceAdd, Int.reduceSub, Int.reduceMul, Int.reduceNeg, e10_0, e10_1, e10_2, e10_5, e10_6, e10_7, e10_10, e10_11, e10_12, e10_13, e10_14, e10_17, e10_20, e10_21, e10_23, e10_26, e10_27, p_al0, p_push, p_putI, p_il2, p_cv1_0, p_cv1_1, p_cv1_2, p_cv1_3, p_cv1_4, zK_v, zK_0, WN_ncl, p_is3, p_c2n, p_c2i, p_c2r, p_il3, p_getI, p_cge, p_is4, WN_nx, WN_nrt, WN_ite, tf, e01, u1]
    have hb0 : zBf (zco w) a s (sup s a) (fun _ => a) 1 := by
      refine ⟨fun c hc => ?_, fun i _ => ⟨ha, zcm_r⟩, sup_ct ha h, sup_iff.mpr (Or.inr rfl)⟩
      rw [sup_iff]
      exact ⟨fun z => z.elim Or.inl (fun e => Or.inr ⟨0, by omega, e.symm⟩), fun z => z.elim Or.inl (fun ⟨i, _, e⟩ => Or.inr e.symm)⟩
    have hs0 : zBs σ (zup (zup (zup (zup σ 3545 2 0) 3546 a 1) 3547 0 (a : Int)) 3545 2 1) (sup s a) (fun _ => a) 1 := by
      refine ⟨fun c hc => ?_, fun i hi => ?_, u1, fun b h1 h2 h3 => by rw [zup_f h1, zup_f h3, zup_f h2, zup_f h1]⟩
      · rw [zup_o (by omega), zup_o (by omega)]
        by_cases q : c = a
        · subst q; rw [zup_s, if_pos (sup_iff.mpr (Or.inr rfl))]
        · rw [zup_j q, zup_o (by omega), hs c hc]
          by_cases y : s c = true
          · rw [if_pos y, if_pos (sup_iff.mpr (Or.inl y))]
          · rw [if_neg y, if_neg (fun z => (sup_iff.mp z).elim y q)]
      · rw [zup_o (by omega), show i = 0 by omega, zup_s]
    refine l_bfs (s0 := s) hk hR ok ha (fun σ' s' fd n hb hz hD => ?_) 404 0 0 _ (sup s a) (fun _ => a) 1 none rfl (by omega) (by omega) hb0 hs0 (fun i e _ hh => by omega)
    obtain ⟨b1, b2, b3, b4⟩ := hb
    have hcl2 : ∀ c, c < 81 → zcm (zco w) a c = true → s' c = true := fun c hc hm => zcm_ind (P := fun c => s' c = true) ha b4 (fun e d he hd h3 hl => by
      rcases (b1 e he).mp h3 with q | ⟨i, hi, q⟩
      · exact (b1 _ (zT_in he)).mpr (Or.inl (hcl e d he hd q hl))
      · have := hD i d hi hd (by rw [q]; exact hl)
        rw [q] at this
        exact this) hc hm
    have hiff : ∀ c, c < 81 → (s' c = true ↔ s c = true ∨ zcm (zco w) a c = true) := fun c hc => ⟨fun z => by
      rcases (b1 c hc).mp z with q | ⟨i, hi, q⟩
      · exact Or.inl q
      · exact Or.inr (q ▸ (b2 i hi).2), fun z => by
      rcases z with q | q
      · exact (b1 c hc).mpr (Or.inl q)
      · exact hcl2 c hc q⟩
    have hsum := zct_or (s := s') (p := s) (q := zcm (zco w) a) 81 (fun c hc => ⟨hiff c hc, fun z => h (zcm_ind (P := fun e => s e = true) hc z.1 (fun e d he hd h3 hl => hcl e d he hd h3 hl) ha (zcm_y ha hc z.2))⟩)
    have en : (n : Int) = fSize w a := by
      show (n : Int) = zct (zcm (zco w) a) 81
      omega
    have := K σ' s' hz.1 hiff hz.2.2.2
    rw [← en] at this
    exact this
end
