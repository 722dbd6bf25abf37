/-! THE MODEL: signs that are read -/
/-- what is read next, and what was told -/
def ztk (τ : ZI) (r : Int) (f : Nat → Int) : ZI := fun a k => if a = 3553 ∧ k = 18 then r else if a = 3563 then f k else τ a k
def zTm (τ : ZI) (ts : Nat → Int) (tl : Nat) : Prop := τ 3553 12 = (tl : Int) ∧ ∀ i, i < tl → τ 3559 i = ts i
section
variable {τ : ZI} {θ : ZT} {Q : ZO → ZT → ZI → Prop} {x n j : Nat} {w : zW} {ts : Nat → Int} {tl : Nat} {r : Int} {f : Nat → Int}
theorem ztk_r : ztk τ r f 3553 18 = r := if_pos ⟨rfl, rfl⟩
theorem ztk_k {k : Nat} (h : k ≠ 18) : ztk τ r f 3553 k = τ 3553 k := by unfold ztk; rw [if_neg (fun z => h z.2), if_neg (by omega)]
theorem ztk_t : ztk τ r f 3563 = f := funext fun k => by unfold ztk; rw [if_neg (by omega), if_pos rfl]
theorem ztk_o {a : Nat} (h : a ≠ 3553) (h2 : a ≠ 3563) : ztk τ r f a = τ a := funext fun k => by unfold ztk; rw [if_neg (fun z => h z.1), if_neg h2]
theorem ztk_u {r' : Int} : zup (ztk τ r f) 3553 18 r' = ztk τ r' f := by
  funext a k
  unfold zup ztk
  by_cases h : a = 3553 ∧ k = 18
  · rw [if_pos h, if_pos h]
  · rw [if_neg h, if_neg h, if_neg h]
theorem ztk_w {p : Nat} {v : Int} : zup (ztk τ r f) 3563 p v = ztk τ r (wu f p v) := by
  funext a k
  unfold zup ztk wu
  by_cases h : a = 3553 ∧ k = 18
  · rw [if_neg (by omega), if_pos h, if_pos h]
  · rw [if_neg h, if_neg h]
    by_cases h2 : a = 3563
    · rw [if_pos h2, if_pos h2]
      by_cases h3 : k = p
      · rw [if_pos ⟨h2, h3⟩, if_pos h3]
      · rw [if_neg (fun z => h3 z.2), if_neg h3]
    · rw [if_neg (fun z => h2 z.1), if_neg h2, if_neg h2]
theorem ztk_g {p : Nat} {v : Int} : zup (zg (ztk τ r f) w) 3563 p v = zg (ztk τ r (wu f p v)) w := by rw [zg_c (by omega), ztk_w]
theorem ztk_gr {v : Int} : zup (zg (ztk τ r f) w) 3553 18 v = zg (ztk τ v f) w := by rw [zg_c3, ztk_u]
theorem ztk_d : ztk τ (τ 3553 18) (τ 3563) = τ := by
  funext a k
  unfold ztk
  by_cases h : a = 3553 ∧ k = 18
  · rw [if_pos h, h.1, h.2]
  · rw [if_neg h]
    by_cases h2 : a = 3563
    · rw [if_pos h2, h2]
    · rw [if_neg h2]
theorem zg_t : zg (ztk τ r f) w 3563 = f := (zg_o (by omega)).trans ztk_t
theorem zTx_g (h : zTx τ) : zTx (zg (ztk τ r f) w) := fun b k h1 h2 => by rw [zg_o (by omega), ztk_o (by omega) (by omega)]; exact h b k h1 h2
theorem zt_m1 : zkd 3559 = 10 := rfl
theorem zt_m2 : zln 3559 = 60 := rfl
theorem zt_m3 : zrho 3553 11 = some 3559 := rfl
theorem zt_m4 : zkd 3563 = 10 := rfl
theorem zt_m5 : zln 3563 = 124 := rfl
theorem zt_m6 : zrho 3553 19 = some 3563 := rfl
theorem t_hereM {s : Nat} (hs : zTt ts tl) (h : zTm τ ts tl) (hr : r = (s : Int)) (hi : s < 1000) : WM 201 [.inr (.inl (some 3553))] (3565, x, zrho) (zg (ztk τ r f) w) Q = Q (.inl (some (.inl (sA ts tl s)))) (3565, x, zrho) (zg (ztk τ r f) w) := by
  subst hr
  show Wp 201 0 [some (.inr (.inl (some 3553)))] [] _ _ Q = _
  have k := zm_k
  have k1 := zt_m1
  have n1 := zt_m2
  have h12 : ztk τ (s : Int) f 3553 12 = (tl : Int) := (ztk_k (by omega)).trans h.1
  obtain ⟨q1, q2⟩ := hs
  unfold sA
  by_cases c : s < tl
  · rw [if_pos c]
    have d1 : ((s : Int) < (tl : Int)) = True := eq_true (by omega)
    have g : zg (ztk τ (s : Int) f) w 3559 s = ts s := by rw [zg_o (by omega), ztk_o (by omega) (by omega)]; exact h.2 s c
    have g2 := q2 s c
    simp (disch := first | assumption | exact p_c2i | exact p_c2r | exact p_c2n | omega | ((repeat (first | refine p_a1i.trans ?_ | refine p_a1r.trans ?_)); exact p_a10) | ((repeat (first | refine p_wI ?_ | refine p_wR ?_)); exact p_w0) | decide) only [reduceIte, Int.reduceLT, Int.reduceLE, Int.reduceEq, Int.reduceToNat, Int.reduceAdd, Int.reduceSub, Int.reduceMul, Int.reduceNeg, e201_0, e201_1, e201_4, e201_5, e201_8, e201_11, e201_12, e201_15, e201_16, e201_19, e201_20, e201_23, e201_24, p_al0, p_getI, p_cge, p_getR, p_iald, p_goto, p_push, p_ret0, WN_nx, WN_nrt, WN_ite, zg_o3, ztk_r, h12, d1, zt_m3, g, Int.toNat_natCast]
  · rw [if_neg c]
    have d1 : ((s : Int) < (tl : Int)) = False := eq_false (by omega)
    simp (disch := first | assumption | exact p_c2i | exact p_c2r | exact p_c2n | omega | ((repeat (first | refine p_a1i.trans ?_ | refine p_a1r.trans ?_)); exact p_a10) | ((repeat (first | refine p_wI ?_ | refine p_wR ?_)); exact p_w0) | decide) only [reduceIte, Int.reduceLT, Int.reduceLE, Int.reduceEq, Int.reduceToNat, Int.reduceAdd, Int.reduceSub, Int.reduceMul, Int.reduceNeg, e201_0, e201_1, e201_4, e201_5, e201_8, e201_11, e201_12, e201_15, e201_16, e201_19, e201_20, e201_23, e201_24, p_al0, p_getI, p_cge, p_getR, p_iald, p_goto, p_push, p_ret0, WN_nx, WN_nrt, WN_ite, zg_o3, ztk_r, h12, d1]
theorem t_skipY {s : Nat} {c : Int} (hs : zTt ts tl) (h : zTm τ ts tl) (hr : r = (s : Int)) (hi : s < 900) (hc : sA ts tl s = c) : WM 202 [.inr (.inl (some 3553)), .inl c] (3565, x, zrho) (zg (ztk τ r f) w) Q = Q (.inl (some (.inl 1))) (3565, x, zrho) (zg (ztk τ (r + 1) f) w) := by
  show Wp 202 0 [some (.inr (.inl (some 3553))), some (.inl c)] [] _ _ Q = _
  have k := zm_k
  have b := sA_in hs s
  have t := fun (Q : ZO → ZT → ZI → Prop) => t_hereM (x := x) (Q := Q) (w := w) (f := f) hs h hr (by omega)
  rw [hc] at t b
  simp (disch := first | assumption | exact p_c2i | exact p_c2r | exact p_c2n | omega | ((repeat (first | refine p_a1i.trans ?_ | refine p_a1r.trans ?_)); exact p_a10) | ((repeat (first | refine p_wI ?_ | refine p_wR ?_)); exact p_w0) | decide) only [reduceIte, Int.reduceLT, Int.reduceLE, Int.reduceEq, Int.reduceToNat, Int.reduceAdd, Int.reduceSub, Int.reduceMul, Int.reduceNeg, e202_0, e202_1, e202_4, e202_5, e202_8, e202_9, e202_10, e202_11, e202_12, e202_15, e202_16, e202_17, e202_20, e202_21, p_al0, p_cv0_0, p_cv0_1, p_cv0_2, p_cv0_3, p_cv0_4, zK_v, zK_0, WN_ncl, p_il1, p_ceq, p_push, p_ret1, p_dupi, p_dupr, p_getI, p_bin, p_putI, WN_nx, WN_nrt, WN_ite, t, zg_o3, ztk_r, ztk_gr]
theorem t_skipN {s : Nat} {c : Int} (hs : zTt ts tl) (h : zTm τ ts tl) (hr : r = (s : Int)) (hi : s < 900) (hc : sA ts tl s ≠ c) (hb : 0 ≤ c ∧ c < 65536) : WM 202 [.inr (.inl (some 3553)), .inl c] (3565, x, zrho) (zg (ztk τ r f) w) Q = Q (.inl (some (.inl 0))) (3565, x, zrho) (zg (ztk τ r f) w) := by
  show Wp 202 0 [some (.inr (.inl (some 3553))), some (.inl c)] [] _ _ Q = _
  have k := zm_k
  have b := sA_in hs s
  obtain ⟨hb1, hb2⟩ := hb
  have t := fun (Q : ZO → ZT → ZI → Prop) => t_hereM (x := x) (Q := Q) (w := w) (f := f) hs h hr (by omega)
  simp (disch := first | assumption | exact p_c2i | exact p_c2r | exact p_c2n | omega | ((repeat (first | refine p_a1i.trans ?_ | refine p_a1r.trans ?_)); exact p_a10) | ((repeat (first | refine p_wI ?_ | refine p_wR ?_)); exact p_w0) | decide) only [reduceIte, Int.reduceLT, Int.reduceLE, Int.reduceEq, Int.reduceToNat, Int.reduceAdd, Int.reduceSub, Int.reduceMul, Int.reduceNeg, e202_0, e202_1, e202_4, e202_5, e202_8, e202_9, e202_10, e202_11, e202_12, e202_15, e202_16, e202_17, e202_20, e202_21, p_al0, p_cv0_0, p_cv0_1, p_cv0_2, p_cv0_3, p_cv0_4, zK_v, zK_0, WN_ncl, p_il1, p_ceq, p_push, p_ret1, p_dupi, p_dupr, p_getI, p_bin, p_putI, WN_nx, WN_nrt, WN_ite, t, hc]
theorem dA_neg {s : Nat} (h : dA ts tl s < 0) : ¬ (48 ≤ sA ts tl s ∧ sA ts tl s ≤ 57) := by
  intro c
  unfold dA at h
  rw [if_pos c] at h
  omega
theorem dA_pos {s : Nat} (h : ¬ dA ts tl s < 0) : (48 ≤ sA ts tl s ∧ sA ts tl s ≤ 57) ∧ dA ts tl s = sA ts tl s - 48 := by
  by_cases c : 48 ≤ sA ts tl s ∧ sA ts tl s ≤ 57
  · exact ⟨c, by unfold dA; rw [if_pos c]⟩
  · exfalso
    apply h
    unfold dA
    rw [if_neg c]
    omega
theorem t_figN {s p : Nat} {q m : Int} (hs : zTt ts tl) (h : zTm τ ts tl) (hr : r = (s : Int)) (hi : s < 900) (hd : dA ts tl s < 0) : WM 203 [.inr (.inl (some 3553)), .inl q, .inl m] (3565, x, zrho) (zg (ztk τ r f) w) Q = Q (.inl (some (.inl 0))) (3565, x, zrho) (zg (ztk τ r f) w) := by
  show Wp 203 0 [some (.inr (.inl (some 3553))), some (.inl q), some (.inl m), none] [] _ _ Q = _
  have k := zm_k
  have b := sA_in hs s
  have t := fun (Q : ZO → ZT → ZI → Prop) => t_hereM (x := x) (Q := Q) (w := w) (f := f) hs h hr (by omega)
  have ti := fun (Q : ZO → ZT → ZI → Prop) (σ : ZI) (θ : ZT) => t_in (Q := Q) (θ := θ) (σ := σ) (a := sA ts tl s) (b := 48) (c := 57) (by omega) (by omega) (by omega)
  rw [if_neg (dA_neg hd)] at ti
  simp (disch := first | assumption | exact p_c2i | exact p_c2r | exact p_c2n | omega | ((repeat (first | refine p_a1i.trans ?_ | refine p_a1r.trans ?_)); exact p_a10) | ((repeat (first | refine p_wI ?_ | refine p_wR ?_)); exact p_w0) | decide) only [reduceIte, Int.reduceLT, Int.reduceLE, Int.reduceEq, Int.reduceToNat, Int.reduceAdd, Int.reduceSub, Int.reduceMul, Int.reduceNeg, e203_0, e203_1, e203_4, e203_6, e203_8, e203_11, e203_14, e203_15, p_al0, p_cv0_0, p_cv0_1, p_cv0_2, p_cv0_3, p_cv0_4, zK_v, zK_0, WN_ncl, p_push, p_cs3_0, p_cs3_1, p_cs3_2, p_cs3_3, p_cs3_4, p_ifne, p_ret1, WN_nx, WN_nrt, WN_ite, t, ti]
theorem wu_u {g : zW} {p : Nat} {u v : Int} : wu (wu g p u) p v = wu g p v := by
  funext j
  unfold wu
  split <;> rfl
theorem t_fig1 {s p : Nat} {q : Int} (hs : zTt ts tl) (h : zTm τ ts tl) (hr : r = (s : Int)) (hi : s < 900) (hd : ¬ dA ts tl s < 0) (hq : q = (p : Int)) (hp : p < 124) : WM 203 [.inr (.inl (some 3553)), .inl q, .inl 1] (3565, x, zrho) (zg (ztk τ r f) w) Q = Q (.inl (some (.inl 1))) (3565, x, zrho) (zg (ztk τ (r + 1) (wu f p (dA ts tl s))) w) := by
  subst hq
  show Wp 203 0 [some (.inr (.inl (some 3553))), some (.inl ((p : Int))), some (.inl 1), none] [] _ _ Q = _
  have k := zm_k
  have k4 := zt_m4
  have n4 := zt_m5
  have b := sA_in hs s
  obtain ⟨hd1, hd2⟩ := dA_pos hd
  have t := fun (Q : ZO → ZT → ZI → Prop) (f : Nat → Int) => t_hereM (x := x) (Q := Q) (w := w) (f := f) hs h hr (by omega)
  have ti := fun (Q : ZO → ZT → ZI → Prop) (σ : ZI) (θ : ZT) => t_in (Q := Q) (θ := θ) (σ := σ) (a := sA ts tl s) (b := 48) (c := 57) (by omega) (by omega) (by omega)
  rw [if_pos hd1] at ti
  have e : 10 * (0 : Int) + sA ts tl s - 48 = dA ts tl s := by omega
  have e2 : (0 : Int) + sA ts tl s - 48 = dA ts tl s := by omega
  simp (disch := first | assumption | exact p_c2i | exact p_c2r | exact p_c2n | omega | ((repeat (first | refine p_a1i.trans ?_ | refine p_a1r.trans ?_)); exact p_a10) | ((repeat (first | refine p_wI ?_ | refine p_wR ?_)); exact p_w0) | decide) only [reduceIte, Int.reduceLT, Int.reduceLE, Int.reduceEq, Int.reduceToNat, Int.reduceAdd, Int.reduceSub, Int.reduceMul, Int.reduceNeg, e203_0, e203_1, e203_4, e203_6, e203_8, e203_11, e203_14, e203_15, e203_16, e203_17, e203_20, e203_21, e203_22, e203_23, e203_24, e203_25, e203_26, e203_27, e203_30, e203_31, e203_34, e203_36, e203_38, e203_41, e203_44, e203_45, e203_48, e203_49, e203_51, e203_52, e203_55, e203_56, e203_57, e203_58, e203_59, e203_62, e203_63, e203_65, e203_66, e203_67, e203_68, e203_69, e203_72, e203_73, e203_74, e203_77, e203_80, e203_83, e203_84, p_al0, p_cv0_0, p_cv0_1, p_cv0_2, p_cv0_3, p_cv0_4, zK_v, zK_0, WN_ncl, p_push, p_cs3_0, p_cs3_1, p_cs3_2, p_cs3_3, p_cs3_4, p_ifne, p_ret1, p_getR, p_il1, p_iast, p_is3, p_c2n, p_c2i, p_c2r, p_il3, p_il2, p_cge, p_ifeq, p_iald, p_bin, p_dupi, p_dupr, p_getI, p_putI, p_ii3, p_goto, WN_nx, WN_nrt, WN_ite, t, ti, zt_m6, ztk_g, zg_t, wu_s, Int.toNat_natCast, zg_o3, ztk_r, ztk_gr, e, e2, wu_u]
theorem t_fig2 {s p : Nat} {q : Int} (hs : zTt ts tl) (h : zTm τ ts tl) (hr : r = (s : Int)) (hi : s < 900) (hd : ¬ dA ts tl s < 0) (hq : q = (p : Int)) (hp : p < 124) : WM 203 [.inr (.inl (some 3553)), .inl q, .inl 2] (3565, x, zrho) (zg (ztk τ r f) w) Q = Q (.inl (some (.inl 1))) (3565, x, zrho) (zg (ztk τ (if dA ts tl (s + 1) < 0 then r + 1 else r + 1 + 1) (wu f p (if dA ts tl (s + 1) < 0 then dA ts tl s else 10 * dA ts tl s + dA ts tl (s + 1)))) w) := by
  subst hq
  show Wp 203 0 [some (.inr (.inl (some 3553))), some (.inl ((p : Int))), some (.inl 2), none] [] _ _ Q = _
  have k := zm_k
  have k4 := zt_m4
  have n4 := zt_m5
  have b := sA_in hs s
  have b1 := sA_in hs (s + 1)
  obtain ⟨hd1, hd2⟩ := dA_pos hd
  have t := fun (Q : ZO → ZT → ZI → Prop) (f : Nat → Int) => t_hereM (x := x) (Q := Q) (w := w) (f := f) hs h hr (by omega)
  have t1 := fun (Q : ZO → ZT → ZI → Prop) (f : Nat → Int) => t_hereM (x := x) (Q := Q) (w := w) (f := f) (r := r + 1) (s := s + 1) hs h (by omega) (by omega)
  have ti := fun (Q : ZO → ZT → ZI → Prop) (σ : ZI) (θ : ZT) => t_in (Q := Q) (θ := θ) (σ := σ) (a := sA ts tl s) (b := 48) (c := 57) (by omega) (by omega) (by omega)
  have tj := fun (Q : ZO → ZT → ZI → Prop) (σ : ZI) (θ : ZT) => t_in (Q := Q) (θ := θ) (σ := σ) (a := sA ts tl (s + 1)) (b := 48) (c := 57) (by omega) (by omega) (by omega)
  rw [if_pos hd1] at ti
  have e : 10 * (0 : Int) + sA ts tl s - 48 = dA ts tl s := by omega
  have e2 : (0 : Int) + sA ts tl s - 48 = dA ts tl s := by omega
  have bd := dA_in (ts := ts) (tl := tl) s
  by_cases c : dA ts tl (s + 1) < 0
  · rw [if_neg (dA_neg c)] at tj
    rw [if_pos c, if_pos c]
    simp (disch := first | assumption | exact p_c2i | exact p_c2r | exact p_c2n | omega | ((repeat (first | refine p_a1i.trans ?_ | refine p_a1r.trans ?_)); exact p_a10) | ((repeat (first | refine p_wI ?_ | refine p_wR ?_)); exact p_w0) | decide) only [reduceIte, Int.reduceLT, Int.reduceLE, Int.reduceEq, Int.reduceToNat, Int.reduceAdd, Int.reduceSub, Int.reduceMul, Int.reduceNeg, e203_0, e203_1, e203_4, e203_6, e203_8, e203_11, e203_14, e203_15, e203_16, e203_17, e203_20, e203_21, e203_22, e203_23, e203_24, e203_25, e203_26, e203_27, e203_30, e203_31, e203_34, e203_36, e203_38, e203_41, e203_44, e203_45, e203_48, e203_49, e203_51, e203_52, e203_55, e203_56, e203_57, e203_58, e203_59, e203_62, e203_63, e203_65, e203_66, e203_67, e203_68, e203_69, e203_72, e203_73, e203_74, e203_77, e203_80, e203_83, e203_84, p_al0, p_cv0_0, p_cv0_1, p_cv0_2, p_cv0_3, p_cv0_4, zK_v, zK_0, WN_ncl, p_push, p_cs3_0, p_cs3_1, p_cs3_2, p_cs3_3, p_cs3_4, p_ifne, p_ret1, p_getR, p_il1, p_iast, p_is3, p_c2n, p_c2i, p_c2r, p_il3, p_il2, p_cge, p_ifeq, p_iald, p_bin, p_dupi, p_dupr, p_getI, p_putI, p_ii3, p_goto, WN_nx, WN_nrt, WN_ite, t, ti, t1, tj, zt_m6, ztk_g, zg_t, wu_s, Int.toNat_natCast, zg_o3, ztk_r, ztk_gr, e, e2, wu_u]
  · obtain ⟨hd3, hd4⟩ := dA_pos c
    rw [if_pos hd3] at tj
    rw [if_neg c, if_neg c]
    have e3 : 10 * dA ts tl s + sA ts tl (s + 1) - 48 = 10 * dA ts tl s + dA ts tl (s + 1) := by omega
    simp (disch := first | assumption | exact p_c2i | exact p_c2r | exact p_c2n | omega | ((repeat (first | refine p_a1i.trans ?_ | refine p_a1r.trans ?_)); exact p_a10) | ((repeat (first | refine p_wI ?_ | refine p_wR ?_)); exact p_w0) | decide) only [reduceIte, Int.reduceLT, Int.reduceLE, Int.reduceEq, Int.reduceToNat, Int.reduceAdd, Int.reduceSub, Int.reduceMul, Int.reduceNeg, e203_0, e203_1, e203_4, e203_6, e203_8, e203_11, e203_14, e203_15, e203_16, e203_17, e203_20, e203_21, e203_22, e203_23, e203_24, e203_25, e203_26, e203_27, e203_30, e203_31, e203_34, e203_36, e203_38, e203_41, e203_44, e203_45, e203_48, e203_49, e203_51, e203_52, e203_55, e203_56, e203_57, e203_58, e203_59, e203_62, e203_63, e203_65, e203_66, e203_67, e203_68, e203_69, e203_72, e203_73, e203_74, e203_77, e203_80, e203_83, e203_84, p_al0, p_cv0_0, p_cv0_1, p_cv0_2, p_cv0_3, p_cv0_4, zK_v, zK_0, WN_ncl, p_push, p_cs3_0, p_cs3_1, p_cs3_2, p_cs3_3, p_cs3_4, p_ifne, p_ret1, p_getR, p_il1, p_iast, p_is3, p_c2n, p_c2i, p_c2r, p_il3, p_il2, p_cge, p_ifeq, p_iald, p_bin, p_dupi, p_dupr, p_getI, p_putI, p_ii3, p_goto, WN_nx, WN_nrt, WN_ite, t, ti, t1, tj, zt_m6, ztk_g, zg_t, wu_s, Int.toNat_natCast, zg_o3, ztk_r, ztk_gr, e, e2, e3, wu_u]
theorem t_letH0 {s p : Nat} {q : Int} (hs : zTt ts tl) (h : zTm τ ts tl) (hx : zTx τ) (hr : r = (s : Int)) (hi : s < 900) (hd : hIx (sA ts tl s) < 0) (hq : q = (p : Int)) (hp : p < 124) : WM 204 [.inr (.inl (some 3553)), .inl q, .inr (.inl (some 11))] (3565, x, zrho) (zg (ztk τ r f) w) Q = Q (.inl (some (.inl 0))) (3565, x, zrho) (zg (ztk τ r f) w) := by
  show Wp 204 0 [some (.inr (.inl (some 3553))), some (.inl q), some (.inr (.inl (some 11))), none] [] _ _ Q = _
  have k := zm_k
  have hx2 := zTx_g (r := r) (f := f) (w := w) hx
  unfold hIx at hd
  have c1 : sA ts tl s ≠ 117 := fun z => by rw [if_pos z] at hd; omega
  rw [if_neg c1] at hd
  have c2 : sA ts tl s ≠ 114 := fun z => by rw [if_pos z] at hd; omega
  rw [if_neg c2] at hd
  have c3 : sA ts tl s ≠ 100 := fun z => by rw [if_pos z] at hd; omega
  rw [if_neg c3] at hd
  have c4 : sA ts tl s ≠ 108 := fun z => by rw [if_pos z] at hd; omega
  have n1 := fun (Q : ZO → ZT → ZI → Prop) => t_skipN (x := x) (Q := Q) (w := w) (f := f) hs h hr hi c1 (by omega)
  have n2 := fun (Q : ZO → ZT → ZI → Prop) => t_skipN (x := x) (Q := Q) (w := w) (f := f) hs h hr hi c2 (by omega)
  have n3 := fun (Q : ZO → ZT → ZI → Prop) => t_skipN (x := x) (Q := Q) (w := w) (f := f) hs h hr hi c3 (by omega)
  have n4 := fun (Q : ZO → ZT → ZI → Prop) => t_skipN (x := x) (Q := Q) (w := w) (f := f) hs h hr hi c4 (by omega)
  simp (disch := first | assumption | exact p_c2i | exact p_c2r | exact p_c2n | omega | ((repeat (first | refine p_a1i.trans ?_ | refine p_a1r.trans ?_)); exact p_a10) | ((repeat (first | refine p_wI ?_ | refine p_wR ?_)); exact p_w0) | decide) only [reduceIte, Int.reduceLT, Int.reduceLE, Int.reduceEq, Int.reduceToNat, Int.reduceAdd, Int.reduceSub, Int.reduceMul, Int.reduceNeg, e204_0, e204_1, e204_2, e204_3, e204_4, e204_7, e204_10, e204_11, e204_12, e204_13, e204_16, e204_19, e204_22, e204_25, e204_26, e204_29, e204_30, e204_31, e204_32, e204_33, e204_34, e204_37, e204_40, e204_41, p_push, p_is3, p_c2n, p_c2i, p_c2r, p_il3, p_al2, p_cv0_0, p_cv0_1, p_cv0_2, p_cv0_3, p_cv0_4, zK_v, zK_0, WN_ncl, p_cge, p_al0, p_cv1_0, p_cv1_1, p_cv1_2, p_cv1_3, p_cv1_4, p_ifne, p_goto, p_getR, p_il1, p_iast, p_ret1, p_ii3, WN_nx, WN_nrt, WN_ite, t_l11, t_c11_0 hx2, t_c11_1 hx2, t_c11_2 hx2, t_c11_3 hx2, n1, n2, n3, n4]
theorem t_letT0 {s p : Nat} {q : Int} (hs : zTt ts tl) (h : zTm τ ts tl) (hx : zTx τ) (hr : r = (s : Int)) (hi : s < 900) (hd : tIx (sA ts tl s) < 0) (hq : q = (p : Int)) (hp : p < 124) : WM 204 [.inr (.inl (some 3553)), .inl q, .inr (.inl (some 10))] (3565, x, zrho) (zg (ztk τ r f) w) Q = Q (.inl (some (.inl 0))) (3565, x, zrho) (zg (ztk τ r f) w) := by
  show Wp 204 0 [some (.inr (.inl (some 3553))), some (.inl q), some (.inr (.inl (some 10))), none] [] _ _ Q = _
  have k := zm_k
  have hx2 := zTx_g (r := r) (f := f) (w := w) hx
  unfold tIx at hd
  have c1 : sA ts tl s ≠ 78 := fun z => by rw [if_pos z] at hd; omega
  rw [if_neg c1] at hd
  have c2 : sA ts tl s ≠ 82 := fun z => by rw [if_pos z] at hd; omega
  rw [if_neg c2] at hd
  have c3 : sA ts tl s ≠ 76 := fun z => by rw [if_pos z] at hd; omega
  rw [if_neg c3] at hd
  have c4 : sA ts tl s ≠ 85 := fun z => by rw [if_pos z] at hd; omega
  have n1 := fun (Q : ZO → ZT → ZI → Prop) => t_skipN (x := x) (Q := Q) (w := w) (f := f) hs h hr hi c1 (by omega)
  have n2 := fun (Q : ZO → ZT → ZI → Prop) => t_skipN (x := x) (Q := Q) (w := w) (f := f) hs h hr hi c2 (by omega)
  have n3 := fun (Q : ZO → ZT → ZI → Prop) => t_skipN (x := x) (Q := Q) (w := w) (f := f) hs h hr hi c3 (by omega)
  have n4 := fun (Q : ZO → ZT → ZI → Prop) => t_skipN (x := x) (Q := Q) (w := w) (f := f) hs h hr hi c4 (by omega)
  simp (disch := first | assumption | exact p_c2i | exact p_c2r | exact p_c2n | omega | ((repeat (first | refine p_a1i.trans ?_ | refine p_a1r.trans ?_)); exact p_a10) | ((repeat (first | refine p_wI ?_ | refine p_wR ?_)); exact p_w0) | decide) only [reduceIte, Int.reduceLT, Int.reduceLE, Int.reduceEq, Int.reduceToNat, Int.reduceAdd, Int.reduceSub, Int.reduceMul, Int.reduceNeg, e204_0, e204_1, e204_2, e204_3, e204_4, e204_7, e204_10, e204_11, e204_12, e204_13, e204_16, e204_19, e204_22, e204_25, e204_26, e204_29, e204_30, e204_31, e204_32, e204_33, e204_34, e204_37, e204_40, e204_41, p_push, p_is3, p_c2n, p_c2i, p_c2r, p_il3, p_al2, p_cv0_0, p_cv0_1, p_cv0_2, p_cv0_3, p_cv0_4, zK_v, zK_0, WN_ncl, p_cge, p_al0, p_cv1_0, p_cv1_1, p_cv1_2, p_cv1_3, p_cv1_4, p_ifne, p_goto, p_getR, p_il1, p_iast, p_ret1, p_ii3, WN_nx, WN_nrt, WN_ite, t_l10, t_c10_0 hx2, t_c10_1 hx2, t_c10_2 hx2, t_c10_3 hx2, n1, n2, n3, n4]
theorem t_letH1 {s p : Nat} {q : Int} (hs : zTt ts tl) (h : zTm τ ts tl) (hx : zTx τ) (hr : r = (s : Int)) (hi : s < 900) (hd : ¬ hIx (sA ts tl s) < 0) (hq : q = (p : Int)) (hp : p < 124) : WM 204 [.inr (.inl (some 3553)), .inl q, .inr (.inl (some 11))] (3565, x, zrho) (zg (ztk τ r f) w) Q = Q (.inl (some (.inl 1))) (3565, x, zrho) (zg (ztk τ (r + 1) (wu f p (hIx (sA ts tl s)))) w) := by
  subst hq
  show Wp 204 0 [some (.inr (.inl (some 3553))), some (.inl ((p : Int))), some (.inr (.inl (some 11))), none] [] _ _ Q = _
  have k := zm_k
  have k4 := zt_m4
  have n4 := zt_m5
  have hx2 := zTx_g (r := r) (f := f) (w := w) hx
  by_cases c0 : sA ts tl s = 117
  · have y := fun (Q : ZO → ZT → ZI → Prop) => t_skipY (x := x) (Q := Q) (w := w) (f := f) hs h hr hi c0
    rw [c0, show hIx 117 = 0 from rfl]
    simp (disch := first | assumption | exact p_c2i | exact p_c2r | exact p_c2n | omega | ((repeat (first | refine p_a1i.trans ?_ | refine p_a1r.trans ?_)); exact p_a10) | ((repeat (first | refine p_wI ?_ | refine p_wR ?_)); exact p_w0) | decide) only [reduceIte, Int.reduceLT, Int.reduceLE, Int.reduceEq, Int.reduceToNat, Int.reduceAdd, Int.reduceSub, Int.reduceMul, Int.reduceNeg, e204_0, e204_1, e204_2, e204_3, e204_4, e204_7, e204_10, e204_11, e204_12, e204_13, e204_16, e204_19, e204_22, e204_25, e204_26, e204_29, e204_30, e204_31, e204_32, e204_33, e204_34, e204_37, e204_40, e204_41, p_push, p_is3, p_c2n, p_c2i, p_c2r, p_il3, p_al2, p_cv0_0, p_cv0_1, p_cv0_2, p_cv0_3, p_cv0_4, zK_v, zK_0, WN_ncl, p_cge, p_al0, p_cv1_0, p_cv1_1, p_cv1_2, p_cv1_3, p_cv1_4, p_ifne, p_goto, p_getR, p_il1, p_iast, p_ret1, p_ii3, WN_nx, WN_nrt, WN_ite, t_l11, t_c11_0 hx2, t_c11_1 hx2, t_c11_2 hx2, t_c11_3 hx2, y, zt_m6, ztk_g, Int.toNat_natCast]
  · have n10 := fun (Q : ZO → ZT → ZI → Prop) => t_skipN (x := x) (Q := Q) (w := w) (f := f) hs h hr hi c0 (by omega)
    by_cases c1 : sA ts tl s = 114
    · have y := fun (Q : ZO → ZT → ZI → Prop) => t_skipY (x := x) (Q := Q) (w := w) (f := f) hs h hr hi c1
      rw [c1, show hIx 114 = 1 from rfl]
      simp (disch := first | assumption | exact p_c2i | exact p_c2r | exact p_c2n | omega | ((repeat (first | refine p_a1i.trans ?_ | refine p_a1r.trans ?_)); exact p_a10) | ((repeat (first | refine p_wI ?_ | refine p_wR ?_)); exact p_w0) | decide) only [reduceIte, Int.reduceLT, Int.reduceLE, Int.reduceEq, Int.reduceToNat, Int.reduceAdd, Int.reduceSub, Int.reduceMul, Int.reduceNeg, e204_0, e204_1, e204_2, e204_3, e204_4, e204_7, e204_10, e204_11, e204_12, e204_13, e204_16, e204_19, e204_22, e204_25, e204_26, e204_29, e204_30, e204_31, e204_32, e204_33, e204_34, e204_37, e204_40, e204_41, p_push, p_is3, p_c2n, p_c2i, p_c2r, p_il3, p_al2, p_cv0_0, p_cv0_1, p_cv0_2, p_cv0_3, p_cv0_4, zK_v, zK_0, WN_ncl, p_cge, p_al0, p_cv1_0, p_cv1_1, p_cv1_2, p_cv1_3, p_cv1_4, p_ifne, p_goto, p_getR, p_il1, p_iast, p_ret1, p_ii3, WN_nx, WN_nrt, WN_ite, t_l11, t_c11_0 hx2, t_c11_1 hx2, t_c11_2 hx2, t_c11_3 hx2, n10, y, zt_m6, ztk_g, Int.toNat_natCast]
    · have n11 := fun (Q : ZO → ZT → ZI → Prop) => t_skipN (x := x) (Q := Q) (w := w) (f := f) hs h hr hi c1 (by omega)
      by_cases c2 : sA ts tl s = 100
      · have y := fun (Q : ZO → ZT → ZI → Prop) => t_skipY (x := x) (Q := Q) (w := w) (f := f) hs h hr hi c2
        rw [c2, show hIx 100 = 2 from rfl]
        simp (disch := first | assumption | exact p_c2i | exact p_c2r | exact p_c2n | omega | ((repeat (first | refine p_a1i.trans ?_ | refine p_a1r.trans ?_)); exact p_a10) | ((repeat (first | refine p_wI ?_ | refine p_wR ?_)); exact p_w0) | decide) only [reduceIte, Int.reduceLT, Int.reduceLE, Int.reduceEq, Int.reduceToNat, Int.reduceAdd, Int.reduceSub, Int.reduceMul, Int.reduceNeg, e204_0, e204_1, e204_2, e204_3, e204_4, e204_7, e204_10, e204_11, e204_12, e204_13, e204_16, e204_19, e204_22, e204_25, e204_26, e204_29, e204_30, e204_31, e204_32, e204_33, e204_34, e204_37, e204_40, e204_41, p_push, p_is3, p_c2n, p_c2i, p_c2r, p_il3, p_al2, p_cv0_0, p_cv0_1, p_cv0_2, p_cv0_3, p_cv0_4, zK_v, zK_0, WN_ncl, p_cge, p_al0, p_cv1_0, p_cv1_1, p_cv1_2, p_cv1_3, p_cv1_4, p_ifne, p_goto, p_getR, p_il1, p_iast, p_ret1, p_ii3, WN_nx, WN_nrt, WN_ite, t_l11, t_c11_0 hx2, t_c11_1 hx2, t_c11_2 hx2, t_c11_3 hx2, n10, n11, y, zt_m6, ztk_g, Int.toNat_natCast]
      · have n12 := fun (Q : ZO → ZT → ZI → Prop) => t_skipN (x := x) (Q := Q) (w := w) (f := f) hs h hr hi c2 (by omega)
        by_cases c3 : sA ts tl s = 108
        · have y := fun (Q : ZO → ZT → ZI → Prop) => t_skipY (x := x) (Q := Q) (w := w) (f := f) hs h hr hi c3
          rw [c3, show hIx 108 = 3 from rfl]
          simp (disch := first | assumption | exact p_c2i | exact p_c2r | exact p_c2n | omega | ((repeat (first | refine p_a1i.trans ?_ | refine p_a1r.trans ?_)); exact p_a10) | ((repeat (first | refine p_wI ?_ | refine p_wR ?_)); exact p_w0) | decide) only [reduceIte, Int.reduceLT, Int.reduceLE, Int.reduceEq, Int.reduceToNat, Int.reduceAdd, Int.reduceSub, Int.reduceMul, Int.reduceNeg, e204_0, e204_1, e204_2, e204_3, e204_4, e204_7, e204_10, e204_11, e204_12, e204_13, e204_16, e204_19, e204_22, e204_25, e204_26, e204_29, e204_30, e204_31, e204_32, e204_33, e204_34, e204_37, e204_40, e204_41, p_push, p_is3, p_c2n, p_c2i, p_c2r, p_il3, p_al2, p_cv0_0, p_cv0_1, p_cv0_2, p_cv0_3, p_cv0_4, zK_v, zK_0, WN_ncl, p_cge, p_al0, p_cv1_0, p_cv1_1, p_cv1_2, p_cv1_3, p_cv1_4, p_ifne, p_goto, p_getR, p_il1, p_iast, p_ret1, p_ii3, WN_nx, WN_nrt, WN_ite, t_l11, t_c11_0 hx2, t_c11_1 hx2, t_c11_2 hx2, t_c11_3 hx2, n10, n11, n12, y, zt_m6, ztk_g, Int.toNat_natCast]
        · have n13 := fun (Q : ZO → ZT → ZI → Prop) => t_skipN (x := x) (Q := Q) (w := w) (f := f) hs h hr hi c3 (by omega)
          exfalso
          apply hd
          unfold hIx
          rw [if_neg c0, if_neg c1, if_neg c2, if_neg c3]
          omega
theorem t_letT1 {s p : Nat} {q : Int} (hs : zTt ts tl) (h : zTm τ ts tl) (hx : zTx τ) (hr : r = (s : Int)) (hi : s < 900) (hd : ¬ tIx (sA ts tl s) < 0) (hq : q = (p : Int)) (hp : p < 124) : WM 204 [.inr (.inl (some 3553)), .inl q, .inr (.inl (some 10))] (3565, x, zrho) (zg (ztk τ r f) w) Q = Q (.inl (some (.inl 1))) (3565, x, zrho) (zg (ztk τ (r + 1) (wu f p (tIx (sA ts tl s)))) w) := by
  subst hq
  show Wp 204 0 [some (.inr (.inl (some 3553))), some (.inl ((p : Int))), some (.inr (.inl (some 10))), none] [] _ _ Q = _
  have k := zm_k
  have k4 := zt_m4
  have n4 := zt_m5
  have hx2 := zTx_g (r := r) (f := f) (w := w) hx
  by_cases c0 : sA ts tl s = 78
  · have y := fun (Q : ZO → ZT → ZI → Prop) => t_skipY (x := x) (Q := Q) (w := w) (f := f) hs h hr hi c0
    rw [c0, show tIx 78 = 0 from rfl]
    simp (disch := first | assumption | exact p_c2i | exact p_c2r | exact p_c2n | omega | ((repeat (first | refine p_a1i.trans ?_ | refine p_a1r.trans ?_)); exact p_a10) | ((repeat (first | refine p_wI ?_ | refine p_wR ?_)); exact p_w0) | decide) only [reduceIte, Int.reduceLT, Int.reduceLE, Int.reduceEq, Int.reduceToNat, Int.reduceAdd, Int.reduceSub, Int.reduceMul, Int.reduceNeg, e204_0, e204_1, e204_2, e204_3, e204_4, e204_7, e204_10, e204_11, e204_12, e204_13, e204_16, e204_19, e204_22, e204_25, e204_26, e204_29, e204_30, e204_31, e204_32, e204_33, e204_34, e204_37, e204_40, e204_41, p_push, p_is3, p_c2n, p_c2i, p_c2r, p_il3, p_al2, p_cv0_0, p_cv0_1, p_cv0_2, p_cv0_3, p_cv0_4, zK_v, zK_0, WN_ncl, p_cge, p_al0, p_cv1_0, p_cv1_1, p_cv1_2, p_cv1_3, p_cv1_4, p_ifne, p_goto, p_getR, p_il1, p_iast, p_ret1, p_ii3, WN_nx, WN_nrt, WN_ite, t_l10, t_c10_0 hx2, t_c10_1 hx2, t_c10_2 hx2, t_c10_3 hx2, y, zt_m6, ztk_g, Int.toNat_natCast]
  · have n10 := fun (Q : ZO → ZT → ZI → Prop) => t_skipN (x := x) (Q := Q) (w := w) (f := f) hs h hr hi c0 (by omega)
    by_cases c1 : sA ts tl s = 82
    · have y := fun (Q : ZO → ZT → ZI → Prop) => t_skipY (x := x) (Q := Q) (w := w) (f := f) hs h hr hi c1
      rw [c1, show tIx 82 = 1 from rfl]
      simp (disch := first | assumption | exact p_c2i | exact p_c2r | exact p_c2n | omega | ((repeat (first | refine p_a1i.trans ?_ | refine p_a1r.trans ?_)); exact p_a10) | ((repeat (first | refine p_wI ?_ | refine p_wR ?_)); exact p_w0) | decide) only [reduceIte, Int.reduceLT, Int.reduceLE, Int.reduceEq, Int.reduceToNat, Int.reduceAdd, Int.reduceSub, Int.reduceMul, Int.reduceNeg, e204_0, e204_1, e204_2, e204_3, e204_4, e204_7, e204_10, e204_11, e204_12, e204_13, e204_16, e204_19, e204_22, e204_25, e204_26, e204_29, e204_30, e204_31, e204_32, e204_33, e204_34, e204_37, e204_40, e204_41, p_push, p_is3, p_c2n, p_c2i, p_c2r, p_il3, p_al2, p_cv0_0, p_cv0_1, p_cv0_2, p_cv0_3, p_cv0_4, zK_v, zK_0, WN_ncl, p_cge, p_al0, p_cv1_0, p_cv1_1, p_cv1_2, p_cv1_3, p_cv1_4, p_ifne, p_goto, p_getR, p_il1, p_iast, p_ret1, p_ii3, WN_nx, WN_nrt, WN_ite, t_l10, t_c10_0 hx2, t_c10_1 hx2, t_c10_2 hx2, t_c10_3 hx2, n10, y, zt_m6, ztk_g, Int.toNat_natCast]
    · have n11 := fun (Q : ZO → ZT → ZI → Prop) => t_skipN (x := x) (Q := Q) (w := w) (f := f) hs h hr hi c1 (by omega)
      by_cases c2 : sA ts tl s = 76
      · have y := fun (Q : ZO → ZT → ZI → Prop) => t_skipY (x := x) (Q := Q) (w := w) (f := f) hs h hr hi c2
        rw [c2, show tIx 76 = 2 from rfl]
        simp (disch := first | assumption | exact p_c2i | exact p_c2r | exact p_c2n | omega | ((repeat (first | refine p_a1i.trans ?_ | refine p_a1r.trans ?_)); exact p_a10) | ((repeat (first | refine p_wI ?_ | refine p_wR ?_)); exact p_w0) | decide) only [reduceIte, Int.reduceLT, Int.reduceLE, Int.reduceEq, Int.reduceToNat, Int.reduceAdd, Int.reduceSub, Int.reduceMul, Int.reduceNeg, e204_0, e204_1, e204_2, e204_3, e204_4, e204_7, e204_10, e204_11, e204_12, e204_13, e204_16, e204_19, e204_22, e204_25, e204_26, e204_29, e204_30, e204_31, e204_32, e204_33, e204_34, e204_37, e204_40, e204_41, p_push, p_is3, p_c2n, p_c2i, p_c2r, p_il3, p_al2, p_cv0_0, p_cv0_1, p_cv0_2, p_cv0_3, p_cv0_4, zK_v, zK_0, WN_ncl, p_cge, p_al0, p_cv1_0, p_cv1_1, p_cv1_2, p_cv1_3, p_cv1_4, p_ifne, p_goto, p_getR, p_il1, p_iast, p_ret1, p_ii3, WN_nx, WN_nrt, WN_ite, t_l10, t_c10_0 hx2, t_c10_1 hx2, t_c10_2 hx2, t_c10_3 hx2, n10, n11, y, zt_m6, ztk_g, Int.toNat_natCast]
      · have n12 := fun (Q : ZO → ZT → ZI → Prop) => t_skipN (x := x) (Q := Q) (w := w) (f := f) hs h hr hi c2 (by omega)
        by_cases c3 : sA ts tl s = 85
        · have y := fun (Q : ZO → ZT → ZI → Prop) => t_skipY (x := x) (Q := Q) (w := w) (f := f) hs h hr hi c3
          rw [c3, show tIx 85 = 3 from rfl]
          simp (disch := first | assumption | exact p_c2i | exact p_c2r | exact p_c2n | omega | ((repeat (first | refine p_a1i.trans ?_ | refine p_a1r.trans ?_)); exact p_a10) | ((repeat (first | refine p_wI ?_ | refine p_wR ?_)); exact p_w0) | decide) only [reduceIte, Int.reduceLT, Int.reduceLE, Int.reduceEq, Int.reduceToNat, Int.reduceAdd, Int.reduceSub, Int.reduceMul, Int.reduceNeg, e204_0, e204_1, e204_2, e204_3, e204_4, e204_7, e204_10, e204_11, e204_12, e204_13, e204_16, e204_19, e204_22, e204_25, e204_26, e204_29, e204_30, e204_31, e204_32, e204_33, e204_34, e204_37, e204_40, e204_41, p_push, p_is3, p_c2n, p_c2i, p_c2r, p_il3, p_al2, p_cv0_0, p_cv0_1, p_cv0_2, p_cv0_3, p_cv0_4, zK_v, zK_0, WN_ncl, p_cge, p_al0, p_cv1_0, p_cv1_1, p_cv1_2, p_cv1_3, p_cv1_4, p_ifne, p_goto, p_getR, p_il1, p_iast, p_ret1, p_ii3, WN_nx, WN_nrt, WN_ite, t_l10, t_c10_0 hx2, t_c10_1 hx2, t_c10_2 hx2, t_c10_3 hx2, n10, n11, n12, y, zt_m6, ztk_g, Int.toNat_natCast]
        · have n13 := fun (Q : ZO → ZT → ZI → Prop) => t_skipN (x := x) (Q := Q) (w := w) (f := f) hs h hr hi c3 (by omega)
          exfalso
          apply hd
          unfold tIx
          rw [if_neg c0, if_neg c1, if_neg c2, if_neg c3]
          omega
end
