/-! THE MODEL: the eight orders -/
theorem wu_c {w : zW} {a b : Nat} {u v : Int} (h : a ≠ b) : wu (wu w a u) b v = wu (wu w b v) a u := by
  funext j
  unfold wu
  by_cases h1 : j = a
  · by_cases h2 : j = b
    · omega
    · rw [if_neg h2, if_pos h1, if_pos h1]
  · rw [if_neg h1, if_neg h1]
/-- what an order tells of itself: its code, a reason, a number -/
def zOp (τ τ' : ZI) (u : zW) (o : Int × Int × Int) : Prop := τ' 3553 8 = o.1 ∧ (τ' 3553 9 = if o.2.1 = 0 then τ 3553 9 else o.2.1) ∧ (τ' 3553 10 = if o.2.1 = 0 then τ 3553 10 else o.2.2) ∧ (∀ k, k ≠ 6 → k ≠ 8 → k ≠ 9 → k ≠ 10 → τ' 3553 k = τ 3553 k) ∧ (∀ a, a ≠ 3553 → a ≠ 3554 → a ≠ 3555 → τ' a = τ a) ∧ ((o.1 ≠ 0 ∨ τ 3553 7 ≠ 0) → τ' 3553 6 = τ 3553 6 ∧ τ' 3555 = τ 3555) ∧ (o.1 = 0 → τ 3553 7 = 0 → ∀ kp n, zKr τ kp n → zKr τ' (aPushK kp n u) (aPushN n))
section
variable {τ τ' : ZI} {u w : zW} {p r d : Int}
theorem zOp_f (hp : p ≠ 0) : zOp τ (zup τ 3553 8 p) u (p, 0, 0) :=
  ⟨zup_s, by rw [if_pos rfl, zup_j (by omega)], by rw [if_pos rfl, zup_j (by omega)], fun k _ h _ _ => zup_j h, fun a h _ _ => zup_f h, fun _ => ⟨zup_j (by omega), zup_f (by omega)⟩, fun h => absurd h hp⟩
theorem zOp_r1 (hp : p ≠ 0) (hr : r ≠ 0) : zOp τ (zup (zup (zup τ 3553 8 p) 3553 9 r) 3553 10 d) u (p, r, d) :=
  ⟨by rw [zup_j (by omega), zup_j (by omega), zup_s], by rw [if_neg hr, zup_j (by omega), zup_s], by rw [if_neg hr, zup_s], fun k _ h1 h2 h3 => by rw [zup_j h3, zup_j h2, zup_j h1], fun a h _ _ => by rw [zup_f h, zup_f h, zup_f h], fun _ => ⟨by rw [zup_j (by omega), zup_j (by omega), zup_j (by omega)], by rw [zup_f (by omega), zup_f (by omega), zup_f (by omega)]⟩, fun h => absurd h hp⟩
theorem zOp_8 {o : Int × Int × Int} {c : Int} (h : zOp (zup τ 3553 8 c) τ' u o) : zOp τ τ' u o := by
  obtain ⟨h1, h2, h3, h4, h5, h6, h7⟩ := h
  have e : ∀ k, k ≠ 8 → zup τ 3553 8 c 3553 k = τ 3553 k := fun k hk => zup_j hk
  have e5 : zup τ 3553 8 c 3555 = τ 3555 := zup_f (by omega)
  rw [e 9 (by omega)] at h2
  rw [e 10 (by omega)] at h3
  rw [e 7 (by omega), e 6 (by omega), e5] at h6
  rw [e 7 (by omega)] at h7
  refine ⟨h1, h2, h3, fun k k1 k2 k3 k4 => (h4 k k1 k2 k3 k4).trans (e k k2), fun a a1 a2 a3 => (h5 a a1 a2 a3).trans (zup_f a1), h6, fun g1 g2 kp n hK => h7 g1 g2 kp n ?_⟩
  refine ⟨by rw [e 6 (by omega)]; exact hK.1, fun k hk j hj => by rw [e5]; exact hK.2 k hk j hj⟩
theorem zOp_k (h : zKp (zg τ w) τ' u) : zOp τ τ' u (0, 0, 0) := by
  obtain ⟨h1, h2, h3, h4, h5⟩ := h
  rw [zg_o3] at h4 h5
  rw [zg_o (by omega)] at h4
  refine ⟨h1, by rw [if_pos rfl, h2 9 (by omega) (by omega), zg_o3], by rw [if_pos rfl, h2 10 (by omega) (by omega), zg_o3], fun k k1 k2 _ _ => by rw [h2 k k1 k2, zg_o3], fun a a1 a2 a3 => by rw [h3 a a1 a3, zg_o a2], fun g => h4 (g.resolve_left (fun z => z rfl)), fun _ g kp n hK => h5 g kp n ?_⟩
  exact ⟨by rw [zg_o3]; exact hK.1, fun k hk j hj => by rw [zg_o (by omega)]; exact hK.2 k hk j hj⟩
end
def oHoe (w : zW) (r c h : Int) : Int × Int × Int := if ¬ ((0 ≤ r ∧ r < 9) ∧ (0 ≤ c ∧ c < 9)) then (1, 0, 0) else if ¬ (0 ≤ h ∧ h ≤ 3) then (2, 0, 0) else if w 0 = 4 then (3, 1, 4) else if 0 ≤ aLow w (9 * r + c) then (3, 2, aLow w (9 * r + c)) else (0, 0, 0)
def oMany (w : zW) (v : Int) : Int × Int × Int := if ¬ (2 ≤ v ∧ v ≤ 4) then (1, 0, 0) else if v = w 1 then (2, 3, v) else (0, 0, 0)
def oTurn (w : zW) (t v : Int) : Int × Int × Int := if ¬ ((0 ≤ t ∧ t ≤ 3) ∧ (0 ≤ v ∧ v ≤ 3)) then (1, 0, 0) else if w (6 + t.toNat) = v then (2, 3, v) else (0, 0, 0)
def oPaint (w : zW) (r c v : Int) : Int × Int × Int := if ¬ ((0 ≤ r ∧ r < 9) ∧ (0 ≤ c ∧ c < 9)) then (1, 0, 0) else if ¬ (0 ≤ v ∧ v < w 1) then (2, 0, 0) else if w (10 + (9 * r + c).toNat) = v then (3, 3, v) else (0, 0, 0)
def oManner (w : zW) (v : Int) : Int × Int × Int := if ¬ (0 ≤ v ∧ v ≤ 2) then (1, 0, 0) else if w 2 = v then (2, 3, v) else (0, 0, 0)
def oStep (w : zW) (v : Int) : Int × Int × Int := if ¬ (1 ≤ v ∧ v ≤ 40) then (1, 0, 0) else if w 0 = 0 then (2, 4, w 3) else (0, 0, 0)
def oBack (w : zW) : Int × Int × Int := if w 201 = 0 then (1, 5, w 200) else (0, 0, 0)
section
variable {τ σ : ZI} {Q : ZO → ZT → ZI → Prop} {x n : Nat} {w : zW} {N : Int} {θ : ZT}
theorem t_kF8 (hn : τ 3553 6 = (n : Int)) (hn8 : n ≤ 8) (h7 : τ 3553 7 = 0 ∨ τ 3553 7 = 1) (K : ∀ τ', zOp τ τ' w (0, 0, 0) → Q (.inl none) (3565, x, zrho) (zg τ' (wu w 201 0))) : WM 149 [.inr (.inl (some 3553))] (3565, x, zrho) (zg (zup τ 3553 8 0) w) Q :=
  t_keepsF (τ := zup τ 3553 8 0) (n := n) (by rw [zup_j (by omega)]; exact hn) hn8 (by rw [zup_j (by omega)]; exact h7) (fun τ' hk => K τ' (zOp_8 (zOp_k hk)))
theorem tf_0 : WM 144 [.inr (.inl (some 3553)), .inl 0] (3565, x, zrho) (zg τ w) Q = Q (.inl (some (.inl 0))) (3565, x, zrho) (zg (zup τ 3553 8 0) w) := t_fails (by omega)
theorem tf_1 : WM 144 [.inr (.inl (some 3553)), .inl 1] (3565, x, zrho) (zg τ w) Q = Q (.inl (some (.inl 1))) (3565, x, zrho) (zg (zup τ 3553 8 1) w) := t_fails (by omega)
theorem tf_2 : WM 144 [.inr (.inl (some 3553)), .inl 2] (3565, x, zrho) (zg τ w) Q = Q (.inl (some (.inl 1))) (3565, x, zrho) (zg (zup τ 3553 8 2) w) := t_fails (by omega)
theorem t_mannerM {v : Int} (ok : zok N w) (hv : -2147483648 ≤ v ∧ v < 2147483648) (hn : τ 3553 6 = (n : Int)) (hn8 : n ≤ 8) (h7 : τ 3553 7 = 0 ∨ τ 3553 7 = 1) (K0 : (oManner w v).1 ≠ 0 → ∀ τ', zOp τ τ' w (oManner w v) → Q (.inl (some (.inl 0))) (3565, x, zrho) (zg τ' w)) (K1 : (oManner w v).1 = 0 → ∀ τ', zOp τ τ' w (0, 0, 0) → Q (.inl (some (.inl (w 2)))) (3565, x, zrho) (zg τ' (wu (wu w 201 0) 2 v))) : WM 161 [.inr (.inl (some 3553)), .inl v] (3565, x, zrho) (zg τ w) Q := by
  show Wp 161 0 [some (.inr (.inl (some 3553))), some (.inl v), none] [] _ _ Q
  have k := zm_k
  have k4 := zm_4
  have n4 := zm_n4
  have o2 := ok.2.2.1
  have ti := fun (Q : ZO → ZT → ZI → Prop) (σ : ZI) (θ : ZT) => t_in (Q := Q) (θ := θ) (σ := σ) (a := v) (b := 0) (c := 2) hv (by omega) (by omega)
  obtain ⟨hv1, hv2⟩ := hv
  unfold oManner at K0 K1
  by_cases c1 : 0 ≤ v ∧ v ≤ 2
  · rw [if_pos c1] at ti
    rw [if_neg (fun z => z c1)] at K0 K1
    by_cases c2 : w 2 = v
    · rw [if_pos c2] at K0
      simp (disch := first | assumption | exact p_c2i | exact p_c2r | exact p_c2n | omega | ((repeat (first | refine p_a1i.trans ?_ | refine p_a1r.trans ?_)); exact p_a10) | ((repeat (first | refine p_wI ?_ | refine p_wR ?_)); exact p_w0) | decide) only [reduceIte, Int.reduceLT, Int.reduceLE, Int.reduceEq, Int.reduceToNat, Int.reduceAdd, Int.reduceSub, Int.reduceMul, Int.reduceNeg, e161_0, e161_1, e161_2, e161_3, e161_4, e161_7, e161_10, e161_11, e161_14, e161_15, e161_18, e161_21, e161_22, e161_23, e161_24, e161_27, e161_28, e161_29, e161_30, e161_33, e161_34, e161_35, e161_36, e161_37, e161_40, e161_41, e161_42, e161_45, e161_46, e161_49, e161_50, e161_51, e161_52, e161_53, e161_56, e161_57, e161_58, e161_59, e161_60, p_al0, p_il1, p_push, p_cs3_0, p_cs3_1, p_cs3_2, p_cs3_3, p_cs3_4, zK_v, zK_0, WN_ncl, p_ifeq, p_goto, p_cv1_0, p_cv1_1, p_cv1_2, p_cv1_3, p_cv1_4, p_ret0, p_getR, p_iald, p_cne, p_cv3_0, p_cv3_1, p_cv3_2, p_cv3_3, p_cv3_4, p_cv0_0, p_cv0_1, p_cv0_2, p_cv0_3, p_cv0_4, p_is2, p_c2n, p_c2i, p_c2r, p_iast, p_il2, WN_nx, WN_nrt, WN_ite, ti, tf_0, zm_r0, zg_s, c2, t_refuses]
      exact K0 (show (2 : Int) ≠ 0 by decide) _ (zOp_8 (zOp_r1 (by decide) (by decide)))
    · rw [if_neg c2] at K1
      simp (disch := first | assumption | exact p_c2i | exact p_c2r | exact p_c2n | omega | ((repeat (first | refine p_a1i.trans ?_ | refine p_a1r.trans ?_)); exact p_a10) | ((repeat (first | refine p_wI ?_ | refine p_wR ?_)); exact p_w0) | decide) only [reduceIte, Int.reduceLT, Int.reduceLE, Int.reduceEq, Int.reduceToNat, Int.reduceAdd, Int.reduceSub, Int.reduceMul, Int.reduceNeg, e161_0, e161_1, e161_2, e161_3, e161_4, e161_7, e161_10, e161_11, e161_14, e161_15, e161_18, e161_21, e161_22, e161_23, e161_24, e161_27, e161_28, e161_29, e161_30, e161_33, e161_34, e161_35, e161_36, e161_37, e161_40, e161_41, e161_42, p_al0, p_il1, p_push, p_cs3_0, p_cs3_1, p_cs3_2, p_cs3_3, p_cs3_4, zK_v, zK_0, WN_ncl, p_ifeq, p_goto, p_cv1_0, p_cv1_1, p_cv1_2, p_cv1_3, p_cv1_4, p_ret0, p_getR, p_iald, p_cne, p_cv3_0, p_cv3_1, p_cv3_2, p_cv3_3, p_cv3_4, p_cv0_0, p_cv0_1, p_cv0_2, p_cv0_3, p_cv0_4, WN_nx, WN_nrt, WN_ite, ti, tf_0, zm_r0, zg_s, c2]
      refine t_kF8 hn hn8 h7 (fun τ' hk => ?_)
      rw [zK_0]
      have e2 : wu w 201 0 2 = w 2 := wu_o (by omega)
      simp (disch := first | assumption | exact p_c2i | exact p_c2r | exact p_c2n | omega | ((repeat (first | refine p_a1i.trans ?_ | refine p_a1r.trans ?_)); exact p_a10) | ((repeat (first | refine p_wI ?_ | refine p_wR ?_)); exact p_w0) | decide) only [reduceIte, Int.reduceLT, Int.reduceLE, Int.reduceEq, Int.reduceToNat, Int.reduceAdd, Int.reduceSub, Int.reduceMul, Int.reduceNeg, e161_45, e161_46, e161_49, e161_50, e161_51, e161_52, e161_53, e161_56, e161_57, e161_58, e161_59, e161_60, p_al0, p_getR, p_push, p_iald, p_is2, p_c2n, p_c2i, p_c2r, p_il1, p_iast, p_il2, p_ret0, WN_nx, WN_nrt, WN_ite, zm_r0, zg_s, zg_u, e2]
      exact K1 rfl τ' hk
  · rw [if_neg c1] at ti
    rw [if_pos c1] at K0
    simp (disch := first | assumption | exact p_c2i | exact p_c2r | exact p_c2n | omega | ((repeat (first | refine p_a1i.trans ?_ | refine p_a1r.trans ?_)); exact p_a10) | ((repeat (first | refine p_wI ?_ | refine p_wR ?_)); exact p_w0) | decide) only [reduceIte, Int.reduceLT, Int.reduceLE, Int.reduceEq, Int.reduceToNat, Int.reduceAdd, Int.reduceSub, Int.reduceMul, Int.reduceNeg, e161_0, e161_1, e161_2, e161_3, e161_4, e161_7, e161_10, e161_11, e161_14, e161_15, e161_18, e161_21, e161_22, e161_23, e161_24, e161_27, e161_28, e161_29, e161_30, e161_33, e161_34, e161_35, e161_36, e161_37, e161_40, e161_41, e161_42, e161_45, e161_46, e161_49, e161_50, e161_51, e161_52, e161_53, e161_56, e161_57, e161_58, e161_59, e161_60, p_al0, p_il1, p_push, p_cs3_0, p_cs3_1, p_cs3_2, p_cs3_3, p_cs3_4, zK_v, zK_0, WN_ncl, p_ifeq, p_goto, p_cv1_0, p_cv1_1, p_cv1_2, p_cv1_3, p_cv1_4, p_ret0, p_getR, p_iald, p_cne, p_cv3_0, p_cv3_1, p_cv3_2, p_cv3_3, p_cv3_4, p_cv0_0, p_cv0_1, p_cv0_2, p_cv0_3, p_cv0_4, p_is2, p_c2n, p_c2i, p_c2r, p_iast, p_il2, WN_nx, WN_nrt, WN_ite, ti, tf_1]
    exact K0 (show (1 : Int) ≠ 0 by decide) _ (zOp_f (by decide))
theorem t_turnM {t v : Int} (ok : zok N w) (ht : -2147483648 ≤ t ∧ t < 2147483648) (hv : -2147483648 ≤ v ∧ v < 2147483648) (hn : τ 3553 6 = (n : Int)) (hn8 : n ≤ 8) (h7 : τ 3553 7 = 0 ∨ τ 3553 7 = 1) (K0 : (oTurn w t v).1 ≠ 0 → ∀ τ', zOp τ τ' w (oTurn w t v) → Q (.inl (some (.inl 0))) (3565, x, zrho) (zg τ' w)) (K1 : (oTurn w t v).1 = 0 → ∀ τ', zOp τ τ' w (0, 0, 0) → Q (.inl (some (.inl (w (6 + t.toNat))))) (3565, x, zrho) (zg τ' (wu (wu w 201 0) (6 + t.toNat) v))) : WM 159 [.inr (.inl (some 3553)), .inl t, .inl v] (3565, x, zrho) (zg τ w) Q := by
  show Wp 159 0 [some (.inr (.inl (some 3553))), some (.inl t), some (.inl v), none] [] _ _ Q
  have k := zm_k
  have k4 := zm_4
  have n4 := zm_n4
  have ti := fun (Q : ZO → ZT → ZI → Prop) (σ : ZI) (θ : ZT) => t_in (Q := Q) (θ := θ) (σ := σ) (a := t) (b := 0) (c := 3) ht (by omega) (by omega)
  have tj := fun (Q : ZO → ZT → ZI → Prop) (σ : ZI) (θ : ZT) => t_in (Q := Q) (θ := θ) (σ := σ) (a := v) (b := 0) (c := 3) hv (by omega) (by omega)
  obtain ⟨hv1, hv2⟩ := hv
  obtain ⟨ht1, ht2⟩ := ht
  unfold oTurn at K0 K1
  by_cases c1 : 0 ≤ t ∧ t ≤ 3
  · rw [if_pos c1] at ti
    by_cases c3 : 0 ≤ v ∧ v ≤ 3
    · rw [if_pos c3] at tj
      rw [if_neg (fun z => z ⟨c1, c3⟩)] at K0 K1
      have ot := ok.2.2.2.2.2.2.1 t.toNat (by omega)
      have e6 : (6 + t).toNat = 6 + t.toNat := by omega
      by_cases c2 : w (6 + t.toNat) = v
      · rw [if_pos c2] at K0
        simp (disch := first | assumption | exact p_c2i | exact p_c2r | exact p_c2n | omega | ((repeat (first | refine p_a1i.trans ?_ | refine p_a1r.trans ?_)); exact p_a10) | ((repeat (first | refine p_wI ?_ | refine p_wR ?_)); exact p_w0) | decide) only [reduceIte, Int.reduceLT, Int.reduceLE, Int.reduceEq, Int.reduceToNat, Int.reduceAdd, Int.reduceSub, Int.reduceMul, Int.reduceNeg, e159_0, e159_1, e159_2, e159_3, e159_4, e159_7, e159_10, e159_11, e159_12, e159_13, e159_16, e159_19, e159_20, e159_23, e159_24, e159_27, e159_30, e159_31, e159_32, e159_33, e159_36, e159_38, e159_39, e159_40, e159_41, e159_42, e159_45, e159_46, e159_47, e159_48, e159_49, e159_52, e159_53, e159_54, e159_57, e159_58, e159_61, e159_63, e159_64, e159_65, e159_66, e159_67, e159_68, e159_71, e159_73, e159_74, e159_75, e159_76, e159_77, e159_78, p_al0, p_il1, p_push, p_cs3_0, p_cs3_1, p_cs3_2, p_cs3_3, p_cs3_4, zK_v, zK_0, WN_ncl, p_ifeq, p_il2, p_goto, p_cv1_0, p_cv1_1, p_cv1_2, p_cv1_3, p_cv1_4, p_ret0, p_getR, p_bin, p_iald, p_cne, p_cv3_0, p_cv3_1, p_cv3_2, p_cv3_3, p_cv3_4, p_cv0_0, p_cv0_1, p_cv0_2, p_cv0_3, p_cv0_4, p_is3, p_c2n, p_c2i, p_c2r, p_iast, p_il3, WN_nx, WN_nrt, WN_ite, ti, tj, tf_0, zm_r0, zg_s, e6, c2, t_refuses]
        exact K0 (show (2 : Int) ≠ 0 by decide) _ (zOp_8 (zOp_r1 (by decide) (by decide)))
      · rw [if_neg c2] at K1
        simp (disch := first | assumption | exact p_c2i | exact p_c2r | exact p_c2n | omega | ((repeat (first | refine p_a1i.trans ?_ | refine p_a1r.trans ?_)); exact p_a10) | ((repeat (first | refine p_wI ?_ | refine p_wR ?_)); exact p_w0) | decide) only [reduceIte, Int.reduceLT, Int.reduceLE, Int.reduceEq, Int.reduceToNat, Int.reduceAdd, Int.reduceSub, Int.reduceMul, Int.reduceNeg, e159_0, e159_1, e159_2, e159_3, e159_4, e159_7, e159_10, e159_11, e159_12, e159_13, e159_16, e159_19, e159_20, e159_23, e159_24, e159_27, e159_30, e159_31, e159_32, e159_33, e159_36, e159_38, e159_39, e159_40, e159_41, e159_42, e159_45, e159_46, e159_47, e159_48, e159_49, e159_52, e159_53, e159_54, p_al0, p_il1, p_push, p_cs3_0, p_cs3_1, p_cs3_2, p_cs3_3, p_cs3_4, zK_v, zK_0, WN_ncl, p_ifeq, p_il2, p_goto, p_cv1_0, p_cv1_1, p_cv1_2, p_cv1_3, p_cv1_4, p_ret0, p_getR, p_bin, p_iald, p_cne, p_cv3_0, p_cv3_1, p_cv3_2, p_cv3_3, p_cv3_4, p_cv0_0, p_cv0_1, p_cv0_2, p_cv0_3, p_cv0_4, WN_nx, WN_nrt, WN_ite, ti, tj, tf_0, zm_r0, zg_s, e6, c2]
        refine t_kF8 hn hn8 h7 (fun τ' hk => ?_)
        rw [zK_0]
        have e2 : wu w 201 0 (6 + t.toNat) = w (6 + t.toNat) := wu_o (by omega)
        simp (disch := first | assumption | exact p_c2i | exact p_c2r | exact p_c2n | omega | ((repeat (first | refine p_a1i.trans ?_ | refine p_a1r.trans ?_)); exact p_a10) | ((repeat (first | refine p_wI ?_ | refine p_wR ?_)); exact p_w0) | decide) only [reduceIte, Int.reduceLT, Int.reduceLE, Int.reduceEq, Int.reduceToNat, Int.reduceAdd, Int.reduceSub, Int.reduceMul, Int.reduceNeg, e159_57, e159_58, e159_61, e159_63, e159_64, e159_65, e159_66, e159_67, e159_68, e159_71, e159_73, e159_74, e159_75, e159_76, e159_77, e159_78, p_al0, p_getR, p_push, p_il1, p_bin, p_iald, p_is3, p_c2n, p_c2i, p_c2r, p_il2, p_iast, p_il3, p_ret0, WN_nx, WN_nrt, WN_ite, zm_r0, zg_s, zg_u, e6, e2]
        exact K1 rfl τ' hk
    · rw [if_neg c3] at tj
      rw [if_pos (fun z => c3 z.2)] at K0
      simp (disch := first | assumption | exact p_c2i | exact p_c2r | exact p_c2n | omega | ((repeat (first | refine p_a1i.trans ?_ | refine p_a1r.trans ?_)); exact p_a10) | ((repeat (first | refine p_wI ?_ | refine p_wR ?_)); exact p_w0) | decide) only [reduceIte, Int.reduceLT, Int.reduceLE, Int.reduceEq, Int.reduceToNat, Int.reduceAdd, Int.reduceSub, Int.reduceMul, Int.reduceNeg, e159_0, e159_1, e159_2, e159_3, e159_4, e159_7, e159_10, e159_11, e159_12, e159_13, e159_16, e159_19, e159_20, e159_23, e159_24, e159_27, e159_30, e159_31, e159_32, e159_33, e159_36, e159_38, e159_39, e159_40, e159_41, e159_42, e159_45, e159_46, e159_47, e159_48, e159_49, e159_52, e159_53, e159_54, e159_57, e159_58, e159_61, e159_63, e159_64, e159_65, e159_66, e159_67, e159_68, e159_71, e159_73, e159_74, e159_75, e159_76, e159_77, e159_78, p_al0, p_il1, p_push, p_cs3_0, p_cs3_1, p_cs3_2, p_cs3_3, p_cs3_4, zK_v, zK_0, WN_ncl, p_ifeq, p_il2, p_goto, p_cv1_0, p_cv1_1, p_cv1_2, p_cv1_3, p_cv1_4, p_ret0, p_getR, p_bin, p_iald, p_cne, p_cv3_0, p_cv3_1, p_cv3_2, p_cv3_3, p_cv3_4, p_cv0_0, p_cv0_1, p_cv0_2, p_cv0_3, p_cv0_4, p_is3, p_c2n, p_c2i, p_c2r, p_iast, p_il3, WN_nx, WN_nrt, WN_ite, ti, tj, tf_1]
      exact K0 (show (1 : Int) ≠ 0 by decide) _ (zOp_f (by decide))
  · rw [if_neg c1] at ti
    rw [if_pos (fun z => c1 z.1)] at K0
    simp (disch := first | assumption | exact p_c2i | exact p_c2r | exact p_c2n | omega | ((repeat (first | refine p_a1i.trans ?_ | refine p_a1r.trans ?_)); exact p_a10) | ((repeat (first | refine p_wI ?_ | refine p_wR ?_)); exact p_w0) | decide) only [reduceIte, Int.reduceLT, Int.reduceLE, Int.reduceEq, Int.reduceToNat, Int.reduceAdd, Int.reduceSub, Int.reduceMul, Int.reduceNeg, e159_0, e159_1, e159_2, e159_3, e159_4, e159_7, e159_10, e159_11, e159_12, e159_13, e159_16, e159_19, e159_20, e159_23, e159_24, e159_27, e159_30, e159_31, e159_32, e159_33, e159_36, e159_38, e159_39, e159_40, e159_41, e159_42, e159_45, e159_46, e159_47, e159_48, e159_49, e159_52, e159_53, e159_54, e159_57, e159_58, e159_61, e159_63, e159_64, e159_65, e159_66, e159_67, e159_68, e159_71, e159_73, e159_74, e159_75, e159_76, e159_77, e159_78, p_al0, p_il1, p_push, p_cs3_0, p_cs3_1, p_cs3_2, p_cs3_3, p_cs3_4, zK_v, zK_0, WN_ncl, p_ifeq, p_il2, p_goto, p_cv1_0, p_cv1_1, p_cv1_2, p_cv1_3, p_cv1_4, p_ret0, p_getR, p_bin, p_iald, p_cne, p_cv3_0, p_cv3_1, p_cv3_2, p_cv3_3, p_cv3_4, p_cv0_0, p_cv0_1, p_cv0_2, p_cv0_3, p_cv0_4, p_is3, p_c2n, p_c2i, p_c2r, p_iast, p_il3, WN_nx, WN_nrt, WN_ite, ti, tf_1]
    exact K0 (show (1 : Int) ≠ 0 by decide) _ (zOp_f (by decide))
theorem t_paintM {r c v : Int} (ok : zok N w) (hr : -2147483648 ≤ r ∧ r < 2147483648) (hc : -2147483648 ≤ c ∧ c < 2147483648) (hv : -2147483648 ≤ v ∧ v < 2147483648) (hn : τ 3553 6 = (n : Int)) (hn8 : n ≤ 8) (h7 : τ 3553 7 = 0 ∨ τ 3553 7 = 1) (K0 : (oPaint w r c v).1 ≠ 0 → ∀ τ', zOp τ τ' w (oPaint w r c v) → Q (.inl (some (.inl 0))) (3565, x, zrho) (zg τ' w)) (K1 : (oPaint w r c v).1 = 0 → ∀ τ', zOp τ τ' w (0, 0, 0) → Q (.inl (some (.inl (w (10 + (9 * r + c).toNat))))) (3565, x, zrho) (zg τ' (wu (wu w 201 0) (10 + (9 * r + c).toNat) v))) : WM 160 [.inr (.inl (some 3553)), .inl r, .inl c, .inl v] (3565, x, zrho) (zg τ w) Q := by
  show Wp 160 0 [some (.inr (.inl (some 3553))), some (.inl r), some (.inl c), some (.inl v), none, none] [] _ _ Q
  have k := zm_k
  have k4 := zm_4
  have n4 := zm_n4
  have o1 := ok.2.1
  have ti := fun (Q : ZO → ZT → ZI → Prop) (σ : ZI) (θ : ZT) => t_isCellM (Q := Q) (θ := θ) (σ := σ) hr hc
  have tj := fun (Q : ZO → ZT → ZI → Prop) (σ : ZI) (θ : ZT) => t_in (Q := Q) (θ := θ) (σ := σ) (a := v) (b := 0) (c := w 1 - 1) hv (by omega) (by omega)
  obtain ⟨hv1, hv2⟩ := hv
  unfold oPaint at K0 K1
  by_cases c1 : (0 ≤ r ∧ r < 9) ∧ (0 ≤ c ∧ c < 9)
  · rw [if_pos c1] at ti
    rw [if_neg (fun z => z c1)] at K0 K1
    by_cases c3 : 0 ≤ v ∧ v < w 1
    · rw [if_pos (by omega)] at tj
      rw [if_neg (fun z => z c3)] at K0 K1
      have ot := ok.2.2.2.2.2.2.2.1 (9 * r + c).toNat (by omega)
      have e6 : (10 + (9 * r + c)).toNat = 10 + (9 * r + c).toNat := by omega
      by_cases c2 : w (10 + (9 * r + c).toNat) = v
      · rw [if_pos c2] at K0
        simp (disch := first | assumption | exact p_c2i | exact p_c2r | exact p_c2n | omega | ((repeat (first | refine p_a1i.trans ?_ | refine p_a1r.trans ?_)); exact p_a10) | ((repeat (first | refine p_wI ?_ | refine p_wR ?_)); exact p_w0) | decide) only [reduceIte, Int.reduceLT, Int.reduceLE, Int.reduceEq, Int.reduceToNat, Int.reduceAdd, Int.reduceSub, Int.reduceMul, Int.reduceNeg, e160_0, e160_1, e160_2, e160_3, e160_6, e160_9, e160_10, e160_13, e160_14, e160_15, e160_16, e160_19, e160_20, e160_21, e160_22, e160_23, e160_26, e160_29, e160_30, e160_33, e160_34, e160_37, e160_40, e160_41, e160_42, e160_44, e160_45, e160_46, e160_49, e160_50, e160_52, e160_53, e160_56, e160_58, e160_59, e160_60, e160_63, e160_64, e160_65, e160_66, e160_67, e160_70, e160_71, e160_72, e160_75, e160_76, e160_79, e160_81, e160_82, e160_84, e160_85, e160_88, e160_90, e160_91, e160_92, e160_94, p_al0, p_il1, p_il2, p_cs2_0, p_cs2_1, p_cs2_2, p_cs2_3, p_cs2_4, zK_v, zK_0, WN_ncl, p_ifne, p_push, p_goto, p_il3, p_getR, p_iald, p_bin, p_cs3_0, p_cs3_1, p_cs3_2, p_cs3_3, p_cs3_4, p_ifeq, p_cv1_0, p_cv1_1, p_cv1_2, p_cv1_3, p_cv1_4, p_ret0, p_is4, p_c2n, p_c2i, p_c2r, p_il4, p_cne, p_cv3_0, p_cv3_1, p_cv3_2, p_cv3_3, p_cv3_4, p_cv0_0, p_cv0_1, p_cv0_2, p_cv0_3, p_cv0_4, p_is5, p_iast, p_il5, WN_nx, WN_nrt, WN_ite, ti, tj, tf_0, zm_r0, zg_s, t_place, e6, c2, t_refuses]
        exact K0 (show (3 : Int) ≠ 0 by decide) _ (zOp_8 (zOp_r1 (by decide) (by decide)))
      · rw [if_neg c2] at K1
        simp (disch := first | assumption | exact p_c2i | exact p_c2r | exact p_c2n | omega | ((repeat (first | refine p_a1i.trans ?_ | refine p_a1r.trans ?_)); exact p_a10) | ((repeat (first | refine p_wI ?_ | refine p_wR ?_)); exact p_w0) | decide) only [reduceIte, Int.reduceLT, Int.reduceLE, Int.reduceEq, Int.reduceToNat, Int.reduceAdd, Int.reduceSub, Int.reduceMul, Int.reduceNeg, e160_0, e160_1, e160_2, e160_3, e160_6, e160_9, e160_10, e160_13, e160_14, e160_15, e160_16, e160_19, e160_20, e160_21, e160_22, e160_23, e160_26, e160_29, e160_30, e160_33, e160_34, e160_37, e160_40, e160_41, e160_42, e160_44, e160_45, e160_46, e160_49, e160_50, e160_52, e160_53, e160_56, e160_58, e160_59, e160_60, e160_63, e160_64, e160_65, e160_66, e160_67, e160_70, e160_71, e160_72, p_al0, p_il1, p_il2, p_cs2_0, p_cs2_1, p_cs2_2, p_cs2_3, p_cs2_4, zK_v, zK_0, WN_ncl, p_ifne, p_push, p_goto, p_il3, p_getR, p_iald, p_bin, p_cs3_0, p_cs3_1, p_cs3_2, p_cs3_3, p_cs3_4, p_ifeq, p_cv1_0, p_cv1_1, p_cv1_2, p_cv1_3, p_cv1_4, p_ret0, p_is4, p_c2n, p_c2i, p_c2r, p_il4, p_cne, p_cv3_0, p_cv3_1, p_cv3_2, p_cv3_3, p_cv3_4, p_cv0_0, p_cv0_1, p_cv0_2, p_cv0_3, p_cv0_4, WN_nx, WN_nrt, WN_ite, ti, tj, tf_0, zm_r0, zg_s, t_place, e6, c2]
        refine t_kF8 hn hn8 h7 (fun τ' hk => ?_)
        rw [zK_0]
        have e2 : wu w 201 0 (10 + (9 * r + c).toNat) = w (10 + (9 * r + c).toNat) := wu_o (by omega)
        simp (disch := first | assumption | exact p_c2i | exact p_c2r | exact p_c2n | omega | ((repeat (first | refine p_a1i.trans ?_ | refine p_a1r.trans ?_)); exact p_a10) | ((repeat (first | refine p_wI ?_ | refine p_wR ?_)); exact p_w0) | decide) only [reduceIte, Int.reduceLT, Int.reduceLE, Int.reduceEq, Int.reduceToNat, Int.reduceAdd, Int.reduceSub, Int.reduceMul, Int.reduceNeg, e160_75, e160_76, e160_79, e160_81, e160_82, e160_84, e160_85, e160_88, e160_90, e160_91, e160_92, e160_94, p_al0, p_getR, p_il4, p_iald, p_is5, p_c2n, p_c2i, p_c2r, p_il3, p_iast, p_il5, p_ret0, WN_nx, WN_nrt, WN_ite, zm_r0, zg_s, zg_u, e6, e2]
        exact K1 rfl τ' hk
    · rw [if_neg (by omega)] at tj
      rw [if_pos c3] at K0
      simp (disch := first | assumption | exact p_c2i | exact p_c2r | exact p_c2n | omega | ((repeat (first | refine p_a1i.trans ?_ | refine p_a1r.trans ?_)); exact p_a10) | ((repeat (first | refine p_wI ?_ | refine p_wR ?_)); exact p_w0) | decide) only [reduceIte, Int.reduceLT, Int.reduceLE, Int.reduceEq, Int.reduceToNat, Int.reduceAdd, Int.reduceSub, Int.reduceMul, Int.reduceNeg, e160_0, e160_1, e160_2, e160_3, e160_6, e160_9, e160_10, e160_13, e160_14, e160_15, e160_16, e160_19, e160_20, e160_21, e160_22, e160_23, e160_26, e160_29, e160_30, e160_33, e160_34, e160_37, e160_40, e160_41, e160_42, e160_44, e160_45, e160_46, e160_49, e160_50, e160_52, e160_53, e160_56, e160_58, e160_59, e160_60, e160_63, e160_64, e160_65, e160_66, e160_67, e160_70, e160_71, e160_72, e160_75, e160_76, e160_79, e160_81, e160_82, e160_84, e160_85, e160_88, e160_90, e160_91, e160_92, e160_94, p_al0, p_il1, p_il2, p_cs2_0, p_cs2_1, p_cs2_2, p_cs2_3, p_cs2_4, zK_v, zK_0, WN_ncl, p_ifne, p_push, p_goto, p_il3, p_getR, p_iald, p_bin, p_cs3_0, p_cs3_1, p_cs3_2, p_cs3_3, p_cs3_4, p_ifeq, p_cv1_0, p_cv1_1, p_cv1_2, p_cv1_3, p_cv1_4, p_ret0, p_is4, p_c2n, p_c2i, p_c2r, p_il4, p_cne, p_cv3_0, p_cv3_1, p_cv3_2, p_cv3_3, p_cv3_4, p_cv0_0, p_cv0_1, p_cv0_2, p_cv0_3, p_cv0_4, p_is5, p_iast, p_il5, WN_nx, WN_nrt, WN_ite, ti, tj, tf_2, zm_r0, zg_s]
      exact K0 (show (2 : Int) ≠ 0 by decide) _ (zOp_f (by decide))
  · rw [if_neg c1] at ti
    rw [if_pos c1] at K0
    simp (disch := first | assumption | exact p_c2i | exact p_c2r | exact p_c2n | omega | ((repeat (first | refine p_a1i.trans ?_ | refine p_a1r.trans ?_)); exact p_a10) | ((repeat (first | refine p_wI ?_ | refine p_wR ?_)); exact p_w0) | decide) only [reduceIte, Int.reduceLT, Int.reduceLE, Int.reduceEq, Int.reduceToNat, Int.reduceAdd, Int.reduceSub, Int.reduceMul, Int.reduceNeg, e160_0, e160_1, e160_2, e160_3, e160_6, e160_9, e160_10, e160_13, e160_14, e160_15, e160_16, e160_19, e160_20, e160_21, e160_22, e160_23, e160_26, e160_29, e160_30, e160_33, e160_34, e160_37, e160_40, e160_41, e160_42, e160_44, e160_45, e160_46, e160_49, e160_50, e160_52, e160_53, e160_56, e160_58, e160_59, e160_60, e160_63, e160_64, e160_65, e160_66, e160_67, e160_70, e160_71, e160_72, e160_75, e160_76, e160_79, e160_81, e160_82, e160_84, e160_85, e160_88, e160_90, e160_91, e160_92, e160_94, p_al0, p_il1, p_il2, p_cs2_0, p_cs2_1, p_cs2_2, p_cs2_3, p_cs2_4, zK_v, zK_0, WN_ncl, p_ifne, p_push, p_goto, p_il3, p_getR, p_iald, p_bin, p_cs3_0, p_cs3_1, p_cs3_2, p_cs3_3, p_cs3_4, p_ifeq, p_cv1_0, p_cv1_1, p_cv1_2, p_cv1_3, p_cv1_4, p_ret0, p_is4, p_c2n, p_c2i, p_c2r, p_il4, p_cne, p_cv3_0, p_cv3_1, p_cv3_2, p_cv3_3, p_cv3_4, p_cv0_0, p_cv0_1, p_cv0_2, p_cv0_3, p_cv0_4, p_is5, p_iast, p_il5, WN_nx, WN_nrt, WN_ite, ti, tf_1]
    exact K0 (show (1 : Int) ≠ 0 by decide) _ (zOp_f (by decide))
theorem t_hoeM {r c h : Int} (ok : zok N w) (hr : -2147483648 ≤ r ∧ r < 2147483648) (hc : -2147483648 ≤ c ∧ c < 2147483648) (hh : -2147483648 ≤ h ∧ h < 2147483648) (hn : τ 3553 6 = (n : Int)) (hn8 : n ≤ 8) (h7 : τ 3553 7 = 0 ∨ τ 3553 7 = 1) (K0 : (oHoe w r c h).1 ≠ 0 → ∀ τ', zOp τ τ' w (oHoe w r c h) → Q (.inl (some (.inl 0))) (3565, x, zrho) (zg τ' w)) (K1 : (oHoe w r c h).1 = 0 → ∀ τ', zOp τ τ' w (0, 0, 0) → Q (.inl (some (.inl (w 0)))) (3565, x, zrho) (zg τ' (aAdd (9 * r + c) h (wu w 201 0)))) : WM 156 [.inr (.inl (some 3553)), .inl r, .inl c, .inl h] (3565, x, zrho) (zg τ w) Q := by
  show Wp 156 0 [some (.inr (.inl (some 3553))), some (.inl r), some (.inl c), some (.inl h), none] [] _ _ Q
  have k := zm_k
  have k4 := zm_4
  have n4 := zm_n4
  have o0 := ok.1
  have ti := fun (Q : ZO → ZT → ZI → Prop) (σ : ZI) (θ : ZT) => t_isCellM (Q := Q) (θ := θ) (σ := σ) hr hc
  have tj := fun (Q : ZO → ZT → ZI → Prop) (σ : ZI) (θ : ZT) => t_in (Q := Q) (θ := θ) (σ := σ) (a := h) (b := 0) (c := 3) hh (by omega) (by omega)
  obtain ⟨hh1, hh2⟩ := hh
  unfold oHoe at K0 K1
  by_cases c1 : (0 ≤ r ∧ r < 9) ∧ (0 ≤ c ∧ c < 9)
  · rw [if_pos c1] at ti
    rw [if_neg (fun z => z c1)] at K0 K1
    by_cases c3 : 0 ≤ h ∧ h ≤ 3
    · rw [if_pos c3] at tj
      rw [if_neg (fun z => z c3)] at K0 K1
      by_cases c2 : w 0 = 4
      · rw [if_pos c2] at K0
        simp (disch := first | assumption | exact p_c2i | exact p_c2r | exact p_c2n | omega | ((repeat (first | refine p_a1i.trans ?_ | refine p_a1r.trans ?_)); exact p_a10) | ((repeat (first | refine p_wI ?_ | refine p_wR ?_)); exact p_w0) | decide) only [reduceIte, Int.reduceLT, Int.reduceLE, Int.reduceEq, Int.reduceToNat, Int.reduceAdd, Int.reduceSub, Int.reduceMul, Int.reduceNeg, e156_0, e156_1, e156_2, e156_3, e156_6, e156_9, e156_10, e156_13, e156_14, e156_15, e156_16, e156_19, e156_22, e156_23, e156_26, e156_27, e156_30, e156_33, e156_34, e156_35, e156_36, e156_39, e156_40, e156_41, e156_42, e156_45, e156_46, e156_47, e156_48, e156_49, e156_52, e156_53, e156_54, e156_55, e156_56, e156_59, e156_62, e156_65, e156_66, e156_67, e156_68, e156_69, e156_70, e156_71, e156_74, e156_77, e156_80, e156_81, e156_82, e156_85, e156_86, e156_89, e156_90, e156_91, e156_93, e156_94, e156_97, e156_98, e156_99, e156_100, e156_101, e156_102, e156_103, e156_104, e156_106, e156_107, e156_108, e156_109, e156_112, e156_115, e156_116, e156_118, e156_119, e156_120, e156_123, e156_124, e156_126, e156_127, e156_128, e156_131, e156_132, e156_134, e156_135, e156_136, e156_139, e156_141, p_al0, p_il1, p_il2, p_cs2_0, p_cs2_1, p_cs2_2, p_cs2_3, p_cs2_4, zK_v, zK_0, WN_ncl, p_ifne, p_push, p_goto, p_il3, p_cs3_0, p_cs3_1, p_cs3_2, p_cs3_3, p_cs3_4, p_ifeq, p_cv1_0, p_cv1_1, p_cv1_2, p_cv1_3, p_cv1_4, p_ret0, p_getR, p_iald, p_cne, p_cv3_0, p_cv3_1, p_cv3_2, p_cv3_3, p_cv3_4, p_iflt, p_cv0_0, p_cv0_1, p_cv0_2, p_cv0_3, p_cv0_4, p_is4, p_c2n, p_c2i, p_c2r, p_dup2, p_bin, p_iast, p_il4, WN_nx, WN_nrt, WN_ite, ti, tj, tf_0, zm_r0, zg_s, c2, t_refuses]
        exact K0 (show (3 : Int) ≠ 0 by decide) _ (zOp_8 (zOp_r1 (by decide) (by decide)))
      · rw [if_neg c2] at K0 K1
        have tl := fun (Q : ZO → ZT → ZI → Prop) (τ : ZI) => t_lowestM (Q := Q) (τ := τ) (x := x) (c := 9 * r + c) ok (by omega)
        have hl := aLowF_in (w := w) (c := 9 * r + c) 4 0
        have el : aLow w (9 * r + c) = aLowF w (9 * r + c) 0 4 := rfl
        rw [← el] at hl
        by_cases c4 : 0 ≤ aLow w (9 * r + c)
        · rw [if_pos c4] at K0
          have c5 : (aLow w (9 * r + c) < 0) = False := eq_false (by omega)
          simp (disch := first | assumption | exact p_c2i | exact p_c2r | exact p_c2n | omega | ((repeat (first | refine p_a1i.trans ?_ | refine p_a1r.trans ?_)); exact p_a10) | ((repeat (first | refine p_wI ?_ | refine p_wR ?_)); exact p_w0) | decide) only [reduceIte, Int.reduceLT, Int.reduceLE, Int.reduceEq, Int.reduceToNat, Int.reduceAdd, Int.reduceSub, Int.reduceMul, Int.reduceNeg, e156_0, e156_1, e156_2, e156_3, e156_6, e156_9, e156_10, e156_13, e156_14, e156_15, e156_16, e156_19, e156_22, e156_23, e156_26, e156_27, e156_30, e156_33, e156_34, e156_35, e156_36, e156_39, e156_40, e156_41, e156_42, e156_45, e156_46, e156_47, e156_48, e156_49, e156_52, e156_53, e156_54, e156_55, e156_56, e156_59, e156_62, e156_65, e156_66, e156_67, e156_68, e156_69, e156_70, e156_71, e156_74, e156_77, e156_80, e156_81, e156_82, e156_85, e156_86, e156_89, e156_90, e156_91, e156_93, e156_94, e156_97, e156_98, e156_99, e156_100, e156_101, e156_102, e156_103, e156_104, e156_106, e156_107, e156_108, e156_109, e156_112, e156_115, e156_116, e156_118, e156_119, e156_120, e156_123, e156_124, e156_126, e156_127, e156_128, e156_131, e156_132, e156_134, e156_135, e156_136, e156_139, e156_141, p_al0, p_il1, p_il2, p_cs2_0, p_cs2_1, p_cs2_2, p_cs2_3, p_cs2_4, zK_v, zK_0, WN_ncl, p_ifne, p_push, p_goto, p_il3, p_cs3_0, p_cs3_1, p_cs3_2, p_cs3_3, p_cs3_4, p_ifeq, p_cv1_0, p_cv1_1, p_cv1_2, p_cv1_3, p_cv1_4, p_ret0, p_getR, p_iald, p_cne, p_cv3_0, p_cv3_1, p_cv3_2, p_cv3_3, p_cv3_4, p_iflt, p_cv0_0, p_cv0_1, p_cv0_2, p_cv0_3, p_cv0_4, p_is4, p_c2n, p_c2i, p_c2r, p_dup2, p_bin, p_iast, p_il4, WN_nx, WN_nrt, WN_ite, ti, tj, tf_0, zm_r0, zg_s, c2, t_place, tl, c5, t_refuses]
          exact K0 (show (3 : Int) ≠ 0 by decide) _ (zOp_8 (zOp_r1 (by decide) (by decide)))
        · rw [if_neg c4] at K1
          have c5 : (aLow w (9 * r + c) < 0) = True := eq_true (by omega)
          simp (disch := first | assumption | exact p_c2i | exact p_c2r | exact p_c2n | omega | ((repeat (first | refine p_a1i.trans ?_ | refine p_a1r.trans ?_)); exact p_a10) | ((repeat (first | refine p_wI ?_ | refine p_wR ?_)); exact p_w0) | decide) only [reduceIte, Int.reduceLT, Int.reduceLE, Int.reduceEq, Int.reduceToNat, Int.reduceAdd, Int.reduceSub, Int.reduceMul, Int.reduceNeg, e156_0, e156_1, e156_2, e156_3, e156_6, e156_9, e156_10, e156_13, e156_14, e156_15, e156_16, e156_19, e156_22, e156_23, e156_26, e156_27, e156_30, e156_33, e156_34, e156_35, e156_36, e156_39, e156_40, e156_41, e156_42, e156_45, e156_46, e156_47, e156_48, e156_49, e156_52, e156_53, e156_54, e156_55, e156_56, e156_59, e156_62, e156_65, e156_66, e156_67, e156_68, e156_69, e156_70, e156_71, e156_74, e156_77, e156_80, e156_81, e156_82, p_al0, p_il1, p_il2, p_cs2_0, p_cs2_1, p_cs2_2, p_cs2_3, p_cs2_4, zK_v, zK_0, WN_ncl, p_ifne, p_push, p_goto, p_il3, p_cs3_0, p_cs3_1, p_cs3_2, p_cs3_3, p_cs3_4, p_ifeq, p_cv1_0, p_cv1_1, p_cv1_2, p_cv1_3, p_cv1_4, p_ret0, p_getR, p_iald, p_cne, p_cv3_0, p_cv3_1, p_cv3_2, p_cv3_3, p_cv3_4, p_iflt, p_cv0_0, p_cv0_1, p_cv0_2, p_cv0_3, p_cv0_4, WN_nx, WN_nrt, WN_ite, ti, tj, tf_0, zm_r0, zg_s, c2, t_place, tl, c5]
          refine t_kF8 hn hn8 h7 (fun τ' hk => ?_)
          rw [zK_0]
          obtain ⟨i, hi⟩ : ∃ i : Nat, w 0 = (i : Int) := ⟨(w 0).toNat, (Int.toNat_of_nonneg o0.1).symm⟩
          have hi4 : i < 4 := by omega
          have e2 : wu w 201 0 0 = (i : Int) := (wu_o (by omega)).trans hi
          have tl0 := fun (Q : ZO → ZT → ZI → Prop) (τ : ZI) (w : zW) (v : Int) => t_laysM (Q := Q) (x := x) (τ := τ) (w := w) (h := i) (j := 0) (v := v) (by omega) (by omega) (by omega)
          have tl1 := fun (Q : ZO → ZT → ZI → Prop) (τ : ZI) (w : zW) (v : Int) => t_laysM (Q := Q) (x := x) (τ := τ) (w := w) (h := i) (j := 1) (v := v) (by omega) (by omega) (by omega)
          have tl2 := fun (Q : ZO → ZT → ZI → Prop) (τ : ZI) (w : zW) (v : Int) => t_laysM (Q := Q) (x := x) (τ := τ) (w := w) (h := i) (j := 2) (v := v) (by omega) (by omega) (by omega)
          have tl3 := fun (Q : ZO → ZT → ZI → Prop) (τ : ZI) (w : zW) (v : Int) => t_laysM (Q := Q) (x := x) (τ := τ) (w := w) (h := i) (j := 3) (v := v) (by omega) (by omega) (by omega)
          rw [show Int.toNat 0 = 0 from rfl] at tl0
          rw [show Int.toNat 1 = 1 from rfl] at tl1
          rw [show Int.toNat 2 = 2 from rfl] at tl2
          rw [show Int.toNat 3 = 3 from rfl] at tl3
          simp (disch := first | assumption | exact p_c2i | exact p_c2r | exact p_c2n | omega | ((repeat (first | refine p_a1i.trans ?_ | refine p_a1r.trans ?_)); exact p_a10) | ((repeat (first | refine p_wI ?_ | refine p_wR ?_)); exact p_w0) | decide) only [reduceIte, Int.reduceLT, Int.reduceLE, Int.reduceEq, Int.reduceToNat, Int.reduceAdd, Int.reduceSub, Int.reduceMul, Int.reduceNeg, e156_85, e156_86, e156_89, e156_90, e156_91, e156_93, e156_94, e156_97, e156_98, e156_99, e156_100, e156_101, e156_102, e156_103, e156_104, e156_106, e156_107, e156_108, e156_109, e156_112, e156_115, e156_116, e156_118, e156_119, e156_120, e156_123, e156_124, e156_126, e156_127, e156_128, e156_131, e156_132, e156_134, e156_135, e156_136, e156_139, e156_141, p_al0, p_getR, p_push, p_iald, p_is4, p_c2n, p_c2i, p_c2r, p_dup2, p_bin, p_iast, p_il4, p_il1, p_il2, p_cs2_0, p_cs2_1, p_cs2_2, p_cs2_3, p_cs2_4, zK_v, zK_0, WN_ncl, p_cv3_0, p_cv3_1, p_cv3_2, p_cv3_3, p_cv3_4, p_il3, p_ret0, WN_nx, WN_nrt, WN_ite, zm_r0, zg_s, zg_u, e2, t_place, tl0, tl1, tl2, tl3]
          have e := K1 rfl τ' hk
          unfold aAdd at e
          rw [e2, Int.toNat_natCast, hi] at e
          rw [wu_c (a := 0) (b := 172 + 4 * i + 0) (by omega), wu_c (a := 0) (b := 172 + 4 * i + 1) (by omega), wu_c (a := 0) (b := 172 + 4 * i + 2) (by omega), wu_c (a := 0) (b := 172 + 4 * i + 3) (by omega)]
          exact e
    · rw [if_neg c3] at tj
      rw [if_pos c3] at K0
      simp (disch := first | assumption | exact p_c2i | exact p_c2r | exact p_c2n | omega | ((repeat (first | refine p_a1i.trans ?_ | refine p_a1r.trans ?_)); exact p_a10) | ((repeat (first | refine p_wI ?_ | refine p_wR ?_)); exact p_w0) | decide) only [reduceIte, Int.reduceLT, Int.reduceLE, Int.reduceEq, Int.reduceToNat, Int.reduceAdd, Int.reduceSub, Int.reduceMul, Int.reduceNeg, e156_0, e156_1, e156_2, e156_3, e156_6, e156_9, e156_10, e156_13, e156_14, e156_15, e156_16, e156_19, e156_22, e156_23, e156_26, e156_27, e156_30, e156_33, e156_34, e156_35, e156_36, e156_39, e156_40, e156_41, e156_42, e156_45, e156_46, e156_47, e156_48, e156_49, e156_52, e156_53, e156_54, e156_55, e156_56, e156_59, e156_62, e156_65, e156_66, e156_67, e156_68, e156_69, e156_70, e156_71, e156_74, e156_77, e156_80, e156_81, e156_82, e156_85, e156_86, e156_89, e156_90, e156_91, e156_93, e156_94, e156_97, e156_98, e156_99, e156_100, e156_101, e156_102, e156_103, e156_104, e156_106, e156_107, e156_108, e156_109, e156_112, e156_115, e156_116, e156_118, e156_119, e156_120, e156_123, e156_124, e156_126, e156_127, e156_128, e156_131, e156_132, e156_134, e156_135, e156_136, e156_139, e156_141, p_al0, p_il1, p_il2, p_cs2_0, p_cs2_1, p_cs2_2, p_cs2_3, p_cs2_4, zK_v, zK_0, WN_ncl, p_ifne, p_push, p_goto, p_il3, p_cs3_0, p_cs3_1, p_cs3_2, p_cs3_3, p_cs3_4, p_ifeq, p_cv1_0, p_cv1_1, p_cv1_2, p_cv1_3, p_cv1_4, p_ret0, p_getR, p_iald, p_cne, p_cv3_0, p_cv3_1, p_cv3_2, p_cv3_3, p_cv3_4, p_iflt, p_cv0_0, p_cv0_1, p_cv0_2, p_cv0_3, p_cv0_4, p_is4, p_c2n, p_c2i, p_c2r, p_dup2, p_bin, p_iast, p_il4, WN_nx, WN_nrt, WN_ite, ti, tj, tf_2]
      exact K0 (show (2 : Int) ≠ 0 by decide) _ (zOp_f (by decide))
  · rw [if_neg c1] at ti
    rw [if_pos c1] at K0
    simp (disch := first | assumption | exact p_c2i | exact p_c2r | exact p_c2n | omega | ((repeat (first | refine p_a1i.trans ?_ | refine p_a1r.trans ?_)); exact p_a10) | ((repeat (first | refine p_wI ?_ | refine p_wR ?_)); exact p_w0) | decide) only [reduceIte, Int.reduceLT, Int.reduceLE, Int.reduceEq, Int.reduceToNat, Int.reduceAdd, Int.reduceSub, Int.reduceMul, Int.reduceNeg, e156_0, e156_1, e156_2, e156_3, e156_6, e156_9, e156_10, e156_13, e156_14, e156_15, e156_16, e156_19, e156_22, e156_23, e156_26, e156_27, e156_30, e156_33, e156_34, e156_35, e156_36, e156_39, e156_40, e156_41, e156_42, e156_45, e156_46, e156_47, e156_48, e156_49, e156_52, e156_53, e156_54, e156_55, e156_56, e156_59, e156_62, e156_65, e156_66, e156_67, e156_68, e156_69, e156_70, e156_71, e156_74, e156_77, e156_80, e156_81, e156_82, e156_85, e156_86, e156_89, e156_90, e156_91, e156_93, e156_94, e156_97, e156_98, e156_99, e156_100, e156_101, e156_102, e156_103, e156_104, e156_106, e156_107, e156_108, e156_109, e156_112, e156_115, e156_116, e156_118, e156_119, e156_120, e156_123, e156_124, e156_126, e156_127, e156_128, e156_131, e156_132, e156_134, e156_135, e156_136, e156_139, e156_141, p_al0, p_il1, p_il2, p_cs2_0, p_cs2_1, p_cs2_2, p_cs2_3, p_cs2_4, zK_v, zK_0, WN_ncl, p_ifne, p_push, p_goto, p_il3, p_cs3_0, p_cs3_1, p_cs3_2, p_cs3_3, p_cs3_4, p_ifeq, p_cv1_0, p_cv1_1, p_cv1_2, p_cv1_3, p_cv1_4, p_ret0, p_getR, p_iald, p_cne, p_cv3_0, p_cv3_1, p_cv3_2, p_cv3_3, p_cv3_4, p_iflt, p_cv0_0, p_cv0_1, p_cv0_2, p_cv0_3, p_cv0_4, p_is4, p_c2n, p_c2i, p_c2r, p_dup2, p_bin, p_iast, p_il4, WN_nx, WN_nrt, WN_ite, ti, tf_1]
    exact K0 (show (1 : Int) ≠ 0 by decide) _ (zOp_f (by decide))
end
