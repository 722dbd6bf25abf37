/-! THE MODEL: its row; small methods -/
/-- the row of the model is w -/
def zg (τ : ZI) (w : zW) : ZI := fun a j => if a = 3554 then w j else τ a j
section
variable {τ : ZI} {w w' : zW} {k : Nat} {v : Int}
theorem zg_s : zg τ w 3554 = w := funext fun _ => if_pos rfl
theorem zg_o {a : Nat} (h : a ≠ 3554) : zg τ w a = τ a := funext fun _ => if_neg h
theorem zg_o3 : zg τ w 3553 = τ 3553 := zg_o (by omega)
theorem zg_u : zup (zg τ w) 3554 k v = zg τ (wu w k v) := by
  funext a j
  unfold zup zg wu
  by_cases h : a = 3554
  · by_cases e : j = k
    · rw [if_pos ⟨h, e⟩, if_pos h, if_pos e]
    · rw [if_neg (fun z => e z.2), if_pos h, if_pos h, if_neg e]
  · rw [if_neg (fun z => h z.1), if_neg h, if_neg h]
theorem zg_c {b : Nat} (hb : b ≠ 3554) : zup (zg τ w) b k v = zg (zup τ b k v) w := by
  funext a j
  unfold zup zg
  by_cases h : a = 3554
  · rw [if_neg (by omega), if_pos h, if_pos h]
  · rw [if_neg h, if_neg h]
theorem zg_c3 : zup (zg τ w) 3553 k v = zg (zup τ 3553 k v) w := zg_c (by omega)
theorem zg_r {σ : ZI} : zg σ (σ 3554) = σ := by
  funext a j
  unfold zg
  by_cases h : a = 3554
  · rw [if_pos h, h]
  · rw [if_neg h]
theorem zg_g : zg (zg τ w) w' = zg τ w' := by
  funext a j
  unfold zg
  by_cases h : a = 3554
  · rw [if_pos h, if_pos h]
  · rw [if_neg h, if_neg h, if_neg h]
end
theorem zm_k : zkd 3553 = 6 := rfl
theorem zm_4 : zkd 3554 = 10 := rfl
theorem zm_n4 : zln 3554 = 6202 := rfl
theorem zm_r0 : zrho 3553 0 = some 3554 := rfl
theorem zm_r1 : zrho 3553 1 = some 3555 := rfl
theorem zm_r2 : zrho 3553 2 = some 3556 := rfl
theorem zm_r3 : zrho 3553 3 = some 3557 := rfl
theorem zm_r4 : zrho 3553 4 = some 3558 := rfl
theorem zcpy_0 {σ : ZI} {a p b q : Nat} : zcpy σ a p b q 0 = σ := by
  funext c j; unfold zcpy; rw [if_neg (by omega)]
theorem zcpy_s {σ : ZI} {a p b q m : Nat} (h : a ≠ b ∨ q ≤ p ∨ p + m < q) : zup (zcpy σ a p b q m) b (q + m) (zcpy σ a p b q m a (p + m)) = zcpy σ a p b q (m + 1) := by
  have e : zcpy σ a p b q m a (p + m) = σ a (p + m) := by unfold zcpy; rw [if_neg (by omega)]
  rw [e]
  funext c j
  unfold zup zcpy
  by_cases h1 : c = b ∧ j = q + m
  · rw [if_pos h1, if_pos ⟨h1.1, by omega, by omega⟩, show p + (j - q) = p + m by omega]
  · rw [if_neg h1]
    by_cases h2 : c = b ∧ q ≤ j ∧ j < q + m
    · rw [if_pos h2, if_pos ⟨h2.1, h2.2.1, by omega⟩]
    · rw [if_neg h2, if_neg (fun z => h2 ⟨z.1, z.2.1, by have := fun e => h1 ⟨z.1, e⟩; omega⟩)]
section
variable {τ σ : ZI} {Q : ZO → ZT → ZI → Prop} {x : Nat} {w : zW} {N : Int} {θ : ZT}
theorem t_in {a b c : Int} (h1 : -2147483648 ≤ a ∧ a < 2147483648) (h2 : -2147483648 ≤ b ∧ b < 2147483648) (h3 : -2147483648 ≤ c ∧ c < 2147483648) : WM 146 [.inl a, .inl b, .inl c] θ σ Q = Q (.inl (some (.inl (if b ≤ a ∧ a ≤ c then 1 else 0)))) θ σ := by
  show Wp 146 0 [some (.inl a), some (.inl b), some (.inl c)] [] _ σ Q = _
  obtain ⟨h11, h12⟩ := h1
  obtain ⟨h21, h22⟩ := h2
  obtain ⟨h31, h32⟩ := h3
  by_cases c1 : b ≤ a
  · have d1 : (a < b) = False := eq_false (by omega)
    by_cases c2 : a ≤ c
    · have d2 : (c < a) = False := eq_false (by omega)
      simp (disch := first | assumption | exact p_c2i | exact p_c2r | exact p_c2n | omega | ((repeat (first | refine p_a1i.trans ?_ | refine p_a1r.trans ?_)); exact p_a10) | ((repeat (first | refine p_wI ?_ | refine p_wR ?_)); exact p_w0) | decide) only [reduceIte, Int.reduceLT, Int.reduceLE, Int.reduceEq, Int.reduceToNat, Int.reduceAdd, Int.reduceSub, Int.reduceMul, Int.reduceNeg, e146_0, e146_1, e146_2, e146_5, e146_6, e146_7, e146_10, e146_11, e146_14, e146_15, p_il0, p_il1, p_clt, p_il2, p_cgt, p_push, p_goto, p_ret1, WN_nx, WN_nrt, WN_ite, d1, d2]
      rw [if_pos ⟨c1, c2⟩]
    · have d2 : (c < a) = True := eq_true (by omega)
      simp (disch := first | assumption | exact p_c2i | exact p_c2r | exact p_c2n | omega | ((repeat (first | refine p_a1i.trans ?_ | refine p_a1r.trans ?_)); exact p_a10) | ((repeat (first | refine p_wI ?_ | refine p_wR ?_)); exact p_w0) | decide) only [reduceIte, Int.reduceLT, Int.reduceLE, Int.reduceEq, Int.reduceToNat, Int.reduceAdd, Int.reduceSub, Int.reduceMul, Int.reduceNeg, e146_0, e146_1, e146_2, e146_5, e146_6, e146_7, e146_10, e146_11, e146_14, e146_15, p_il0, p_il1, p_clt, p_il2, p_cgt, p_push, p_goto, p_ret1, WN_nx, WN_nrt, WN_ite, d1, d2]
      rw [if_neg (fun z => c2 z.2)]
  · have d1 : (a < b) = True := eq_true (by omega)
    simp (disch := first | assumption | exact p_c2i | exact p_c2r | exact p_c2n | omega | ((repeat (first | refine p_a1i.trans ?_ | refine p_a1r.trans ?_)); exact p_a10) | ((repeat (first | refine p_wI ?_ | refine p_wR ?_)); exact p_w0) | decide) only [reduceIte, Int.reduceLT, Int.reduceLE, Int.reduceEq, Int.reduceToNat, Int.reduceAdd, Int.reduceSub, Int.reduceMul, Int.reduceNeg, e146_0, e146_1, e146_2, e146_5, e146_6, e146_7, e146_10, e146_11, e146_14, e146_15, p_il0, p_il1, p_clt, p_il2, p_cgt, p_push, p_goto, p_ret1, WN_nx, WN_nrt, WN_ite, d1]
    rw [if_neg (fun z => c1 z.1)]
theorem t_place {a b : Int} : WM 151 [.inl a, .inl b] θ σ Q = Q (.inl (some (.inl (9 * a + b)))) θ σ := by
  show Wp 151 0 [some (.inl a), some (.inl b)] [] _ σ Q = _
  simp (disch := first | assumption | exact p_c2i | exact p_c2r | exact p_c2n | omega | ((repeat (first | refine p_a1i.trans ?_ | refine p_a1r.trans ?_)); exact p_a10) | ((repeat (first | refine p_wI ?_ | refine p_wR ?_)); exact p_w0) | decide) only [reduceIte, Int.reduceLT, Int.reduceLE, Int.reduceEq, Int.reduceToNat, Int.reduceAdd, Int.reduceSub, Int.reduceMul, Int.reduceNeg, e151_0, e151_2, e151_3, e151_4, e151_5, e151_6, p_push, p_il0, p_bin, p_il1, p_ret0, WN_nx, WN_nrt, WN_ite]
theorem t_isCellM {a b : Int} (h1 : -2147483648 ≤ a ∧ a < 2147483648) (h2 : -2147483648 ≤ b ∧ b < 2147483648) : WM 150 [.inl a, .inl b] θ σ Q = Q (.inl (some (.inl (if (0 ≤ a ∧ a < 9) ∧ (0 ≤ b ∧ b < 9) then 1 else 0)))) θ σ := by
  show Wp 150 0 [some (.inl a), some (.inl b)] [] _ σ Q = _
  have ta := fun (Q : ZO → ZT → ZI → Prop) => t_in (θ := θ) (σ := σ) (Q := Q) (a := a) (b := 0) (c := 8) h1 (by omega) (by omega)
  have tb := fun (Q : ZO → ZT → ZI → Prop) => t_in (θ := θ) (σ := σ) (Q := Q) (a := b) (b := 0) (c := 8) h2 (by omega) (by omega)
  by_cases c1 : 0 ≤ a ∧ a ≤ 8
  · rw [if_pos c1] at ta
    by_cases c2 : 0 ≤ b ∧ b ≤ 8
    · rw [if_pos c2] at tb
      simp (disch := first | assumption | exact p_c2i | exact p_c2r | exact p_c2n | omega | ((repeat (first | refine p_a1i.trans ?_ | refine p_a1r.trans ?_)); exact p_a10) | ((repeat (first | refine p_wI ?_ | refine p_wR ?_)); exact p_w0) | decide) only [reduceIte, Int.reduceLT, Int.reduceLE, Int.reduceEq, Int.reduceToNat, Int.reduceAdd, Int.reduceSub, Int.reduceMul, Int.reduceNeg, e150_0, e150_1, e150_2, e150_4, e150_7, e150_10, e150_11, e150_12, e150_14, e150_17, e150_20, e150_21, e150_24, e150_25, p_il0, p_push, p_cs3_0, p_cs3_1, p_cs3_2, p_cs3_3, p_cs3_4, zK_v, zK_0, WN_ncl, p_ifeq, p_il1, p_goto, p_ret1, WN_nx, WN_nrt, WN_ite, ta, tb]
      rw [if_pos (by omega)]
    · rw [if_neg c2] at tb
      simp (disch := first | assumption | exact p_c2i | exact p_c2r | exact p_c2n | omega | ((repeat (first | refine p_a1i.trans ?_ | refine p_a1r.trans ?_)); exact p_a10) | ((repeat (first | refine p_wI ?_ | refine p_wR ?_)); exact p_w0) | decide) only [reduceIte, Int.reduceLT, Int.reduceLE, Int.reduceEq, Int.reduceToNat, Int.reduceAdd, Int.reduceSub, Int.reduceMul, Int.reduceNeg, e150_0, e150_1, e150_2, e150_4, e150_7, e150_10, e150_11, e150_12, e150_14, e150_17, e150_20, e150_21, e150_24, e150_25, p_il0, p_push, p_cs3_0, p_cs3_1, p_cs3_2, p_cs3_3, p_cs3_4, zK_v, zK_0, WN_ncl, p_ifeq, p_il1, p_goto, p_ret1, WN_nx, WN_nrt, WN_ite, ta, tb]
      rw [if_neg (by omega)]
  · rw [if_neg c1] at ta
    simp (disch := first | assumption | exact p_c2i | exact p_c2r | exact p_c2n | omega | ((repeat (first | refine p_a1i.trans ?_ | refine p_a1r.trans ?_)); exact p_a10) | ((repeat (first | refine p_wI ?_ | refine p_wR ?_)); exact p_w0) | decide) only [reduceIte, Int.reduceLT, Int.reduceLE, Int.reduceEq, Int.reduceToNat, Int.reduceAdd, Int.reduceSub, Int.reduceMul, Int.reduceNeg, e150_0, e150_1, e150_2, e150_4, e150_7, e150_10, e150_11, e150_12, e150_14, e150_17, e150_20, e150_21, e150_24, e150_25, p_il0, p_push, p_cs3_0, p_cs3_1, p_cs3_2, p_cs3_3, p_cs3_4, zK_v, zK_0, WN_ncl, p_ifeq, p_il1, p_goto, p_ret1, WN_nx, WN_nrt, WN_ite, ta]
    rw [if_neg (by omega)]
theorem t_fails {p : Int} (hp : 0 ≤ p ∧ p < 8) : WM 144 [.inr (.inl (some 3553)), .inl p] (3565, x, zrho) (zg τ w) Q = Q (.inl (some (.inl (if 0 < p then 1 else 0)))) (3565, x, zrho) (zg (zup τ 3553 8 p) w) := by
  show Wp 144 0 [some (.inr (.inl (some 3553))), some (.inl p)] [] _ _ Q = _
  have k := zm_k
  obtain ⟨h1, h2⟩ := hp
  by_cases c : 0 < p
  · have c1 : (0 < p) = True := eq_true c
    simp (disch := first | assumption | exact p_c2i | exact p_c2r | exact p_c2n | omega | ((repeat (first | refine p_a1i.trans ?_ | refine p_a1r.trans ?_)); exact p_a10) | ((repeat (first | refine p_wI ?_ | refine p_wR ?_)); exact p_w0) | decide) only [reduceIte, Int.reduceLT, Int.reduceLE, Int.reduceEq, Int.reduceToNat, Int.reduceAdd, Int.reduceSub, Int.reduceMul, Int.reduceNeg, e144_0, e144_1, e144_2, e144_5, e144_6, e144_9, e144_10, e144_13, e144_14, p_al0, p_il1, p_putI, p_ifle, p_push, p_goto, p_ret1, WN_nx, WN_nrt, WN_ite, c1, zg_c3]
  · have c1 : (0 < p) = False := eq_false c
    simp (disch := first | assumption | exact p_c2i | exact p_c2r | exact p_c2n | omega | ((repeat (first | refine p_a1i.trans ?_ | refine p_a1r.trans ?_)); exact p_a10) | ((repeat (first | refine p_wI ?_ | refine p_wR ?_)); exact p_w0) | decide) only [reduceIte, Int.reduceLT, Int.reduceLE, Int.reduceEq, Int.reduceToNat, Int.reduceAdd, Int.reduceSub, Int.reduceMul, Int.reduceNeg, e144_0, e144_1, e144_2, e144_5, e144_6, e144_9, e144_10, e144_13, e144_14, p_al0, p_il1, p_putI, p_ifle, p_push, p_goto, p_ret1, WN_nx, WN_nrt, WN_ite, c1, zg_c3]
theorem t_refuses {a b c : Int} : WM 145 [.inr (.inl (some 3553)), .inl a, .inl b, .inl c] (3565, x, zrho) (zg τ w) Q = Q (.inl (some (.inl 0))) (3565, x, zrho) (zg (zup (zup (zup τ 3553 8 a) 3553 9 b) 3553 10 c) w) := by
  show Wp 145 0 [some (.inr (.inl (some 3553))), some (.inl a), some (.inl b), some (.inl c)] [] _ _ Q = _
  have k := zm_k
  simp (disch := first | assumption | exact p_c2i | exact p_c2r | exact p_c2n | omega | ((repeat (first | refine p_a1i.trans ?_ | refine p_a1r.trans ?_)); exact p_a10) | ((repeat (first | refine p_wI ?_ | refine p_wR ?_)); exact p_w0) | decide) only [reduceIte, Int.reduceLT, Int.reduceLE, Int.reduceEq, Int.reduceToNat, Int.reduceAdd, Int.reduceSub, Int.reduceMul, Int.reduceNeg, e145_0, e145_1, e145_2, e145_5, e145_6, e145_7, e145_10, e145_11, e145_12, e145_15, e145_16, p_al0, p_il1, p_putI, p_il2, p_il3, p_push, p_ret0, WN_nx, WN_nrt, WN_ite, zg_c3]
theorem t_isHoeM {h : Int} (h1 : -2147483648 ≤ h ∧ h < 2147483648) (hw : 0 ≤ w 0 ∧ w 0 ≤ 4) : WM 152 [.inr (.inl (some 3553)), .inl h] (3565, x, zrho) (zg τ w) Q = Q (.inl (some (.inl (if 0 ≤ h ∧ h < w 0 then 1 else 0)))) (3565, x, zrho) (zg τ w) := by
  show Wp 152 0 [some (.inr (.inl (some 3553))), some (.inl h)] [] _ _ Q = _
  have k := zm_k
  have k4 := zm_4
  have n4 := zm_n4
  have ta := fun (Q : ZO → ZT → ZI → Prop) (σ : ZI) (θ : ZT) => t_in (θ := θ) (σ := σ) (Q := Q) (a := h) (b := 0) (c := w 0 - 1) h1 (by omega) (by omega)
  simp (disch := first | assumption | exact p_c2i | exact p_c2r | exact p_c2n | omega | ((repeat (first | refine p_a1i.trans ?_ | refine p_a1r.trans ?_)); exact p_a10) | ((repeat (first | refine p_wI ?_ | refine p_wR ?_)); exact p_w0) | decide) only [reduceIte, Int.reduceLT, Int.reduceLE, Int.reduceEq, Int.reduceToNat, Int.reduceAdd, Int.reduceSub, Int.reduceMul, Int.reduceNeg, e152_0, e152_1, e152_2, e152_3, e152_6, e152_7, e152_8, e152_9, e152_10, e152_13, p_il1, p_push, p_al0, p_getR, p_iald, p_bin, p_cs3_0, p_cs3_1, p_cs3_2, p_cs3_3, p_cs3_4, zK_v, zK_0, WN_ncl, p_ret1, WN_nx, WN_nrt, WN_ite, zm_r0, zg_s, ta]
  by_cases c : 0 ≤ h ∧ h < w 0
  · rw [if_pos c, if_pos (by omega)]
  · rw [if_neg c, if_neg (by omega)]
theorem t_ofM {h : Nat} {j : Int} (hh : h < 4) (h1 : 0 ≤ j) (h2 : j < 4) : WM 153 [.inr (.inl (some 3553)), .inl ((h : Int)), .inl j] (3565, x, zrho) (zg τ w) Q = Q (.inl (some (.inl (w (172 + 4 * h + j.toNat))))) (3565, x, zrho) (zg τ w) := by
  show Wp 153 0 [some (.inr (.inl (some 3553))), some (.inl ((h : Int))), some (.inl j)] [] _ _ Q = _
  have k := zm_k
  have k4 := zm_4
  have n4 := zm_n4
  have e : (172 + 4 * (h : Int) + j).toNat = 172 + 4 * h + j.toNat := by omega
  simp (disch := first | assumption | exact p_c2i | exact p_c2r | exact p_c2n | omega | ((repeat (first | refine p_a1i.trans ?_ | refine p_a1r.trans ?_)); exact p_a10) | ((repeat (first | refine p_wI ?_ | refine p_wR ?_)); exact p_w0) | decide) only [reduceIte, Int.reduceLT, Int.reduceLE, Int.reduceEq, Int.reduceToNat, Int.reduceAdd, Int.reduceSub, Int.reduceMul, Int.reduceNeg, e153_0, e153_1, e153_4, e153_7, e153_8, e153_9, e153_10, e153_11, e153_12, e153_13, e153_14, p_al0, p_getR, p_push, p_il1, p_bin, p_il2, p_iald, p_ret0, WN_nx, WN_nrt, WN_ite, zm_r0, zg_s, e]
theorem t_laysM {h : Nat} {j v : Int} (hh : h < 4) (h1 : 0 ≤ j) (h2 : j < 4) : WM 154 [.inr (.inl (some 3553)), .inl ((h : Int)), .inl j, .inl v] (3565, x, zrho) (zg τ w) Q = Q (.inl none) (3565, x, zrho) (zg τ (wu w (172 + 4 * h + j.toNat) v)) := by
  show Wp 154 0 [some (.inr (.inl (some 3553))), some (.inl ((h : Int))), some (.inl j), some (.inl v)] [] _ _ Q = _
  have k := zm_k
  have k4 := zm_4
  have n4 := zm_n4
  have e : (172 + 4 * (h : Int) + j).toNat = 172 + 4 * h + j.toNat := by omega
  simp (disch := first | assumption | exact p_c2i | exact p_c2r | exact p_c2n | omega | ((repeat (first | refine p_a1i.trans ?_ | refine p_a1r.trans ?_)); exact p_a10) | ((repeat (first | refine p_wI ?_ | refine p_wR ?_)); exact p_w0) | decide) only [reduceIte, Int.reduceLT, Int.reduceLE, Int.reduceEq, Int.reduceToNat, Int.reduceAdd, Int.reduceSub, Int.reduceMul, Int.reduceNeg, e154_0, e154_1, e154_4, e154_7, e154_8, e154_9, e154_10, e154_11, e154_12, e154_13, e154_14, e154_15, p_al0, p_getR, p_push, p_il1, p_bin, p_il2, p_il3, p_iast, p_vret, WN_nx, WN_nrt, WN_ite, zm_r0, zg_u, e]
theorem l_lowestM {c : Int} (ok : zok N w) (hc : -2147483648 ≤ c ∧ c < 2147483648) : ∀ n i : Nat, i + n = 4 → Wp 155 2 [some (.inr (.inl (some 3553))), some (.inl c), some (.inl ((i : Int)))] [] (3565, x, zrho) (zg τ w) Q = Q (.inl (some (.inl (aLowF w c i n)))) (3565, x, zrho) (zg τ w) := by
  have k := zm_k
  have k4 := zm_4
  have n4 := zm_n4
  have o0 := ok.1
  obtain ⟨hc1, hc2⟩ := hc
  intro n
  induction n with
  | zero =>
    intro i hi
    have c0 : ((i : Int) < w 0) = False := eq_false (by omega)
    simp (disch := first | assumption | exact p_c2i | exact p_c2r | exact p_c2n | omega | ((repeat (first | refine p_a1i.trans ?_ | refine p_a1r.trans ?_)); exact p_a10) | ((repeat (first | refine p_wI ?_ | refine p_wR ?_)); exact p_w0) | decide) only [reduceIte, Int.reduceLT, Int.reduceLE, Int.reduceEq, Int.reduceToNat, Int.reduceAdd, Int.reduceSub, Int.reduceMul, Int.reduceNeg, e155_0, e155_1, e155_2, e155_3, e155_4, e155_7, e155_8, e155_9, e155_12, e155_13, e155_14, e155_15, e155_18, e155_19, e155_22, e155_23, e155_24, e155_27, e155_30, e155_31, p_push, p_is2, p_c2n, p_c2i, p_c2r, p_il2, p_al0, p_getR, p_iald, p_cge, p_cv2_0, p_cv2_1, p_cv2_2, p_cv2_3, p_cv2_4, zK_v, zK_0, WN_ncl, p_il1, p_cne, p_ret0, p_ii2, p_goto, WN_nx, WN_nrt, WN_ite, zm_r0, zg_s, c0]
    rfl
  | succ n ih =>
    intro i hi
    have e1 : (i : Int) + 1 = ((i + 1 : Nat) : Int) := by omega
    have ih2 := ih (i + 1) (by omega)
    unfold aLowF
    by_cases hh : (i : Int) < w 0
    · have o5 := (ok.2.2.2.2.2.2.2.2.2.1 i hh).1
      have hh1 : ((i : Int) < w 0) = True := eq_true hh
      have to := fun (Q : ZO → ZT → ZI → Prop) => t_ofM (Q := Q) (x := x) (τ := τ) (w := w) (h := i) (j := 0) (by omega) (by omega) (by omega)
      rw [show 172 + 4 * i + Int.toNat 0 = 172 + 4 * i from rfl] at to
      by_cases hcc : w (172 + 4 * i) = c
      · rw [e155_2]
        simp (disch := first | assumption | exact p_c2i | exact p_c2r | exact p_c2n | omega | ((repeat (first | refine p_a1i.trans ?_ | refine p_a1r.trans ?_)); exact p_a10) | ((repeat (first | refine p_wI ?_ | refine p_wR ?_)); exact p_w0) | decide) only [reduceIte, Int.reduceLT, Int.reduceLE, Int.reduceEq, Int.reduceToNat, Int.reduceAdd, Int.reduceSub, Int.reduceMul, Int.reduceNeg, e155_3, e155_4, e155_7, e155_8, e155_9, e155_12, e155_13, e155_14, e155_15, e155_18, e155_19, e155_22, e155_23, e155_24, e155_27, e155_30, e155_31, p_il2, p_al0, p_getR, p_push, p_iald, p_cge, p_cv2_0, p_cv2_1, p_cv2_2, p_cv2_3, p_cv2_4, zK_v, zK_0, WN_ncl, p_il1, p_cne, p_ret0, p_ii2, p_goto, WN_nx, WN_nrt, WN_ite, zm_r0, zg_s, hh1, to, hcc, e1]
        rw [if_pos ⟨trivial, trivial⟩]
      · rw [e155_2]
        simp (disch := first | assumption | exact p_c2i | exact p_c2r | exact p_c2n | omega | ((repeat (first | refine p_a1i.trans ?_ | refine p_a1r.trans ?_)); exact p_a10) | ((repeat (first | refine p_wI ?_ | refine p_wR ?_)); exact p_w0) | decide) only [reduceIte, Int.reduceLT, Int.reduceLE, Int.reduceEq, Int.reduceToNat, Int.reduceAdd, Int.reduceSub, Int.reduceMul, Int.reduceNeg, e155_3, e155_4, e155_7, e155_8, e155_9, e155_12, e155_13, e155_14, e155_15, e155_18, e155_19, e155_22, e155_23, e155_24, e155_27, e155_30, e155_31, p_il2, p_al0, p_getR, p_push, p_iald, p_cge, p_cv2_0, p_cv2_1, p_cv2_2, p_cv2_3, p_cv2_4, zK_v, zK_0, WN_ncl, p_il1, p_cne, p_ret0, p_ii2, p_goto, WN_nx, WN_nrt, WN_ite, zm_r0, zg_s, hh1, to, hcc, e1]
        rw [ih2, if_neg (fun z => z.2)]
    · have hh1 : ((i : Int) < w 0) = False := eq_false hh
      rw [e155_2]
      simp (disch := first | assumption | exact p_c2i | exact p_c2r | exact p_c2n | omega | ((repeat (first | refine p_a1i.trans ?_ | refine p_a1r.trans ?_)); exact p_a10) | ((repeat (first | refine p_wI ?_ | refine p_wR ?_)); exact p_w0) | decide) only [reduceIte, Int.reduceLT, Int.reduceLE, Int.reduceEq, Int.reduceToNat, Int.reduceAdd, Int.reduceSub, Int.reduceMul, Int.reduceNeg, e155_3, e155_4, e155_7, e155_8, e155_9, e155_12, e155_13, e155_14, e155_15, e155_18, e155_19, e155_22, e155_23, e155_24, e155_27, e155_30, e155_31, p_il2, p_al0, p_getR, p_push, p_iald, p_cge, p_cv2_0, p_cv2_1, p_cv2_2, p_cv2_3, p_cv2_4, zK_v, zK_0, WN_ncl, p_il1, p_cne, p_ret0, p_ii2, p_goto, WN_nx, WN_nrt, WN_ite, zm_r0, zg_s, hh1]
      have hz : ∀ f i : Nat, ¬ (i : Int) < w 0 → aLowF w c i f = -1 := by
        intro f
        induction f with
        | zero => intro i _; rfl
        | succ f ihf =>
          intro i hi
          unfold aLowF
          rw [if_neg (fun z => hi z.1)]
          exact ihf (i + 1) (by omega)
      rw [if_neg (fun z => z.1), hz n (i + 1) (by omega)]
theorem t_lowestM {c : Int} (ok : zok N w) (hc : -2147483648 ≤ c ∧ c < 2147483648) : WM 155 [.inr (.inl (some 3553)), .inl c] (3565, x, zrho) (zg τ w) Q = Q (.inl (some (.inl (aLow w c)))) (3565, x, zrho) (zg τ w) := by
  show Wp 155 0 [some (.inr (.inl (some 3553))), some (.inl c), none] [] _ _ Q = _
  simp (disch := first | assumption | exact p_c2i | exact p_c2r | exact p_c2n | omega | ((repeat (first | refine p_a1i.trans ?_ | refine p_a1r.trans ?_)); exact p_a10) | ((repeat (first | refine p_wI ?_ | refine p_wR ?_)); exact p_w0) | decide) only [reduceIte, Int.reduceLT, Int.reduceLE, Int.reduceEq, Int.reduceToNat, Int.reduceAdd, Int.reduceSub, Int.reduceMul, Int.reduceNeg, e155_0, e155_1, p_push, p_is2, p_c2n, p_c2i, p_c2r, WN_nx, WN_nrt, WN_ite]
  exact l_lowestM ok hc 4 0 rfl
theorem l_hoesOnM {c : Int} (ok : zok N w) (hc : -2147483648 ≤ c ∧ c < 2147483648) : ∀ n i : Nat, i + n = 4 → Wp 164 4 [some (.inr (.inl (some 3553))), some (.inl c), some (.inl (aOnN w c i)), some (.inl ((i : Int)))] [] (3565, x, zrho) (zg τ w) Q = Q (.inl (some (.inl (aOn w c)))) (3565, x, zrho) (zg τ w) := by
  have k := zm_k
  have k4 := zm_4
  have n4 := zm_n4
  have o0 := ok.1
  obtain ⟨hc1, hc2⟩ := hc
  have hz : ∀ n i : Nat, i + n = 4 → ¬ (i : Int) < w 0 → aOnN w c 4 = aOnN w c i := by
    intro n
    induction n with
    | zero => intro i hi _; rw [show i = 4 by omega]
    | succ n ih => intro i hi hn; rw [ih (i + 1) (by omega) (by omega), aOnN_s, if_neg (fun z => hn z.1), Int.add_zero]
  intro n
  induction n with
  | zero =>
    intro i hi
    have c0 : ((i : Int) < w 0) = False := eq_false (by omega)
    simp (disch := first | assumption | exact p_c2i | exact p_c2r | exact p_c2n | omega | ((repeat (first | refine p_a1i.trans ?_ | refine p_a1r.trans ?_)); exact p_a10) | ((repeat (first | refine p_wI ?_ | refine p_wR ?_)); exact p_w0) | decide) only [reduceIte, Int.reduceLT, Int.reduceLE, Int.reduceEq, Int.reduceToNat, Int.reduceAdd, Int.reduceSub, Int.reduceMul, Int.reduceNeg, e164_0, e164_1, e164_2, e164_3, e164_4, e164_5, e164_6, e164_9, e164_10, e164_11, e164_14, e164_15, e164_16, e164_17, e164_18, e164_21, e164_22, e164_25, e164_26, e164_29, e164_30, e164_31, e164_32, e164_35, e164_38, e164_39, p_push, p_is2, p_c2n, p_c2i, p_c2r, p_is3, p_il3, p_al0, p_getR, p_iald, p_cge, p_il2, p_cv2_0, p_cv2_1, p_cv2_2, p_cv2_3, p_cv2_4, zK_v, zK_0, WN_ncl, p_il1, p_cne, p_goto, p_bin, p_ii3, p_ret0, WN_nx, WN_nrt, WN_ite, zm_r0, zg_s, c0]
    rw [show i = 4 by omega]
    rfl
  | succ n ih =>
    intro i hi
    have e1 : (i : Int) + 1 = ((i + 1 : Nat) : Int) := by omega
    have ih2 := ih (i + 1) (by omega)
    by_cases hh : (i : Int) < w 0
    · have o5 := (ok.2.2.2.2.2.2.2.2.2.1 i hh).1
      have hh1 : ((i : Int) < w 0) = True := eq_true hh
      have to := fun (Q : ZO → ZT → ZI → Prop) => t_ofM (Q := Q) (x := x) (τ := τ) (w := w) (h := i) (j := 0) (by omega) (by omega) (by omega)
      rw [show 172 + 4 * i + Int.toNat 0 = 172 + 4 * i from rfl] at to
      have oi := aOnN_in (w := w) (c := c) i
      by_cases hcc : w (172 + 4 * i) = c
      · rw [e164_4]
        simp (disch := first | assumption | exact p_c2i | exact p_c2r | exact p_c2n | omega | ((repeat (first | refine p_a1i.trans ?_ | refine p_a1r.trans ?_)); exact p_a10) | ((repeat (first | refine p_wI ?_ | refine p_wR ?_)); exact p_w0) | decide) only [reduceIte, Int.reduceLT, Int.reduceLE, Int.reduceEq, Int.reduceToNat, Int.reduceAdd, Int.reduceSub, Int.reduceMul, Int.reduceNeg, e164_5, e164_6, e164_9, e164_10, e164_11, e164_14, e164_15, e164_16, e164_17, e164_18, e164_21, e164_22, e164_25, e164_26, e164_29, e164_30, e164_31, e164_32, e164_35, p_il3, p_al0, p_getR, p_push, p_iald, p_cge, p_il2, p_cv2_0, p_cv2_1, p_cv2_2, p_cv2_3, p_cv2_4, zK_v, zK_0, WN_ncl, p_il1, p_cne, p_goto, p_bin, p_is2, p_c2n, p_c2i, p_c2r, p_ii3, WN_nx, WN_nrt, WN_ite, zm_r0, zg_s, hh1, to, hcc, e1]
        rw [← ih2, aOnN_s, if_pos ⟨hh, hcc⟩]
      · rw [e164_4]
        simp (disch := first | assumption | exact p_c2i | exact p_c2r | exact p_c2n | omega | ((repeat (first | refine p_a1i.trans ?_ | refine p_a1r.trans ?_)); exact p_a10) | ((repeat (first | refine p_wI ?_ | refine p_wR ?_)); exact p_w0) | decide) only [reduceIte, Int.reduceLT, Int.reduceLE, Int.reduceEq, Int.reduceToNat, Int.reduceAdd, Int.reduceSub, Int.reduceMul, Int.reduceNeg, e164_5, e164_6, e164_9, e164_10, e164_11, e164_14, e164_15, e164_16, e164_17, e164_18, e164_21, e164_22, e164_25, e164_26, e164_29, e164_30, e164_31, e164_32, e164_35, p_il3, p_al0, p_getR, p_push, p_iald, p_cge, p_il2, p_cv2_0, p_cv2_1, p_cv2_2, p_cv2_3, p_cv2_4, zK_v, zK_0, WN_ncl, p_il1, p_cne, p_goto, p_bin, p_is2, p_c2n, p_c2i, p_c2r, p_ii3, WN_nx, WN_nrt, WN_ite, zm_r0, zg_s, hh1, to, hcc, e1]
        rw [← ih2, aOnN_s, if_neg (fun z => hcc z.2)]
    · have hh1 : ((i : Int) < w 0) = False := eq_false hh
      rw [e164_4]
      simp (disch := first | assumption | exact p_c2i | exact p_c2r | exact p_c2n | omega | ((repeat (first | refine p_a1i.trans ?_ | refine p_a1r.trans ?_)); exact p_a10) | ((repeat (first | refine p_wI ?_ | refine p_wR ?_)); exact p_w0) | decide) only [reduceIte, Int.reduceLT, Int.reduceLE, Int.reduceEq, Int.reduceToNat, Int.reduceAdd, Int.reduceSub, Int.reduceMul, Int.reduceNeg, e164_5, e164_6, e164_9, e164_10, e164_11, e164_14, e164_15, e164_16, e164_17, e164_18, e164_21, e164_22, e164_25, e164_26, e164_29, e164_30, e164_31, e164_32, e164_35, e164_38, e164_39, p_il3, p_al0, p_getR, p_push, p_iald, p_cge, p_il2, p_cv2_0, p_cv2_1, p_cv2_2, p_cv2_3, p_cv2_4, zK_v, zK_0, WN_ncl, p_il1, p_cne, p_goto, p_bin, p_is2, p_c2n, p_c2i, p_c2r, p_ii3, p_ret0, WN_nx, WN_nrt, WN_ite, zm_r0, zg_s, hh1]
      have := hz (n + 1) i hi hh
      unfold aOn
      rw [this]
theorem t_hoesOnM {c : Int} (ok : zok N w) (hc : -2147483648 ≤ c ∧ c < 2147483648) : WM 164 [.inr (.inl (some 3553)), .inl c] (3565, x, zrho) (zg τ w) Q = Q (.inl (some (.inl (aOn w c)))) (3565, x, zrho) (zg τ w) := by
  show Wp 164 0 [some (.inr (.inl (some 3553))), some (.inl c), none, none] [] _ _ Q = _
  simp (disch := first | assumption | exact p_c2i | exact p_c2r | exact p_c2n | omega | ((repeat (first | refine p_a1i.trans ?_ | refine p_a1r.trans ?_)); exact p_a10) | ((repeat (first | refine p_wI ?_ | refine p_wR ?_)); exact p_w0) | decide) only [reduceIte, Int.reduceLT, Int.reduceLE, Int.reduceEq, Int.reduceToNat, Int.reduceAdd, Int.reduceSub, Int.reduceMul, Int.reduceNeg, e164_0, e164_1, e164_2, e164_3, p_push, p_is2, p_c2n, p_c2i, p_c2r, p_is3, WN_nx, WN_nrt, WN_ite]
  exact l_hoesOnM ok hc 4 0 rfl
theorem t_toward {c d : Int} (hc : 0 ≤ c ∧ c < 81) (hd : 0 ≤ d ∧ d < 4) : WM 166 [.inl c, .inl d] θ σ Q = Q (.inl (some (.inl (aTo c d)))) θ σ := by
  show Wp 166 0 [some (.inl c), some (.inl d), none, none] [] _ _ Q = _
  obtain ⟨c1, c2⟩ := hc
  obtain ⟨d1, d2⟩ := hd
  have e1 : Int.tdiv c 9 = c / 9 := Int.tdiv_eq_ediv_of_nonneg c1
  have e2 : Int.tmod c 9 = c % 9 := Int.tmod_eq_emod_of_nonneg c1
  have m1 : Int.tmod (c / 9 + 8) 9 = (c / 9 + 8) % 9 := Int.tmod_eq_emod_of_nonneg (by omega)
  have m2 : Int.tmod (c / 9 + 1) 9 = (c / 9 + 1) % 9 := Int.tmod_eq_emod_of_nonneg (by omega)
  have m3 : Int.tmod (c % 9 + 8) 9 = (c % 9 + 8) % 9 := Int.tmod_eq_emod_of_nonneg (by omega)
  have m4 : Int.tmod (c % 9 + 1) 9 = (c % 9 + 1) % 9 := Int.tmod_eq_emod_of_nonneg (by omega)
  have hd : d = 0 ∨ d = 1 ∨ d = 2 ∨ d = 3 := by omega
  have ev : ∀ a b : Int, a = b → Q (.inl (some (.inl a))) θ σ = Q (.inl (some (.inl b))) θ σ := fun a b h => by rw [h]
  rcases hd with rfl | rfl | rfl | rfl
  · simp (disch := first | assumption | exact p_c2i | exact p_c2r | exact p_c2n | omega | ((repeat (first | refine p_a1i.trans ?_ | refine p_a1r.trans ?_)); exact p_a10) | ((repeat (first | refine p_wI ?_ | refine p_wR ?_)); exact p_w0) | decide) only [reduceIte, Int.reduceLT, Int.reduceLE, Int.reduceEq, Int.reduceToNat, Int.reduceAdd, Int.reduceSub, Int.reduceMul, Int.reduceNeg, e166_0, e166_1, e166_3, e166_4, e166_5, e166_6, e166_8, e166_9, e166_10, e166_11, e166_36, e166_37, e166_39, e166_40, e166_42, e166_43, e166_44, e166_47, e166_48, e166_49, e166_50, e166_51, e166_52, e166_54, e166_55, e166_58, e166_59, e166_60, e166_61, e166_62, e166_64, e166_65, e166_66, e166_69, e166_70, e166_71, e166_72, e166_74, e166_75, e166_77, e166_78, e166_81, p_il0, p_push, p_div, p_is2, p_c2n, p_c2i, p_c2r, p_rem, p_is3, p_il1, p_sw, p_il2, p_bin, p_il3, p_cs2_0, p_cs2_1, p_cs2_2, p_cs2_3, p_cs2_4, zK_v, zK_0, WN_ncl, p_ret0, WN_nx, WN_nrt, WN_ite, e1, e2, m1, t_place, show zsw 0 70 [0, 36, 1, 48, 2, 59] = 36 from rfl]
    refine ev _ _ ?_
    unfold aTo
    rw [if_pos rfl]
    split <;> omega
  · simp (disch := first | assumption | exact p_c2i | exact p_c2r | exact p_c2n | omega | ((repeat (first | refine p_a1i.trans ?_ | refine p_a1r.trans ?_)); exact p_a10) | ((repeat (first | refine p_wI ?_ | refine p_wR ?_)); exact p_w0) | decide) only [reduceIte, Int.reduceLT, Int.reduceLE, Int.reduceEq, Int.reduceToNat, Int.reduceAdd, Int.reduceSub, Int.reduceMul, Int.reduceNeg, e166_0, e166_1, e166_3, e166_4, e166_5, e166_6, e166_8, e166_9, e166_10, e166_11, e166_36, e166_37, e166_39, e166_40, e166_42, e166_43, e166_44, e166_47, e166_48, e166_49, e166_50, e166_51, e166_52, e166_54, e166_55, e166_58, e166_59, e166_60, e166_61, e166_62, e166_64, e166_65, e166_66, e166_69, e166_70, e166_71, e166_72, e166_74, e166_75, e166_77, e166_78, e166_81, p_il0, p_push, p_div, p_is2, p_c2n, p_c2i, p_c2r, p_rem, p_is3, p_il1, p_sw, p_il2, p_bin, p_il3, p_cs2_0, p_cs2_1, p_cs2_2, p_cs2_3, p_cs2_4, zK_v, zK_0, WN_ncl, p_ret0, WN_nx, WN_nrt, WN_ite, e1, e2, m4, t_place, show zsw 1 70 [0, 36, 1, 48, 2, 59] = 48 from rfl]
    refine ev _ _ ?_
    unfold aTo
    rw [if_neg (by omega), if_pos rfl]
    split <;> omega
  · simp (disch := first | assumption | exact p_c2i | exact p_c2r | exact p_c2n | omega | ((repeat (first | refine p_a1i.trans ?_ | refine p_a1r.trans ?_)); exact p_a10) | ((repeat (first | refine p_wI ?_ | refine p_wR ?_)); exact p_w0) | decide) only [reduceIte, Int.reduceLT, Int.reduceLE, Int.reduceEq, Int.reduceToNat, Int.reduceAdd, Int.reduceSub, Int.reduceMul, Int.reduceNeg, e166_0, e166_1, e166_3, e166_4, e166_5, e166_6, e166_8, e166_9, e166_10, e166_11, e166_36, e166_37, e166_39, e166_40, e166_42, e166_43, e166_44, e166_47, e166_48, e166_49, e166_50, e166_51, e166_52, e166_54, e166_55, e166_58, e166_59, e166_60, e166_61, e166_62, e166_64, e166_65, e166_66, e166_69, e166_70, e166_71, e166_72, e166_74, e166_75, e166_77, e166_78, e166_81, p_il0, p_push, p_div, p_is2, p_c2n, p_c2i, p_c2r, p_rem, p_is3, p_il1, p_sw, p_il2, p_bin, p_il3, p_cs2_0, p_cs2_1, p_cs2_2, p_cs2_3, p_cs2_4, zK_v, zK_0, WN_ncl, p_ret0, WN_nx, WN_nrt, WN_ite, e1, e2, m2, t_place, show zsw 2 70 [0, 36, 1, 48, 2, 59] = 59 from rfl]
    refine ev _ _ ?_
    unfold aTo
    rw [if_neg (by omega), if_neg (by omega), if_pos rfl]
    split <;> omega
  · simp (disch := first | assumption | exact p_c2i | exact p_c2r | exact p_c2n | omega | ((repeat (first | refine p_a1i.trans ?_ | refine p_a1r.trans ?_)); exact p_a10) | ((repeat (first | refine p_wI ?_ | refine p_wR ?_)); exact p_w0) | decide) only [reduceIte, Int.reduceLT, Int.reduceLE, Int.reduceEq, Int.reduceToNat, Int.reduceAdd, Int.reduceSub, Int.reduceMul, Int.reduceNeg, e166_0, e166_1, e166_3, e166_4, e166_5, e166_6, e166_8, e166_9, e166_10, e166_11, e166_36, e166_37, e166_39, e166_40, e166_42, e166_43, e166_44, e166_47, e166_48, e166_49, e166_50, e166_51, e166_52, e166_54, e166_55, e166_58, e166_59, e166_60, e166_61, e166_62, e166_64, e166_65, e166_66, e166_69, e166_70, e166_71, e166_72, e166_74, e166_75, e166_77, e166_78, e166_81, p_il0, p_push, p_div, p_is2, p_c2n, p_c2i, p_c2r, p_rem, p_is3, p_il1, p_sw, p_il2, p_bin, p_il3, p_cs2_0, p_cs2_1, p_cs2_2, p_cs2_3, p_cs2_4, zK_v, zK_0, WN_ncl, p_ret0, WN_nx, WN_nrt, WN_ite, e1, e2, m3, t_place, show zsw 3 70 [0, 36, 1, 48, 2, 59] = 70 from rfl]
    refine ev _ _ ?_
    unfold aTo
    rw [if_neg (by omega), if_neg (by omega), if_neg (by omega)]
    split <;> omega
theorem t_quartersM {t : Int} (h1 : 0 ≤ t) (h2 : t < 4) : WM 167 [.inl t] θ σ Q = Q (.inl (some (.inl (aQ t)))) θ σ := by
  show Wp 167 0 [some (.inl t)] [] _ _ Q = _
  have ht : t = 0 ∨ t = 1 ∨ t = 2 ∨ t = 3 := by omega
  rcases ht with rfl | rfl | rfl | rfl
  · simp (disch := first | assumption | exact p_c2i | exact p_c2r | exact p_c2n | omega | ((repeat (first | refine p_a1i.trans ?_ | refine p_a1r.trans ?_)); exact p_a10) | ((repeat (first | refine p_wI ?_ | refine p_wR ?_)); exact p_w0) | decide) only [reduceIte, Int.reduceLT, Int.reduceLE, Int.reduceEq, Int.reduceToNat, Int.reduceAdd, Int.reduceSub, Int.reduceMul, Int.reduceNeg, e167_0, e167_1, e167_4, e167_5, e167_8, e167_9, e167_10, e167_13, e167_14, e167_17, e167_18, e167_19, e167_22, e167_23, e167_26, e167_27, p_il0, p_ifne, p_push, p_goto, p_cne, p_ret0, WN_nx, WN_nrt, WN_ite]
    rfl
  · simp (disch := first | assumption | exact p_c2i | exact p_c2r | exact p_c2n | omega | ((repeat (first | refine p_a1i.trans ?_ | refine p_a1r.trans ?_)); exact p_a10) | ((repeat (first | refine p_wI ?_ | refine p_wR ?_)); exact p_w0) | decide) only [reduceIte, Int.reduceLT, Int.reduceLE, Int.reduceEq, Int.reduceToNat, Int.reduceAdd, Int.reduceSub, Int.reduceMul, Int.reduceNeg, e167_0, e167_1, e167_4, e167_5, e167_8, e167_9, e167_10, e167_13, e167_14, e167_17, e167_18, e167_19, e167_22, e167_23, e167_26, e167_27, p_il0, p_ifne, p_push, p_goto, p_cne, p_ret0, WN_nx, WN_nrt, WN_ite]
    rfl
  · simp (disch := first | assumption | exact p_c2i | exact p_c2r | exact p_c2n | omega | ((repeat (first | refine p_a1i.trans ?_ | refine p_a1r.trans ?_)); exact p_a10) | ((repeat (first | refine p_wI ?_ | refine p_wR ?_)); exact p_w0) | decide) only [reduceIte, Int.reduceLT, Int.reduceLE, Int.reduceEq, Int.reduceToNat, Int.reduceAdd, Int.reduceSub, Int.reduceMul, Int.reduceNeg, e167_0, e167_1, e167_4, e167_5, e167_8, e167_9, e167_10, e167_13, e167_14, e167_17, e167_18, e167_19, e167_22, e167_23, e167_26, e167_27, p_il0, p_ifne, p_push, p_goto, p_cne, p_ret0, WN_nx, WN_nrt, WN_ite]
    rfl
  · simp (disch := first | assumption | exact p_c2i | exact p_c2r | exact p_c2n | omega | ((repeat (first | refine p_a1i.trans ?_ | refine p_a1r.trans ?_)); exact p_a10) | ((repeat (first | refine p_wI ?_ | refine p_wR ?_)); exact p_w0) | decide) only [reduceIte, Int.reduceLT, Int.reduceLE, Int.reduceEq, Int.reduceToNat, Int.reduceAdd, Int.reduceSub, Int.reduceMul, Int.reduceNeg, e167_0, e167_1, e167_4, e167_5, e167_8, e167_9, e167_10, e167_13, e167_14, e167_17, e167_18, e167_19, e167_22, e167_23, e167_26, e167_27, p_il0, p_ifne, p_push, p_goto, p_cne, p_ret0, WN_nx, WN_nrt, WN_ite]
    rfl
theorem t_turnOnM {c : Nat} (hc : c < 81) (ho : 0 ≤ w (10 + c) ∧ w (10 + c) < 4) : WM 168 [.inr (.inl (some 3553)), .inl ((c : Int))] (3565, x, zrho) (zg τ w) Q = Q (.inl (some (.inl (w (6 + (w (10 + c)).toNat))))) (3565, x, zrho) (zg τ w) := by
  show Wp 168 0 [some (.inr (.inl (some 3553))), some (.inl ((c : Int)))] [] _ _ Q = _
  have k := zm_k
  have k4 := zm_4
  have n4 := zm_n4
  obtain ⟨o1, o2⟩ := ho
  have e : (10 + (c : Int)).toNat = 10 + c := by omega
  have e2 : (6 + w (10 + c)).toNat = 6 + (w (10 + c)).toNat := by omega
  simp (disch := first | assumption | exact p_c2i | exact p_c2r | exact p_c2n | omega | ((repeat (first | refine p_a1i.trans ?_ | refine p_a1r.trans ?_)); exact p_a10) | ((repeat (first | refine p_wI ?_ | refine p_wR ?_)); exact p_w0) | decide) only [reduceIte, Int.reduceLT, Int.reduceLE, Int.reduceEq, Int.reduceToNat, Int.reduceAdd, Int.reduceSub, Int.reduceMul, Int.reduceNeg, e168_0, e168_1, e168_4, e168_6, e168_7, e168_10, e168_12, e168_13, e168_14, e168_15, e168_16, e168_17, p_al0, p_getR, p_push, p_il1, p_bin, p_iald, p_ret0, WN_nx, WN_nrt, WN_ite, zm_r0, zg_s, e, e2]
theorem l_copies {a b p q m : Nat} (ka : zkd a = 10) (kb : zkd b = 10) (hp : p + m ≤ zln a) (hq : q + m ≤ zln b) (hp2 : p + m < 1000000) (hq2 : q + m < 1000000) (h : a ≠ b ∨ q ≤ p ∨ p + m ≤ q) : ∀ n i : Nat, i + n = m → Wp 147 3 [some (.inr (.inl (some a))), some (.inl ((p : Int))), some (.inr (.inl (some b))), some (.inl ((q : Int))), some (.inl ((m : Int))), some (.inl ((i : Int)))] [] (3565, x, zrho) (zcpy σ a p b q i) Q = Q (.inl none) (3565, x, zrho) (zcpy σ a p b q m) := by
  intro n
  induction n with
  | zero =>
    intro i hi
    have e : i = m := by omega
    subst e
    have c1 : ((i : Int) < (i : Int)) = False := eq_false (by omega)
    simp (disch := first | assumption | exact p_c2i | exact p_c2r | exact p_c2n | omega | ((repeat (first | refine p_a1i.trans ?_ | refine p_a1r.trans ?_)); exact p_a10) | ((repeat (first | refine p_wI ?_ | refine p_wR ?_)); exact p_w0) | decide) only [reduceIte, Int.reduceLT, Int.reduceLE, Int.reduceEq, Int.reduceToNat, Int.reduceAdd, Int.reduceSub, Int.reduceMul, Int.reduceNeg, e147_0, e147_1, e147_3, e147_5, e147_7, e147_10, e147_11, e147_12, e147_14, e147_15, e147_16, e147_17, e147_19, e147_20, e147_21, e147_22, e147_25, e147_28, p_push, p_is5, p_c2n, p_c2i, p_c2r, p_il5, p_il4, p_cge, p_al2, p_il3, p_bin, p_al0, p_il1, p_iald, p_iast, p_ii5, p_goto, p_vret, WN_nx, WN_nrt, WN_ite, c1]
  | succ n ih =>
    intro i hi
    have c1 : ((i : Int) < (m : Int)) = True := eq_true (by omega)
    have e1 : (i : Int) + 1 = ((i + 1 : Nat) : Int) := by omega
    have e2 : ((p : Int) + (i : Int)).toNat = p + i := by omega
    have e3 : ((q : Int) + (i : Int)).toNat = q + i := by omega
    have u := zcpy_s (σ := σ) (a := a) (b := b) (p := p) (q := q) (m := i) (by omega)
    have ih2 := ih (i + 1) (by omega)
    rw [e147_3]
    simp (disch := first | assumption | exact p_c2i | exact p_c2r | exact p_c2n | omega | ((repeat (first | refine p_a1i.trans ?_ | refine p_a1r.trans ?_)); exact p_a10) | ((repeat (first | refine p_wI ?_ | refine p_wR ?_)); exact p_w0) | decide) only [reduceIte, Int.reduceLT, Int.reduceLE, Int.reduceEq, Int.reduceToNat, Int.reduceAdd, Int.reduceSub, Int.reduceMul, Int.reduceNeg, e147_5, e147_7, e147_10, e147_11, e147_12, e147_14, e147_15, e147_16, e147_17, e147_19, e147_20, e147_21, e147_22, e147_25, p_il5, p_il4, p_cge, p_al2, p_il3, p_bin, p_al0, p_il1, p_iald, p_iast, p_ii5, p_goto, WN_nx, WN_nrt, WN_ite, c1, e1, e2, e3, u]
    exact ih2
theorem t_copies {a b : Nat} {p q m : Int} (ka : zkd a = 10) (kb : zkd b = 10) (hp0 : 0 ≤ p) (hq0 : 0 ≤ q) (hm0 : 0 ≤ m) (hp : p + m ≤ zln a) (hq : q + m ≤ zln b) (hp2 : p + m < 1000000) (hq2 : q + m < 1000000) (h : a ≠ b ∨ q ≤ p ∨ p + m ≤ q) : WM 147 [.inr (.inl (some a)), .inl p, .inr (.inl (some b)), .inl q, .inl m] (3565, x, zrho) σ Q = Q (.inl none) (3565, x, zrho) (zcpy σ a p.toNat b q.toNat m.toNat) := by
  show Wp 147 0 [some (.inr (.inl (some a))), some (.inl p), some (.inr (.inl (some b))), some (.inl q), some (.inl m), none] [] _ σ Q = _
  simp (disch := first | assumption | exact p_c2i | exact p_c2r | exact p_c2n | omega | ((repeat (first | refine p_a1i.trans ?_ | refine p_a1r.trans ?_)); exact p_a10) | ((repeat (first | refine p_wI ?_ | refine p_wR ?_)); exact p_w0) | decide) only [reduceIte, Int.reduceLT, Int.reduceLE, Int.reduceEq, Int.reduceToNat, Int.reduceAdd, Int.reduceSub, Int.reduceMul, Int.reduceNeg, e147_0, e147_1, p_push, p_is5, p_c2n, p_c2i, p_c2r, WN_nx, WN_nrt, WN_ite]
  have hl := l_copies (σ := σ) (Q := Q) (x := x) (a := a) (b := b) (p := p.toNat) (q := q.toNat) (m := m.toNat) ka kb (by omega) (by omega) (by omega) (by omega) (by omega) m.toNat 0 (by omega)
  rw [zcpy_0, Int.toNat_of_nonneg hp0, Int.toNat_of_nonneg hq0, Int.toNat_of_nonneg hm0] at hl
  exact hl
end
