/-! THE MODEL: steps made, a step taken back, as rows -/
theorem aKeep_30 {w : zW} (h : w 201 = 30) : wu (wcp (wu (wcp w 402 202 5800) 201 29) 0 6002 200) 201 30 = aKeep w := by
  funext j
  unfold aKeep
  rw [if_pos h]
  by_cases h1 : 202 ≤ j ∧ j < 6002
  · rw [if_pos h1, wu_o (by omega)]
    unfold wcp
    have n1 : ¬ (6002 ≤ j ∧ j < 6002 + 200) := by omega
    have n2 : 202 ≤ j ∧ j < 202 + 5800 := by omega
    rw [if_neg n1, wu_o (by omega), if_pos n2]
    exact congrArg w (show 402 + (j - 202) = j + 200 by omega)
  · rw [if_neg h1]
    by_cases h2 : 6002 ≤ j ∧ j < 6202
    · rw [if_pos h2, wu_o (by omega)]
      unfold wcp
      have n1 : 6002 ≤ j ∧ j < 6002 + 200 := by omega
      have n2 : ¬ (202 ≤ 0 + (j - 6002) ∧ 0 + (j - 6002) < 202 + 5800) := by omega
      rw [if_pos n1, wu_o (by omega), if_neg n2]
      exact congrArg w (show 0 + (j - 6002) = j - 6002 by omega)
    · rw [if_neg h2]
      by_cases h3 : j = 201
      · subst h3; rw [wu_s, h]
      · rw [wu_o h3]
        unfold wcp
        have n1 : ¬ (6002 ≤ j ∧ j < 6002 + 200) := by omega
        have n2 : ¬ (202 ≤ j ∧ j < 202 + 5800) := by omega
        rw [if_neg n1, wu_o h3, if_neg n2]
theorem aKeep_n {w : zW} {n : Nat} (h : w 201 = (n : Int)) (hn : n ≠ 30) : wu (wcp w 0 (202 + 200 * n) 200) 201 ((n : Int) + 1) = aKeep w := by
  funext j
  have h30 : ¬ w 201 = 30 := by omega
  unfold aKeep
  rw [if_neg h30, h, Int.toNat_natCast]
  by_cases h1 : j = 201
  · subst h1; rw [wu_s, if_pos rfl]
  · rw [wu_o h1, if_neg h1]
    unfold wcp
    by_cases h2 : 202 + 200 * n ≤ j ∧ j < 202 + 200 * n + 200
    · rw [if_pos h2, if_pos h2]
      exact congrArg w (show 0 + (j - (202 + 200 * n)) = j - (202 + 200 * n) by omega)
    · rw [if_neg h2, if_neg h2]
theorem aTake_e {w : zW} {n : Nat} (h : w 201 = (n : Int) + 1) : wcp (wu (wu w 201 (n : Int)) 200 (w 200 + 1)) (202 + 200 * n) 0 200 = aTake w := by
  funext j
  unfold aTake wcp
  rw [h, show ((n : Int) + 1 - 1) = (n : Int) by omega, Int.toNat_natCast]
  by_cases h1 : j < 200
  · have n1 : 0 ≤ j ∧ j < 0 + 200 := by omega
    rw [if_pos h1, if_pos n1, wu_o (by omega), wu_o (by omega)]
    exact congrArg w (show 202 + 200 * n + (j - 0) = 202 + 200 * n + j by omega)
  · have n1 : ¬ (0 ≤ j ∧ j < 0 + 200) := by omega
    rw [if_neg h1, if_neg n1]
    by_cases h2 : j = 200
    · subst h2; rw [wu_s, if_pos rfl]
    · rw [wu_o h2, if_neg h2]
      by_cases h3 : j = 201
      · subst h3; rw [wu_s, if_pos rfl]
      · rw [wu_o h3, if_neg h3]
section
variable {τ σ : ZI} {Q : ZO → ZT → ZI → Prop} {x : Nat} {w : zW} {N : Int} {θ : ZT}
theorem t_copG {p q m : Int} (hp0 : 0 ≤ p) (hq0 : 0 ≤ q) (hm0 : 0 ≤ m) (hp : p + m ≤ 6202) (hq : q + m ≤ 6202) (h : q ≤ p ∨ p + m ≤ q) : WM 147 [.inr (.inl (some 3554)), .inl p, .inr (.inl (some 3554)), .inl q, .inl m] (3565, x, zrho) (zg τ w) Q = Q (.inl none) (3565, x, zrho) (zg τ (wcp w p.toNat q.toNat m.toNat)) := by
  have t := t_copies (Q := Q) (σ := zg τ w) (x := x) (a := 3554) (b := 3554) zm_4 zm_4 hp0 hq0 hm0 (by rw [zm_n4]; omega) (by rw [zm_n4]; omega) (by omega) (by omega) (Or.inr h)
  rw [zg_cp] at t
  exact t
theorem t_keepM {n : Nat} {a b c : Int} (h : w 201 = (n : Int)) (hn : n ≤ 30) : Wp 173 63 [some (.inr (.inl (some 3553))), some (.inl a), some (.inl b), some (.inl c)] [] (3565, x, zrho) (zg τ w) Q = Wp 173 151 [some (.inr (.inl (some 3553))), some (.inl a), some (.inl b), some (.inl c)] [] (3565, x, zrho) (zg τ (aKeep w)) Q := by
  have k := zm_k
  have k4 := zm_4
  have n4 := zm_n4
  by_cases h30 : n = 30
  · subst h30
    rw [show ((30 : Nat) : Int) = 30 from rfl] at h
    have t1 := fun (Q : ZO → ZT → ZI → Prop) => t_copG (Q := Q) (τ := τ) (w := w) (x := x) (p := 402) (q := 202) (m := 5800) (by omega) (by omega) (by omega) (by omega) (by omega) (by omega)
    rw [show (402 : Int).toNat = 402 from rfl, show (202 : Int).toNat = 202 from rfl, show (5800 : Int).toNat = 5800 from rfl] at t1
    have v1 : wcp w 402 202 5800 201 = 30 := h
    have t2 := fun (Q : ZO → ZT → ZI → Prop) (w : zW) => t_copG (Q := Q) (τ := τ) (w := w) (x := x) (p := 0) (q := 6002) (m := 200) (by omega) (by omega) (by omega) (by omega) (by omega) (by omega)
    rw [show (0 : Int).toNat = 0 from rfl, show (6002 : Int).toNat = 6002 from rfl, show (200 : Int).toNat = 200 from rfl] at t2
    have v2 : ∀ v, wcp (wu v 201 29) 0 6002 200 201 = 29 := fun v => by
      unfold wcp
      rw [if_neg (by omega), wu_s]
    have e := aKeep_30 h
    simp (disch := first | assumption | exact p_c2i | exact p_c2r | exact p_c2n | omega | ((repeat (first | refine p_a1i.trans ?_ | refine p_a1r.trans ?_)); exact p_a10) | ((repeat (first | refine p_wI ?_ | refine p_wR ?_)); exact p_w0) | decide) only [reduceIte, Int.reduceLT, Int.reduceLE, Int.reduceEq, Int.reduceToNat, Int.reduceAdd, Int.reduceSub, Int.reduceMul, Int.reduceNeg, e173_63, e173_64, e173_67, e173_70, e173_71, e173_73, e173_76, e173_77, e173_80, e173_83, e173_84, e173_87, e173_90, e173_93, e173_96, e173_97, e173_100, e173_103, e173_104, e173_105, e173_106, e173_107, e173_108, e173_109, e173_112, e173_113, e173_114, e173_117, e173_120, e173_123, e173_124, e173_127, e173_130, e173_131, e173_132, e173_133, e173_136, e173_139, e173_140, e173_143, e173_146, e173_147, e173_148, e173_149, e173_150, p_al0, p_getR, p_push, p_iald, p_cne, p_cs5_0, p_cs5_1, p_cs5_2, p_cs5_3, p_cs5_4, zK_v, zK_0, WN_ncl, p_dup2, p_bin, p_iast, WN_nx, WN_nrt, WN_ite, zm_r0, zg_s, zg_u, h, t1, v1, wu_s, t2, v2, e]
  · have c1 : ((n : Int) = 30) = False := eq_false (by omega)
    have t2 := fun (Q : ZO → ZT → ZI → Prop) (w : zW) => t_copG (Q := Q) (τ := τ) (w := w) (x := x) (p := 0) (q := 202 + 200 * (n : Int)) (m := 200) (by omega) (by omega) (by omega) (by omega) (by omega) (by omega)
    rw [show (0 : Int).toNat = 0 from rfl, show (202 + 200 * (n : Int)).toNat = 202 + 200 * n by omega, show (200 : Int).toNat = 200 from rfl] at t2
    have v2 : wcp w 0 (202 + 200 * n) 200 201 = (n : Int) := by
      unfold wcp
      rw [if_neg (by omega)]
      exact h
    have e := aKeep_n h h30
    simp (disch := first | assumption | exact p_c2i | exact p_c2r | exact p_c2n | omega | ((repeat (first | refine p_a1i.trans ?_ | refine p_a1r.trans ?_)); exact p_a10) | ((repeat (first | refine p_wI ?_ | refine p_wR ?_)); exact p_w0) | decide) only [reduceIte, Int.reduceLT, Int.reduceLE, Int.reduceEq, Int.reduceToNat, Int.reduceAdd, Int.reduceSub, Int.reduceMul, Int.reduceNeg, e173_63, e173_64, e173_67, e173_70, e173_71, e173_73, e173_76, e173_77, e173_80, e173_83, e173_84, e173_87, e173_90, e173_93, e173_96, e173_97, e173_100, e173_103, e173_104, e173_105, e173_106, e173_107, e173_108, e173_109, e173_112, e173_113, e173_114, e173_117, e173_120, e173_123, e173_124, e173_127, e173_130, e173_131, e173_132, e173_133, e173_136, e173_139, e173_140, e173_143, e173_146, e173_147, e173_148, e173_149, e173_150, p_al0, p_getR, p_push, p_iald, p_cne, p_cs5_0, p_cs5_1, p_cs5_2, p_cs5_3, p_cs5_4, zK_v, zK_0, WN_ncl, p_dup2, p_bin, p_iast, WN_nx, WN_nrt, WN_ite, zm_r0, zg_s, zg_u, h, c1, t2, v2, e]
theorem l_stepM {m : Nat} (ok : zSok N w) (hN : N ≤ 80000000) (hm : m ≤ 40) : ∀ n i : Nat, i + n = m → Wp 173 58 [some (.inr (.inl (some 3553))), some (.inl ((m : Int))), some (.inl (aGS w i)), some (.inl ((i : Int)))] [] (3565, x, zrho) (zg τ (aStN i w)) Q = Q (.inl (some (.inl (aGS w m)))) (3565, x, zrho) (zg τ (aStN m w)) := by
  have hk := zm_k
  have k4 := zm_4
  have n4 := zm_n4
  intro n
  induction n with
  | zero =>
    intro i hi
    have e : i = m := by omega
    subst e
    have c1 : ((i : Int) < (i : Int)) = False := eq_false (by omega)
    simp (disch := first | assumption | exact p_c2i | exact p_c2r | exact p_c2n | omega | ((repeat (first | refine p_a1i.trans ?_ | refine p_a1r.trans ?_)); exact p_a10) | ((repeat (first | refine p_wI ?_ | refine p_wR ?_)); exact p_w0) | decide) only [reduceIte, Int.reduceLT, Int.reduceLE, Int.reduceEq, Int.reduceToNat, Int.reduceAdd, Int.reduceSub, Int.reduceMul, Int.reduceNeg, e173_58, e173_59, e173_60, e173_164, e173_165, p_il3, p_il1, p_cge, p_il2, p_ret0, WN_nx, WN_nrt, WN_ite, c1]
  | succ n ih =>
    intro i hi
    have c1 : ((i : Int) < (m : Int)) = True := eq_true (by omega)
    have e1 : (i : Int) + 1 = ((i + 1 : Nat) : Int) := by omega
    obtain ⟨ok1, g0⟩ := aStN_ok ok i
    have o1 := ok1.1
    obtain ⟨q, hq⟩ : ∃ q : Nat, aStN i w 201 = (q : Int) := ⟨(aStN i w 201).toNat, by omega⟩
    have ih2 := ih (i + 1) (by omega)
    rw [show aGS w (i + 1) = aGS w i + aGN (aKeep (aStN i w)) (w 0).toNat from rfl, show aStN (i + 1) w = aStep (aKeep (aStN i w)) from rfl] at ih2
    have okk := zSok_keep ok1
    have ts := fun (Q : ZO → ZT → ZI → Prop) => t_stepsOnceM (Q := Q) (τ := τ) (x := x) okk.2.2.1 (by omega)
    have e0 : aKeep (aStN i w) 0 = w 0 := by
      rw [← g0]
      unfold aKeep
      split
      · rw [if_neg (by omega), if_neg (by omega)]
      · rw [if_neg (by omega), if_neg (by omega)]
    rw [e0] at ts
    rw [e173_58]
    simp (disch := first | assumption | exact p_c2i | exact p_c2r | exact p_c2n | omega | ((repeat (first | refine p_a1i.trans ?_ | refine p_a1r.trans ?_)); exact p_a10) | ((repeat (first | refine p_wI ?_ | refine p_wR ?_)); exact p_w0) | decide) only [reduceIte, Int.reduceLT, Int.reduceLE, Int.reduceEq, Int.reduceToNat, Int.reduceAdd, Int.reduceSub, Int.reduceMul, Int.reduceNeg, e173_59, e173_60, p_il3, p_il1, p_cge, WN_nx, WN_nrt, WN_ite, c1]
    rw [t_keepM hq (by omega)]
    simp (disch := first | assumption | exact p_c2i | exact p_c2r | exact p_c2n | omega | ((repeat (first | refine p_a1i.trans ?_ | refine p_a1r.trans ?_)); exact p_a10) | ((repeat (first | refine p_wI ?_ | refine p_wR ?_)); exact p_w0) | decide) only [reduceIte, Int.reduceLT, Int.reduceLE, Int.reduceEq, Int.reduceToNat, Int.reduceAdd, Int.reduceSub, Int.reduceMul, Int.reduceNeg, e173_151, e173_152, e173_153, e173_156, e173_157, e173_158, e173_161, p_il2, p_al0, p_cv0_0, p_cv0_1, p_cv0_2, p_cv0_3, p_cv0_4, zK_v, zK_0, WN_ncl, p_bin, p_is2, p_c2n, p_c2i, p_c2r, p_ii3, p_goto, WN_nx, WN_nrt, WN_ite, ts, e1]
    exact ih2
end
