/-! THE MODEL: the inverse of the latest step -/
def zbb (A : Bool) (q : Nat → Bool) (i : Nat) : Int := if A = true ∧ zfa q 0 i = true then 1 else 0
theorem zfa_l {q : Nat → Bool} {i : Nat} : zfa q 0 (i + 1) = true ↔ (zfa q 0 i = true ∧ q i = true) := by
  rw [zfa_iff, zfa_iff]
  refine ⟨fun h => ⟨fun j h1 h2 => h j h1 (by omega), h i (by omega) (by omega)⟩, fun h j h1 h2 => ?_⟩
  by_cases e : j = i
  · exact e ▸ h.2
  · exact h.1 j h1 (by omega)
theorem zbb_01 {A : Bool} {q : Nat → Bool} {i : Nat} : zbb A q i = 0 ∨ zbb A q i = 1 := by
  unfold zbb
  split
  · exact Or.inr rfl
  · exact Or.inl rfl
theorem zbb_y {A : Bool} {q : Nat → Bool} {i : Nat} (h : q i = true) : z_and (zbb A q i) 1 = zbb A q (i + 1) := by
  have e : zbb A q (i + 1) = zbb A q i := by
    unfold zbb
    by_cases h2 : A = true ∧ zfa q 0 i = true
    · rw [if_pos h2, if_pos ⟨h2.1, zfa_l.mpr ⟨h2.2, h⟩⟩]
    · rw [if_neg h2, if_neg (fun z => h2 ⟨z.1, (zfa_l.mp z.2).1⟩)]
  rw [e]
  rcases zbb_01 (A := A) (q := q) (i := i) with z | z <;> rw [z] <;> rfl
theorem zbb_n {A : Bool} {q : Nat → Bool} {i : Nat} (h : ¬ q i = true) : z_and (zbb A q i) 0 = zbb A q (i + 1) := by
  have e : zbb A q (i + 1) = 0 := by
    unfold zbb
    rw [if_neg (fun z => h (zfa_l.mp z.2).2)]
  rw [e]
  rcases zbb_01 (A := A) (q := q) (i := i) with z | z <;> rw [z] <;> rfl
theorem zbb_t {q : Nat → Bool} : zbb true q 0 = 1 := if_pos ⟨rfl, rfl⟩
theorem zbb_x {q p : Nat → Bool} {i : Nat} : zbb true q i = zbb (zfa q 0 i) p 0 := by
  unfold zbb
  by_cases h : zfa q 0 i = true
  · rw [if_pos ⟨rfl, h⟩, if_pos ⟨h, rfl⟩]
  · rw [if_neg (fun z => h z.2), if_neg (fun z => h z.1)]
theorem aInv_hi {w : zW} {N : Int} {i j : Nat} (ok : zok N w) (hi : (i : Int) < w 0) (hj : 200 ≤ j) : aInv i w j = w j := by
  have o0 := ok.1
  have o := ok.2.2.2.2.2.2.2.2.2.1 i hi
  have ht := aTo_in (c := w (172 + 4 * i + 0)) (d := (w (172 + 4 * i + 1) + 2) % 4) o.1.1 o.1.2
  unfold aInv
  generalize aTo (w (172 + 4 * i + 0)) ((w (172 + 4 * i + 1) + 2) % 4) = c at ht ⊢
  rw [wu_o (by omega), wu_o (by omega), wu_o (by omega)]
theorem aInvN_hi {N : Int} {j : Nat} (hj : 200 ≤ j) : ∀ (n : Nat) {w : zW}, zok N w → (n : Int) ≤ w 0 → aInvN n w j = w j := by
  intro n
  induction n with
  | zero => intro w _ _; rfl
  | succ n ih =>
    intro w ok hn
    have h0 := aInv_0 (i := n) (k := 0) ok (by omega) (by omega)
    exact (ih (zok_inv (i := n) ok (by omega)) (by omega)).trans (aInv_hi ok (by omega) hj)
section
variable {τ : ZI} {Q : ZO → ZT → ZI → Prop} {x : Nat} {w : zW} {N : Int}
theorem l_invM2 {a : Int} {w2 : zW} (K : ∀ l3 : Option ZV, Wp 175 140 [some (.inr (.inl (some 3553))), some (.inl a), some (.inl (-1)), l3] [] (3565, x, zrho) (zg τ w2) Q) : ∀ (n : Nat) (w1 : zW) (l3 : Option ZV), zok N w1 → (n : Int) ≤ w1 0 → aInvN n w1 = w2 → Wp 175 44 [some (.inr (.inl (some 3553))), some (.inl a), some (.inl ((n : Int) - 1)), l3] [] (3565, x, zrho) (zg τ w1) Q := by
  have hk := zm_k
  have k4 := zm_4
  have n4 := zm_n4
  intro n
  induction n with
  | zero =>
    intro w1 l3 ok hn he
    have e : w1 = w2 := he
    subst e
    rw [e175_44]
    simp (disch := first | assumption | exact p_c2i | exact p_c2r | exact p_c2n | omega | ((repeat (first | refine p_a1i.trans ?_ | refine p_a1r.trans ?_)); exact p_a10) | ((repeat (first | refine p_wI ?_ | refine p_wR ?_)); exact p_w0) | decide) only [reduceIte, Int.reduceLT, Int.reduceLE, Int.reduceEq, Int.reduceToNat, Int.reduceAdd, Int.reduceSub, Int.reduceMul, Int.reduceNeg, e175_45, p_il2, p_iflt, WN_nx, WN_nrt, WN_ite, show ((0 : Nat) : Int) - 1 = -1 from rfl]
    exact K l3
  | succ n ih =>
    intro w1 l3 ok hn he
    have o0 := ok.1
    have o1 := ok.2.1
    have hi : (n : Int) < w1 0 := by omega
    have hi4 : n < 4 := by omega
    have e1 : ((n + 1 : Nat) : Int) - 1 = (n : Int) := by omega
    have c1 : ((n : Int) < 0) = False := eq_false (by omega)
    have e2 : (n : Int) + -1 = (n : Int) - 1 := by omega
    have o := ok.2.2.2.2.2.2.2.2.2.1 n hi
    rw [show 173 + 4 * n = 172 + 4 * n + 1 by omega] at o
    have ht := aTo_in (c := w1 (172 + 4 * n + 0)) (d := (w1 (172 + 4 * n + 1) + 2) % 4) o.1.1 o.1.2
    have m1 : Int.tmod (w1 (172 + 4 * n + 1) + 2) 4 = (w1 (172 + 4 * n + 1) + 2) % 4 := Int.tmod_eq_emod_of_nonneg (by omega)
    have tw := fun (Q : ZO → ZT → ZI → Prop) (σ : ZI) (θ : ZT) => t_toward (Q := Q) (σ := σ) (θ := θ) (c := w1 (172 + 4 * n + 0)) (d := (w1 (172 + 4 * n + 1) + 2) % 4) o.1 (by omega)
    have ok2 := zok_inv ok hi
    have hi0 := aInv_0 (k := 0) ok hi (by omega)
    have he2 : aInvN n (aInv n w1) = w2 := he
    have fin := fun l3 => ih (aInv n w1) l3 ok2 (by omega) he2
    unfold aInv at fin
    generalize hcc : aTo (w1 (172 + 4 * n + 0)) ((w1 (172 + 4 * n + 1) + 2) % 4) = cz at ht tw fin
    obtain ⟨c, hc⟩ : ∃ c : Nat, cz = (c : Int) := ⟨cz.toNat, by omega⟩
    subst hc
    rw [Int.toNat_natCast] at fin
    have oc := ok.2.2.2.2.2.2.2.1 c (by omega)
    have i10 : (10 + (c : Int)).toNat = 10 + c := by omega
    have mc : Int.tmod (w1 (10 + c) + w1 1 - 1) (w1 1) = if 0 < w1 (10 + c) then w1 (10 + c) - 1 else w1 1 - 1 := by
      rw [Int.tmod_eq_emod_of_nonneg (by omega)]
      by_cases h : 0 < w1 (10 + c)
      · rw [if_pos h, show w1 (10 + c) + w1 1 - 1 = (w1 (10 + c) - 1) + w1 1 by omega, Int.add_emod_right, Int.emod_eq_of_lt (by omega) (by omega)]
      · rw [if_neg h, show w1 (10 + c) + w1 1 - 1 = w1 1 - 1 by omega, Int.emod_eq_of_lt (by omega) (by omega)]
    have hcol : 0 ≤ (if 0 < w1 (10 + c) then w1 (10 + c) - 1 else w1 1 - 1) ∧ (if 0 < w1 (10 + c) then w1 (10 + c) - 1 else w1 1 - 1) < w1 1 := by split <;> omega
    generalize (if 0 < w1 (10 + c) then w1 (10 + c) - 1 else w1 1 - 1) = v at mc hcol fin
    have to0 := fun (Q : ZO → ZT → ZI → Prop) (w : zW) => t_ofM (Q := Q) (x := x) (τ := τ) (w := w) (h := n) (j := 0) (by omega) (by omega) (by omega)
    rw [show Int.toNat 0 = 0 from rfl] at to0
    have to1 := fun (Q : ZO → ZT → ZI → Prop) (w : zW) => t_ofM (Q := Q) (x := x) (τ := τ) (w := w) (h := n) (j := 1) (by omega) (by omega) (by omega)
    rw [show Int.toNat 1 = 1 from rfl] at to1
    have tl0 := fun (Q : ZO → ZT → ZI → Prop) (w : zW) (v : Int) => t_laysM (Q := Q) (x := x) (τ := τ) (w := w) (h := n) (j := 0) (v := v) (by omega) (by omega) (by omega)
    rw [show Int.toNat 0 = 0 from rfl] at tl0
    have tl1 := fun (Q : ZO → ZT → ZI → Prop) (w : zW) (v : Int) => t_laysM (Q := Q) (x := x) (τ := τ) (w := w) (h := n) (j := 1) (v := v) (by omega) (by omega) (by omega)
    rw [show Int.toNat 1 = 1 from rfl] at tl1
    have u10 : wu (wu w1 (10 + c) v) (172 + 4 * n + 0) (c : Int) (10 + c) = v := by rw [wu_o (by omega), wu_s]
    have u6 : wu (wu w1 (10 + c) v) (172 + 4 * n + 0) (c : Int) (6 + v.toNat) = w1 (6 + v.toNat) := by rw [wu_o (by omega), wu_o (by omega)]
    have u1 : wu (wu w1 (10 + c) v) (172 + 4 * n + 0) (c : Int) (172 + 4 * n + 1) = w1 (172 + 4 * n + 1) := by rw [wu_o (by omega), wu_o (by omega)]
    have ot := ok.2.2.2.2.2.2.1 v.toNat (by omega)
    obtain ⟨ot1, ot2⟩ := ot
    have tt := fun (Q : ZO → ZT → ZI → Prop) => t_turnOnM (Q := Q) (x := x) (τ := τ) (w := wu (wu w1 (10 + c) v) (172 + 4 * n + 0) (c : Int)) (c := c) (by omega) (by rw [u10]; omega)
    rw [u10, u6] at tt
    have q4 := aQ_in (w1 (6 + v.toNat))
    have m4 : Int.tmod (w1 (172 + 4 * n + 1) + 4 - aQ (w1 (6 + v.toNat))) 4 = (w1 (172 + 4 * n + 1) - aQ (w1 (6 + v.toNat))) % 4 := by
      rw [Int.tmod_eq_emod_of_nonneg (by omega)]
      omega
    rw [e175_44]
    simp (disch := first | assumption | exact p_c2i | exact p_c2r | exact p_c2n | omega | ((repeat (first | refine p_a1i.trans ?_ | refine p_a1r.trans ?_)); exact p_a10) | ((repeat (first | refine p_wI ?_ | refine p_wR ?_)); exact p_w0) | decide) only [reduceIte, Int.reduceLT, Int.reduceLE, Int.reduceEq, Int.reduceToNat, Int.reduceAdd, Int.reduceSub, Int.reduceMul, Int.reduceNeg, e175_45, e175_48, e175_49, e175_50, e175_51, e175_54, e175_55, e175_56, e175_57, e175_60, e175_61, e175_62, e175_63, e175_64, e175_67, e175_68, e175_69, e175_72, e175_74, e175_75, e175_76, e175_77, e175_80, e175_82, e175_83, e175_84, e175_85, e175_86, e175_89, e175_90, e175_91, e175_92, e175_93, e175_94, e175_95, e175_98, e175_99, e175_100, e175_101, e175_102, e175_103, e175_104, e175_105, e175_106, e175_109, e175_110, e175_111, e175_112, e175_113, e175_114, e175_115, e175_118, e175_119, e175_120, e175_121, e175_122, e175_125, e175_128, e175_129, e175_130, e175_131, e175_134, e175_137, p_il2, p_iflt, p_al0, p_push, p_cv2_0, p_cv2_1, p_cv2_2, p_cv2_3, p_cv2_4, zK_v, zK_0, WN_ncl, p_bin, p_rem, p_cs2_0, p_cs2_1, p_cs2_2, p_cs2_3, p_cs2_4, p_is3, p_c2n, p_c2i, p_c2r, p_getR, p_il3, p_iald, p_iast, p_cv3_0, p_cv3_1, p_cv3_2, p_cv3_3, p_cv3_4, p_cv1_0, p_cv1_1, p_cv1_2, p_cv1_3, p_cv1_4, p_cs1_0, p_cs1_1, p_cs1_2, p_cs1_3, p_cs1_4, p_ii2, p_goto, WN_nx, WN_nrt, WN_ite, e1, c1, to0, to1, m1, tw, zm_r0, zg_s, zg_u, i10, mc, tl0, u1, tt, t_quartersM, m4, tl1, e2]
    exact fin _
theorem l_eqc {a : Nat} (hb : ∀ c, c < 81 → (0 ≤ w (10 + c) ∧ w (10 + c) < 4) ∧ (0 ≤ w (a + 10 + c) ∧ w (a + 10 + c) < 4)) (ha : a + 200 ≤ 6202) : ∀ n i : Nat, i + n = 81 → Wp 175 144 [some (.inr (.inl (some 3553))), some (.inl ((a : Int))), some (.inl (zbb true (fun c => decide (w (10 + c) = w (a + 10 + c))) i)), some (.inl ((i : Int)))] [] (3565, x, zrho) (zg τ w) Q = Wp 175 187 [some (.inr (.inl (some 3553))), some (.inl ((a : Int))), some (.inl (zbb true (fun c => decide (w (10 + c) = w (a + 10 + c))) 81)), some (.inl 81)] [] (3565, x, zrho) (zg τ w) Q := by
  have hk := zm_k
  have k4 := zm_4
  have n4 := zm_n4
  intro n
  induction n with
  | zero =>
    intro i hi
    have e : i = 81 := by omega
    subst e
    rw [e175_144]
    simp (disch := first | assumption | exact p_c2i | exact p_c2r | exact p_c2n | omega | ((repeat (first | refine p_a1i.trans ?_ | refine p_a1r.trans ?_)); exact p_a10) | ((repeat (first | refine p_wI ?_ | refine p_wR ?_)); exact p_w0) | decide) only [reduceIte, Int.reduceLT, Int.reduceLE, Int.reduceEq, Int.reduceToNat, Int.reduceAdd, Int.reduceSub, Int.reduceMul, Int.reduceNeg, e175_145, e175_147, p_il3, p_push, p_cge, WN_nx, WN_nrt, WN_ite, show ((81 : Nat) : Int) = 81 from rfl]
  | succ n ih =>
    intro i hi
    have c1 : ((i : Int) < 81) = True := eq_true (by omega)
    have e1 : (i : Int) + 1 = ((i + 1 : Nat) : Int) := by omega
    have i1 : (10 + (i : Int)).toNat = 10 + i := by omega
    have i2 : ((a : Int) + 10 + (i : Int)).toNat = a + 10 + i := by omega
    have b := hb i (by omega)
    have ih2 := ih (i + 1) (by omega)
    by_cases hd : w (10 + i) = w (a + 10 + i)
    · have z := zbb_y (A := true) (q := fun c => decide (w (10 + c) = w (a + 10 + c))) (i := i) (decide_eq_true hd)
      have c2 : (w (10 + i) = w (a + 10 + i)) = True := eq_true hd
      rw [e175_144]
      simp (disch := first | assumption | exact p_c2i | exact p_c2r | exact p_c2n | omega | ((repeat (first | refine p_a1i.trans ?_ | refine p_a1r.trans ?_)); exact p_a10) | ((repeat (first | refine p_wI ?_ | refine p_wR ?_)); exact p_w0) | decide) only [reduceIte, Int.reduceLT, Int.reduceLE, Int.reduceEq, Int.reduceToNat, Int.reduceAdd, Int.reduceSub, Int.reduceMul, Int.reduceNeg, e175_145, e175_147, e175_150, e175_151, e175_152, e175_155, e175_157, e175_158, e175_159, e175_160, e175_161, e175_164, e175_165, e175_167, e175_168, e175_169, e175_170, e175_171, e175_174, e175_175, e175_178, e175_179, e175_180, e175_181, e175_184, p_il3, p_push, p_cge, p_il2, p_al0, p_getR, p_bin, p_iald, p_il1, p_cne, p_goto, p_is2, p_c2n, p_c2i, p_c2r, p_ii3, WN_nx, WN_nrt, WN_ite, c1, zm_r0, zg_s, i1, i2, c2, z, e1]
      exact ih2
    · have z := zbb_n (A := true) (q := fun c => decide (w (10 + c) = w (a + 10 + c))) (i := i) (by rw [decide_eq_true_iff]; exact hd)
      rw [e175_144]
      simp (disch := first | assumption | exact p_c2i | exact p_c2r | exact p_c2n | omega | ((repeat (first | refine p_a1i.trans ?_ | refine p_a1r.trans ?_)); exact p_a10) | ((repeat (first | refine p_wI ?_ | refine p_wR ?_)); exact p_w0) | decide) only [reduceIte, Int.reduceLT, Int.reduceLE, Int.reduceEq, Int.reduceToNat, Int.reduceAdd, Int.reduceSub, Int.reduceMul, Int.reduceNeg, e175_145, e175_147, e175_150, e175_151, e175_152, e175_155, e175_157, e175_158, e175_159, e175_160, e175_161, e175_164, e175_165, e175_167, e175_168, e175_169, e175_170, e175_171, e175_174, e175_175, e175_178, e175_179, e175_180, e175_181, e175_184, p_il3, p_push, p_cge, p_il2, p_al0, p_getR, p_bin, p_iald, p_il1, p_cne, p_goto, p_is2, p_c2n, p_c2i, p_c2r, p_ii3, WN_nx, WN_nrt, WN_ite, c1, zm_r0, zg_s, i1, i2, hd, z, e1]
      exact ih2
theorem l_eqh {a : Nat} {A : Bool} (o0 : 0 ≤ w 0 ∧ w 0 ≤ 4) (hb : ∀ h : Nat, (h : Int) < w 0 → ((0 ≤ w (172 + 4 * h) ∧ w (172 + 4 * h) < 81) ∧ (0 ≤ w (a + 172 + 4 * h) ∧ w (a + 172 + 4 * h) < 81)) ∧ ((0 ≤ w (172 + 4 * h + 1) ∧ w (172 + 4 * h + 1) < 4) ∧ (0 ≤ w (a + 172 + 4 * h + 1) ∧ w (a + 172 + 4 * h + 1) < 4))) (ha : a + 200 ≤ 6202) : ∀ n i : Nat, ((i + n : Nat) : Int) = w 0 → Wp 175 189 [some (.inr (.inl (some 3553))), some (.inl ((a : Int))), some (.inl (zbb A (fun h => decide (w (172 + 4 * h) = w (a + 172 + 4 * h) ∧ w (172 + 4 * h + 1) = w (a + 172 + 4 * h + 1))) i)), some (.inl ((i : Int)))] [] (3565, x, zrho) (zg τ w) Q = Wp 175 261 [some (.inr (.inl (some 3553))), some (.inl ((a : Int))), some (.inl (zbb A (fun h => decide (w (172 + 4 * h) = w (a + 172 + 4 * h) ∧ w (172 + 4 * h + 1) = w (a + 172 + 4 * h + 1))) (w 0).toNat)), some (.inl (w 0))] [] (3565, x, zrho) (zg τ w) Q := by
  have hk := zm_k
  have k4 := zm_4
  have n4 := zm_n4
  intro n
  induction n with
  | zero =>
    intro i hi
    have e : i = (w 0).toNat := by omega
    have e2 : (i : Int) = w 0 := by omega
    have c1 : (w 0 < w 0) = False := eq_false (by omega)
    rw [← e, e2]
    rw [e175_189]
    simp (disch := first | assumption | exact p_c2i | exact p_c2r | exact p_c2n | omega | ((repeat (first | refine p_a1i.trans ?_ | refine p_a1r.trans ?_)); exact p_a10) | ((repeat (first | refine p_wI ?_ | refine p_wR ?_)); exact p_w0) | decide) only [reduceIte, Int.reduceLT, Int.reduceLE, Int.reduceEq, Int.reduceToNat, Int.reduceAdd, Int.reduceSub, Int.reduceMul, Int.reduceNeg, e175_190, e175_191, e175_194, e175_195, e175_196, p_il3, p_al0, p_getR, p_push, p_iald, p_cge, WN_nx, WN_nrt, WN_ite, zm_r0, zg_s, c1]
  | succ n ih =>
    intro i hi
    have hi0 : (i : Int) < w 0 := by omega
    have c1 : ((i : Int) < w 0) = True := eq_true hi0
    have e1 : (i : Int) + 1 = ((i + 1 : Nat) : Int) := by omega
    have i1 : ((a : Int) + 172 + 4 * (i : Int)).toNat = a + 172 + 4 * i := by omega
    have i2 : ((a : Int) + 172 + 4 * (i : Int) + 1).toNat = a + 172 + 4 * i + 1 := by omega
    have b := hb i hi0
    have ih2 := ih (i + 1) (by omega)
    have to0 := fun (Q : ZO → ZT → ZI → Prop) => t_ofM (Q := Q) (x := x) (τ := τ) (w := w) (h := i) (j := 0) (by omega) (by omega) (by omega)
    rw [show 172 + 4 * i + Int.toNat 0 = 172 + 4 * i from rfl] at to0
    have to1 := fun (Q : ZO → ZT → ZI → Prop) => t_ofM (Q := Q) (x := x) (τ := τ) (w := w) (h := i) (j := 1) (by omega) (by omega) (by omega)
    rw [show Int.toNat 1 = 1 from rfl] at to1
    by_cases hd : w (172 + 4 * i) = w (a + 172 + 4 * i)
    · have c2 : (w (172 + 4 * i) = w (a + 172 + 4 * i)) = True := eq_true hd
      by_cases hd2 : w (172 + 4 * i + 1) = w (a + 172 + 4 * i + 1)
      · have z := zbb_y (A := A) (q := fun h => decide (w (172 + 4 * h) = w (a + 172 + 4 * h) ∧ w (172 + 4 * h + 1) = w (a + 172 + 4 * h + 1))) (i := i) (decide_eq_true ⟨hd, hd2⟩)
        have c3 : (w (172 + 4 * i + 1) = w (a + 172 + 4 * i + 1)) = True := eq_true hd2
        rw [e175_189]
        simp (disch := first | assumption | exact p_c2i | exact p_c2r | exact p_c2n | omega | ((repeat (first | refine p_a1i.trans ?_ | refine p_a1r.trans ?_)); exact p_a10) | ((repeat (first | refine p_wI ?_ | refine p_wR ?_)); exact p_w0) | decide) only [reduceIte, Int.reduceLT, Int.reduceLE, Int.reduceEq, Int.reduceToNat, Int.reduceAdd, Int.reduceSub, Int.reduceMul, Int.reduceNeg, e175_190, e175_191, e175_194, e175_195, e175_196, e175_199, e175_200, e175_201, e175_202, e175_203, e175_206, e175_207, e175_210, e175_211, e175_214, e175_215, e175_216, e175_217, e175_218, e175_219, e175_220, e175_223, e175_224, e175_225, e175_226, e175_229, e175_230, e175_233, e175_234, e175_237, e175_238, e175_239, e175_240, e175_241, e175_242, e175_243, e175_244, e175_245, e175_248, e175_249, e175_252, e175_253, e175_254, e175_255, e175_258, p_il3, p_al0, p_getR, p_push, p_iald, p_cge, p_il2, p_cv2_0, p_cv2_1, p_cv2_2, p_cv2_3, p_cv2_4, zK_v, zK_0, WN_ncl, p_il1, p_bin, p_cne, p_goto, p_is2, p_c2n, p_c2i, p_c2r, p_ii3, WN_nx, WN_nrt, WN_ite, c1, zm_r0, zg_s, to0, to1, i1, i2, c2, c3, z, e1]
        exact ih2
      · have z := zbb_n (A := A) (q := fun h => decide (w (172 + 4 * h) = w (a + 172 + 4 * h) ∧ w (172 + 4 * h + 1) = w (a + 172 + 4 * h + 1))) (i := i) (by rw [decide_eq_true_iff]; exact fun z => hd2 z.2)
        rw [e175_189]
        simp (disch := first | assumption | exact p_c2i | exact p_c2r | exact p_c2n | omega | ((repeat (first | refine p_a1i.trans ?_ | refine p_a1r.trans ?_)); exact p_a10) | ((repeat (first | refine p_wI ?_ | refine p_wR ?_)); exact p_w0) | decide) only [reduceIte, Int.reduceLT, Int.reduceLE, Int.reduceEq, Int.reduceToNat, Int.reduceAdd, Int.reduceSub, Int.reduceMul, Int.reduceNeg, e175_190, e175_191, e175_194, e175_195, e175_196, e175_199, e175_200, e175_201, e175_202, e175_203, e175_206, e175_207, e175_210, e175_211, e175_214, e175_215, e175_216, e175_217, e175_218, e175_219, e175_220, e175_223, e175_224, e175_225, e175_226, e175_229, e175_230, e175_233, e175_234, e175_237, e175_238, e175_239, e175_240, e175_241, e175_242, e175_243, e175_244, e175_245, e175_248, e175_249, e175_252, e175_253, e175_254, e175_255, e175_258, p_il3, p_al0, p_getR, p_push, p_iald, p_cge, p_il2, p_cv2_0, p_cv2_1, p_cv2_2, p_cv2_3, p_cv2_4, zK_v, zK_0, WN_ncl, p_il1, p_bin, p_cne, p_goto, p_is2, p_c2n, p_c2i, p_c2r, p_ii3, WN_nx, WN_nrt, WN_ite, c1, zm_r0, zg_s, to0, to1, i1, i2, c2, hd2, z, e1]
        exact ih2
    · have z := zbb_n (A := A) (q := fun h => decide (w (172 + 4 * h) = w (a + 172 + 4 * h) ∧ w (172 + 4 * h + 1) = w (a + 172 + 4 * h + 1))) (i := i) (by rw [decide_eq_true_iff]; exact fun z => hd z.1)
      rw [e175_189]
      simp (disch := first | assumption | exact p_c2i | exact p_c2r | exact p_c2n | omega | ((repeat (first | refine p_a1i.trans ?_ | refine p_a1r.trans ?_)); exact p_a10) | ((repeat (first | refine p_wI ?_ | refine p_wR ?_)); exact p_w0) | decide) only [reduceIte, Int.reduceLT, Int.reduceLE, Int.reduceEq, Int.reduceToNat, Int.reduceAdd, Int.reduceSub, Int.reduceMul, Int.reduceNeg, e175_190, e175_191, e175_194, e175_195, e175_196, e175_199, e175_200, e175_201, e175_202, e175_203, e175_206, e175_207, e175_210, e175_211, e175_214, e175_215, e175_216, e175_217, e175_218, e175_219, e175_220, e175_223, e175_224, e175_225, e175_226, e175_229, e175_230, e175_233, e175_234, e175_237, e175_238, e175_239, e175_240, e175_241, e175_242, e175_243, e175_244, e175_245, e175_248, e175_249, e175_252, e175_253, e175_254, e175_255, e175_258, p_il3, p_al0, p_getR, p_push, p_iald, p_cge, p_il2, p_cv2_0, p_cv2_1, p_cv2_2, p_cv2_3, p_cv2_4, zK_v, zK_0, WN_ncl, p_il1, p_bin, p_cne, p_goto, p_is2, p_c2n, p_c2i, p_c2r, p_ii3, WN_nx, WN_nrt, WN_ite, c1, zm_r0, zg_s, to0, i1, hd, z, e1]
      exact ih2
theorem t_isInvNowM (ok : zSok N w) (h0 : 0 < w 201) (K : Q (.inl (some (.inl (aLook (aInvN (w 0).toNat w) (zgl (w 201 - 1).toNat w))))) (3565, x, zrho) (zg (zsp τ w) w)) : WM 175 [.inr (.inl (some 3553))] (3565, x, zrho) (zg τ w) Q := by
  show Wp 175 0 [some (.inr (.inl (some 3553))), none, none, none] [] _ _ Q
  have hk := zm_k
  have k4 := zm_4
  have n4 := zm_n4
  have o1 := ok.1
  have o0 := ok.2.2.1.1
  obtain ⟨n, hn⟩ : ∃ n : Nat, w 201 = (n : Int) + 1 := ⟨(w 201 - 1).toNat, by omega⟩
  obtain ⟨m, hm⟩ : ∃ m : Nat, w 0 = (m : Int) := ⟨(w 0).toNat, by omega⟩
  have ea : (n : Int) + 1 - 1 = (n : Int) := by omega
  have eb : 202 + 200 * (n : Int) = ((202 + 200 * n : Nat) : Int) := by omega
  rw [hn, ea, hm, Int.toNat_natCast, Int.toNat_natCast] at K
  obtain ⟨v1, v2⟩ := aInvN_ok m ok.2.2.1 (by omega)
  have v3 : ∀ j, 200 ≤ j → aInvN m w j = w j := fun j hj => aInvN_hi hj m ok.2.2.1 (by omega)
  have okn := (ok.2.2.2 n (by omega))
  have e0 : aInvN m w 0 = (m : Int) := (v2 0 (by omega)).trans hm
  generalize he2 : aInvN m w = w2 at K v1 v2 v3 e0
  simp (disch := first | assumption | exact p_c2i | exact p_c2r | exact p_c2n | omega | ((repeat (first | refine p_a1i.trans ?_ | refine p_a1r.trans ?_)); exact p_a10) | ((repeat (first | refine p_wI ?_ | refine p_wR ?_)); exact p_w0) | decide) only [reduceIte, Int.reduceLT, Int.reduceLE, Int.reduceEq, Int.reduceToNat, Int.reduceAdd, Int.reduceSub, Int.reduceMul, Int.reduceNeg, e175_0, e175_3, e175_6, e175_7, e175_10, e175_13, e175_14, e175_15, e175_16, e175_17, e175_18, e175_19, e175_20, e175_23, e175_24, e175_25, e175_28, e175_29, e175_32, e175_35, e175_36, e175_39, e175_40, e175_41, e175_42, e175_43, p_push, p_al0, p_getR, p_iald, p_bin, p_is1, p_c2n, p_c2i, p_c2r, p_cs5_0, p_cs5_1, p_cs5_2, p_cs5_3, p_cs5_4, zK_v, zK_0, WN_ncl, p_is2, WN_nx, WN_nrt, WN_ite, zm_r0, zm_r4, zg_s, hn, ea, eb, t_save, hm]
  refine l_invM2 (w2 := w2) (τ := zsp τ w) (fun l3 => ?_) m w none ok.2.2.1 (by omega) he2
  have hbc : ∀ c, c < 81 → (0 ≤ w2 (10 + c) ∧ w2 (10 + c) < 4) ∧ (0 ≤ w2 (202 + 200 * n + 10 + c) ∧ w2 (202 + 200 * n + 10 + c) < 4) := by
    intro c hc
    have a1 := v1.2.2.2.2.2.2.2.1 c hc
    have a2 := v1.2.1
    have b1 := okn.1.2.2.2.2.2.2.2.1 c hc
    have b2 := okn.1.2.1
    have e : w2 (202 + 200 * n + 10 + c) = zgl n w (10 + c) := by rw [v3 _ (by omega)]; exact congrArg w (by omega)
    rw [e]
    omega
  have hbh : ∀ h : Nat, (h : Int) < w2 0 → ((0 ≤ w2 (172 + 4 * h) ∧ w2 (172 + 4 * h) < 81) ∧ (0 ≤ w2 (202 + 200 * n + 172 + 4 * h) ∧ w2 (202 + 200 * n + 172 + 4 * h) < 81)) ∧ ((0 ≤ w2 (172 + 4 * h + 1) ∧ w2 (172 + 4 * h + 1) < 4) ∧ (0 ≤ w2 (202 + 200 * n + 172 + 4 * h + 1) ∧ w2 (202 + 200 * n + 172 + 4 * h + 1) < 4)) := by
    intro h hh
    have a1 := v1.2.2.2.2.2.2.2.2.2.1 h hh
    have b1 := okn.1.2.2.2.2.2.2.2.2.2.1 h (by rw [okn.2]; omega)
    have e : w2 (202 + 200 * n + 172 + 4 * h) = zgl n w (172 + 4 * h) := by rw [v3 _ (by omega)]; exact congrArg w (by omega)
    have e2 : w2 (202 + 200 * n + 172 + 4 * h + 1) = zgl n w (173 + 4 * h) := by rw [v3 _ (by omega)]; exact congrArg w (by omega)
    rw [e, e2, show 172 + 4 * h + 1 = 173 + 4 * h by omega]
    exact ⟨⟨a1.1, b1.1⟩, a1.2.1, b1.2.1⟩
  simp (disch := first | assumption | exact p_c2i | exact p_c2r | exact p_c2n | omega | ((repeat (first | refine p_a1i.trans ?_ | refine p_a1r.trans ?_)); exact p_a10) | ((repeat (first | refine p_wI ?_ | refine p_wR ?_)); exact p_w0) | decide) only [reduceIte, Int.reduceLT, Int.reduceLE, Int.reduceEq, Int.reduceToNat, Int.reduceAdd, Int.reduceSub, Int.reduceMul, Int.reduceNeg, e175_140, e175_141, e175_142, e175_143, p_push, p_is2, p_c2n, p_c2i, p_c2r, p_is3, WN_nx, WN_nrt, WN_ite]
  have l1 := l_eqc (τ := zsp τ w) (Q := Q) (x := x) (w := w2) (a := 202 + 200 * n) hbc (by omega) 81 0 rfl
  rw [zbb_t] at l1
  refine Eq.mpr l1 ?_
  rw [zbb_x (p := fun h => decide (w2 (172 + 4 * h) = w2 (202 + 200 * n + 172 + 4 * h) ∧ w2 (172 + 4 * h + 1) = w2 (202 + 200 * n + 172 + 4 * h + 1)))]
  simp (disch := first | assumption | exact p_c2i | exact p_c2r | exact p_c2n | omega | ((repeat (first | refine p_a1i.trans ?_ | refine p_a1r.trans ?_)); exact p_a10) | ((repeat (first | refine p_wI ?_ | refine p_wR ?_)); exact p_w0) | decide) only [reduceIte, Int.reduceLT, Int.reduceLE, Int.reduceEq, Int.reduceToNat, Int.reduceAdd, Int.reduceSub, Int.reduceMul, Int.reduceNeg, e175_187, e175_188, p_push, p_is3, p_c2n, p_c2i, p_c2r, WN_nx, WN_nrt, WN_ite]
  have l2 := l_eqh (τ := zsp τ w) (Q := Q) (x := x) (w := w2) (a := 202 + 200 * n) (A := zfa (fun c => decide (w2 (10 + c) = w2 (202 + 200 * n + 10 + c))) 0 81) v1.1 hbh (by omega) m 0 (by omega)
  refine Eq.mpr l2 ?_
  have tr := fun (Q : ZO → ZT → ZI → Prop) => t_rest (τ := zsp τ w) (Q := Q) (x := x) (w := w) (w' := w2) (fun j hj => zsp_s hj) v3
  have hz : zbb (zfa (fun c => decide (w2 (10 + c) = w2 (202 + 200 * n + 10 + c))) 0 81) (fun h => decide (w2 (172 + 4 * h) = w2 (202 + 200 * n + 172 + 4 * h) ∧ w2 (172 + 4 * h + 1) = w2 (202 + 200 * n + 172 + 4 * h + 1))) (w2 0).toNat = aLook w2 (zgl n w) := by
    unfold aLook
    rw [if_pos (show w2 0 = zgl n w 0 by rw [okn.2, hm]; exact e0)]
    have f1 : (fun c => decide (w2 (10 + c) = w2 (202 + 200 * n + 10 + c))) = (fun c => decide (w2 (10 + c) = zgl n w (10 + c))) := by
      funext c
      rw [v3 (202 + 200 * n + 10 + c) (by omega)]
      unfold zgl
      rw [show 202 + 200 * n + (10 + c) = 202 + 200 * n + 10 + c by omega]
    have f2 : (fun h => decide (w2 (172 + 4 * h) = w2 (202 + 200 * n + 172 + 4 * h) ∧ w2 (172 + 4 * h + 1) = w2 (202 + 200 * n + 172 + 4 * h + 1))) = (fun h => decide (w2 (172 + 4 * h) = zgl n w (172 + 4 * h) ∧ w2 (173 + 4 * h) = zgl n w (173 + 4 * h))) := by
      funext h
      rw [v3 (202 + 200 * n + 172 + 4 * h) (by omega), v3 (202 + 200 * n + 172 + 4 * h + 1) (by omega)]
      unfold zgl
      rw [show 202 + 200 * n + (172 + 4 * h) = 202 + 200 * n + 172 + 4 * h by omega, show 202 + 200 * n + (173 + 4 * h) = 202 + 200 * n + 172 + 4 * h + 1 by omega, show 173 + 4 * h = 172 + 4 * h + 1 by omega]
    rw [f1, f2]
    unfold zbb
    by_cases g1 : zfa (fun c => decide (w2 (10 + c) = zgl n w (10 + c))) 0 81 = true
    · rw [if_pos g1]
      by_cases g2 : zfa (fun h => decide (w2 (172 + 4 * h) = zgl n w (172 + 4 * h) ∧ w2 (173 + 4 * h) = zgl n w (173 + 4 * h))) 0 (w2 0).toNat = true
      · rw [if_pos g2, if_pos ⟨g1, g2⟩]
      · rw [if_neg g2, if_neg (fun z => g2 z.2)]
    · rw [if_neg g1, if_neg (fun z => g1 z.1)]
  rw [hz]
  have h01 : aLook w2 (zgl n w) = 0 ∨ aLook w2 (zgl n w) = 1 := by
    rw [← hz]
    exact zbb_01
  rcases h01 with g | g
  · rw [g] at K ⊢
    simp (disch := first | assumption | exact p_c2i | exact p_c2r | exact p_c2n | omega | ((repeat (first | refine p_a1i.trans ?_ | refine p_a1r.trans ?_)); exact p_a10) | ((repeat (first | refine p_wI ?_ | refine p_wR ?_)); exact p_w0) | decide) only [reduceIte, Int.reduceLT, Int.reduceLE, Int.reduceEq, Int.reduceToNat, Int.reduceAdd, Int.reduceSub, Int.reduceMul, Int.reduceNeg, e175_261, e175_262, e175_265, e175_266, e175_267, e175_270, e175_271, e175_274, e175_277, e175_278, p_al0, p_getR, p_push, p_cs5_0, p_cs5_1, p_cs5_2, p_cs5_3, p_cs5_4, zK_v, zK_0, WN_ncl, p_il2, p_ret1, WN_nx, WN_nrt, WN_ite, zm_r0, zm_r4, tr]
    exact K
  · rw [g] at K ⊢
    simp (disch := first | assumption | exact p_c2i | exact p_c2r | exact p_c2n | omega | ((repeat (first | refine p_a1i.trans ?_ | refine p_a1r.trans ?_)); exact p_a10) | ((repeat (first | refine p_wI ?_ | refine p_wR ?_)); exact p_w0) | decide) only [reduceIte, Int.reduceLT, Int.reduceLE, Int.reduceEq, Int.reduceToNat, Int.reduceAdd, Int.reduceSub, Int.reduceMul, Int.reduceNeg, e175_261, e175_262, e175_265, e175_266, e175_267, e175_270, e175_271, e175_274, e175_277, e175_278, p_al0, p_getR, p_push, p_cs5_0, p_cs5_1, p_cs5_2, p_cs5_3, p_cs5_4, zK_v, zK_0, WN_ncl, p_il2, p_ret1, WN_nx, WN_nrt, WN_ite, zm_r0, zm_r4, tr]
    exact K
end
