/-! THE CLASS: Text -/
/-- the texts are as they were -/
def zTx (σ : ZI) : Prop := ∀ b k : Nat, 12 ≤ b → b < 23 → σ b k = (zbyt (b - 11) k : Int)
section
variable {σ : ZI} {θ : ZT} {Q : ZO → ZT → ZI → Prop}
theorem t_l1 : WM 224 [.inr (.inl (some 1))] θ σ Q = Q (.inl (some (.inl 4))) θ σ := t_len (a := 1) (m := 4) rfl rfl rfl (by decide)
theorem t_c1_0 (h : zTx σ) : WM 225 [.inr (.inl (some 1)), .inl 0] θ σ Q = Q (.inl (some (.inl 104))) θ σ := t_chr (a := 1) (i := 0) (v := 104) rfl rfl (by decide) (by decide) ((h 12 0 (by decide) (by decide)).trans (congrArg _ (by decide +kernel : zbyt 1 0 = 104))) (by decide)
theorem t_c1_1 (h : zTx σ) : WM 225 [.inr (.inl (some 1)), .inl 1] θ σ Q = Q (.inl (some (.inl 48))) θ σ := t_chr (a := 1) (i := 1) (v := 48) rfl rfl (by decide) (by decide) ((h 12 1 (by decide) (by decide)).trans (congrArg _ (by decide +kernel : zbyt 1 1 = 48))) (by decide)
theorem t_c1_2 (h : zTx σ) : WM 225 [.inr (.inl (some 1)), .inl 2] θ σ Q = Q (.inl (some (.inl 48))) θ σ := t_chr (a := 1) (i := 2) (v := 48) rfl rfl (by decide) (by decide) ((h 12 2 (by decide) (by decide)).trans (congrArg _ (by decide +kernel : zbyt 1 2 = 48))) (by decide)
theorem t_c1_3 (h : zTx σ) : WM 225 [.inr (.inl (some 1)), .inl 3] θ σ Q = Q (.inl (some (.inl 117))) θ σ := t_chr (a := 1) (i := 3) (v := 117) rfl rfl (by decide) (by decide) ((h 12 3 (by decide) (by decide)).trans (congrArg _ (by decide +kernel : zbyt 1 3 = 117))) (by decide)
theorem t_l2 : WM 224 [.inr (.inl (some 2))] θ σ Q = Q (.inl (some (.inl 2))) θ σ := t_len (a := 2) (m := 2) rfl rfl rfl (by decide)
theorem t_c2_0 (h : zTx σ) : WM 225 [.inr (.inl (some 2)), .inl 0] θ σ Q = Q (.inl (some (.inl 120))) θ σ := t_chr (a := 2) (i := 0) (v := 120) rfl rfl (by decide) (by decide) ((h 13 0 (by decide) (by decide)).trans (congrArg _ (by decide +kernel : zbyt 2 0 = 120))) (by decide)
theorem t_c2_1 (h : zTx σ) : WM 225 [.inr (.inl (some 2)), .inl 1] θ σ Q = Q (.inl (some (.inl 48))) θ σ := t_chr (a := 2) (i := 1) (v := 48) rfl rfl (by decide) (by decide) ((h 13 1 (by decide) (by decide)).trans (congrArg _ (by decide +kernel : zbyt 2 1 = 48))) (by decide)
theorem t_l3 : WM 224 [.inr (.inl (some 3))] θ σ Q = Q (.inl (some (.inl 5))) θ σ := t_len (a := 3) (m := 5) rfl rfl rfl (by decide)
theorem t_c3_0 (h : zTx σ) : WM 225 [.inr (.inl (some 3)), .inl 0] θ σ Q = Q (.inl (some (.inl 112))) θ σ := t_chr (a := 3) (i := 0) (v := 112) rfl rfl (by decide) (by decide) ((h 14 0 (by decide) (by decide)).trans (congrArg _ (by decide +kernel : zbyt 3 0 = 112))) (by decide)
theorem t_c3_1 (h : zTx σ) : WM 225 [.inr (.inl (some 3)), .inl 1] θ σ Q = Q (.inl (some (.inl 48))) θ σ := t_chr (a := 3) (i := 1) (v := 48) rfl rfl (by decide) (by decide) ((h 14 1 (by decide) (by decide)).trans (congrArg _ (by decide +kernel : zbyt 3 1 = 48))) (by decide)
theorem t_c3_2 (h : zTx σ) : WM 225 [.inr (.inl (some 3)), .inl 2] θ σ Q = Q (.inl (some (.inl 48))) θ σ := t_chr (a := 3) (i := 2) (v := 48) rfl rfl (by decide) (by decide) ((h 14 2 (by decide) (by decide)).trans (congrArg _ (by decide +kernel : zbyt 3 2 = 48))) (by decide)
theorem t_c3_3 (h : zTx σ) : WM 225 [.inr (.inl (some 3)), .inl 3] θ σ Q = Q (.inl (some (.inl 61))) θ σ := t_chr (a := 3) (i := 3) (v := 61) rfl rfl (by decide) (by decide) ((h 14 3 (by decide) (by decide)).trans (congrArg _ (by decide +kernel : zbyt 3 3 = 61))) (by decide)
theorem t_c3_4 (h : zTx σ) : WM 225 [.inr (.inl (some 3)), .inl 4] θ σ Q = Q (.inl (some (.inl 48))) θ σ := t_chr (a := 3) (i := 4) (v := 48) rfl rfl (by decide) (by decide) ((h 14 4 (by decide) (by decide)).trans (congrArg _ (by decide +kernel : zbyt 3 4 = 48))) (by decide)
theorem t_l4 : WM 224 [.inr (.inl (some 4))] θ σ Q = Q (.inl (some (.inl 4))) θ σ := t_len (a := 4) (m := 4) rfl rfl rfl (by decide)
theorem t_c4_0 (h : zTx σ) : WM 225 [.inr (.inl (some 4)), .inl 0] θ σ Q = Q (.inl (some (.inl 116))) θ σ := t_chr (a := 4) (i := 0) (v := 116) rfl rfl (by decide) (by decide) ((h 15 0 (by decide) (by decide)).trans (congrArg _ (by decide +kernel : zbyt 4 0 = 116))) (by decide)
theorem t_c4_1 (h : zTx σ) : WM 225 [.inr (.inl (some 4)), .inl 1] θ σ Q = Q (.inl (some (.inl 48))) θ σ := t_chr (a := 4) (i := 1) (v := 48) rfl rfl (by decide) (by decide) ((h 15 1 (by decide) (by decide)).trans (congrArg _ (by decide +kernel : zbyt 4 1 = 48))) (by decide)
theorem t_c4_2 (h : zTx σ) : WM 225 [.inr (.inl (some 4)), .inl 2] θ σ Q = Q (.inl (some (.inl 61))) θ σ := t_chr (a := 4) (i := 2) (v := 61) rfl rfl (by decide) (by decide) ((h 15 2 (by decide) (by decide)).trans (congrArg _ (by decide +kernel : zbyt 4 2 = 61))) (by decide)
theorem t_c4_3 (h : zTx σ) : WM 225 [.inr (.inl (some 4)), .inl 3] θ σ Q = Q (.inl (some (.inl 78))) θ σ := t_chr (a := 4) (i := 3) (v := 78) rfl rfl (by decide) (by decide) ((h 15 3 (by decide) (by decide)).trans (congrArg _ (by decide +kernel : zbyt 4 3 = 78))) (by decide)
theorem t_l5 : WM 224 [.inr (.inl (some 5))] θ σ Q = Q (.inl (some (.inl 2))) θ σ := t_len (a := 5) (m := 2) rfl rfl rfl (by decide)
theorem t_c5_0 (h : zTx σ) : WM 225 [.inr (.inl (some 5)), .inl 0] θ σ Q = Q (.inl (some (.inl 107))) θ σ := t_chr (a := 5) (i := 0) (v := 107) rfl rfl (by decide) (by decide) ((h 16 0 (by decide) (by decide)).trans (congrArg _ (by decide +kernel : zbyt 5 0 = 107))) (by decide)
theorem t_c5_1 (h : zTx σ) : WM 225 [.inr (.inl (some 5)), .inl 1] θ σ Q = Q (.inl (some (.inl 48))) θ σ := t_chr (a := 5) (i := 1) (v := 48) rfl rfl (by decide) (by decide) ((h 16 1 (by decide) (by decide)).trans (congrArg _ (by decide +kernel : zbyt 5 1 = 48))) (by decide)
theorem t_l6 : WM 224 [.inr (.inl (some 6))] θ σ Q = Q (.inl (some (.inl 2))) θ σ := t_len (a := 6) (m := 2) rfl rfl rfl (by decide)
theorem t_c6_0 (h : zTx σ) : WM 225 [.inr (.inl (some 6)), .inl 0] θ σ Q = Q (.inl (some (.inl 109))) θ σ := t_chr (a := 6) (i := 0) (v := 109) rfl rfl (by decide) (by decide) ((h 17 0 (by decide) (by decide)).trans (congrArg _ (by decide +kernel : zbyt 6 0 = 109))) (by decide)
theorem t_c6_1 (h : zTx σ) : WM 225 [.inr (.inl (some 6)), .inl 1] θ σ Q = Q (.inl (some (.inl 48))) θ σ := t_chr (a := 6) (i := 1) (v := 48) rfl rfl (by decide) (by decide) ((h 17 1 (by decide) (by decide)).trans (congrArg _ (by decide +kernel : zbyt 6 1 = 48))) (by decide)
theorem t_l7 : WM 224 [.inr (.inl (some 7))] θ σ Q = Q (.inl (some (.inl 2))) θ σ := t_len (a := 7) (m := 2) rfl rfl rfl (by decide)
theorem t_c7_0 (h : zTx σ) : WM 225 [.inr (.inl (some 7)), .inl 0] θ σ Q = Q (.inl (some (.inl 115))) θ σ := t_chr (a := 7) (i := 0) (v := 115) rfl rfl (by decide) (by decide) ((h 18 0 (by decide) (by decide)).trans (congrArg _ (by decide +kernel : zbyt 7 0 = 115))) (by decide)
theorem t_c7_1 (h : zTx σ) : WM 225 [.inr (.inl (some 7)), .inl 1] θ σ Q = Q (.inl (some (.inl 48))) θ σ := t_chr (a := 7) (i := 1) (v := 48) rfl rfl (by decide) (by decide) ((h 18 1 (by decide) (by decide)).trans (congrArg _ (by decide +kernel : zbyt 7 1 = 48))) (by decide)
theorem t_l8 : WM 224 [.inr (.inl (some 8))] θ σ Q = Q (.inl (some (.inl 1))) θ σ := t_len (a := 8) (m := 1) rfl rfl rfl (by decide)
theorem t_c8_0 (h : zTx σ) : WM 225 [.inr (.inl (some 8)), .inl 0] θ σ Q = Q (.inl (some (.inl 98))) θ σ := t_chr (a := 8) (i := 0) (v := 98) rfl rfl (by decide) (by decide) ((h 19 0 (by decide) (by decide)).trans (congrArg _ (by decide +kernel : zbyt 8 0 = 98))) (by decide)
theorem t_l9 : WM 224 [.inr (.inl (some 9))] θ σ Q = Q (.inl (some (.inl 1))) θ σ := t_len (a := 9) (m := 1) rfl rfl rfl (by decide)
theorem t_c9_0 (h : zTx σ) : WM 225 [.inr (.inl (some 9)), .inl 0] θ σ Q = Q (.inl (some (.inl 122))) θ σ := t_chr (a := 9) (i := 0) (v := 122) rfl rfl (by decide) (by decide) ((h 20 0 (by decide) (by decide)).trans (congrArg _ (by decide +kernel : zbyt 9 0 = 122))) (by decide)
theorem t_l10 : WM 224 [.inr (.inl (some 10))] θ σ Q = Q (.inl (some (.inl 4))) θ σ := t_len (a := 10) (m := 4) rfl rfl rfl (by decide)
theorem t_c10_0 (h : zTx σ) : WM 225 [.inr (.inl (some 10)), .inl 0] θ σ Q = Q (.inl (some (.inl 78))) θ σ := t_chr (a := 10) (i := 0) (v := 78) rfl rfl (by decide) (by decide) ((h 21 0 (by decide) (by decide)).trans (congrArg _ (by decide +kernel : zbyt 10 0 = 78))) (by decide)
theorem t_c10_1 (h : zTx σ) : WM 225 [.inr (.inl (some 10)), .inl 1] θ σ Q = Q (.inl (some (.inl 82))) θ σ := t_chr (a := 10) (i := 1) (v := 82) rfl rfl (by decide) (by decide) ((h 21 1 (by decide) (by decide)).trans (congrArg _ (by decide +kernel : zbyt 10 1 = 82))) (by decide)
theorem t_c10_2 (h : zTx σ) : WM 225 [.inr (.inl (some 10)), .inl 2] θ σ Q = Q (.inl (some (.inl 76))) θ σ := t_chr (a := 10) (i := 2) (v := 76) rfl rfl (by decide) (by decide) ((h 21 2 (by decide) (by decide)).trans (congrArg _ (by decide +kernel : zbyt 10 2 = 76))) (by decide)
theorem t_c10_3 (h : zTx σ) : WM 225 [.inr (.inl (some 10)), .inl 3] θ σ Q = Q (.inl (some (.inl 85))) θ σ := t_chr (a := 10) (i := 3) (v := 85) rfl rfl (by decide) (by decide) ((h 21 3 (by decide) (by decide)).trans (congrArg _ (by decide +kernel : zbyt 10 3 = 85))) (by decide)
theorem t_l11 : WM 224 [.inr (.inl (some 11))] θ σ Q = Q (.inl (some (.inl 4))) θ σ := t_len (a := 11) (m := 4) rfl rfl rfl (by decide)
theorem t_c11_0 (h : zTx σ) : WM 225 [.inr (.inl (some 11)), .inl 0] θ σ Q = Q (.inl (some (.inl 117))) θ σ := t_chr (a := 11) (i := 0) (v := 117) rfl rfl (by decide) (by decide) ((h 22 0 (by decide) (by decide)).trans (congrArg _ (by decide +kernel : zbyt 11 0 = 117))) (by decide)
theorem t_c11_1 (h : zTx σ) : WM 225 [.inr (.inl (some 11)), .inl 1] θ σ Q = Q (.inl (some (.inl 114))) θ σ := t_chr (a := 11) (i := 1) (v := 114) rfl rfl (by decide) (by decide) ((h 22 1 (by decide) (by decide)).trans (congrArg _ (by decide +kernel : zbyt 11 1 = 114))) (by decide)
theorem t_c11_2 (h : zTx σ) : WM 225 [.inr (.inl (some 11)), .inl 2] θ σ Q = Q (.inl (some (.inl 100))) θ σ := t_chr (a := 11) (i := 2) (v := 100) rfl rfl (by decide) (by decide) ((h 22 2 (by decide) (by decide)).trans (congrArg _ (by decide +kernel : zbyt 11 2 = 100))) (by decide)
theorem t_c11_3 (h : zTx σ) : WM 225 [.inr (.inl (some 11)), .inl 3] θ σ Q = Q (.inl (some (.inl 108))) θ σ := t_chr (a := 11) (i := 3) (v := 108) rfl rfl (by decide) (by decide) ((h 22 3 (by decide) (by decide)).trans (congrArg _ (by decide +kernel : zbyt 11 3 = 108))) (by decide)
end
/-- the sign at an offset; its figure; letters' numbers -/
def sA (ts : Nat → Int) (tl i : Nat) : Int := if i < tl then ts i else -1
def dA (ts : Nat → Int) (tl i : Nat) : Int := if 48 ≤ sA ts tl i ∧ sA ts tl i ≤ 57 then sA ts tl i - 48 else -1
def hIx (c : Int) : Int := if c = 117 then 0 else if c = 114 then 1 else if c = 100 then 2 else if c = 108 then 3 else -1
def tIx (c : Int) : Int := if c = 78 then 0 else if c = 82 then 1 else if c = 76 then 2 else if c = 85 then 3 else -1
/-- the offset behind the order that begins there; else -1 less the error's -/
def eO (ts : Nat → Int) (tl s : Nat) : Int :=
  if sA ts tl s = 104 then (if dA ts tl (s + 1) < 0 then -1 - ((s : Int) + 1) else if dA ts tl (s + 2) < 0 then -1 - ((s : Int) + 2) else if hIx (sA ts tl (s + 3)) < 0 then -1 - ((s : Int) + 3) else (s : Int) + 4)
  else if sA ts tl s = 112 then (if dA ts tl (s + 1) < 0 then -1 - ((s : Int) + 1) else if dA ts tl (s + 2) < 0 then -1 - ((s : Int) + 2) else if sA ts tl (s + 3) ≠ 61 then -1 - ((s : Int) + 3) else if dA ts tl (s + 4) < 0 then -1 - ((s : Int) + 4) else (s : Int) + 5)
  else if sA ts tl s = 116 then (if dA ts tl (s + 1) < 0 then -1 - ((s : Int) + 1) else if sA ts tl (s + 2) ≠ 61 then -1 - ((s : Int) + 2) else if tIx (sA ts tl (s + 3)) < 0 then -1 - ((s : Int) + 3) else (s : Int) + 4)
  else if sA ts tl s = 115 then (if dA ts tl (s + 1) < 0 then -1 - ((s : Int) + 1) else if dA ts tl (s + 2) < 0 then (s : Int) + 2 else (s : Int) + 3)
  else if sA ts tl s = 98 then (s : Int) + 1
  else if sA ts tl s = 120 ∨ sA ts tl s = 107 ∨ sA ts tl s = 109 then (if dA ts tl (s + 1) < 0 then -1 - ((s : Int) + 1) else (s : Int) + 2)
  else -1 - (s : Int)
/-- what the input contains -/
def zTt (ts : Nat → Int) (tl : Nat) : Prop := tl ≤ 60 ∧ ∀ i, i < tl → 0 ≤ ts i ∧ ts i < 65536
def zTc (σ : ZI) (ts : Nat → Int) (tl : Nat) : Prop := σ 3550 1 = (tl : Int) ∧ ∀ i, i < tl → σ 3551 i = ts i
section
variable {σ τ : ZI} {θ : ZT} {Q : ZO → ZT → ZI → Prop} {x n : Nat} {w : zW} {N : Int} {ts : Nat → Int} {tl : Nat}
theorem sA_in (hs : zTt ts tl) (i : Nat) : -1 ≤ sA ts tl i ∧ sA ts tl i < 65536 := by
  unfold sA
  split
  · next h => have := hs.2 i h; omega
  · omega
theorem dA_in (i : Nat) : -1 ≤ dA ts tl i ∧ dA ts tl i ≤ 9 := by
  unfold dA
  split <;> omega
theorem hIx_in {c : Int} : -1 ≤ hIx c ∧ hIx c ≤ 3 := by unfold hIx; split; omega; split; omega; split; omega; split <;> omega
theorem tIx_in {c : Int} : -1 ≤ tIx c ∧ tIx c ≤ 3 := by unfold tIx; split; omega; split; omega; split; omega; split <;> omega
theorem zt_k : zkd 3550 = 4 := rfl
theorem zt_k1 : zkd 3551 = 12 := rfl
theorem zt_n1 : zln 3551 = 60 := rfl
theorem zt_r : zrho 3550 0 = some 3551 := rfl
theorem t_signAt {o : Int} {i : Nat} (hs : zTt ts tl) (h : zTc σ ts tl) (ho : o = (i : Int)) (hi : i < 1000) : WM 58 [.inr (.inl (some 3550)), .inl o] (3565, x, zrho) σ Q = Q (.inl (some (.inl (sA ts tl i)))) (3565, x, zrho) σ := by
  subst ho
  show Wp 58 0 [some (.inr (.inl (some 3550))), some (.inl ((i : Int)))] [] _ _ Q = _
  have k := zt_k
  have k1 := zt_k1
  have n1 := zt_n1
  have h1 := h.1
  obtain ⟨q1, q2⟩ := hs
  have d0 : ((i : Int) < 0) = False := eq_false (by omega)
  unfold sA
  by_cases c : i < tl
  · rw [if_pos c]
    have d1 : ((i : Int) < (tl : Int)) = True := eq_true (by omega)
    have d2 : ((i : Int) < 60) = True := eq_true (by omega)
    have g := h.2 i c
    have g2 := q2 i c
    simp (disch := first | assumption | exact p_c2i | exact p_c2r | exact p_c2n | omega | ((repeat (first | refine p_a1i.trans ?_ | refine p_a1r.trans ?_)); exact p_a10) | ((repeat (first | refine p_wI ?_ | refine p_wR ?_)); exact p_w0) | decide) only [reduceIte, Int.reduceLT, Int.reduceLE, Int.reduceEq, Int.reduceToNat, Int.reduceAdd, Int.reduceSub, Int.reduceMul, Int.reduceNeg, e58_0, e58_1, e58_4, e58_5, e58_6, e58_9, e58_12, e58_13, e58_15, e58_18, e58_19, e58_22, e58_23, e58_24, e58_27, e58_28, p_il1, p_iflt, p_al0, p_getI, p_cge, p_push, p_getR, p_cald, p_goto, p_ret0, WN_nx, WN_nrt, WN_ite, d0, d1, d2, h1, zt_r, n1, g, Int.toNat_natCast]
  · rw [if_neg c]
    have d1 : ((i : Int) < (tl : Int)) = False := eq_false (by omega)
    simp (disch := first | assumption | exact p_c2i | exact p_c2r | exact p_c2n | omega | ((repeat (first | refine p_a1i.trans ?_ | refine p_a1r.trans ?_)); exact p_a10) | ((repeat (first | refine p_wI ?_ | refine p_wR ?_)); exact p_w0) | decide) only [reduceIte, Int.reduceLT, Int.reduceLE, Int.reduceEq, Int.reduceToNat, Int.reduceAdd, Int.reduceSub, Int.reduceMul, Int.reduceNeg, e58_0, e58_1, e58_4, e58_5, e58_6, e58_9, e58_12, e58_13, e58_15, e58_18, e58_19, e58_22, e58_23, e58_24, e58_27, e58_28, p_il1, p_iflt, p_al0, p_getI, p_cge, p_push, p_getR, p_cald, p_goto, p_ret0, WN_nx, WN_nrt, WN_ite, d0, d1, h1]
theorem t_digitAt {o : Int} {i : Nat} (hs : zTt ts tl) (h : zTc σ ts tl) (ho : o = (i : Int)) (hi : i < 1000) : WM 59 [.inr (.inl (some 3550)), .inl o] (3565, x, zrho) σ Q = Q (.inl (some (.inl (dA ts tl i)))) (3565, x, zrho) σ := by
  show Wp 59 0 [some (.inr (.inl (some 3550))), some (.inl o), none] [] _ _ Q = _
  have t := fun (Q : ZO → ZT → ZI → Prop) => t_signAt (x := x) (Q := Q) hs h ho hi
  have b := sA_in hs i
  have k := zt_k
  unfold dA
  by_cases c1 : 48 ≤ sA ts tl i
  · have d1 : (sA ts tl i < 48) = False := eq_false (by omega)
    by_cases c2 : sA ts tl i ≤ 57
    · have d2 : (57 < sA ts tl i) = False := eq_false (by omega)
      rw [if_pos ⟨c1, c2⟩]
      simp (disch := first | assumption | exact p_c2i | exact p_c2r | exact p_c2n | omega | ((repeat (first | refine p_a1i.trans ?_ | refine p_a1r.trans ?_)); exact p_a10) | ((repeat (first | refine p_wI ?_ | refine p_wR ?_)); exact p_w0) | decide) only [reduceIte, Int.reduceLT, Int.reduceLE, Int.reduceEq, Int.reduceToNat, Int.reduceAdd, Int.reduceSub, Int.reduceMul, Int.reduceNeg, e59_0, e59_1, e59_2, e59_5, e59_6, e59_7, e59_9, e59_12, e59_13, e59_15, e59_18, e59_19, e59_21, e59_22, e59_25, e59_26, p_al0, p_il1, p_cv1_0, p_cv1_1, p_cv1_2, p_cv1_3, p_cv1_4, zK_v, zK_0, WN_ncl, p_is2, p_c2n, p_c2i, p_c2r, p_il2, p_push, p_clt, p_cgt, p_bin, p_goto, p_ret0, WN_nx, WN_nrt, WN_ite, t, d1, d2]
    · have d2 : (57 < sA ts tl i) = True := eq_true (by omega)
      rw [if_neg (fun z => c2 z.2)]
      simp (disch := first | assumption | exact p_c2i | exact p_c2r | exact p_c2n | omega | ((repeat (first | refine p_a1i.trans ?_ | refine p_a1r.trans ?_)); exact p_a10) | ((repeat (first | refine p_wI ?_ | refine p_wR ?_)); exact p_w0) | decide) only [reduceIte, Int.reduceLT, Int.reduceLE, Int.reduceEq, Int.reduceToNat, Int.reduceAdd, Int.reduceSub, Int.reduceMul, Int.reduceNeg, e59_0, e59_1, e59_2, e59_5, e59_6, e59_7, e59_9, e59_12, e59_13, e59_15, e59_18, e59_19, e59_21, e59_22, e59_25, e59_26, p_al0, p_il1, p_cv1_0, p_cv1_1, p_cv1_2, p_cv1_3, p_cv1_4, zK_v, zK_0, WN_ncl, p_is2, p_c2n, p_c2i, p_c2r, p_il2, p_push, p_clt, p_cgt, p_bin, p_goto, p_ret0, WN_nx, WN_nrt, WN_ite, t, d1, d2]
  · have d1 : (sA ts tl i < 48) = True := eq_true (by omega)
    rw [if_neg (fun z => c1 z.1)]
    simp (disch := first | assumption | exact p_c2i | exact p_c2r | exact p_c2n | omega | ((repeat (first | refine p_a1i.trans ?_ | refine p_a1r.trans ?_)); exact p_a10) | ((repeat (first | refine p_wI ?_ | refine p_wR ?_)); exact p_w0) | decide) only [reduceIte, Int.reduceLT, Int.reduceLE, Int.reduceEq, Int.reduceToNat, Int.reduceAdd, Int.reduceSub, Int.reduceMul, Int.reduceNeg, e59_0, e59_1, e59_2, e59_5, e59_6, e59_7, e59_9, e59_12, e59_13, e59_15, e59_18, e59_19, e59_21, e59_22, e59_25, e59_26, p_al0, p_il1, p_cv1_0, p_cv1_1, p_cv1_2, p_cv1_3, p_cv1_4, zK_v, zK_0, WN_ncl, p_is2, p_c2n, p_c2i, p_c2r, p_il2, p_push, p_clt, p_cgt, p_bin, p_goto, p_ret0, WN_nx, WN_nrt, WN_ite, t, d1]
theorem t_hIx {c : Int} (hc : -2147483648 ≤ c ∧ c < 2147483648) : WM 111 [.inl c] θ σ Q = Q (.inl (some (.inl (hIx c)))) θ σ := by
  show Wp 111 0 [some (.inl c)] [] _ _ Q = _
  by_cases c1 : c = 117
  · subst c1
    simp (disch := first | assumption | exact p_c2i | exact p_c2r | exact p_c2n | omega | ((repeat (first | refine p_a1i.trans ?_ | refine p_a1r.trans ?_)); exact p_a10) | ((repeat (first | refine p_wI ?_ | refine p_wR ?_)); exact p_w0) | decide) only [reduceIte, Int.reduceLT, Int.reduceLE, Int.reduceEq, Int.reduceToNat, Int.reduceAdd, Int.reduceSub, Int.reduceMul, Int.reduceNeg, e111_0, e111_1, e111_44, e111_45, e111_46, e111_47, e111_48, e111_49, e111_50, e111_51, e111_52, e111_53, p_il0, p_sw, zsw, p_push, p_ret0, WN_nx, WN_nrt, WN_ite]
    rfl
  · by_cases c2 : c = 114
    · subst c2
      simp (disch := first | assumption | exact p_c2i | exact p_c2r | exact p_c2n | omega | ((repeat (first | refine p_a1i.trans ?_ | refine p_a1r.trans ?_)); exact p_a10) | ((repeat (first | refine p_wI ?_ | refine p_wR ?_)); exact p_w0) | decide) only [reduceIte, Int.reduceLT, Int.reduceLE, Int.reduceEq, Int.reduceToNat, Int.reduceAdd, Int.reduceSub, Int.reduceMul, Int.reduceNeg, e111_0, e111_1, e111_44, e111_45, e111_46, e111_47, e111_48, e111_49, e111_50, e111_51, e111_52, e111_53, p_il0, p_sw, zsw, p_push, p_ret0, WN_nx, WN_nrt, WN_ite]
      rfl
    · by_cases c3 : c = 100
      · subst c3
        simp (disch := first | assumption | exact p_c2i | exact p_c2r | exact p_c2n | omega | ((repeat (first | refine p_a1i.trans ?_ | refine p_a1r.trans ?_)); exact p_a10) | ((repeat (first | refine p_wI ?_ | refine p_wR ?_)); exact p_w0) | decide) only [reduceIte, Int.reduceLT, Int.reduceLE, Int.reduceEq, Int.reduceToNat, Int.reduceAdd, Int.reduceSub, Int.reduceMul, Int.reduceNeg, e111_0, e111_1, e111_44, e111_45, e111_46, e111_47, e111_48, e111_49, e111_50, e111_51, e111_52, e111_53, p_il0, p_sw, zsw, p_push, p_ret0, WN_nx, WN_nrt, WN_ite]
        rfl
      · by_cases c4 : c = 108
        · subst c4
          simp (disch := first | assumption | exact p_c2i | exact p_c2r | exact p_c2n | omega | ((repeat (first | refine p_a1i.trans ?_ | refine p_a1r.trans ?_)); exact p_a10) | ((repeat (first | refine p_wI ?_ | refine p_wR ?_)); exact p_w0) | decide) only [reduceIte, Int.reduceLT, Int.reduceLE, Int.reduceEq, Int.reduceToNat, Int.reduceAdd, Int.reduceSub, Int.reduceMul, Int.reduceNeg, e111_0, e111_1, e111_44, e111_45, e111_46, e111_47, e111_48, e111_49, e111_50, e111_51, e111_52, e111_53, p_il0, p_sw, zsw, p_push, p_ret0, WN_nx, WN_nrt, WN_ite]
          rfl
        · unfold hIx
          rw [if_neg c1, if_neg c2, if_neg c3, if_neg c4]
          simp (disch := first | assumption | exact p_c2i | exact p_c2r | exact p_c2n | omega | ((repeat (first | refine p_a1i.trans ?_ | refine p_a1r.trans ?_)); exact p_a10) | ((repeat (first | refine p_wI ?_ | refine p_wR ?_)); exact p_w0) | decide) only [reduceIte, Int.reduceLT, Int.reduceLE, Int.reduceEq, Int.reduceToNat, Int.reduceAdd, Int.reduceSub, Int.reduceMul, Int.reduceNeg, e111_0, e111_1, e111_44, e111_45, e111_46, e111_47, e111_48, e111_49, e111_50, e111_51, e111_52, e111_53, p_il0, p_sw, zsw, p_push, p_ret0, WN_nx, WN_nrt, WN_ite, c1, c2, c3, c4]
theorem t_tIx {c : Int} (hc : -2147483648 ≤ c ∧ c < 2147483648) : WM 110 [.inl c] θ σ Q = Q (.inl (some (.inl (tIx c)))) θ σ := by
  show Wp 110 0 [some (.inl c)] [] _ _ Q = _
  by_cases c1 : c = 78
  · subst c1
    simp (disch := first | assumption | exact p_c2i | exact p_c2r | exact p_c2n | omega | ((repeat (first | refine p_a1i.trans ?_ | refine p_a1r.trans ?_)); exact p_a10) | ((repeat (first | refine p_wI ?_ | refine p_wR ?_)); exact p_w0) | decide) only [reduceIte, Int.reduceLT, Int.reduceLE, Int.reduceEq, Int.reduceToNat, Int.reduceAdd, Int.reduceSub, Int.reduceMul, Int.reduceNeg, e110_0, e110_1, e110_56, e110_57, e110_58, e110_59, e110_60, e110_61, e110_62, e110_63, e110_64, e110_65, p_il0, p_sw, zsw, p_push, p_ret0, WN_nx, WN_nrt, WN_ite]
    rfl
  · by_cases c2 : c = 82
    · subst c2
      simp (disch := first | assumption | exact p_c2i | exact p_c2r | exact p_c2n | omega | ((repeat (first | refine p_a1i.trans ?_ | refine p_a1r.trans ?_)); exact p_a10) | ((repeat (first | refine p_wI ?_ | refine p_wR ?_)); exact p_w0) | decide) only [reduceIte, Int.reduceLT, Int.reduceLE, Int.reduceEq, Int.reduceToNat, Int.reduceAdd, Int.reduceSub, Int.reduceMul, Int.reduceNeg, e110_0, e110_1, e110_56, e110_57, e110_58, e110_59, e110_60, e110_61, e110_62, e110_63, e110_64, e110_65, p_il0, p_sw, zsw, p_push, p_ret0, WN_nx, WN_nrt, WN_ite]
      rfl
    · by_cases c3 : c = 76
      · subst c3
        simp (disch := first | assumption | exact p_c2i | exact p_c2r | exact p_c2n | omega | ((repeat (first | refine p_a1i.trans ?_ | refine p_a1r.trans ?_)); exact p_a10) | ((repeat (first | refine p_wI ?_ | refine p_wR ?_)); exact p_w0) | decide) only [reduceIte, Int.reduceLT, Int.reduceLE, Int.reduceEq, Int.reduceToNat, Int.reduceAdd, Int.reduceSub, Int.reduceMul, Int.reduceNeg, e110_0, e110_1, e110_56, e110_57, e110_58, e110_59, e110_60, e110_61, e110_62, e110_63, e110_64, e110_65, p_il0, p_sw, zsw, p_push, p_ret0, WN_nx, WN_nrt, WN_ite]
        rfl
      · by_cases c4 : c = 85
        · subst c4
          simp (disch := first | assumption | exact p_c2i | exact p_c2r | exact p_c2n | omega | ((repeat (first | refine p_a1i.trans ?_ | refine p_a1r.trans ?_)); exact p_a10) | ((repeat (first | refine p_wI ?_ | refine p_wR ?_)); exact p_w0) | decide) only [reduceIte, Int.reduceLT, Int.reduceLE, Int.reduceEq, Int.reduceToNat, Int.reduceAdd, Int.reduceSub, Int.reduceMul, Int.reduceNeg, e110_0, e110_1, e110_56, e110_57, e110_58, e110_59, e110_60, e110_61, e110_62, e110_63, e110_64, e110_65, p_il0, p_sw, zsw, p_push, p_ret0, WN_nx, WN_nrt, WN_ite]
          rfl
        · unfold tIx
          rw [if_neg c1, if_neg c2, if_neg c3, if_neg c4]
          simp (disch := first | assumption | exact p_c2i | exact p_c2r | exact p_c2n | omega | ((repeat (first | refine p_a1i.trans ?_ | refine p_a1r.trans ?_)); exact p_a10) | ((repeat (first | refine p_wI ?_ | refine p_wR ?_)); exact p_w0) | decide) only [reduceIte, Int.reduceLT, Int.reduceLE, Int.reduceEq, Int.reduceToNat, Int.reduceAdd, Int.reduceSub, Int.reduceMul, Int.reduceNeg, e110_0, e110_1, e110_56, e110_57, e110_58, e110_59, e110_60, e110_61, e110_62, e110_63, e110_64, e110_65, p_il0, p_sw, zsw, p_push, p_ret0, WN_nx, WN_nrt, WN_ite, c1, c2, c3, c4, ite_self]
theorem t_fitZ {o : Int} {i : Nat} (hs : zTt ts tl) (h : zTc σ ts tl) (ho : o = (i : Int)) (hi : i < 1000) : WM 64 [.inr (.inl (some 3550)), .inl 122, .inl o] (3565, x, zrho) σ Q = Q (.inl (some (.inl 0))) (3565, x, zrho) σ := by
  show Wp 64 0 [some (.inr (.inl (some 3550))), some (.inl 122), some (.inl o), none] [] _ _ Q = _
  have t := fun (Q : ZO → ZT → ZI → Prop) => t_signAt (x := x) (Q := Q) hs h ho hi
  have b := sA_in hs i
  simp (disch := first | assumption | exact p_c2i | exact p_c2r | exact p_c2n | omega | ((repeat (first | refine p_a1i.trans ?_ | refine p_a1r.trans ?_)); exact p_a10) | ((repeat (first | refine p_wI ?_ | refine p_wR ?_)); exact p_w0) | decide) only [reduceIte, Int.reduceLT, Int.reduceLE, Int.reduceEq, Int.reduceToNat, Int.reduceAdd, Int.reduceSub, Int.reduceMul, Int.reduceNeg, e64_0, e64_1, e64_2, e64_5, e64_6, e64_7, e64_48, e64_49, e64_50, e64_51, e64_52, e64_55, e64_58, e64_59, e64_62, e64_63, e64_64, e64_65, e64_68, e64_71, e64_72, e64_75, e64_76, e64_77, e64_78, e64_81, e64_84, e64_85, e64_88, e64_89, e64_90, e64_91, e64_92, e64_95, e64_96, e64_99, e64_100, p_al0, p_il2, p_cv1_0, p_cv1_1, p_cv1_2, p_cv1_3, p_cv1_4, zK_v, zK_0, WN_ncl, p_is3, p_c2n, p_c2i, p_c2r, p_il1, p_sw, zsw, p_push, p_ret1, p_iflt, p_goto, p_il3, p_cs1_0, p_cs1_1, p_cs1_2, p_cs1_3, p_cs1_4, p_cne, WN_nx, WN_nrt, WN_ite, t]
theorem t_fitD {o : Int} {i : Nat} (hs : zTt ts tl) (h : zTc σ ts tl) (ho : o = (i : Int)) (hi : i < 1000) : WM 64 [.inr (.inl (some 3550)), .inl 48, .inl o] (3565, x, zrho) σ Q = Q (.inl (some (.inl (if dA ts tl i < 0 then 0 else 1)))) (3565, x, zrho) σ := by
  show Wp 64 0 [some (.inr (.inl (some 3550))), some (.inl 48), some (.inl o), none] [] _ _ Q = _
  have t := fun (Q : ZO → ZT → ZI → Prop) => t_signAt (x := x) (Q := Q) hs h ho hi
  have t2 := fun (Q : ZO → ZT → ZI → Prop) => t_digitAt (x := x) (Q := Q) hs h ho hi
  have b := sA_in hs i
  have b2 := dA_in (ts := ts) (tl := tl) i
  by_cases c : dA ts tl i < 0
  · have d : (dA ts tl i < 0) = True := eq_true c
    rw [if_pos c]
    simp (disch := first | assumption | exact p_c2i | exact p_c2r | exact p_c2n | omega | ((repeat (first | refine p_a1i.trans ?_ | refine p_a1r.trans ?_)); exact p_a10) | ((repeat (first | refine p_wI ?_ | refine p_wR ?_)); exact p_w0) | decide) only [reduceIte, Int.reduceLT, Int.reduceLE, Int.reduceEq, Int.reduceToNat, Int.reduceAdd, Int.reduceSub, Int.reduceMul, Int.reduceNeg, e64_0, e64_1, e64_2, e64_5, e64_6, e64_7, e64_48, e64_49, e64_50, e64_51, e64_52, e64_55, e64_58, e64_59, e64_62, e64_63, e64_64, e64_65, e64_68, e64_71, e64_72, e64_75, e64_76, e64_77, e64_78, e64_81, e64_84, e64_85, e64_88, e64_89, e64_90, e64_91, e64_92, e64_95, e64_96, e64_99, e64_100, p_al0, p_il2, p_cv1_0, p_cv1_1, p_cv1_2, p_cv1_3, p_cv1_4, zK_v, zK_0, WN_ncl, p_is3, p_c2n, p_c2i, p_c2r, p_il1, p_sw, zsw, p_push, p_ret1, p_iflt, p_goto, p_il3, p_cs1_0, p_cs1_1, p_cs1_2, p_cs1_3, p_cs1_4, p_cne, WN_nx, WN_nrt, WN_ite, t, t2, d]
  · have d : (dA ts tl i < 0) = False := eq_false c
    rw [if_neg c]
    simp (disch := first | assumption | exact p_c2i | exact p_c2r | exact p_c2n | omega | ((repeat (first | refine p_a1i.trans ?_ | refine p_a1r.trans ?_)); exact p_a10) | ((repeat (first | refine p_wI ?_ | refine p_wR ?_)); exact p_w0) | decide) only [reduceIte, Int.reduceLT, Int.reduceLE, Int.reduceEq, Int.reduceToNat, Int.reduceAdd, Int.reduceSub, Int.reduceMul, Int.reduceNeg, e64_0, e64_1, e64_2, e64_5, e64_6, e64_7, e64_48, e64_49, e64_50, e64_51, e64_52, e64_55, e64_58, e64_59, e64_62, e64_63, e64_64, e64_65, e64_68, e64_71, e64_72, e64_75, e64_76, e64_77, e64_78, e64_81, e64_84, e64_85, e64_88, e64_89, e64_90, e64_91, e64_92, e64_95, e64_96, e64_99, e64_100, p_al0, p_il2, p_cv1_0, p_cv1_1, p_cv1_2, p_cv1_3, p_cv1_4, zK_v, zK_0, WN_ncl, p_is3, p_c2n, p_c2i, p_c2r, p_il1, p_sw, zsw, p_push, p_ret1, p_iflt, p_goto, p_il3, p_cs1_0, p_cs1_1, p_cs1_2, p_cs1_3, p_cs1_4, p_cne, WN_nx, WN_nrt, WN_ite, t, t2, d]
theorem t_fitH {o : Int} {i : Nat} (hs : zTt ts tl) (h : zTc σ ts tl) (ho : o = (i : Int)) (hi : i < 1000) : WM 64 [.inr (.inl (some 3550)), .inl 117, .inl o] (3565, x, zrho) σ Q = Q (.inl (some (.inl (if hIx (sA ts tl i) < 0 then 0 else 1)))) (3565, x, zrho) σ := by
  show Wp 64 0 [some (.inr (.inl (some 3550))), some (.inl 117), some (.inl o), none] [] _ _ Q = _
  have t := fun (Q : ZO → ZT → ZI → Prop) => t_signAt (x := x) (Q := Q) hs h ho hi
  have b := sA_in hs i
  have t2 := fun (Q : ZO → ZT → ZI → Prop) (θ : ZT) => t_hIx (θ := θ) (σ := σ) (Q := Q) (c := sA ts tl i) (by omega)
  have b2 := hIx_in (c := sA ts tl i)
  by_cases c : hIx (sA ts tl i) < 0
  · have d : (hIx (sA ts tl i) < 0) = True := eq_true c
    rw [if_pos c]
    simp (disch := first | assumption | exact p_c2i | exact p_c2r | exact p_c2n | omega | ((repeat (first | refine p_a1i.trans ?_ | refine p_a1r.trans ?_)); exact p_a10) | ((repeat (first | refine p_wI ?_ | refine p_wR ?_)); exact p_w0) | decide) only [reduceIte, Int.reduceLT, Int.reduceLE, Int.reduceEq, Int.reduceToNat, Int.reduceAdd, Int.reduceSub, Int.reduceMul, Int.reduceNeg, e64_0, e64_1, e64_2, e64_5, e64_6, e64_7, e64_48, e64_49, e64_50, e64_51, e64_52, e64_55, e64_58, e64_59, e64_62, e64_63, e64_64, e64_65, e64_68, e64_71, e64_72, e64_75, e64_76, e64_77, e64_78, e64_81, e64_84, e64_85, e64_88, e64_89, e64_90, e64_91, e64_92, e64_95, e64_96, e64_99, e64_100, p_al0, p_il2, p_cv1_0, p_cv1_1, p_cv1_2, p_cv1_3, p_cv1_4, zK_v, zK_0, WN_ncl, p_is3, p_c2n, p_c2i, p_c2r, p_il1, p_sw, zsw, p_push, p_ret1, p_iflt, p_goto, p_il3, p_cs1_0, p_cs1_1, p_cs1_2, p_cs1_3, p_cs1_4, p_cne, WN_nx, WN_nrt, WN_ite, t, t2, d]
  · have d : (hIx (sA ts tl i) < 0) = False := eq_false c
    rw [if_neg c]
    simp (disch := first | assumption | exact p_c2i | exact p_c2r | exact p_c2n | omega | ((repeat (first | refine p_a1i.trans ?_ | refine p_a1r.trans ?_)); exact p_a10) | ((repeat (first | refine p_wI ?_ | refine p_wR ?_)); exact p_w0) | decide) only [reduceIte, Int.reduceLT, Int.reduceLE, Int.reduceEq, Int.reduceToNat, Int.reduceAdd, Int.reduceSub, Int.reduceMul, Int.reduceNeg, e64_0, e64_1, e64_2, e64_5, e64_6, e64_7, e64_48, e64_49, e64_50, e64_51, e64_52, e64_55, e64_58, e64_59, e64_62, e64_63, e64_64, e64_65, e64_68, e64_71, e64_72, e64_75, e64_76, e64_77, e64_78, e64_81, e64_84, e64_85, e64_88, e64_89, e64_90, e64_91, e64_92, e64_95, e64_96, e64_99, e64_100, p_al0, p_il2, p_cv1_0, p_cv1_1, p_cv1_2, p_cv1_3, p_cv1_4, zK_v, zK_0, WN_ncl, p_is3, p_c2n, p_c2i, p_c2r, p_il1, p_sw, zsw, p_push, p_ret1, p_iflt, p_goto, p_il3, p_cs1_0, p_cs1_1, p_cs1_2, p_cs1_3, p_cs1_4, p_cne, WN_nx, WN_nrt, WN_ite, t, t2, d]
theorem t_fitT {o : Int} {i : Nat} (hs : zTt ts tl) (h : zTc σ ts tl) (ho : o = (i : Int)) (hi : i < 1000) : WM 64 [.inr (.inl (some 3550)), .inl 78, .inl o] (3565, x, zrho) σ Q = Q (.inl (some (.inl (if tIx (sA ts tl i) < 0 then 0 else 1)))) (3565, x, zrho) σ := by
  show Wp 64 0 [some (.inr (.inl (some 3550))), some (.inl 78), some (.inl o), none] [] _ _ Q = _
  have t := fun (Q : ZO → ZT → ZI → Prop) => t_signAt (x := x) (Q := Q) hs h ho hi
  have b := sA_in hs i
  have t2 := fun (Q : ZO → ZT → ZI → Prop) (θ : ZT) => t_tIx (θ := θ) (σ := σ) (Q := Q) (c := sA ts tl i) (by omega)
  have b2 := tIx_in (c := sA ts tl i)
  by_cases c : tIx (sA ts tl i) < 0
  · have d : (tIx (sA ts tl i) < 0) = True := eq_true c
    rw [if_pos c]
    simp (disch := first | assumption | exact p_c2i | exact p_c2r | exact p_c2n | omega | ((repeat (first | refine p_a1i.trans ?_ | refine p_a1r.trans ?_)); exact p_a10) | ((repeat (first | refine p_wI ?_ | refine p_wR ?_)); exact p_w0) | decide) only [reduceIte, Int.reduceLT, Int.reduceLE, Int.reduceEq, Int.reduceToNat, Int.reduceAdd, Int.reduceSub, Int.reduceMul, Int.reduceNeg, e64_0, e64_1, e64_2, e64_5, e64_6, e64_7, e64_48, e64_49, e64_50, e64_51, e64_52, e64_55, e64_58, e64_59, e64_62, e64_63, e64_64, e64_65, e64_68, e64_71, e64_72, e64_75, e64_76, e64_77, e64_78, e64_81, e64_84, e64_85, e64_88, e64_89, e64_90, e64_91, e64_92, e64_95, e64_96, e64_99, e64_100, p_al0, p_il2, p_cv1_0, p_cv1_1, p_cv1_2, p_cv1_3, p_cv1_4, zK_v, zK_0, WN_ncl, p_is3, p_c2n, p_c2i, p_c2r, p_il1, p_sw, zsw, p_push, p_ret1, p_iflt, p_goto, p_il3, p_cs1_0, p_cs1_1, p_cs1_2, p_cs1_3, p_cs1_4, p_cne, WN_nx, WN_nrt, WN_ite, t, t2, d]
  · have d : (tIx (sA ts tl i) < 0) = False := eq_false c
    rw [if_neg c]
    simp (disch := first | assumption | exact p_c2i | exact p_c2r | exact p_c2n | omega | ((repeat (first | refine p_a1i.trans ?_ | refine p_a1r.trans ?_)); exact p_a10) | ((repeat (first | refine p_wI ?_ | refine p_wR ?_)); exact p_w0) | decide) only [reduceIte, Int.reduceLT, Int.reduceLE, Int.reduceEq, Int.reduceToNat, Int.reduceAdd, Int.reduceSub, Int.reduceMul, Int.reduceNeg, e64_0, e64_1, e64_2, e64_5, e64_6, e64_7, e64_48, e64_49, e64_50, e64_51, e64_52, e64_55, e64_58, e64_59, e64_62, e64_63, e64_64, e64_65, e64_68, e64_71, e64_72, e64_75, e64_76, e64_77, e64_78, e64_81, e64_84, e64_85, e64_88, e64_89, e64_90, e64_91, e64_92, e64_95, e64_96, e64_99, e64_100, p_al0, p_il2, p_cv1_0, p_cv1_1, p_cv1_2, p_cv1_3, p_cv1_4, zK_v, zK_0, WN_ncl, p_is3, p_c2n, p_c2i, p_c2r, p_il1, p_sw, zsw, p_push, p_ret1, p_iflt, p_goto, p_il3, p_cs1_0, p_cs1_1, p_cs1_2, p_cs1_3, p_cs1_4, p_cne, WN_nx, WN_nrt, WN_ite, t, t2, d]
theorem t_fitL {o v : Int} {i : Nat} (hs : zTt ts tl) (h : zTc σ ts tl) (ho : o = (i : Int)) (hi : i < 1000) (hv : 0 ≤ v ∧ v < 65536) (v1 : v ≠ 48) (v2 : v ≠ 78) (v3 : v ≠ 117) (v4 : v ≠ 122) : WM 64 [.inr (.inl (some 3550)), .inl v, .inl o] (3565, x, zrho) σ Q = Q (.inl (some (.inl (if sA ts tl i = v then 1 else 0)))) (3565, x, zrho) σ := by
  show Wp 64 0 [some (.inr (.inl (some 3550))), some (.inl v), some (.inl o), none] [] _ _ Q = _
  have t := fun (Q : ZO → ZT → ZI → Prop) => t_signAt (x := x) (Q := Q) hs h ho hi
  have b := sA_in hs i
  obtain ⟨hv1, hv2⟩ := hv
  by_cases c : sA ts tl i = v
  · rw [if_pos c]
    rw [c] at t
    simp (disch := first | assumption | exact p_c2i | exact p_c2r | exact p_c2n | omega | ((repeat (first | refine p_a1i.trans ?_ | refine p_a1r.trans ?_)); exact p_a10) | ((repeat (first | refine p_wI ?_ | refine p_wR ?_)); exact p_w0) | decide) only [reduceIte, Int.reduceLT, Int.reduceLE, Int.reduceEq, Int.reduceToNat, Int.reduceAdd, Int.reduceSub, Int.reduceMul, Int.reduceNeg, e64_0, e64_1, e64_2, e64_5, e64_6, e64_7, e64_48, e64_49, e64_50, e64_51, e64_52, e64_55, e64_58, e64_59, e64_62, e64_63, e64_64, e64_65, e64_68, e64_71, e64_72, e64_75, e64_76, e64_77, e64_78, e64_81, e64_84, e64_85, e64_88, e64_89, e64_90, e64_91, e64_92, e64_95, e64_96, e64_99, e64_100, p_al0, p_il2, p_cv1_0, p_cv1_1, p_cv1_2, p_cv1_3, p_cv1_4, zK_v, zK_0, WN_ncl, p_is3, p_c2n, p_c2i, p_c2r, p_il1, p_sw, zsw, p_push, p_ret1, p_iflt, p_goto, p_il3, p_cs1_0, p_cs1_1, p_cs1_2, p_cs1_3, p_cs1_4, p_cne, WN_nx, WN_nrt, WN_ite, t, v1, v2, v3, v4]
  · rw [if_neg c]
    simp (disch := first | assumption | exact p_c2i | exact p_c2r | exact p_c2n | omega | ((repeat (first | refine p_a1i.trans ?_ | refine p_a1r.trans ?_)); exact p_a10) | ((repeat (first | refine p_wI ?_ | refine p_wR ?_)); exact p_w0) | decide) only [reduceIte, Int.reduceLT, Int.reduceLE, Int.reduceEq, Int.reduceToNat, Int.reduceAdd, Int.reduceSub, Int.reduceMul, Int.reduceNeg, e64_0, e64_1, e64_2, e64_5, e64_6, e64_7, e64_48, e64_49, e64_50, e64_51, e64_52, e64_55, e64_58, e64_59, e64_62, e64_63, e64_64, e64_65, e64_68, e64_71, e64_72, e64_75, e64_76, e64_77, e64_78, e64_81, e64_84, e64_85, e64_88, e64_89, e64_90, e64_91, e64_92, e64_95, e64_96, e64_99, e64_100, p_al0, p_il2, p_cv1_0, p_cv1_1, p_cv1_2, p_cv1_3, p_cv1_4, zK_v, zK_0, WN_ncl, p_is3, p_c2n, p_c2i, p_c2r, p_il1, p_sw, zsw, p_push, p_ret1, p_iflt, p_goto, p_il3, p_cs1_0, p_cs1_1, p_cs1_2, p_cs1_3, p_cs1_4, p_cne, WN_nx, WN_nrt, WN_ite, t, c, v1, v2, v3, v4]
end
