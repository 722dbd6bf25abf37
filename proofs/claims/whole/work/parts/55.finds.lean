/-! THE MODEL: the least numbers of the fields -/
def zco (w : zW) : Nat → Int := fun c => w (10 + c)
def lup (l : Nat → Nat) (c v : Nat) : Nat → Nat := fun k => if k = c then v else l k
theorem lup_sum {l : Nat → Nat} {c v : Nat} (hv : v < l c) : ∀ n, c < n → zsm (fun k => ((lup l c v k : Nat) : Int)) n < zsm (fun k => ((l k : Nat) : Int)) n := by
  have eq : ∀ n, n ≤ c → zsm (fun k => ((lup l c v k : Nat) : Int)) n = zsm (fun k => ((l k : Nat) : Int)) n := fun n hn => zsm_cg n (fun k hk => by show ((lup l c v k : Nat) : Int) = ((l k : Nat) : Int); unfold lup; rw [if_neg (by omega)])
  intro n
  induction n with
  | zero => intro h; omega
  | succ n ih =>
    intro h
    rw [zsm_s, zsm_s]
    by_cases e : c = n
    · subst e
      have := eq c (Nat.le_refl _)
      have z : ((lup l c v c : Nat) : Int) = (v : Int) := by unfold lup; rw [if_pos rfl]
      omega
    · have := ih (by omega)
      have z : ((lup l c v n : Nat) : Int) = (l n : Int) := by unfold lup; rw [if_neg (by omega)]
      omega
section
variable {τ : ZI} {Q : ZO → ZT → ZI → Prop} {x : Nat} {w : zW} {N : Int}
theorem zm_r16 : zrho 3553 16 = some 3561 := rfl
theorem zm_1 : zkd 3561 = 10 := rfl
theorem zm_n1 : zln 3561 = 81 := rfl
/-- a round of finding, from the neighbour d of the cell c on -/
theorem l_round {l0 : Nat → Nat} (ok : zok N w) (HE : ∀ (f : Int) (l : Nat → Nat) (τ1 : ZI) (l4 : Option ZV), (f = 0 ∨ f = 1) → (∀ a, a ≠ 3561 → τ1 a = τ a) → (∀ k, k < 81 → τ1 3561 k = (l k : Int)) → (∀ k, k < 81 → l k ≤ k ∧ zcm (zco w) k (l k) = true) → (f = 1 → zsm (fun k => ((l k : Nat) : Int)) 81 < zsm (fun k => ((l0 k : Nat) : Int)) 81) → (f = 0 → ∀ e d, e < 81 → d < 4 → zco w (zT e d) = zco w e → l e ≤ l (zT e d)) → Wp 179 23 [some (.inr (.inl (some 3553))), some (.inl f), some (.inl 81), some (.inl 4), l4] [] (3565, x, zrho) (zg τ1 w) Q) : ∀ (k c d : Nat) (f : Int) (l : Nat → Nat) (τ1 : ZI) (l4 : Option ZV), c ≤ 80 → d ≤ 4 → k = 5 * (80 - c) + (4 - d) → (f = 0 ∨ f = 1) → (∀ a, a ≠ 3561 → τ1 a = τ a) → (∀ k, k < 81 → τ1 3561 k = (l k : Int)) → (∀ k, k < 81 → l k ≤ k ∧ zcm (zco w) k (l k) = true) → (f = 1 → zsm (fun k => ((l k : Nat) : Int)) 81 < zsm (fun k => ((l0 k : Nat) : Int)) 81) → (f = 0 → zsm (fun k => ((l k : Nat) : Int)) 81 = zsm (fun k => ((l0 k : Nat) : Int)) 81 ∧ ∀ e g, g < 4 → (e < c ∨ (e = c ∧ g < d)) → zco w (zT e g) = zco w e → l e ≤ l (zT e g)) → Wp 179 39 [some (.inr (.inl (some 3553))), some (.inl f), some (.inl ((c : Int))), some (.inl ((d : Int))), l4] [] (3565, x, zrho) (zg τ1 w) Q := by
  have hk := zm_k
  have k4 := zm_4
  have n4 := zm_n4
  have k1 := zm_1
  have n1 := zm_n1
  have o1 := ok.2.1
  intro k
  induction k with
  | zero =>
    intro c d f l τ1 l4 hc hd hk hf ha hl hi h1 h0
    have ec : c = 80 := by omega
    have ed : d = 4 := by omega
    subst ec
    subst ed
    simp (disch := first | assumption | exact p_c2i | exact p_c2r | exact p_c2n | omega | ((repeat (first | refine p_a1i.trans ?_ | refine p_a1r.trans ?_)); exact p_a10) | ((repeat (first | refine p_wI ?_ | refine p_wR ?_)); exact p_w0) | decide) only [reduceIte, Int.reduceLT, Int.reduceLE, Int.reduceEq, Int.reduceToNat, Int.reduceAdd, Int.reduceSub, Int.reduceMul, Int.reduceNeg, e179_31, e179_32, e179_34, e179_39, e179_40, e179_41, e179_113, e179_116, e179_119, p_il2, p_push, p_cge, p_il3, p_ii2, p_goto, WN_nx, WN_nrt, WN_ite, show ((4 : Nat) : Int) = 4 from rfl, show ((80 : Nat) : Int) = 80 from rfl]
    exact HE f l τ1 l4 hf ha hl hi h1 (fun z e g he hg hl => (h0 z).2 e g hg (by omega) hl)
  | succ k ih =>
    intro c d f l τ1 l4 hc hd hk hf ha hl hi h1 h0
    by_cases hd4 : d = 4
    · subst hd4
      have c1 : ((c : Int) + 1 < 81) = True := eq_true (by omega)
      have e1 : (c : Int) + 1 = ((c + 1 : Nat) : Int) := by omega
      have c2 : (((c + 1 : Nat) : Int) < 81) = True := eq_true (by omega)
      rw [e179_39]
      simp (disch := first | assumption | exact p_c2i | exact p_c2r | exact p_c2n | omega | ((repeat (first | refine p_a1i.trans ?_ | refine p_a1r.trans ?_)); exact p_a10) | ((repeat (first | refine p_wI ?_ | refine p_wR ?_)); exact p_w0) | decide) only [reduceIte, Int.reduceLT, Int.reduceLE, Int.reduceEq, Int.reduceToNat, Int.reduceAdd, Int.reduceSub, Int.reduceMul, Int.reduceNeg, e179_31, e179_32, e179_34, e179_37, e179_38, e179_40, e179_41, e179_113, e179_116, p_il2, p_push, p_cge, p_is3, p_c2n, p_c2i, p_c2r, p_il3, p_ii2, p_goto, WN_nx, WN_nrt, WN_ite, show ((4 : Nat) : Int) = 4 from rfl, e1, c2]
      exact ih (c + 1) 0 f l τ1 l4 (by omega) (by omega) (by omega) hf ha hl hi h1 (fun z => ⟨(h0 z).1, fun e g hg hh hl => (h0 z).2 e g hg (by omega) hl⟩)
    · have c1 : ((d : Int) < 4) = True := eq_true (by omega)
      have e1 : (d : Int) + 1 = ((d + 1 : Nat) : Int) := by omega
      have hc81 : c < 81 := by omega
      have ht := zT_in (d := d) hc81
      have et := zT_c (d := d) hc81
      have tw := fun (Q : ZO → ZT → ZI → Prop) (σ : ZI) (θ : ZT) => t_toward (Q := Q) (σ := σ) (θ := θ) (c := (c : Int)) (d := (d : Int)) (by omega) (by omega)
      rw [et] at tw
      have i1 : (10 + ((zT c d : Nat) : Int)).toNat = 10 + zT c d := by omega
      have i2 : (10 + (c : Int)).toNat = 10 + c := by omega
      have b1 := ok.2.2.2.2.2.2.2.1 (zT c d) ht
      have b2 := ok.2.2.2.2.2.2.2.1 c hc81
      have g1 : zg τ1 w 3561 (zT c d) = (l (zT c d) : Int) := by rw [zg_o (by omega)]; exact hl _ ht
      have g2 : zg τ1 w 3561 c = (l c : Int) := by rw [zg_o (by omega)]; exact hl _ hc81
      have q1 := (hi _ ht).1
      have q2 := (hi _ hc81).1
      by_cases hcol : w (10 + zT c d) = w (10 + c)
      · have c2 : (w (10 + zT c d) = w (10 + c)) = True := eq_true hcol
        by_cases hlt : l (zT c d) < l c
        · have c3 : ((l (zT c d) : Int) < (l c : Int)) = True := eq_true (by omega)
          have uc : zup (zg τ1 w) 3561 c (l (zT c d) : Int) = zg (zup τ1 3561 c (l (zT c d) : Int)) w := zg_c (by omega)
          rw [e179_39]
          simp (disch := first | assumption | exact p_c2i | exact p_c2r | exact p_c2n | omega | ((repeat (first | refine p_a1i.trans ?_ | refine p_a1r.trans ?_)); exact p_a10) | ((repeat (first | refine p_wI ?_ | refine p_wR ?_)); exact p_w0) | decide) only [reduceIte, Int.reduceLT, Int.reduceLE, Int.reduceEq, Int.reduceToNat, Int.reduceAdd, Int.reduceSub, Int.reduceMul, Int.reduceNeg, e179_40, e179_41, e179_44, e179_45, e179_46, e179_49, e179_51, e179_52, e179_55, e179_57, e179_59, e179_60, e179_61, e179_62, e179_65, e179_67, e179_68, e179_69, e179_70, e179_73, e179_74, e179_77, e179_79, e179_80, e179_81, e179_84, e179_85, e179_86, e179_89, e179_92, e179_93, e179_96, e179_97, e179_98, e179_101, e179_103, e179_104, e179_105, e179_106, e179_107, e179_110, p_il3, p_push, p_cge, p_il2, p_cs2_0, p_cs2_1, p_cs2_2, p_cs2_3, p_cs2_4, zK_v, zK_0, WN_ncl, p_is4, p_c2n, p_c2i, p_c2r, p_al0, p_getR, p_il4, p_bin, p_iald, p_cne, p_clt, p_goto, p_iast, p_is1, p_ii3, WN_nx, WN_nrt, WN_ite, c1, tw, zm_r0, zg_s, i1, i2, c2, zm_r16, g1, g2, c3, uc, Int.toNat_natCast, e1]
          have hs := lup_sum (l := l) (c := c) (v := l (zT c d)) hlt 81 hc81
          have hb : zsm (fun k => ((l k : Nat) : Int)) 81 ≤ zsm (fun k => ((l0 k : Nat) : Int)) 81 := by
            rcases hf with hf | hf
            · exact Int.le_of_eq (h0 hf).1
            · exact Int.le_of_lt (h1 hf)
          refine ih c (d + 1) 1 (lup l c (l (zT c d))) _ _ hc (by omega) (by omega) (Or.inr rfl) (fun a h => by rw [zup_f h]; exact ha a h) (fun j hj => ?_) (fun j hj => ?_) (fun _ => by omega) (fun z => absurd z (by decide))
          · unfold lup
            by_cases e : j = c
            · rw [e, zup_s, if_pos rfl]
            · rw [zup_j e, if_neg e]; exact hl j hj
          · unfold lup
            by_cases e : j = c
            · rw [if_pos e, e]
              exact ⟨by omega, zcm_t hc81 ht (by omega) (zcm_s hc81 hc81 (by omega) zcm_r hcol) (hi _ ht).2⟩
            · rw [if_neg e]; exact hi j hj
        · have c3 : ((l (zT c d) : Int) < (l c : Int)) = False := eq_false (by omega)
          rw [e179_39]
          simp (disch := first | assumption | exact p_c2i | exact p_c2r | exact p_c2n | omega | ((repeat (first | refine p_a1i.trans ?_ | refine p_a1r.trans ?_)); exact p_a10) | ((repeat (first | refine p_wI ?_ | refine p_wR ?_)); exact p_w0) | decide) only [reduceIte, Int.reduceLT, Int.reduceLE, Int.reduceEq, Int.reduceToNat, Int.reduceAdd, Int.reduceSub, Int.reduceMul, Int.reduceNeg, e179_40, e179_41, e179_44, e179_45, e179_46, e179_49, e179_51, e179_52, e179_55, e179_57, e179_59, e179_60, e179_61, e179_62, e179_65, e179_67, e179_68, e179_69, e179_70, e179_73, e179_74, e179_77, e179_79, e179_80, e179_81, e179_84, e179_85, e179_86, e179_89, e179_92, e179_93, e179_96, e179_97, e179_98, e179_101, e179_103, e179_104, e179_105, e179_106, e179_107, e179_110, p_il3, p_push, p_cge, p_il2, p_cs2_0, p_cs2_1, p_cs2_2, p_cs2_3, p_cs2_4, zK_v, zK_0, WN_ncl, p_is4, p_c2n, p_c2i, p_c2r, p_al0, p_getR, p_il4, p_bin, p_iald, p_cne, p_clt, p_goto, p_iast, p_is1, p_ii3, WN_nx, WN_nrt, WN_ite, c1, tw, zm_r0, zg_s, i1, i2, c2, zm_r16, g1, g2, c3, Int.toNat_natCast, e1]
          refine ih c (d + 1) f l τ1 _ hc (by omega) (by omega) hf ha hl hi h1 (fun z => ⟨(h0 z).1, fun e g hg hh hl => ?_⟩)
          by_cases e' : e = c ∧ g = d
          · rw [e'.1, e'.2]; omega
          · exact (h0 z).2 e g hg (by omega) hl
      · rw [e179_39]
        simp (disch := first | assumption | exact p_c2i | exact p_c2r | exact p_c2n | omega | ((repeat (first | refine p_a1i.trans ?_ | refine p_a1r.trans ?_)); exact p_a10) | ((repeat (first | refine p_wI ?_ | refine p_wR ?_)); exact p_w0) | decide) only [reduceIte, Int.reduceLT, Int.reduceLE, Int.reduceEq, Int.reduceToNat, Int.reduceAdd, Int.reduceSub, Int.reduceMul, Int.reduceNeg, e179_40, e179_41, e179_44, e179_45, e179_46, e179_49, e179_51, e179_52, e179_55, e179_57, e179_59, e179_60, e179_61, e179_62, e179_65, e179_67, e179_68, e179_69, e179_70, e179_73, e179_74, e179_77, e179_79, e179_80, e179_81, e179_84, e179_85, e179_86, e179_89, e179_92, e179_93, e179_96, e179_97, e179_98, e179_101, e179_103, e179_104, e179_105, e179_106, e179_107, e179_110, p_il3, p_push, p_cge, p_il2, p_cs2_0, p_cs2_1, p_cs2_2, p_cs2_3, p_cs2_4, zK_v, zK_0, WN_ncl, p_is4, p_c2n, p_c2i, p_c2r, p_al0, p_getR, p_il4, p_bin, p_iald, p_cne, p_clt, p_goto, p_iast, p_is1, p_ii3, WN_nx, WN_nrt, WN_ite, c1, tw, zm_r0, zg_s, i1, i2, hcol, Int.toNat_natCast, e1]
        refine ih c (d + 1) f l τ1 _ hc (by omega) (by omega) hf ha hl hi h1 (fun z => ⟨(h0 z).1, fun e g hg hh hl => ?_⟩)
        by_cases e' : e = c ∧ g = d
        · rw [e'.1, e'.2] at hl
          exact absurd hl hcol
        · exact (h0 z).2 e g hg (by omega) hl
theorem l_finds (ok : zok N w) (K : ∀ (l : Nat → Nat) (τ' : ZI), zLab (zco w) l → (∀ a, a ≠ 3561 → τ' a = τ a) → (∀ k, k < 81 → τ' 3561 k = (l k : Int)) → Q (.inl none) (3565, x, zrho) (zg τ' w)) : ∀ (M : Nat) (l : Nat → Nat) (τ1 : ZI) (l2 l3 l4 : Option ZV), zsm (fun k => ((l k : Nat) : Int)) 81 ≤ (M : Int) → (∀ a, a ≠ 3561 → τ1 a = τ a) → (∀ k, k < 81 → τ1 3561 k = (l k : Int)) → (∀ k, k < 81 → l k ≤ k ∧ zcm (zco w) k (l k) = true) → Wp 179 23 [some (.inr (.inl (some 3553))), some (.inl 1), l2, l3, l4] [] (3565, x, zrho) (zg τ1 w) Q := by
  intro M
  induction M with
  | zero =>
    intro l τ1 l2 l3 l4 hM ha hl hi
    rw [e179_23]
    simp (disch := first | assumption | exact p_c2i | exact p_c2r | exact p_c2n | omega | ((repeat (first | refine p_a1i.trans ?_ | refine p_a1r.trans ?_)); exact p_a10) | ((repeat (first | refine p_wI ?_ | refine p_wR ?_)); exact p_w0) | decide) only [reduceIte, Int.reduceLT, Int.reduceLE, Int.reduceEq, Int.reduceToNat, Int.reduceAdd, Int.reduceSub, Int.reduceMul, Int.reduceNeg, e179_24, e179_27, e179_28, e179_29, e179_30, e179_31, e179_32, e179_34, e179_37, e179_38, p_il1, p_ifeq, p_push, p_is1, p_c2n, p_c2i, p_c2r, p_is2, p_il2, p_cge, p_is3, WN_nx, WN_nrt, WN_ite]
    refine l_round (τ := τ) (l0 := l) ok (fun f l' τ2 l4 hf ha' hl' hi' h1 h0 => ?_) _ 0 0 0 l τ1 _ (by omega) (by omega) rfl (Or.inl rfl) ha hl hi (fun z => absurd z (by decide)) (fun _ => ⟨rfl, fun e g _ hh => by omega⟩)
    rcases hf with hf | hf
    · subst hf
      simp (disch := first | assumption | exact p_c2i | exact p_c2r | exact p_c2n | omega | ((repeat (first | refine p_a1i.trans ?_ | refine p_a1r.trans ?_)); exact p_a10) | ((repeat (first | refine p_wI ?_ | refine p_wR ?_)); exact p_w0) | decide) only [reduceIte, Int.reduceLT, Int.reduceLE, Int.reduceEq, Int.reduceToNat, Int.reduceAdd, Int.reduceSub, Int.reduceMul, Int.reduceNeg, e179_23, e179_24, e179_122, p_il1, p_ifeq, p_vret, WN_nx, WN_nrt, WN_ite]
      exact K l' τ2 (zLab_i hi' (h0 rfl)) ha' hl'
    · have := h1 hf
      have := (zsm_in (f := fun k => ((l' k : Nat) : Int)) (M := 80) 81 (fun k hk => by have := (hi' k hk).1; omega)).1
      omega
  | succ M ih =>
    intro l τ1 l2 l3 l4 hM ha hl hi
    rw [e179_23]
    simp (disch := first | assumption | exact p_c2i | exact p_c2r | exact p_c2n | omega | ((repeat (first | refine p_a1i.trans ?_ | refine p_a1r.trans ?_)); exact p_a10) | ((repeat (first | refine p_wI ?_ | refine p_wR ?_)); exact p_w0) | decide) only [reduceIte, Int.reduceLT, Int.reduceLE, Int.reduceEq, Int.reduceToNat, Int.reduceAdd, Int.reduceSub, Int.reduceMul, Int.reduceNeg, e179_24, e179_27, e179_28, e179_29, e179_30, e179_31, e179_32, e179_34, e179_37, e179_38, p_il1, p_ifeq, p_push, p_is1, p_c2n, p_c2i, p_c2r, p_is2, p_il2, p_cge, p_is3, WN_nx, WN_nrt, WN_ite]
    refine l_round (τ := τ) (l0 := l) ok (fun f l' τ2 l4 hf ha' hl' hi' h1 h0 => ?_) _ 0 0 0 l τ1 _ (by omega) (by omega) rfl (Or.inl rfl) ha hl hi (fun z => absurd z (by decide)) (fun _ => ⟨rfl, fun e g _ hh => by omega⟩)
    rcases hf with hf | hf
    · subst hf
      simp (disch := first | assumption | exact p_c2i | exact p_c2r | exact p_c2n | omega | ((repeat (first | refine p_a1i.trans ?_ | refine p_a1r.trans ?_)); exact p_a10) | ((repeat (first | refine p_wI ?_ | refine p_wR ?_)); exact p_w0) | decide) only [reduceIte, Int.reduceLT, Int.reduceLE, Int.reduceEq, Int.reduceToNat, Int.reduceAdd, Int.reduceSub, Int.reduceMul, Int.reduceNeg, e179_23, e179_24, e179_122, p_il1, p_ifeq, p_vret, WN_nx, WN_nrt, WN_ite]
      exact K l' τ2 (zLab_i hi' (h0 rfl)) ha' hl'
    · have := h1 hf
      subst hf
      exact ih l' τ2 _ _ _ (by omega) ha' hl' hi'
theorem t_finds (ok : zok N w) (K : ∀ (l : Nat → Nat) (τ' : ZI), zLab (zco w) l → (∀ a, a ≠ 3561 → τ' a = τ a) → (∀ k, k < 81 → τ' 3561 k = (l k : Int)) → Q (.inl none) (3565, x, zrho) (zg τ' w)) : WM 179 [.inr (.inl (some 3553))] (3565, x, zrho) (zg τ w) Q := by
  show Wp 179 0 [some (.inr (.inl (some 3553))), none, none, none, none] [] _ _ Q
  have hk := zm_k
  have k1 := zm_1
  have n1 := zm_n1
  have key : ∀ (n i : Nat) (τ1 : ZI), i + n = 81 → (∀ a, a ≠ 3561 → τ1 a = τ a) → (∀ k, k < i → τ1 3561 k = (k : Int)) → Wp 179 2 [some (.inr (.inl (some 3553))), some (.inl ((i : Int))), none, none, none] [] (3565, x, zrho) (zg τ1 w) Q := by
    intro n
    induction n with
    | zero =>
      intro i τ1 hi ha hl
      have e : i = 81 := by omega
      subst e
      simp (disch := first | assumption | exact p_c2i | exact p_c2r | exact p_c2n | omega | ((repeat (first | refine p_a1i.trans ?_ | refine p_a1r.trans ?_)); exact p_a10) | ((repeat (first | refine p_wI ?_ | refine p_wR ?_)); exact p_w0) | decide) only [reduceIte, Int.reduceLT, Int.reduceLE, Int.reduceEq, Int.reduceToNat, Int.reduceAdd, Int.reduceSub, Int.reduceMul, Int.reduceNeg, e179_2, e179_3, e179_5, e179_8, e179_9, e179_12, e179_13, e179_14, e179_15, e179_18, e179_21, e179_22, p_il1, p_push, p_cge, p_al0, p_getR, p_iast, p_ii1, p_goto, p_is1, p_c2n, p_c2i, p_c2r, WN_nx, WN_nrt, WN_ite, show ((81 : Nat) : Int) = 81 from rfl]
      exact l_finds ok K (81 * 81) (fun k => k) τ1 none none none (by
        have := (zsm_in (f := fun k => ((k : Nat) : Int)) (M := 81) 81 (fun k hk => by omega)).2
        omega) ha hl (fun k _ => ⟨Nat.le_refl _, zcm_r⟩)
    | succ n ih =>
      intro i τ1 hi ha hl
      have c1 : ((i : Int) < 81) = True := eq_true (by omega)
      have e1 : (i : Int) + 1 = ((i + 1 : Nat) : Int) := by omega
      have uc : zup (zg τ1 w) 3561 i (i : Int) = zg (zup τ1 3561 i (i : Int)) w := zg_c (by omega)
      rw [e179_2]
      simp (disch := first | assumption | exact p_c2i | exact p_c2r | exact p_c2n | omega | ((repeat (first | refine p_a1i.trans ?_ | refine p_a1r.trans ?_)); exact p_a10) | ((repeat (first | refine p_wI ?_ | refine p_wR ?_)); exact p_w0) | decide) only [reduceIte, Int.reduceLT, Int.reduceLE, Int.reduceEq, Int.reduceToNat, Int.reduceAdd, Int.reduceSub, Int.reduceMul, Int.reduceNeg, e179_3, e179_5, e179_8, e179_9, e179_12, e179_13, e179_14, e179_15, e179_18, p_il1, p_push, p_cge, p_al0, p_getR, p_iast, p_ii1, p_goto, WN_nx, WN_nrt, WN_ite, c1, zm_r16, uc, Int.toNat_natCast, e1]
      refine ih (i + 1) _ (by omega) (fun a h => by rw [zup_f h]; exact ha a h) (fun k hk => ?_)
      by_cases e : k = i
      · subst e; rw [zup_s]
      · rw [zup_j e]; exact hl k (by omega)
  simp (disch := first | assumption | exact p_c2i | exact p_c2r | exact p_c2n | omega | ((repeat (first | refine p_a1i.trans ?_ | refine p_a1r.trans ?_)); exact p_a10) | ((repeat (first | refine p_wI ?_ | refine p_wR ?_)); exact p_w0) | decide) only [reduceIte, Int.reduceLT, Int.reduceLE, Int.reduceEq, Int.reduceToNat, Int.reduceAdd, Int.reduceSub, Int.reduceMul, Int.reduceNeg, e179_0, e179_1, p_push, p_is1, p_c2n, p_c2i, p_c2r, WN_nx, WN_nrt, WN_ite]
  exact key 81 0 τ rfl (fun _ _ => rfl) (fun k hk => absurd hk (Nat.not_lt_zero _))
end
