/-! THE LAW, WHOLE -/
theorem zlaw (L : Nat) (xs : Nat → Int32) (hL : L ≤ 2048) : Wp 262 0 (zent 262 [.inr (.inl (some 0))]) [] zt0 (zs0 L xs) (fun o θ _ => o = .inl (some (.inl 1)) ∧ cC θ ≤ 100 + 601024 ∧ cS θ ≤ cS zt0 + 7293033) := by
  show Wp 262 0 [some (.inr (.inl (some 0))), none, none, none, none, none, none, none, none] [] (100, 0, fun _ _ => none) (zs0 L xs) (fun o θ _ => o = .inl (some (.inl 1)) ∧ cC θ ≤ 100 + 601024 ∧ cS θ ≤ cS zt0 + 7293033)
  generalize hQ : (fun (o : ZO) (θ : ZT) (_ : ZI) => o = .inl (some (.inl 1)) ∧ cC θ ≤ 100 + 601024 ∧ cS θ ≤ cS zt0 + 7293033) = Q
  have k100 : zkd 100 = 5 := rfl
  have k53 : zkd 3553 = 6 := rfl
  have k64 : zkd 3564 = 13 := rfl
  have n64 : ((zln 3564 : Nat) : Int) = 1 := rfl
  simp (disch := first | assumption | exact p_c2i | exact p_c2r | exact p_c2n | omega | ((repeat (first | refine p_a1i.trans ?_ | refine p_a1r.trans ?_)); exact p_a10) | ((repeat (first | refine p_wI ?_ | refine p_wR ?_)); exact p_w0) | decide) only [reduceIte, Int.reduceLT, Int.reduceLE, Int.reduceEq, Int.reduceToNat, Int.reduceAdd, Int.reduceSub, Int.reduceMul, Int.reduceNeg, e262_0, e262_3, e262_4, p_dupi, p_dupr, zK_0, WN_ncl, WN_nx, WN_nrt, WN_ite, p_newo, p_ci1, Nat.reduceAdd]
  refine t_gardI (fun k => zclrR_s) (fun k => zclr_s) (fun ρ1 σ1 r1 u1 h1 h2 h3 h4 h5 h6 => ?_)
  rw [zK_0]
  simp (disch := first | assumption | exact p_c2i | exact p_c2r | exact p_c2n | omega | ((repeat (first | refine p_a1i.trans ?_ | refine p_a1r.trans ?_)); exact p_a10) | ((repeat (first | refine p_wI ?_ | refine p_wR ?_)); exact p_w0) | decide) only [reduceIte, Int.reduceLT, Int.reduceLE, Int.reduceEq, Int.reduceToNat, Int.reduceAdd, Int.reduceSub, Int.reduceMul, Int.reduceNeg, e262_7, e262_8, e262_11, e262_12, p_as1, p_c2n, p_c2i, p_c2r, p_dupi, p_dupr, zK_0, WN_ncl, WN_nx, WN_nrt, WN_ite, p_newo, p_ci1, Nat.reduceAdd]
  refine t_modelI (fun k => zclrR_s) (fun k => zclr_s) (fun ρ2 σ2 r2 u2 g1 g2 g3 g4 => ?_)
  rw [zK_0]
  simp (disch := first | assumption | exact p_c2i | exact p_c2r | exact p_c2n | omega | ((repeat (first | refine p_a1i.trans ?_ | refine p_a1r.trans ?_)); exact p_a10) | ((repeat (first | refine p_wI ?_ | refine p_wR ?_)); exact p_w0) | decide) only [reduceIte, Int.reduceLT, Int.reduceLE, Int.reduceEq, Int.reduceToNat, Int.reduceAdd, Int.reduceSub, Int.reduceMul, Int.reduceNeg, e262_15, e262_16, e262_17, e262_19, e262_20, e262_21, p_as2, p_c2n, p_c2i, p_c2r, p_push, p_as3, p_is4, WN_nx, WN_nrt, WN_ite, p_newa, Nat.reduceAdd]
  have er : zclrR ρ2 3564 = zrho := by
    funext a
    by_cases c1 : a = 3564
    · subst c1; funext k; rw [zclrR_s, zrho_z (by decide)]
    · rw [zclrR_f c1]
      by_cases c2 : 3553 ≤ a ∧ a < 3564
      · exact r2 a c2.1 c2.2
      · rw [u2 a (by omega), zclrR_f (by omega)]
        by_cases c3 : 100 ≤ a ∧ a < 3553
        · exact r1 a c3.1 c3.2
        · rw [u1 a (by omega), zclrR_f (by omega)]
          funext k
          have hk : zkd a = 99 ∨ zkd a = 20 ∨ zkd a = 21 ∨ zkd a = 22 := by
            unfold zkd
            by_cases c4 : a < 100
            · rw [if_pos c4]
              split
              · omega
              · split
                · omega
                · split <;> omega
            · rw [if_neg c4, if_neg (by omega), if_neg (by omega), if_neg (by omega), if_neg (by omega), if_neg (by omega), if_neg (by omega), if_neg (by omega), if_neg (by omega), if_neg (by omega), if_neg (by omega), if_neg (by omega), if_neg (by omega), if_neg (by omega), if_neg (by omega), if_neg (by omega), if_neg (by omega), if_neg (by omega)]
              exact Or.inl rfl
          rw [zrho_z (by omega)]
  rw [er]
  have e : ∀ a, a < 3553 → a ≠ 100 → zclr σ2 3564 a = σ1 a := fun a b1 b2 => by rw [zclr_f (by omega), g4 a (by omega), zclr_f (by omega)]
  have e100 : ∀ k, zclr σ2 3564 100 k = σ1 100 k := fun k => by rw [zclr_o (by omega), g4 100 (by omega), zclr_o (by omega)]
  have e53 : ∀ k, zclr σ2 3564 3553 k = σ2 3553 k := fun k => zclr_o (by omega)
  have e54 : zclr σ2 3564 3554 = zw0 := (zclr_f (by omega)).trans g1
  have elo : ∀ a, a < 100 → zclr σ2 3564 a = zs0 L xs a := fun a ha => by rw [e a (by omega) (by omega), h6 a (by omega), zclr_f (by omega)]
  have s23 : zs0 L xs 23 0 = (L : Int) := rfl
  have hI : zInv (zs0 L xs) (20000 * ((0 : Nat) : Int)) (zclr σ2 3564) := by
    refine ⟨?_, ⟨fun _ => zw0, 0, ⟨0, by omega, ?_, ?_, fun k hk => absurd hk (Nat.not_lt_zero k)⟩, ⟨?_, fun k hk => absurd hk (Nat.not_lt_zero k)⟩, by omega, fun k hk => absurd hk (Nat.not_lt_zero k)⟩, ⟨?_, Or.inl ?_, fun z => absurd ?_ z⟩, ⟨?_, ?_, ?_, ?_⟩, ⟨fun _ => 0, 0, zTt_0, ⟨?_, fun i hi => absurd hi (Nat.not_lt_zero i)⟩, ⟨?_, fun i hi => absurd hi (Nat.not_lt_zero i)⟩⟩, ⟨?_, ?_⟩, ⟨0, fun _ => 0, by omega, ?_, ?_, fun k hk => absurd hk (Nat.not_lt_zero k)⟩, ⟨?_, elo⟩⟩
    · unfold zIa
      rw [e54]
      exact ⟨h1.frame (fun a _ _ => e a (by omega) (by omega)), zSok_w0⟩
    · rw [e 1037 (by omega) (by omega)]; exact h2 1
    · rw [e 1037 (by omega) (by omega)]; exact h2 2
    · rw [e53]; exact g3 6 (by omega)
    · rw [e100, e53, h5 3 (by omega), g3 5 (by omega)]
    · rw [e53]; exact g3 5 (by omega)
    · rw [e53]; exact g3 5 (by omega)
    · rw [e100, e53, h5 12 (by omega), g3 9 (by omega)]
    · rw [e100, e53, h5 13 (by omega), g3 10 (by omega)]
    · rw [e53, g3 9 (by omega)]; exact ⟨by omega, by omega⟩
    · rw [e53, g3 10 (by omega)]; exact ⟨by omega, by omega⟩
    · rw [e 3550 (by omega) (by omega)]; exact h3
    · rw [e53]; exact g3 12 (by omega)
    · rw [e100, e53, h4, g2]
    · rw [e53, g2]; exact ⟨by omega, by omega⟩
    · rw [e100]; exact h5 11 (by omega)
    · rw [e53]; exact g3 15 (by omega)
    · rw [e53]; exact g3 7 (by omega)
  have l := l_law (s0 := zs0 L xs) (Q := Q) (by rw [s23]; omega) (by rw [s23]; omega) (fun k => ⟨Int32.le_toInt _, Int32.toInt_lt _⟩) (fun b k b1 b2 => by
    show (if b = 0 then _ else if b = 23 then _ else if 12 ≤ b ∧ b < 23 then _ else _) = _
    rw [if_neg (by omega), if_neg (by omega), if_pos ⟨b1, b2⟩]) (fun σ' x' hx' => by
    rw [← hQ]
    refine ⟨rfl, ?_, ?_⟩
    · show 3565 + x' ≤ 100 + 601024
      omega
    · have hz := zsum_e
      show zsum 3565 + 6 * x' ≤ zsum 100 + 6 * 0 + 7293033
      omega) 513 0 0 (zclr σ2 3564) none none none none rfl (Nat.le_refl 0) hI
  exact l
