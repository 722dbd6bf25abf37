/-! A STORY: the lawn, what was ahead of the latest steps; 200 how many were taken back, 201 how many can be, 202.. the lawns ahead of them, oldest first -/
def zst (S : Nat) : Prop := S = 101 ∨ S = 413 ∨ S = 725 ∨ ∃ i < 8, S = 1039 + 312 * i
theorem zst_dis {S T : Nat} (h : zst S) (k : zst T) (ne : S ≠ T) : S + 312 ≤ T ∨ T + 312 ≤ S := by
  rcases h with h | h | h | ⟨i, hi, h⟩ <;> rcases k with k | k | k | ⟨j, hj, k⟩ <;> omega
theorem zst_in {S : Nat} (h : zst S) : 101 ≤ S ∧ S + 312 ≤ 3535 := by
  rcases h with h | h | h | ⟨i, hi, h⟩ <;> omega
section
variable {S : Nat}
theorem zs_k3 (h : zst S) : zkd S = 3 := (zkd_S (o := 0) h (by omega)).1
theorem zs_k2 (h : zst S) : zkd (S + 1) = 2 := (zkd_S (o := 1) h (by omega)).1
theorem zs_k15 (h : zst S) : zkd (S + 11) = 15 := (zkd_S (o := 11) h (by omega)).1
theorem zs_n11 (h : zst S) : zln (S + 11) = 30 := (zkd_S (o := 11) h (by omega)).2
theorem zs_kp {m : Nat} (h : zst S) (hm : m < 30) : zkd (S + 12 + 10 * m) = 2 := by
  have := (zkd_S (o := 12 + 10 * m) h (by omega)).1
  rw [show S + 12 + 10 * m = S + (12 + 10 * m) by omega, this]
  unfold zkS
  rw [if_neg (by omega), if_neg (by omega), if_neg (by omega), if_neg (by omega), if_pos (by omega)]
theorem zs_r0 (h : zst S) : zrho S 0 = some (S + 1) := by
  have := zs_k3 h
  unfold zrho
  rw [this]
  rfl
theorem zs_r1 (h : zst S) : zrho S 1 = some (S + 11) := by
  have := zs_k3 h
  unfold zrho
  rw [this]
  rfl
theorem zs_rp {m : Nat} (h : zst S) (hm : m < 30) : zrho (S + 11) m = some (S + 12 + 10 * m) := by
  have := zs_k15 h
  unfold zrho
  rw [this, if_neg (by omega), if_neg (by omega), if_pos rfl, if_pos hm, show S + 11 + 1 + 10 * m = S + 12 + 10 * m by omega]
end
def zgl (k : Nat) (g : zW) : zW := fun j => g (202 + 200 * k + j)
def zSr (σ : ZI) (S : Nat) (g : zW) : Prop := ∃ o : Nat, o < 30 ∧ σ S 2 = (o : Int) ∧ σ S 3 = g 201 ∧ σ S 4 = g 200 ∧ zLr σ (S + 1) g ∧ ∀ k : Nat, (k : Int) < g 201 → zLr σ (S + 12 + 10 * ((o + k) % 30)) (zgl k g)
def zSok (N : Int) (g : zW) : Prop := (0 ≤ g 201 ∧ g 201 ≤ 30) ∧ (0 ≤ g 200 ∧ g 200 ≤ N) ∧ zok N g ∧ ∀ k : Nat, (k : Int) < g 201 → zok N (zgl k g) ∧ zgl k g 0 = g 0
def zfS (σ σ' : ZI) (S : Nat) : Prop := ∀ a : Nat, a < S ∨ S + 312 ≤ a → σ' a = σ a
theorem zfS_t {σ σ' σ'' : ZI} {S : Nat} (h : zfS σ σ' S) (k : zfS σ' σ'' S) : zfS σ σ'' S := fun a ha => (k a ha).trans (h a ha)
theorem zfS_r {σ : ZI} {S : Nat} : zfS σ σ S := fun _ _ => rfl
theorem zSr.frame {σ σ' : ZI} {S : Nat} {g : zW} (h : zSr σ S g) (hf : ∀ a, S ≤ a → a < S + 312 → σ' a = σ a) : zSr σ' S g := by
  obtain ⟨o, ho, h1, h2, h3, h4, h5⟩ := h
  have e := hf S (by omega) (by omega)
  refine ⟨o, ho, by rw [e]; exact h1, by rw [e]; exact h2, by rw [e]; exact h3, h4.frame (fun a _ _ => hf a (by omega) (by omega)), fun k hk => (h5 k hk).frame (fun a _ _ => hf a (by omega) (by omega))⟩
theorem zSok_mono {N M : Int} {g : zW} (h : zSok N g) (hm : N ≤ M) : zSok M g := ⟨h.1, by have := h.2.1; omega, zok_mono h.2.2.1 hm, fun k hk => ⟨zok_mono (h.2.2.2 k hk).1 hm, (h.2.2.2 k hk).2⟩⟩
/-- a row as what it holds -/
def zeq (n : Nat) (g g' : zW) : Prop := ∀ j, j < n → g j = g' j
theorem zLr.cg {σ : ZI} {L : Nat} {w w' : zW} (h : zLr σ L w) (h04 : w 0 ≤ 4 ∧ w 4 ≤ 12) (e : zeq 200 w' w) : zLr σ L w' :=
  h.to (e 0 (by omega)) (e 4 (by omega)) (fun k hk => e k (by omega)) (fun k _ hk => e k (by omega)) (fun i hi j hj => e _ (by have := h04.1; omega)) (fun k hk => e _ (by have := h04.2; omega))
theorem zok_cg {N : Int} {w w' : zW} (h : zok N w) (e : zeq 200 w' w) : zok N w' := by
  obtain ⟨a0, a1, a2, a3, a4, a5, a6, a7, a8, a9, a10⟩ := h
  refine ⟨by rw [e 0 (by omega)]; exact a0, by rw [e 1 (by omega)]; exact a1, by rw [e 2 (by omega)]; exact a2, by rw [e 3 (by omega)]; exact a3, by rw [e 4 (by omega)]; exact a4, by rw [e 5 (by omega)]; exact a5, fun t h => by rw [e _ (by omega)]; exact a6 t h, fun t h => by rw [e _ (by omega), e 1 (by omega)]; exact a7 t h, fun t h => by rw [e _ (by omega)]; exact a8 t h, fun k h => ?_, fun k h => ?_⟩
  · rw [e 0 (by omega)] at h
    rw [e _ (by omega), e _ (by omega), e _ (by omega), e _ (by omega)]
    exact a9 k h
  · rw [e 4 (by omega)] at h
    rw [e _ (by omega)]
    exact a10 k h
/-- the lawn is kept -/
def aKeep (g : zW) : zW := fun j =>
  if g 201 = 30 then (if 202 ≤ j ∧ j < 6002 then g (j + 200) else if 6002 ≤ j ∧ j < 6202 then g (j - 6002) else g j)
  else if j = 201 then g 201 + 1 else if 202 + 200 * (g 201).toNat ≤ j ∧ j < 202 + 200 * (g 201).toNat + 200 then g (j - (202 + 200 * (g 201).toNat)) else g j
def aTake (g : zW) : zW := fun j => if j < 200 then g (202 + 200 * (g 201 - 1).toNat + j) else if j = 200 then g 200 + 1 else if j = 201 then g 201 - 1 else g j
section
variable {S : Nat} {σ : ZI} {Q : ZO → ZT → ZI → Prop} {x : Nat} {g : zW} {N : Int}
theorem t_pastAt {o p : Nat} (hS : zst S) (ho : o < 30) (h2 : σ S 2 = (o : Int)) (hp : p ≤ 30) : WM 50 [.inr (.inl (some S)), .inl ((p : Int))] (3565, x, zrho) σ Q = Q (.inl (some (.inr (.inl (some (S + 12 + 10 * ((o + p) % 30))))))) (3565, x, zrho) σ := by
  show Wp 50 0 [some (.inr (.inl (some S))), some (.inl ((p : Int))), none] [] _ σ Q = _
  have k3 := zs_k3 hS
  have k15 := zs_k15 hS
  have n11 := zs_n11 hS
  have r1 := zs_r1 hS
  obtain ⟨m, hm⟩ : ∃ m : Nat, (o + p) % 30 = m := ⟨_, rfl⟩
  have em : ((o : Int) + (p : Int)) % 30 = (m : Int) := by omega
  have hm30 : m < 30 := by omega
  have rp := zs_rp hS hm30
  have c1 : ((m : Int) < 0) = False := eq_false (by omega)
  have c2 : ((m : Int) < ((30 : Nat) : Int)) = True := eq_true (by omega)
  have tf := fun (Q : ZO → ZT → ZI → Prop) (σ : ZI) (θ : ZT) => t_floorMod (Q := Q) (σ := σ) (θ := θ) (a := (o : Int) + (p : Int)) (b := 30) (by omega) (by omega) (by omega) (by omega)
  simp (disch := first | assumption | exact p_c2i | exact p_c2r | exact p_c2n | omega | ((repeat (first | refine p_a1i.trans ?_ | refine p_a1r.trans ?_)); exact p_a10) | ((repeat (first | refine p_wI ?_ | refine p_wR ?_)); exact p_w0) | decide) only [reduceIte, Int.reduceLT, Int.reduceLE, Int.reduceEq, Int.reduceToNat, Int.reduceAdd, Int.reduceSub, Int.reduceMul, Int.reduceNeg, e50_0, e50_1, e50_4, e50_5, e50_6, e50_8, e50_11, e50_12, e50_13, e50_16, e50_17, e50_18, e50_21, e50_22, e50_25, e50_26, e50_29, e50_30, e50_31, e50_34, e50_35, p_al0, p_getI, p_il1, p_bin, p_push, p_cs2_0, p_cs2_1, p_cs2_2, p_cs2_3, p_cs2_4, zK_v, zK_0, WN_ncl, p_is2, p_c2n, p_c2i, p_c2r, p_il2, p_iflt, p_getR, p_alen, p_alenS, p_alen22, p_cge, p_aald14, p_aald15, p_goto, p_aret, WN_nx, WN_nrt, WN_ite, h2, tf, em, c1, c2, r1, n11, rp, Int.toNat_natCast]
  rw [hm]
theorem t_aheadOfLatest {o n : Nat} (hS : zst S) (ho : o < 30) (h2 : σ S 2 = (o : Int)) (h3 : σ S 3 = (n : Int)) (hn : n ≤ 30) : WM 51 [.inr (.inl (some S))] (3565, x, zrho) σ Q = Q (.inl (some (.inr (.inl (if 0 < n then some (S + 12 + 10 * ((o + (n - 1)) % 30)) else none))))) (3565, x, zrho) σ := by
  show Wp 51 0 [some (.inr (.inl (some S)))] [] _ σ Q = _
  have k3 := zs_k3 hS
  by_cases h : 0 < n
  · have c1 : (0 < (n : Int)) = True := eq_true (by omega)
    have e1 : (n : Int) - 1 = ((n - 1 : Nat) : Int) := by omega
    have tp := fun (Q : ZO → ZT → ZI → Prop) => t_pastAt (Q := Q) (x := x) (σ := σ) (p := n - 1) hS ho h2 (by omega)
    simp (disch := first | assumption | exact p_c2i | exact p_c2r | exact p_c2n | omega | ((repeat (first | refine p_a1i.trans ?_ | refine p_a1r.trans ?_)); exact p_a10) | ((repeat (first | refine p_wI ?_ | refine p_wR ?_)); exact p_w0) | decide) only [reduceIte, Int.reduceLT, Int.reduceLE, Int.reduceEq, Int.reduceToNat, Int.reduceAdd, Int.reduceSub, Int.reduceMul, Int.reduceNeg, e51_0, e51_1, e51_4, e51_7, e51_8, e51_9, e51_12, e51_13, e51_14, e51_17, e51_20, e51_21, p_al0, p_getI, p_ifle, p_push, p_bin, p_cv1_0, p_cv1_1, p_cv1_2, p_cv1_3, p_cv1_4, zK_v, zK_0, WN_ncl, p_goto, p_aret, WN_nx, WN_nrt, WN_ite, h3, c1, e1, tp]
    rw [if_pos h]
  · have c1 : (0 < (n : Int)) = False := eq_false (by omega)
    simp (disch := first | assumption | exact p_c2i | exact p_c2r | exact p_c2n | omega | ((repeat (first | refine p_a1i.trans ?_ | refine p_a1r.trans ?_)); exact p_a10) | ((repeat (first | refine p_wI ?_ | refine p_wR ?_)); exact p_w0) | decide) only [reduceIte, Int.reduceLT, Int.reduceLE, Int.reduceEq, Int.reduceToNat, Int.reduceAdd, Int.reduceSub, Int.reduceMul, Int.reduceNeg, e51_0, e51_1, e51_4, e51_7, e51_8, e51_9, e51_12, e51_13, e51_14, e51_17, e51_20, e51_21, p_al0, p_getI, p_ifle, p_push, p_bin, p_cv1_0, p_cv1_1, p_cv1_2, p_cv1_3, p_cv1_4, zK_v, zK_0, WN_ncl, p_goto, p_aret, WN_nx, WN_nrt, WN_ite, h3, c1]
    rw [if_neg h]
theorem zSr.lw (h : zSr σ S g) : zLr σ (S + 1) g := by
  obtain ⟨o, ho, h1, h2, h3, h4, h5⟩ := h
  exact h4
theorem zSr.s3 (h : zSr σ S g) : σ S 3 = g 201 := by
  obtain ⟨o, ho, h1, h2, h3, h4, h5⟩ := h
  exact h2
theorem zSr.s4 (h : zSr σ S g) : σ S 4 = g 200 := by
  obtain ⟨o, ho, h1, h2, h3, h4, h5⟩ := h
  exact h3
theorem zok.b (h : zok N g) : g 0 ≤ 4 ∧ g 4 ≤ 12 := ⟨h.1.2, h.2.2.2.2.1.2⟩
theorem t_forgetSteps (hS : zst S) (hR : zSr σ S g) (ok : zSok N g) (K : ∀ σ', zSr σ' S (wu g 201 0) → zfS σ σ' S → Q (.inl none) (3565, x, zrho) σ') : WM 54 [.inr (.inl (some S))] (3565, x, zrho) σ Q := by
  show Wp 54 0 [some (.inr (.inl (some S)))] [] _ σ Q
  have k3 := zs_k3 hS
  simp (disch := first | assumption | exact p_c2i | exact p_c2r | exact p_c2n | omega | ((repeat (first | refine p_a1i.trans ?_ | refine p_a1r.trans ?_)); exact p_a10) | ((repeat (first | refine p_wI ?_ | refine p_wR ?_)); exact p_w0) | decide) only [reduceIte, Int.reduceLT, Int.reduceLE, Int.reduceEq, Int.reduceToNat, Int.reduceAdd, Int.reduceSub, Int.reduceMul, Int.reduceNeg, e54_0, e54_1, e54_2, e54_5, p_al0, p_push, p_putI, p_vret, WN_nx, WN_nrt, WN_ite]
  obtain ⟨o, ho, h1, h2, h3, h4, h5⟩ := hR
  refine K _ ⟨o, ho, by rw [zup_j (by omega)]; exact h1, by rw [zup_s, wu_s], by rw [zup_j (by omega), wu_o (by omega)]; exact h3, (h4.frame (fun a _ _ => zup_f (by omega))).cg ok.2.2.1.b (fun j hj => wu_o (by omega)), fun k hk => ?_⟩ (fun a ha => zup_f (by omega))
  rw [wu_s] at hk
  omega
theorem l_storyCopy {O o : Nat} (hS : zst S) (hO : zst O) (hne : S ≠ O) (ho : o < 30) (o2 : σ O 2 = (o : Int)) (hP : ∀ k : Nat, (k : Int) < g 201 → zLr σ (O + 12 + 10 * ((o + k) % 30)) (zgl k g)) (ok : zSok N g) (K : ∀ σ', zSr σ' S g → zfS σ σ' S → Q (.inl none) (3565, x, zrho) σ') : ∀ (n i : Nat) (σ1 : ZI) (l3 : Option ZV), ((i + n : Nat) : Int) = g 201 → σ1 S 2 = 0 → σ1 S 3 = g 201 → σ1 S 4 = g 200 → zLr σ1 (S + 1) g → (∀ k, k < i → zLr σ1 (S + 12 + 10 * k) (zgl k g)) → zfS σ σ1 S → Wp 49 39 [some (.inr (.inl (some S))), some (.inr (.inl (some O))), some (.inl ((i : Int))), l3] [] (3565, x, zrho) σ1 Q := by
  have k3 := zs_k3 hS
  have k3o := zs_k3 hO
  have o30 := ok.1.2
  have hd := zst_dis hS hO hne
  intro n
  induction n with
  | zero =>
    intro i σ1 l3 hi h2 h3 h4 hl hp hf
    have hc : ((i : Int) < g 201) = False := eq_false (by omega)
    simp (disch := first | assumption | exact p_c2i | exact p_c2r | exact p_c2n | omega | ((repeat (first | refine p_a1i.trans ?_ | refine p_a1r.trans ?_)); exact p_a10) | ((repeat (first | refine p_wI ?_ | refine p_wR ?_)); exact p_w0) | decide) only [reduceIte, Int.reduceLT, Int.reduceLE, Int.reduceEq, Int.reduceToNat, Int.reduceAdd, Int.reduceSub, Int.reduceMul, Int.reduceNeg, e49_39, e49_40, e49_41, e49_44, e49_47, e49_48, e49_49, e49_52, e49_53, e49_54, e49_57, e49_58, e49_59, e49_60, e49_63, e49_66, e49_69, e49_72, p_il2, p_al0, p_getI, p_cge, p_cv1_0, p_cv1_1, p_cv1_2, p_cv1_3, p_cv1_4, zK_v, zK_0, WN_ncl, p_as3, p_c2n, p_c2i, p_c2r, p_al3, p_null0, p_null1, p_al1, p_ii2, p_goto, p_vret, WN_nx, WN_nrt, WN_ite, h3, hc]
    refine K _ ⟨0, by omega, h2, h3, h4, hl, fun k hk => ?_⟩ hf
    rw [show S + 12 + 10 * ((0 + k) % 30) = S + 12 + 10 * k by omega]
    exact hp k (by omega)
  | succ n ih =>
    intro i σ1 l3 hi h2 h3 h4 hl hp hf
    have hi0 : (i : Int) < g 201 := by omega
    have hc : ((i : Int) < g 201) = True := eq_true hi0
    have e1 : (i : Int) + 1 = ((i + 1 : Nat) : Int) := by omega
    have f2 : σ1 O 2 = (o : Int) := by rw [hf O (by omega)]; exact o2
    have t1 := fun (Q : ZO → ZT → ZI → Prop) => t_pastAt (Q := Q) (x := x) (σ := σ1) (o := 0) (p := i) hS (by omega) h2 (by omega)
    have t2 := fun (Q : ZO → ZT → ZI → Prop) => t_pastAt (Q := Q) (x := x) (σ := σ1) (o := o) (p := i) hO ho f2 (by omega)
    have ez : S + 12 + 10 * ((0 + i) % 30) = S + 12 + 10 * i := by omega
    obtain ⟨m, hm⟩ : ∃ m : Nat, (o + i) % 30 = m := ⟨_, rfl⟩
    have hPi := hP i hi0
    rw [hm] at t2 hPi
    have kp1 := zs_kp (m := i) hS (by omega)
    have kp2 := zs_kp (m := m) hO (by omega)
    rw [e49_39]
    simp (disch := first | assumption | exact p_c2i | exact p_c2r | exact p_c2n | omega | ((repeat (first | refine p_a1i.trans ?_ | refine p_a1r.trans ?_)); exact p_a10) | ((repeat (first | refine p_wI ?_ | refine p_wR ?_)); exact p_w0) | decide) only [reduceIte, Int.reduceLT, Int.reduceLE, Int.reduceEq, Int.reduceToNat, Int.reduceAdd, Int.reduceSub, Int.reduceMul, Int.reduceNeg, e49_40, e49_41, e49_44, e49_47, e49_48, e49_49, e49_52, e49_53, e49_54, e49_57, e49_58, e49_59, e49_60, e49_63, p_il2, p_al0, p_getI, p_cge, p_cv1_0, p_cv1_1, p_cv1_2, p_cv1_3, p_cv1_4, zK_v, zK_0, WN_ncl, p_as3, p_c2n, p_c2i, p_c2r, p_al3, p_null0, p_null1, p_al1, WN_nx, WN_nrt, WN_ite, h3, hc, t1, t2, ez]
    refine t_copyLawn (zs_kp hS (by omega)) (zs_kp hO (by omega)) (by omega) (fun σ2 hc2 hf2 => ?_)
    rw [zK_0]
    simp (disch := first | assumption | exact p_c2i | exact p_c2r | exact p_c2n | omega | ((repeat (first | refine p_a1i.trans ?_ | refine p_a1r.trans ?_)); exact p_a10) | ((repeat (first | refine p_wI ?_ | refine p_wR ?_)); exact p_w0) | decide) only [reduceIte, Int.reduceLT, Int.reduceLE, Int.reduceEq, Int.reduceToNat, Int.reduceAdd, Int.reduceSub, Int.reduceMul, Int.reduceNeg, e49_66, e49_69, p_ii2, p_goto, WN_nx, WN_nrt, WN_ite, e1]
    have okp := (ok.2.2.2 i hi0).1
    have hPi1 : zLr σ1 (O + 12 + 10 * m) (zgl i g) := hPi.frame (fun a _ _ => hf a (by omega))
    have eS : σ2 S = σ1 S := hf2 S (by omega)
    refine ih (i + 1) σ2 _ (by omega) (by rw [eS]; exact h2) (by rw [eS]; exact h3) (by rw [eS]; exact h4) (hl.frame (fun a _ _ => hf2 a (by omega))) (fun k hk => ?_) (fun a ha => ?_)
    · by_cases e : k = i
      · subst e
        exact hc2 _ okp.b.1 okp.b.2 hPi1
      · exact (hp k (by omega)).frame (fun a _ _ => hf2 a (by omega))
    · rw [hf2 a (by omega)]
      exact hf a ha
theorem t_storyCopy {O : Nat} (hS : zst S) (hO : zst O) (hne : S ≠ O) (hR : zSr σ O g) (ok : zSok N g) (K : ∀ σ', zSr σ' S g → zfS σ σ' S → Q (.inl none) (3565, x, zrho) σ') : WM 49 [.inr (.inl (some S)), .inr (.inl (some O))] (3565, x, zrho) σ Q := by
  show Wp 49 0 [some (.inr (.inl (some S))), some (.inr (.inl (some O))), none, none] [] _ σ Q
  have k3 := zs_k3 hS
  have k3o := zs_k3 hO
  have hd := zst_dis hS hO hne
  have r0 := zs_r0 hS
  have r0o := zs_r0 hO
  have k2 := zs_k2 hS
  have k2o := zs_k2 hO
  obtain ⟨o, ho, h1, h2, h3, h4, h5⟩ := hR
  simp (disch := first | assumption | exact p_c2i | exact p_c2r | exact p_c2n | omega | ((repeat (first | refine p_a1i.trans ?_ | refine p_a1r.trans ?_)); exact p_a10) | ((repeat (first | refine p_wI ?_ | refine p_wR ?_)); exact p_w0) | decide) only [reduceIte, Int.reduceLT, Int.reduceLE, Int.reduceEq, Int.reduceToNat, Int.reduceAdd, Int.reduceSub, Int.reduceMul, Int.reduceNeg, e49_0, e49_1, e49_4, e49_5, e49_6, e49_9, e49_10, e49_13, p_al1, p_nn0, p_nn1, p_vret, p_al0, p_getR, p_cv1_0, p_cv1_1, p_cv1_2, p_cv1_3, p_cv1_4, zK_v, zK_0, WN_ncl, WN_nx, WN_nrt, WN_ite, r0, r0o]
  refine t_copyLawn (zs_k2 hS) (zs_k2 hO) (by omega) (fun σ2 hc2 hf2 => ?_)
  rw [zK_0]
  have o3 : zup σ2 S 2 0 O 3 = g 201 := by rw [zup_o (by omega), hf2 O (by omega)]; exact h2
  have o4 : zup (zup σ2 S 2 0) S 3 (g 201) O 4 = g 200 := by rw [zup_o (by omega), zup_o (by omega), hf2 O (by omega)]; exact h3
  simp (disch := first | assumption | exact p_c2i | exact p_c2r | exact p_c2n | omega | ((repeat (first | refine p_a1i.trans ?_ | refine p_a1r.trans ?_)); exact p_a10) | ((repeat (first | refine p_wI ?_ | refine p_wR ?_)); exact p_w0) | decide) only [reduceIte, Int.reduceLT, Int.reduceLE, Int.reduceEq, Int.reduceToNat, Int.reduceAdd, Int.reduceSub, Int.reduceMul, Int.reduceNeg, e49_16, e49_17, e49_18, e49_21, e49_22, e49_23, e49_26, e49_29, e49_30, e49_31, e49_34, e49_37, e49_38, p_al0, p_push, p_putI, p_al1, p_getI, p_is2, p_c2n, p_c2i, p_c2r, WN_nx, WN_nrt, WN_ite, o3, o4]
  have hF : zfS σ (zup (zup (zup σ2 S 2 0) S 3 (g 201)) S 4 (g 200)) S := fun a ha => by
    rw [zup_f (by omega), zup_f (by omega), zup_f (by omega)]
    exact hf2 a (by omega)
  refine l_storyCopy hS hO hne ho h1 h5 ok K (g 201).toNat 0 _ none (by have := ok.1; omega) ?_ ?_ ?_ ?_ (fun k hk => absurd hk (Nat.not_lt_zero _)) hF
  · rw [zup_j (by omega), zup_j (by omega), zup_s]
  · rw [zup_j (by omega), zup_s]
  · rw [zup_s]
  · refine (hc2 g ok.2.2.1.b.1 ok.2.2.1.b.2 h4).frame (fun a _ _ => ?_)
    rw [zup_f (by omega), zup_f (by omega), zup_f (by omega)]
theorem t_keepLawn (hS : zst S) (hR : zSr σ S g) (ok : zSok N g) (K : ∀ σ', zSr σ' S (aKeep g) → zfS σ σ' S → Q (.inl none) (3565, x, zrho) σ') : WM 52 [.inr (.inl (some S))] (3565, x, zrho) σ Q := by
  show Wp 52 0 [some (.inr (.inl (some S))), none] [] _ σ Q
  have k3 := zs_k3 hS
  have r0 := zs_r0 hS
  obtain ⟨o, ho, h1, h2, h3, h4, h5⟩ := hR
  have o1 := ok.1
  have b1 := ok.2.2.1.b
  obtain ⟨n, hn⟩ : ∃ n : Nat, g 201 = (n : Int) := ⟨(g 201).toNat, by omega⟩
  by_cases h30 : g 201 = 30
  · have c1 : ((30 : Int) < 30) = False := eq_false (by omega)
    obtain ⟨m, hm⟩ : ∃ m : Nat, (o + 1) % 30 = m := ⟨_, rfl⟩
    have em : ((o : Int) + 1) % 30 = (m : Int) := by omega
    have tf := fun (Q : ZO → ZT → ZI → Prop) (σ : ZI) (θ : ZT) => t_floorMod (Q := Q) (σ := σ) (θ := θ) (a := (o : Int) + 1) (b := 30) (by omega) (by omega) (by omega) (by omega)
    have hs : (m + 29) % 30 = o := by omega
    rw [h30] at h2
    have u3 : zup σ S 2 (m : Int) S 3 = 30 := by rw [zup_j (by omega)]; exact h2
    have tp := fun (Q : ZO → ZT → ZI → Prop) => t_pastAt (Q := Q) (x := x) (σ := zup (zup σ S 2 (m : Int)) S 3 29) (o := m) (p := 29) hS (by omega) (by rw [zup_j (by omega), zup_s]) (by omega)
    rw [hs] at tp
    rw [show ((29 : Nat) : Int) = 29 from rfl] at tp
    have kp1 := zs_kp (m := o) hS ho
    have k2 := zs_k2 hS
    simp (disch := first | assumption | exact p_c2i | exact p_c2r | exact p_c2n | omega | ((repeat (first | refine p_a1i.trans ?_ | refine p_a1r.trans ?_)); exact p_a10) | ((repeat (first | refine p_wI ?_ | refine p_wR ?_)); exact p_w0) | decide) only [reduceIte, Int.reduceLT, Int.reduceLE, Int.reduceEq, Int.reduceToNat, Int.reduceAdd, Int.reduceSub, Int.reduceMul, Int.reduceNeg, e52_0, e52_1, e52_4, e52_6, e52_9, e52_10, e52_11, e52_14, e52_15, e52_16, e52_18, e52_21, e52_24, e52_25, e52_26, e52_29, e52_30, e52_31, e52_34, e52_35, e52_36, e52_39, e52_42, e52_43, e52_44, e52_47, e52_48, e52_49, e52_52, p_al0, p_getI, p_push, p_clt, p_bin, p_cs2_0, p_cs2_1, p_cs2_2, p_cs2_3, p_cs2_4, zK_v, zK_0, WN_ncl, p_putI, p_dupi, p_dupr, p_cv1_0, p_cv1_1, p_cv1_2, p_cv1_3, p_cv1_4, p_as1, p_c2n, p_c2i, p_c2r, p_al1, p_null0, p_null1, p_getR, WN_nx, WN_nrt, WN_ite, h1, h2, em, tf, u3, zup_s, tp, r0]
    refine t_copyLawn (zs_kp hS ho) (zs_k2 hS) (by omega) (fun σ2 hc2 hf2 => ?_)
    rw [zK_0]
    have eS : σ2 S = zup (zup σ S 2 (m : Int)) S 3 29 S := hf2 S (by omega)
    have e3 : σ2 S 3 = 29 := by rw [eS, zup_s]
    simp (disch := first | assumption | exact p_c2i | exact p_c2r | exact p_c2n | omega | ((repeat (first | refine p_a1i.trans ?_ | refine p_a1r.trans ?_)); exact p_a10) | ((repeat (first | refine p_wI ?_ | refine p_wR ?_)); exact p_w0) | decide) only [reduceIte, Int.reduceLT, Int.reduceLE, Int.reduceEq, Int.reduceToNat, Int.reduceAdd, Int.reduceSub, Int.reduceMul, Int.reduceNeg, e52_55, e52_56, e52_57, e52_60, e52_61, e52_62, e52_65, p_al0, p_dupi, p_dupr, p_getI, p_push, p_bin, p_putI, p_vret, WN_nx, WN_nrt, WN_ite, e3]
    have fr : ∀ a, a ≠ S → (a < S + 12 + 10 * o ∨ S + 12 + 10 * o + 10 ≤ a) → zup σ2 S 3 30 a = σ a := fun a h1 h2 => by rw [zup_f h1, hf2 a h2, zup_f h1, zup_f h1]
    have kk : ∀ j, aKeep g j = if 202 ≤ j ∧ j < 6002 then g (j + 200) else if 6002 ≤ j ∧ j < 6202 then g (j - 6002) else g j := fun j => by unfold aKeep; rw [if_pos h30]
    have k1 : aKeep g 201 = 30 := by rw [kk, if_neg (by omega), if_neg (by omega)]; exact h30
    have k0 : zeq 200 (aKeep g) g := fun j hj => by rw [kk, if_neg (by omega), if_neg (by omega)]
    refine K _ ⟨m, by omega, by rw [zup_j (by omega), eS, zup_j (by omega), zup_s], by rw [zup_s, k1], by rw [zup_j (by omega), eS, zup_j (by omega), zup_j (by omega), kk, if_neg (by omega), if_neg (by omega)]; exact h3, ?_, fun k hk => ?_⟩ (fun a ha => fr a (by omega) (by omega))
    · exact (h4.frame (fun a h1 h2 => fr a (by omega) (by omega))).cg b1 k0
    · rw [k1] at hk
      by_cases e : k = 29
      · subst e
        rw [hs]
        have : zLr σ2 (S + 12 + 10 * o) g := hc2 g b1.1 b1.2 (h4.frame (fun a _ _ => by rw [zup_f (by omega), zup_f (by omega)]))
        refine (this.frame (fun a _ _ => zup_f (by omega))).cg b1 (fun j hj => ?_)
        unfold zgl
        rw [kk, if_neg (by omega), if_pos (by omega)]
        exact congrArg g (show 202 + 200 * 29 + j - 6002 = j by omega)
      · have hz := h5 (k + 1) (by omega)
        rw [show (m + k) % 30 = (o + (k + 1)) % 30 by omega]
        have okk := (ok.2.2.2 (k + 1) (by omega)).1.b
        have hno : (o + (k + 1)) % 30 ≠ o := by omega
        have hlt : (o + (k + 1)) % 30 < 30 := by omega
        generalize (o + (k + 1)) % 30 = q at hz hno hlt ⊢
        refine (hz.frame (fun a _ _ => fr a (by omega) (by omega))).cg okk (fun j hj => ?_)
        unfold zgl
        rw [kk, if_pos (by omega)]
        congr 1
        omega
  · have c1 : (g 201 < 30) = True := eq_true (by omega)
    have hn30 : n < 30 := by omega
    have h2n : σ S 3 = (n : Int) := h2.trans hn
    obtain ⟨m, hm⟩ : ∃ m : Nat, (o + n) % 30 = m := ⟨_, rfl⟩
    have hm30 : m < 30 := by omega
    have c1 : ((n : Int) < 30) = True := eq_true (by omega)
    have tp := fun (Q : ZO → ZT → ZI → Prop) => t_pastAt (Q := Q) (x := x) (σ := σ) (o := o) (p := n) hS ho h1 (by omega)
    rw [hm] at tp
    have kp1 := zs_kp (m := m) hS hm30
    have k2 := zs_k2 hS
    simp (disch := first | assumption | exact p_c2i | exact p_c2r | exact p_c2n | omega | ((repeat (first | refine p_a1i.trans ?_ | refine p_a1r.trans ?_)); exact p_a10) | ((repeat (first | refine p_wI ?_ | refine p_wR ?_)); exact p_w0) | decide) only [reduceIte, Int.reduceLT, Int.reduceLE, Int.reduceEq, Int.reduceToNat, Int.reduceAdd, Int.reduceSub, Int.reduceMul, Int.reduceNeg, e52_0, e52_1, e52_4, e52_6, e52_9, e52_10, e52_11, e52_14, e52_15, e52_16, e52_18, e52_21, e52_24, e52_25, e52_26, e52_29, e52_30, e52_31, e52_34, e52_35, e52_36, e52_39, e52_42, e52_43, e52_44, e52_47, e52_48, e52_49, e52_52, p_al0, p_getI, p_push, p_clt, p_bin, p_cs2_0, p_cs2_1, p_cs2_2, p_cs2_3, p_cs2_4, zK_v, zK_0, WN_ncl, p_putI, p_dupi, p_dupr, p_cv1_0, p_cv1_1, p_cv1_2, p_cv1_3, p_cv1_4, p_as1, p_c2n, p_c2i, p_c2r, p_al1, p_null0, p_null1, p_getR, WN_nx, WN_nrt, WN_ite, h1, h2n, c1, tp, r0]
    refine t_copyLawn kp1 k2 (by omega) (fun σ2 hc2 hf2 => ?_)
    rw [zK_0]
    have eS : σ2 S = σ S := hf2 S (by omega)
    have e3 : σ2 S 3 = (n : Int) := by rw [eS]; exact h2n
    simp (disch := first | assumption | exact p_c2i | exact p_c2r | exact p_c2n | omega | ((repeat (first | refine p_a1i.trans ?_ | refine p_a1r.trans ?_)); exact p_a10) | ((repeat (first | refine p_wI ?_ | refine p_wR ?_)); exact p_w0) | decide) only [reduceIte, Int.reduceLT, Int.reduceLE, Int.reduceEq, Int.reduceToNat, Int.reduceAdd, Int.reduceSub, Int.reduceMul, Int.reduceNeg, e52_55, e52_56, e52_57, e52_60, e52_61, e52_62, e52_65, p_al0, p_dupi, p_dupr, p_getI, p_push, p_bin, p_putI, p_vret, WN_nx, WN_nrt, WN_ite, e3]
    have fr : ∀ a, a ≠ S → (a < S + 12 + 10 * m ∨ S + 12 + 10 * m + 10 ≤ a) → zup σ2 S 3 ((n : Int) + 1) a = σ a := fun a h1 h2 => by rw [zup_f h1, hf2 a h2]
    have kk : ∀ j, aKeep g j = if j = 201 then (n : Int) + 1 else if 202 + 200 * n ≤ j ∧ j < 202 + 200 * n + 200 then g (j - (202 + 200 * n)) else g j := fun j => by unfold aKeep; rw [if_neg h30, hn, Int.toNat_natCast]
    have k1 : aKeep g 201 = (n : Int) + 1 := by rw [kk, if_pos rfl]
    have k0 : zeq 200 (aKeep g) g := fun j hj => by rw [kk, if_neg (by omega), if_neg (by omega)]
    refine K _ ⟨o, ho, by rw [zup_j (by omega), eS]; exact h1, by rw [zup_s, k1], by rw [zup_j (by omega), eS, kk, if_neg (by omega), if_neg (by omega)]; exact h3, ?_, fun k hk => ?_⟩ (fun a ha => fr a (by omega) (by omega))
    · exact (h4.frame (fun a h1 h2 => fr a (by omega) (by omega))).cg b1 k0
    · rw [k1] at hk
      by_cases e : k = n
      · subst e
        rw [hm]
        have : zLr σ2 (S + 12 + 10 * m) g := hc2 g b1.1 b1.2 h4
        refine (this.frame (fun a _ _ => zup_f (by omega))).cg b1 (fun j hj => ?_)
        unfold zgl
        rw [kk, if_neg (by omega), if_pos (by omega)]
        congr 1
        omega
      · have hz := h5 k (by omega)
        have okk := (ok.2.2.2 k (by omega)).1.b
        have hno : (o + k) % 30 ≠ m := by omega
        have hlt : (o + k) % 30 < 30 := by omega
        generalize (o + k) % 30 = q at hz hno hlt ⊢
        have hkn : k < n := by omega
        refine (hz.frame (fun a _ _ => fr a (by omega) (by omega))).cg okk (fun j hj => ?_)
        have n1 : ¬ 202 + 200 * k + j = 201 := by omega
        have n2 : ¬ (202 + 200 * n ≤ 202 + 200 * k + j ∧ 202 + 200 * k + j < 202 + 200 * n + 200) := by omega
        exact (kk (202 + 200 * k + j)).trans ((if_neg n1).trans (if_neg n2))
theorem t_takeStepBack (hS : zst S) (hR : zSr σ S g) (ok : zSok N g) (h0 : 0 < g 201) (hN : N ≤ 100000000) (K : ∀ σ', zSr σ' S (aTake g) → zfS σ σ' S → Q (.inl (some (.inl (g 201 - 1)))) (3565, x, zrho) σ') : WM 53 [.inr (.inl (some S))] (3565, x, zrho) σ Q := by
  show Wp 53 0 [some (.inr (.inl (some S))), none] [] _ σ Q
  have k3 := zs_k3 hS
  have r0 := zs_r0 hS
  have k2 := zs_k2 hS
  obtain ⟨o, ho, h1, h2, h3, h4, h5⟩ := hR
  have o1 := ok.1
  have o2 := ok.2.1
  have b1 := ok.2.2.1.b
  obtain ⟨n, hn⟩ : ∃ n : Nat, g 201 = (n : Int) := ⟨(g 201).toNat, by omega⟩
  have h2n : σ S 3 = (n : Int) := h2.trans hn
  have hn0 : 0 < n := by omega
  have ta := fun (Q : ZO → ZT → ZI → Prop) => t_aheadOfLatest (Q := Q) (x := x) (σ := σ) hS ho h1 h2n (by omega)
  obtain ⟨m, hm⟩ : ∃ m : Nat, (o + (n - 1)) % 30 = m := ⟨_, rfl⟩
  have hm30 : m < 30 := by omega
  rw [if_pos hn0, hm] at ta
  have kp1 := zs_kp (m := m) hS hm30
  simp (disch := first | assumption | exact p_c2i | exact p_c2r | exact p_c2n | omega | ((repeat (first | refine p_a1i.trans ?_ | refine p_a1r.trans ?_)); exact p_a10) | ((repeat (first | refine p_wI ?_ | refine p_wR ?_)); exact p_w0) | decide) only [reduceIte, Int.reduceLT, Int.reduceLE, Int.reduceEq, Int.reduceToNat, Int.reduceAdd, Int.reduceSub, Int.reduceMul, Int.reduceNeg, e53_0, e53_1, e53_4, e53_5, e53_6, e53_9, e53_10, e53_13, e53_14, p_al0, p_cv0_0, p_cv0_1, p_cv0_2, p_cv0_3, p_cv0_4, zK_v, zK_0, WN_ncl, p_as1, p_c2n, p_c2i, p_c2r, p_al1, p_null0, p_null1, p_getR, p_cv1_0, p_cv1_1, p_cv1_2, p_cv1_3, p_cv1_4, WN_nx, WN_nrt, WN_ite, ta, r0]
  refine t_copyLawn k2 kp1 (by omega) (fun σ2 hc2 hf2 => ?_)
  rw [zK_0]
  have eS : σ2 S = σ S := hf2 S (by omega)
  have e3 : σ2 S 3 = (n : Int) := by rw [eS]; exact h2n
  have e4 : zup σ2 S 3 ((n : Int) - 1) S 4 = g 200 := by rw [zup_j (by omega), eS]; exact h3
  have e5 : zup (zup σ2 S 3 ((n : Int) - 1)) S 4 (g 200 + 1) S 3 = (n : Int) - 1 := by rw [zup_j (by omega), zup_s]
  simp (disch := first | assumption | exact p_c2i | exact p_c2r | exact p_c2n | omega | ((repeat (first | refine p_a1i.trans ?_ | refine p_a1r.trans ?_)); exact p_a10) | ((repeat (first | refine p_wI ?_ | refine p_wR ?_)); exact p_w0) | decide) only [reduceIte, Int.reduceLT, Int.reduceLE, Int.reduceEq, Int.reduceToNat, Int.reduceAdd, Int.reduceSub, Int.reduceMul, Int.reduceNeg, e53_17, e53_18, e53_19, e53_22, e53_23, e53_24, e53_27, e53_28, e53_29, e53_32, e53_33, e53_34, e53_37, e53_38, e53_41, p_al0, p_dupi, p_dupr, p_getI, p_push, p_bin, p_putI, p_ret0, WN_nx, WN_nrt, WN_ite, e3, e4, e5]
  have fr : ∀ a, a ≠ S → (a < S + 1 ∨ S + 11 ≤ a) → zup (zup σ2 S 3 ((n : Int) - 1)) S 4 (g 200 + 1) a = σ a := fun a h1 h2 => by rw [zup_f h1, zup_f h1, hf2 a (by omega)]
  rw [hn] at K
  have kk : ∀ j, aTake g j = if j < 200 then g (202 + 200 * (n - 1) + j) else if j = 200 then g 200 + 1 else if j = 201 then (n : Int) - 1 else g j := fun j => by unfold aTake; rw [hn, show ((n : Int) - 1).toNat = n - 1 by omega]
  refine K _ ⟨o, ho, by rw [zup_j (by omega), zup_j (by omega), eS]; exact h1, by rw [zup_j (by omega), zup_s, kk, if_neg (by omega), if_neg (by omega), if_pos rfl], by rw [zup_s, kk, if_neg (by omega), if_pos rfl], ?_, fun k hk => ?_⟩ (fun a ha => fr a (by omega) (by omega))
  · have hz := h5 (n - 1) (by omega)
    rw [hm] at hz
    have okk := (ok.2.2.2 (n - 1) (by omega)).1.b
    have : zLr σ2 (S + 1) (zgl (n - 1) g) := hc2 _ okk.1 okk.2 hz
    refine (this.frame (fun a _ _ => by rw [zup_f (by omega), zup_f (by omega)])).cg okk (fun j hj => ?_)
    rw [kk, if_pos hj]
    rfl
  · have k1 : aTake g 201 = (n : Int) - 1 := by rw [kk, if_neg (by omega), if_neg (by omega), if_pos rfl]
    rw [k1] at hk
    have okk := (ok.2.2.2 k (by omega)).1.b
    refine ((h5 k (by omega)).frame (fun a _ _ => fr a (by omega) (by omega))).cg okk (fun j hj => ?_)
    unfold zgl
    rw [kk, if_neg (by omega), if_neg (by omega), if_neg (by omega)]
end
