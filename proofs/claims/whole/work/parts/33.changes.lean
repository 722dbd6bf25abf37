/-! ROWS IN ORDER; THE CHANGES KEPT -/
theorem aTrail_hi {w : zW} {c : Int} {j : Nat} (h : 200 ≤ j) : aTrail c w j = w j := by
  unfold aTrail
  rw [if_neg (by omega), if_neg (by omega), if_neg (by omega)]
theorem aPre_hi {w : zW} {i j : Nat} (hc : 0 ≤ w (172 + 4 * i) ∧ w (172 + 4 * i) < 81) (hi : i < 4) (h : 200 ≤ j) : aPre i w j = w j := by
  unfold aPre
  rw [aTrail_hi h]
  unfold aPaint aFace
  rw [wu_o (by omega), wu_o (by omega), wu_o (by omega)]
theorem aMove_hi {w : zW} {i j : Nat} (hc : 0 ≤ w (172 + 4 * i) ∧ w (172 + 4 * i) < 81) (hi : i < 4) (h : 200 ≤ j) : aMove i w j = w j := by
  have hp := aPre_hi hc hi h
  unfold aMove
  split
  · split
    · unfold aGo aMeet
      rw [wu_o (by omega), wu_o (by omega), wu_o (by omega), wu_o (by omega)]
      exact hp
    · split
      · unfold aBk aMeet
        rw [if_neg (by omega), wu_o (by omega), wu_o (by omega)]
        exact hp
      · unfold aMeet
        rw [wu_o (by omega), wu_o (by omega)]
        exact hp
  · unfold aGo
    rw [wu_o (by omega), wu_o (by omega)]
    exact hp
theorem aMvN_hi {w : zW} {N : Int} {j : Nat} (ok : zok N w) (h : 200 ≤ j) : ∀ n : Nat, (n : Int) ≤ w 0 → aMvN w n j = w j := by
  have o0 := ok.1
  intro n
  induction n with
  | zero => intro _; rfl
  | succ n ih =>
    intro hn
    obtain ⟨h1, h2⟩ := aMvN_ok ok n (by omega)
    have h20 := h2 0 (by omega)
    have o := h1.2.2.2.2.2.2.2.2.2.1 n (by omega)
    rw [aMvN_s, aMove_hi o.1 (by omega) h]
    exact ih (by omega)
theorem aStep_hi {w : zW} {N : Int} {j : Nat} (ok : zok N w) (h : 200 ≤ j) : aStep w j = w j := by
  have o0 := ok.1
  unfold aStep
  rw [wu_o (by omega)]
  exact aMvN_hi ok h _ (by omega)
theorem zSok_step {g : zW} {N : Int} (ok : zSok N g) : zSok (N + 13) (aStep g) := by
  obtain ⟨h1, h2, h3, h4⟩ := ok
  refine ⟨by rw [aStep_hi h3 (by omega)]; exact h1, by rw [aStep_hi h3 (by omega)]; omega, zok_step h3, fun k hk => ?_⟩
  rw [aStep_hi h3 (by omega)] at hk
  have e : zgl k (aStep g) = zgl k g := funext fun j => aStep_hi h3 (by omega)
  rw [e, aStep_k h3 (by omega)]
  exact ⟨zok_mono (h4 k hk).1 (by omega), (h4 k hk).2⟩
theorem zSok_fg {g : zW} {N : Int} (ok : zSok N g) : zSok N (wu g 201 0) := by
  obtain ⟨h1, h2, h3, h4⟩ := ok
  refine ⟨by rw [wu_s]; omega, by rw [wu_o (by omega)]; exact h2, zok_cg h3 (fun j hj => wu_o (by omega)), fun k hk => ?_⟩
  rw [wu_s] at hk
  omega
theorem zSok_keep {g : zW} {N : Int} (ok : zSok N g) : zSok N (aKeep g) := by
  obtain ⟨h1, h2, h3, h4⟩ := ok
  by_cases h30 : g 201 = 30
  · have kk : ∀ j, aKeep g j = if 202 ≤ j ∧ j < 6002 then g (j + 200) else if 6002 ≤ j ∧ j < 6202 then g (j - 6002) else g j := fun j => by unfold aKeep; rw [if_pos h30]
    have k0 : ∀ j, j < 202 → aKeep g j = g j := fun j hj => by rw [kk, if_neg (by omega), if_neg (by omega)]
    refine ⟨by rw [k0 _ (by omega)]; exact h1, by rw [k0 _ (by omega)]; exact h2, zok_cg h3 (fun j hj => k0 j (by omega)), fun k hk => ?_⟩
    rw [k0 _ (by omega)] at hk
    rw [k0 0 (by omega)]
    by_cases e : k = 29
    · subst e
      have ze : zeq 200 (zgl 29 (aKeep g)) g := fun j hj => by
        unfold zgl
        rw [kk, if_neg (by omega), if_pos (by omega)]
        exact congrArg g (show 202 + 200 * 29 + j - 6002 = j by omega)
      exact ⟨zok_cg h3 ze, ze 0 (by omega)⟩
    · have ze : zeq 200 (zgl k (aKeep g)) (zgl (k + 1) g) := fun j hj => by
        unfold zgl
        rw [kk, if_pos (by omega)]
        exact congrArg g (show 202 + 200 * k + j + 200 = 202 + 200 * (k + 1) + j by omega)
      have := h4 (k + 1) (by omega)
      exact ⟨zok_cg this.1 ze, (ze 0 (by omega)).trans this.2⟩
  · obtain ⟨n, hn⟩ : ∃ n : Nat, g 201 = (n : Int) := ⟨(g 201).toNat, by omega⟩
    have kk : ∀ j, aKeep g j = if j = 201 then (n : Int) + 1 else if 202 + 200 * n ≤ j ∧ j < 202 + 200 * n + 200 then g (j - (202 + 200 * n)) else g j := fun j => by unfold aKeep; rw [if_neg h30, hn, Int.toNat_natCast]
    have k0 : ∀ j, j < 201 → aKeep g j = g j := fun j hj => by rw [kk, if_neg (by omega), if_neg (by omega)]
    have k1 : aKeep g 201 = (n : Int) + 1 := by rw [kk, if_pos rfl]
    refine ⟨by rw [k1]; omega, by rw [k0 _ (by omega)]; exact h2, zok_cg h3 (fun j hj => k0 j (by omega)), fun k hk => ?_⟩
    rw [k1] at hk
    rw [k0 0 (by omega)]
    by_cases e : k = n
    · subst e
      have ze : zeq 200 (zgl k (aKeep g)) g := fun j hj => by
        unfold zgl
        rw [kk, if_neg (by omega), if_pos (by omega)]
        exact congrArg g (show 202 + 200 * k + j - (202 + 200 * k) = j by omega)
      exact ⟨zok_cg h3 ze, ze 0 (by omega)⟩
    · have hkn : k < n := by omega
      have ze : zeq 200 (zgl k (aKeep g)) (zgl k g) := fun j hj => by
        have n1 : ¬ 202 + 200 * k + j = 201 := by omega
        have n2 : ¬ (202 + 200 * n ≤ 202 + 200 * k + j ∧ 202 + 200 * k + j < 202 + 200 * n + 200) := by omega
        exact (kk (202 + 200 * k + j)).trans ((if_neg n1).trans (if_neg n2))
      have := h4 k (by omega)
      exact ⟨zok_cg this.1 ze, (ze 0 (by omega)).trans this.2⟩
theorem zSok_take {g : zW} {N : Int} (ok : zSok N g) (h0 : 0 < g 201) : zSok (N + 1) (aTake g) := by
  have ok' := ok
  obtain ⟨h1, h2, h3, h4⟩ := ok
  obtain ⟨n, hn⟩ : ∃ n : Nat, g 201 = (n : Int) := ⟨(g 201).toNat, by omega⟩
  have kk : ∀ j, aTake g j = if j < 200 then g (202 + 200 * (n - 1) + j) else if j = 200 then g 200 + 1 else if j = 201 then (n : Int) - 1 else g j := fun j => by unfold aTake; rw [hn, show ((n : Int) - 1).toNat = n - 1 by omega]
  have k1 : aTake g 201 = (n : Int) - 1 := by rw [kk, if_neg (by omega), if_neg (by omega), if_pos rfl]
  have k2 : aTake g 200 = g 200 + 1 := by rw [kk, if_neg (by omega), if_pos rfl]
  have hz := h4 (n - 1) (by omega)
  have ze : zeq 200 (aTake g) (zgl (n - 1) g) := fun j hj => by rw [kk, if_pos hj]; rfl
  refine ⟨by rw [k1]; omega, by rw [k2]; omega, zok_mono (zok_cg hz.1 ze) (by omega), fun k hk => ?_⟩
  rw [k1] at hk
  have hk1 := h4 k (by omega)
  have e : zgl k (aTake g) = zgl k g := funext fun j => by
    have n1 : ¬ 202 + 200 * k + j < 200 := by omega
    have n2 : ¬ 202 + 200 * k + j = 200 := by omega
    have n3 : ¬ 202 + 200 * k + j = 201 := by omega
    exact (kk (202 + 200 * k + j)).trans ((if_neg n1).trans ((if_neg n2).trans (if_neg n3)))
  rw [e]
  refine ⟨zok_mono hk1.1 (by omega), ?_⟩
  rw [ze 0 (by omega), hk1.2, hz.2]
theorem zSok_cg {g g' : zW} {N : Int} (ok : zSok N g) (e : zeq 6202 g' g) : zSok N g' := by
  obtain ⟨h1, h2, h3, h4⟩ := ok
  refine ⟨by rw [e _ (by omega)]; exact h1, by rw [e _ (by omega)]; exact h2, zok_cg h3 (fun j hj => e j (by omega)), fun k hk => ?_⟩
  rw [e _ (by omega)] at hk
  have hz := h4 k hk
  have ze : zeq 200 (zgl k g') (zgl k g) := fun j hj => e _ (by omega)
  refine ⟨zok_cg hz.1 ze, ?_⟩
  rw [ze 0 (by omega), e 0 (by omega)]
  exact hz.2
theorem zSr.cg {σ : ZI} {S : Nat} {g g' : zW} {N : Int} (h : zSr σ S g) (ok : zSok N g) (e : zeq 6202 g' g) : zSr σ S g' := by
  obtain ⟨o, ho, h1, h2, h3, h4, h5⟩ := h
  have o1 := ok.1
  refine ⟨o, ho, h1, by rw [e _ (by omega)]; exact h2, by rw [e _ (by omega)]; exact h3, h4.cg ok.2.2.1.b (fun j hj => e j (by omega)), fun k hk => ?_⟩
  rw [e _ (by omega)] at hk
  exact (h5 k hk).cg (ok.2.2.2 k hk).1.b (fun j hj => e _ (by omega))
/-- the changes kept: k-th the oldest but k -/
def zCr (σ : ZI) (kp : Nat → zW) (n : Nat) : Prop := ∃ o : Nat, o < 8 ∧ σ 1037 1 = (o : Int) ∧ σ 1037 2 = (n : Int) ∧ ∀ k, k < n → zSr σ (1039 + 312 * ((o + k) % 8)) (kp k)
theorem zCr.frame {σ σ' : ZI} {kp : Nat → zW} {n : Nat} (h : zCr σ kp n) (hf : ∀ a, 1037 ≤ a → a < 3535 → σ' a = σ a) : zCr σ' kp n := by
  obtain ⟨o, ho, h1, h2, h3⟩ := h
  refine ⟨o, ho, by rw [hf _ (by omega) (by omega)]; exact h1, by rw [hf _ (by omega) (by omega)]; exact h2, fun k hk => (h3 k hk).frame (fun a _ _ => hf a (by omega) (by omega))⟩
theorem zCr.cg {σ : ZI} {kp kp' : Nat → zW} {n : Nat} {N : Int} (h : zCr σ kp n) (ok : ∀ k, k < n → zSok N (kp k)) (e : ∀ k, k < n → zeq 6202 (kp' k) (kp k)) : zCr σ kp' n := by
  obtain ⟨o, ho, h1, h2, h3⟩ := h
  exact ⟨o, ho, h1, h2, fun k hk => (h3 k hk).cg (ok k hk) (e k hk)⟩
def aPushN (n : Nat) : Nat := if n = 8 then 8 else n + 1
def aPushK (kp : Nat → zW) (n : Nat) (g : zW) : Nat → zW := fun k => if n = 8 then (if k < 7 then kp (k + 1) else g) else if k = n then g else kp k
theorem zch_st {m : Nat} (h : m < 8) : zst (1039 + 312 * m) := Or.inr (Or.inr (Or.inr ⟨m, h, rfl⟩))
theorem zch_r {m : Nat} (h : m < 8) : zrho 1038 m = some (1039 + 312 * m) := by
  have : zkd 1038 = 14 := rfl
  unfold zrho
  rw [this, if_neg (by omega), if_neg (by omega), if_neg (by omega), if_pos rfl, if_pos h]
section
variable {σ : ZI} {Q : ZO → ZT → ZI → Prop} {x : Nat} {g : zW} {N : Int} {kp : Nat → zW}
theorem t_storyAt {o p : Nat} (ho : o < 8) (h2 : σ 1037 1 = (o : Int)) (hp : p ≤ 8) : WM 1 [.inr (.inl (some 1037)), .inl ((p : Int))] (3565, x, zrho) σ Q = Q (.inl (some (.inr (.inl (some (1039 + 312 * ((o + p) % 8))))))) (3565, x, zrho) σ := by
  show Wp 1 0 [some (.inr (.inl (some 1037))), some (.inl ((p : Int))), none] [] _ σ Q = _
  have k0 : zkd 1037 = 0 := rfl
  have k14 : zkd 1038 = 14 := rfl
  have n14 : zln 1038 = 8 := rfl
  have r0 : zrho 1037 0 = some 1038 := rfl
  obtain ⟨m, hm⟩ : ∃ m : Nat, (o + p) % 8 = m := ⟨_, rfl⟩
  have em : ((o : Int) + (p : Int)) % 8 = (m : Int) := by omega
  have hm8 : m < 8 := by omega
  have rp := zch_r hm8
  have c1 : ((m : Int) < 0) = False := eq_false (by omega)
  have c2 : ((m : Int) < ((8 : Nat) : Int)) = True := eq_true (by omega)
  have tf := fun (Q : ZO → ZT → ZI → Prop) (σ : ZI) (θ : ZT) => t_floorMod (Q := Q) (σ := σ) (θ := θ) (a := (o : Int) + (p : Int)) (b := 8) (by omega) (by omega) (by omega) (by omega)
  simp (disch := first | assumption | exact p_c2i | exact p_c2r | exact p_c2n | omega | ((repeat (first | refine p_a1i.trans ?_ | refine p_a1r.trans ?_)); exact p_a10) | ((repeat (first | refine p_wI ?_ | refine p_wR ?_)); exact p_w0) | decide) only [reduceIte, Int.reduceLT, Int.reduceLE, Int.reduceEq, Int.reduceToNat, Int.reduceAdd, Int.reduceSub, Int.reduceMul, Int.reduceNeg, e1_0, e1_1, e1_4, e1_5, e1_6, e1_8, e1_11, e1_12, e1_13, e1_16, e1_17, e1_18, e1_21, e1_22, e1_25, e1_26, e1_29, e1_30, e1_31, e1_34, e1_35, p_al0, p_getI, p_il1, p_bin, p_push, p_cs2_0, p_cs2_1, p_cs2_2, p_cs2_3, p_cs2_4, zK_v, zK_0, WN_ncl, p_is2, p_c2n, p_c2i, p_c2r, p_il2, p_iflt, p_getR, p_alen, p_alenS, p_alen22, p_cge, p_aald14, p_aald15, p_goto, p_aret, WN_nx, WN_nrt, WN_ite, h2, tf, em, c1, c2, r0, n14, rp, Int.toNat_natCast]
  rw [hm]
theorem t_push {S n : Nat} (hS : zst S) (hS2 : S + 312 ≤ 1037) (hR : zSr σ S g) (ok : zSok N g) (hC : zCr σ kp n) (hn : n ≤ 8) (K : ∀ σ', zCr σ' (aPushK kp n g) (aPushN n) → (∀ a, a < 1037 ∨ 3535 ≤ a → σ' a = σ a) → Q (.inl none) (3565, x, zrho) σ') : WM 2 [.inr (.inl (some 1037)), .inr (.inl (some S))] (3565, x, zrho) σ Q := by
  show Wp 2 0 [some (.inr (.inl (some 1037))), some (.inr (.inl (some S))), none] [] _ σ Q
  have k0 : zkd 1037 = 0 := rfl
  obtain ⟨o, ho, h1, h2, h3⟩ := hC
  by_cases h8 : n = 8
  · subst h8
    obtain ⟨m, hm⟩ : ∃ m : Nat, (o + 1) % 8 = m := ⟨_, rfl⟩
    have em : ((o : Int) + 1) % 8 = (m : Int) := by omega
    have tf := fun (Q : ZO → ZT → ZI → Prop) (σ : ZI) (θ : ZT) => t_floorMod (Q := Q) (σ := σ) (θ := θ) (a := (o : Int) + 1) (b := 8) (by omega) (by omega) (by omega) (by omega)
    have hs : (m + 7) % 8 = o := by omega
    rw [show ((8 : Nat) : Int) = 8 from rfl] at h2
    have u3 : zup σ 1037 1 (m : Int) 1037 2 = 8 := by rw [zup_j (by omega)]; exact h2
    have tp := fun (Q : ZO → ZT → ZI → Prop) => t_storyAt (Q := Q) (x := x) (σ := zup (zup σ 1037 1 (m : Int)) 1037 2 7) (o := m) (p := 7) (by omega) (by rw [zup_j (by omega), zup_s]) (by omega)
    rw [hs] at tp
    rw [show ((7 : Nat) : Int) = 7 from rfl] at tp
    have k3 := zs_k3 (zch_st ho)
    simp (disch := first | assumption | exact p_c2i | exact p_c2r | exact p_c2n | omega | ((repeat (first | refine p_a1i.trans ?_ | refine p_a1r.trans ?_)); exact p_a10) | ((repeat (first | refine p_wI ?_ | refine p_wR ?_)); exact p_w0) | decide) only [reduceIte, Int.reduceLT, Int.reduceLE, Int.reduceEq, Int.reduceToNat, Int.reduceAdd, Int.reduceSub, Int.reduceMul, Int.reduceNeg, e2_0, e2_1, e2_4, e2_6, e2_9, e2_10, e2_11, e2_14, e2_15, e2_16, e2_18, e2_21, e2_24, e2_25, e2_26, e2_29, e2_30, e2_31, e2_34, e2_35, e2_36, e2_39, e2_42, e2_43, e2_44, e2_47, e2_48, e2_49, p_al0, p_getI, p_push, p_clt, p_bin, p_cs2_0, p_cs2_1, p_cs2_2, p_cs2_3, p_cs2_4, zK_v, zK_0, WN_ncl, p_putI, p_dupi, p_dupr, p_cv1_0, p_cv1_1, p_cv1_2, p_cv1_3, p_cv1_4, p_as2, p_c2n, p_c2i, p_c2r, p_al2, p_null0, p_null1, p_al1, WN_nx, WN_nrt, WN_ite, h1, h2, em, tf, u3, zup_s, tp]
    have hR1 : zSr (zup (zup σ 1037 1 (m : Int)) 1037 2 7) S g := hR.frame (fun a _ _ => by rw [zup_f (by omega), zup_f (by omega)])
    refine t_storyCopy (zch_st ho) hS (by omega) hR1 ok (fun σ2 hc2 hf2 => ?_)
    rw [zK_0]
    have eS : σ2 1037 = zup (zup σ 1037 1 (m : Int)) 1037 2 7 1037 := hf2 1037 (by omega)
    have e3 : σ2 1037 2 = 7 := by rw [eS, zup_s]
    simp (disch := first | assumption | exact p_c2i | exact p_c2r | exact p_c2n | omega | ((repeat (first | refine p_a1i.trans ?_ | refine p_a1r.trans ?_)); exact p_a10) | ((repeat (first | refine p_wI ?_ | refine p_wR ?_)); exact p_w0) | decide) only [reduceIte, Int.reduceLT, Int.reduceLE, Int.reduceEq, Int.reduceToNat, Int.reduceAdd, Int.reduceSub, Int.reduceMul, Int.reduceNeg, e2_52, e2_53, e2_54, e2_57, e2_58, e2_59, e2_62, p_al0, p_dupi, p_dupr, p_getI, p_push, p_bin, p_putI, p_vret, WN_nx, WN_nrt, WN_ite, e3]
    have fr : ∀ a, a ≠ 1037 → (a < 1039 + 312 * o ∨ 1039 + 312 * o + 312 ≤ a) → zup σ2 1037 2 8 a = σ a := fun a h1 h2 => by rw [zup_f h1, hf2 a h2, zup_f h1, zup_f h1]
    refine K _ ⟨m, by omega, by rw [zup_j (by omega), eS, zup_j (by omega), zup_s], by rw [zup_s]; rfl, fun k hk => ?_⟩ (fun a ha => fr a (by omega) (by omega))
    have hk8 : k < 8 := hk
    unfold aPushK
    rw [if_pos rfl]
    by_cases e : k < 7
    · rw [if_pos e]
      have hz := h3 (k + 1) (by omega)
      rw [show (m + k) % 8 = (o + (k + 1)) % 8 by omega]
      have hno : (o + (k + 1)) % 8 ≠ o := by omega
      have hlt : (o + (k + 1)) % 8 < 8 := by omega
      generalize (o + (k + 1)) % 8 = q at hz hno hlt ⊢
      exact hz.frame (fun a _ _ => fr a (by omega) (by omega))
    · rw [if_neg e, show k = 7 by omega, hs]
      exact hc2.frame (fun a _ _ => zup_f (by omega))
  · obtain ⟨m, hm⟩ : ∃ m : Nat, (o + n) % 8 = m := ⟨_, rfl⟩
    have hm8 : m < 8 := by omega
    have c1 : ((n : Int) < 8) = True := eq_true (by omega)
    have tp := fun (Q : ZO → ZT → ZI → Prop) => t_storyAt (Q := Q) (x := x) (σ := σ) (o := o) (p := n) ho h1 (by omega)
    rw [hm] at tp
    have k3 := zs_k3 (zch_st hm8)
    simp (disch := first | assumption | exact p_c2i | exact p_c2r | exact p_c2n | omega | ((repeat (first | refine p_a1i.trans ?_ | refine p_a1r.trans ?_)); exact p_a10) | ((repeat (first | refine p_wI ?_ | refine p_wR ?_)); exact p_w0) | decide) only [reduceIte, Int.reduceLT, Int.reduceLE, Int.reduceEq, Int.reduceToNat, Int.reduceAdd, Int.reduceSub, Int.reduceMul, Int.reduceNeg, e2_0, e2_1, e2_4, e2_6, e2_9, e2_10, e2_11, e2_14, e2_15, e2_16, e2_18, e2_21, e2_24, e2_25, e2_26, e2_29, e2_30, e2_31, e2_34, e2_35, e2_36, e2_39, e2_42, e2_43, e2_44, e2_47, e2_48, e2_49, p_al0, p_getI, p_push, p_clt, p_bin, p_cs2_0, p_cs2_1, p_cs2_2, p_cs2_3, p_cs2_4, zK_v, zK_0, WN_ncl, p_putI, p_dupi, p_dupr, p_cv1_0, p_cv1_1, p_cv1_2, p_cv1_3, p_cv1_4, p_as2, p_c2n, p_c2i, p_c2r, p_al2, p_null0, p_null1, p_al1, WN_nx, WN_nrt, WN_ite, h1, h2, c1, tp]
    refine t_storyCopy (zch_st hm8) hS (by omega) hR ok (fun σ2 hc2 hf2 => ?_)
    rw [zK_0]
    have eS : σ2 1037 = σ 1037 := hf2 1037 (by omega)
    have e3 : σ2 1037 2 = (n : Int) := by rw [eS]; exact h2
    simp (disch := first | assumption | exact p_c2i | exact p_c2r | exact p_c2n | omega | ((repeat (first | refine p_a1i.trans ?_ | refine p_a1r.trans ?_)); exact p_a10) | ((repeat (first | refine p_wI ?_ | refine p_wR ?_)); exact p_w0) | decide) only [reduceIte, Int.reduceLT, Int.reduceLE, Int.reduceEq, Int.reduceToNat, Int.reduceAdd, Int.reduceSub, Int.reduceMul, Int.reduceNeg, e2_52, e2_53, e2_54, e2_57, e2_58, e2_59, e2_62, p_al0, p_dupi, p_dupr, p_getI, p_push, p_bin, p_putI, p_vret, WN_nx, WN_nrt, WN_ite, e3]
    have fr : ∀ a, a ≠ 1037 → (a < 1039 + 312 * m ∨ 1039 + 312 * m + 312 ≤ a) → zup σ2 1037 2 ((n : Int) + 1) a = σ a := fun a h1 h2 => by rw [zup_f h1, hf2 a h2]
    have en : aPushN n = n + 1 := by unfold aPushN; rw [if_neg h8]
    refine K _ ⟨o, ho, by rw [zup_j (by omega), eS]; exact h1, by rw [zup_s, en]; omega, fun k hk => ?_⟩ (fun a ha => fr a (by omega) (by omega))
    rw [en] at hk
    unfold aPushK
    rw [if_neg h8]
    by_cases e : k = n
    · rw [if_pos e, e, hm]
      exact hc2.frame (fun a _ _ => zup_f (by omega))
    · rw [if_neg e]
      have hz := h3 k (by omega)
      have hno : (o + k) % 8 ≠ m := by omega
      have hlt : (o + k) % 8 < 8 := by omega
      generalize (o + k) % 8 = q at hz hno hlt ⊢
      exact hz.frame (fun a _ _ => fr a (by omega) (by omega))
theorem t_popInto {S n : Nat} (hS : zst S) (hS2 : S + 312 ≤ 1037) (ok : zSok N (kp n)) (hC : zCr σ kp (n + 1)) (hn : n + 1 ≤ 8) (K : ∀ σ', zSr σ' S (kp n) → zCr σ' kp n → (∀ a, (a < S ∨ S + 312 ≤ a) → (a ≠ 1037) → σ' a = σ a) → Q (.inl (some (.inl (n : Int)))) (3565, x, zrho) σ') : WM 3 [.inr (.inl (some 1037)), .inr (.inl (some S))] (3565, x, zrho) σ Q := by
  show Wp 3 0 [some (.inr (.inl (some 1037))), some (.inr (.inl (some S)))] [] _ σ Q
  have k0 : zkd 1037 = 0 := rfl
  obtain ⟨o, ho, h1, h2, h3⟩ := hC
  obtain ⟨m, hm⟩ : ∃ m : Nat, (o + n) % 8 = m := ⟨_, rfl⟩
  have hm8 : m < 8 := by omega
  have c1 : (0 < ((n + 1 : Nat) : Int)) = True := eq_true (by omega)
  have e1 : ((n + 1 : Nat) : Int) - 1 = (n : Int) := by omega
  have tp := fun (Q : ZO → ZT → ZI → Prop) => t_storyAt (Q := Q) (x := x) (σ := zup σ 1037 2 (n : Int)) (o := o) (p := n) ho (by rw [zup_j (by omega)]; exact h1) (by omega)
  rw [hm] at tp
  have k3 := zs_k3 hS
  simp (disch := first | assumption | exact p_c2i | exact p_c2r | exact p_c2n | omega | ((repeat (first | refine p_a1i.trans ?_ | refine p_a1r.trans ?_)); exact p_a10) | ((repeat (first | refine p_wI ?_ | refine p_wR ?_)); exact p_w0) | decide) only [reduceIte, Int.reduceLT, Int.reduceLE, Int.reduceEq, Int.reduceToNat, Int.reduceAdd, Int.reduceSub, Int.reduceMul, Int.reduceNeg, e3_0, e3_1, e3_4, e3_7, e3_8, e3_11, e3_12, e3_13, e3_16, e3_17, e3_18, e3_21, e3_22, e3_23, e3_24, e3_27, e3_30, p_al0, p_getI, p_ifle, p_al1, p_null0, p_null1, p_dupi, p_dupr, p_push, p_bin, p_putI, p_cv1_0, p_cv1_1, p_cv1_2, p_cv1_3, p_cv1_4, zK_v, zK_0, WN_ncl, WN_nx, WN_nrt, WN_ite, h2, c1, e1, zup_s, tp]
  have hz := h3 n (by omega)
  rw [hm] at hz
  refine t_storyCopy hS (zch_st hm8) (by omega) (hz.frame (fun a _ _ => zup_f (by omega))) ok (fun σ2 hc2 hf2 => ?_)
  rw [zK_0]
  have eS : σ2 1037 = zup σ 1037 2 (n : Int) 1037 := hf2 1037 (by omega)
  have e3 : σ2 1037 2 = (n : Int) := by rw [eS, zup_s]
  simp (disch := first | assumption | exact p_c2i | exact p_c2r | exact p_c2n | omega | ((repeat (first | refine p_a1i.trans ?_ | refine p_a1r.trans ?_)); exact p_a10) | ((repeat (first | refine p_wI ?_ | refine p_wR ?_)); exact p_w0) | decide) only [reduceIte, Int.reduceLT, Int.reduceLE, Int.reduceEq, Int.reduceToNat, Int.reduceAdd, Int.reduceSub, Int.reduceMul, Int.reduceNeg, e3_33, e3_34, e3_37, p_al0, p_getI, p_ret0, WN_nx, WN_nrt, WN_ite, e3]
  refine K _ hc2 ⟨o, ho, by rw [eS, zup_j (by omega)]; exact h1, e3, fun k hk => ?_⟩ (fun a ha hb => by rw [hf2 a ha, zup_f hb])
  exact (h3 k (by omega)).frame (fun a _ _ => by rw [hf2 a (by omega), zup_f (by omega)])
theorem t_forgetCh : WM 4 [.inr (.inl (some 1037))] (3565, x, zrho) σ Q = Q (.inl none) (3565, x, zrho) (zup σ 1037 2 0) := by
  show Wp 4 0 [some (.inr (.inl (some 1037)))] [] _ σ Q = _
  have k0 : zkd 1037 = 0 := rfl
  simp (disch := first | assumption | exact p_c2i | exact p_c2r | exact p_c2n | omega | ((repeat (first | refine p_a1i.trans ?_ | refine p_a1r.trans ?_)); exact p_a10) | ((repeat (first | refine p_wI ?_ | refine p_wR ?_)); exact p_w0) | decide) only [reduceIte, Int.reduceLT, Int.reduceLE, Int.reduceEq, Int.reduceToNat, Int.reduceAdd, Int.reduceSub, Int.reduceMul, Int.reduceNeg, e4_0, e4_1, e4_2, e4_5, p_al0, p_push, p_putI, p_vret, WN_nx, WN_nrt, WN_ite]
end
