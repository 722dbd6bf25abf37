/-! THE MODEL: isText -/
/-- where the orders begin -/
def sO (ts : Nat → Int) (tl : Nat) : Nat → Nat
  | 0 => 0
  | j + 1 => (eO ts tl (sO ts tl j)).toNat + 1
/-- so many orders are read, and behind each stands a ';' -/
def zPre (ts : Nat → Int) (tl j : Nat) : Prop := ∀ i, i < j → 0 ≤ eO ts tl (sO ts tl i) ∧ eO ts tl (sO ts tl i) < (tl : Int) ∧ sA ts tl (eO ts tl (sO ts tl i)).toNat = 59
def zPar (ts : Nat → Int) (tl M : Nat) : Prop := ∃ m, M = m + 1 ∧ zPre ts tl m ∧ eO ts tl (sO ts tl m) = (tl : Int)
section
variable {τ : ZI} {θ : ZT} {Q : ZO → ZT → ZI → Prop} {x n j : Nat} {w : zW} {ts : Nat → Int} {tl : Nat} {r : Int} {f : Nat → Int}
theorem zPre_in : ∀ j, zPre ts tl j → 2 * j ≤ sO ts tl j ∧ sO ts tl j ≤ tl := by
  intro j
  induction j with
  | zero => intro _; exact ⟨Nat.le_refl 0, Nat.zero_le _⟩
  | succ j ih =>
    intro h
    have i1 := ih (fun i hi => h i (by omega))
    have i2 := h j (by omega)
    have i3 := eO_in (ts := ts) (tl := tl) (s := sO ts tl j)
    show 2 * (j + 1) ≤ (eO ts tl (sO ts tl j)).toNat + 1 ∧ (eO ts tl (sO ts tl j)).toNat + 1 ≤ tl
    omega
theorem sA_lt {i : Nat} : sA ts tl i = -1 ∨ i < tl := by
  unfold sA
  split
  · next h => exact Or.inr h
  · exact Or.inl rfl
theorem eO_le {s : Nat} (h : 0 ≤ eO ts tl s) : eO ts tl s ≤ (tl : Int) := by
  have hd : ∀ i, dA ts tl i < 0 ∨ i < tl := by
    intro i
    rcases sA_lt (ts := ts) (tl := tl) (i := i) with z | z
    · left; unfold dA; rw [z, if_neg (by omega)]; omega
    · exact Or.inr z
  have hh : ∀ i, hIx (sA ts tl i) < 0 ∨ i < tl := by
    intro i
    rcases sA_lt (ts := ts) (tl := tl) (i := i) with z | z
    · left; rw [z]; decide
    · exact Or.inr z
  have ht : ∀ i, tIx (sA ts tl i) < 0 ∨ i < tl := by
    intro i
    rcases sA_lt (ts := ts) (tl := tl) (i := i) with z | z
    · left; rw [z]; decide
    · exact Or.inr z
  have d1 := hd (s + 1)
  have d2 := hd (s + 2)
  have d4 := hd (s + 4)
  have a0 := sA_lt (ts := ts) (tl := tl) (i := s)
  have h3 := hh (s + 3)
  have t3 := ht (s + 3)
  revert h
  unfold eO
  repeat' (first | omega | split)
theorem fO_pre : ∀ (j m : Nat), zPre ts tl j → fO ts tl (m + j) 0 = fO ts tl m (sO ts tl j) := by
  intro j
  induction j with
  | zero => intro m _; rfl
  | succ j ih =>
    intro m h
    have i2 := h j (by omega)
    rw [show m + (j + 1) = (m + 1) + j by omega, ih (m + 1) (fun i hi => h i (by omega)), fO_s, if_neg (by omega), if_neg (by omega), if_neg (fun z => z i2.2.2)]
    rfl
theorem zDc_cg {s p : Nat} {f g : Nat → Int} (h : zDc ts tl s f p) (e : ∀ k, p ≤ k → k < p + 4 → g k = f k) : zDc ts tl s g p := by
  obtain ⟨h1, h2, h3, h4, h5⟩ := h
  unfold zDc
  rw [e p (by omega) (by omega), e (p + 1) (by omega) (by omega), e (p + 2) (by omega) (by omega), e (p + 3) (by omega) (by omega)]
  exact ⟨h1, h2, h3, h4, h5⟩
theorem ztk_20 {v : Int} : zup (zg (ztk τ r f) w) 3553 20 v = zg (ztk (zup τ 3553 20 v) r f) w := by
  rw [zg_c3]
  refine congrArg (fun z => zg z w) ?_
  funext a k
  show (if a = 3553 ∧ k = 20 then v else if a = 3553 ∧ k = 18 then r else if a = 3563 then f k else τ a k) = if a = 3553 ∧ k = 18 then r else if a = 3563 then f k else if a = 3553 ∧ k = 20 then v else τ a k
  by_cases h : a = 3553 ∧ k = 20
  · rw [if_pos h, if_neg (by omega), if_neg (by omega), if_pos h]
  · rw [if_neg h, if_neg h]
theorem l_isText (hs : zTt ts tl) (K0 : 0 ≤ fO ts tl 61 0 → ∀ τ', τ' 3553 18 = fO ts tl 61 0 → (∀ k, k ≠ 18 → k ≠ 20 → τ' 3553 k = τ 3553 k) → (∀ a, a ≠ 3553 → a ≠ 3563 → τ' a = τ a) → Q (.inl (some (.inl 0))) (3565, x, zrho) (zg τ' w)) (K1 : fO ts tl 61 0 = -1 → ∀ M, zPar ts tl M → M ≤ 31 → ∀ τ', τ' 3553 20 = (M : Int) → (∀ i, i < M → zDc ts tl (sO ts tl i) (τ' 3563) (4 * i)) → (∀ k, k ≠ 18 → k ≠ 20 → τ' 3553 k = τ 3553 k) → (∀ a, a ≠ 3553 → a ≠ 3563 → τ' a = τ a) → Q (.inl (some (.inl 1))) (3565, x, zrho) (zg τ' w)) : ∀ (n j : Nat) (f : Nat → Int) (τ1 : ZI), j + n = 61 → zPre ts tl j → τ1 3553 20 = (j : Int) → zTm τ1 ts tl → zTx τ1 → (∀ k, k ≠ 18 → k ≠ 20 → τ1 3553 k = τ 3553 k) → (∀ a, a ≠ 3553 → a ≠ 3563 → τ1 a = τ a) → (∀ i, i < j → zDc ts tl (sO ts tl i) f (4 * i)) → Wp 206 10 [some (.inr (.inl (some 3553)))] [] (3565, x, zrho) (zg (ztk τ1 (sO ts tl j : Int) f) w) Q := by
  have k := zm_k
  have h60 := hs.1
  intro n
  induction n with
  | zero =>
    intro j f τ1 hj hp _ _ _ _ _ _
    have := zPre_in j hp
    omega
  | succ n ih =>
    intro j f τ1 hj hp h20 hm hx f1 f2 hd
    have hb := zPre_in j hp
    have fo := (show fO ts tl 61 0 = fO ts tl (n + 1) (sO ts tl j) by rw [← fO_pre j (n + 1) hp, show n + 1 + j = 61 by omega]).trans fO_s
    obtain ⟨b1, b2, b3⟩ := eO_in (ts := ts) (tl := tl) (s := sO ts tl j)
    simp (disch := first | assumption | exact p_c2i | exact p_c2r | exact p_c2n | omega | ((repeat (first | refine p_a1i.trans ?_ | refine p_a1r.trans ?_)); exact p_a10) | ((repeat (first | refine p_wI ?_ | refine p_wR ?_)); exact p_w0) | decide) only [reduceIte, Int.reduceLT, Int.reduceLE, Int.reduceEq, Int.reduceToNat, Int.reduceAdd, Int.reduceSub, Int.reduceMul, Int.reduceNeg, e206_10, e206_11, p_al0, p_cv0_0, p_cv0_1, p_cv0_2, p_cv0_3, p_cv0_4, zK_v, zK_0, WN_ncl, WN_nx, WN_nrt, WN_ite]
    refine t_orderM hs hm hx (by omega) h20 (by omega) (fun c f' pf => ?_) (fun c f' pf dc => ?_)
    · rw [zK_v]
      simp (disch := first | assumption | exact p_c2i | exact p_c2r | exact p_c2n | omega | ((repeat (first | refine p_a1i.trans ?_ | refine p_a1r.trans ?_)); exact p_a10) | ((repeat (first | refine p_wI ?_ | refine p_wR ?_)); exact p_w0) | decide) only [reduceIte, Int.reduceLT, Int.reduceLE, Int.reduceEq, Int.reduceToNat, Int.reduceAdd, Int.reduceSub, Int.reduceMul, Int.reduceNeg, e206_14, e206_17, e206_18, p_ifne, p_push, p_ret1, WN_nx, WN_nrt, WN_ite]
      rw [if_pos c] at fo
      refine K0 (by omega) _ (by rw [fo]; exact ztk_r) (fun k h1 h2 => (ztk_k h1).trans (f1 k h1 h2)) (fun a h1 h2 => (ztk_o h1 h2).trans (f2 a h1 h2))
    · rw [zK_v]
      rw [if_neg (by omega)] at fo
      have hle := eO_le c
      have hm2 : zTm (zup τ1 3553 20 ((j : Int) + 1)) ts tl := ⟨by rw [zup_j (by omega)]; exact hm.1, fun i hi => by rw [zup_f (by omega)]; exact hm.2 i hi⟩
      have hx2 : zTx (zup τ1 3553 20 ((j : Int) + 1)) := fun b k h1 h2 => by rw [zup_f (by omega)]; exact hx b k h1 h2
      have g1 : ∀ k, k ≠ 18 → k ≠ 20 → zup τ1 3553 20 ((j : Int) + 1) 3553 k = τ 3553 k := fun k h1 h2 => (zup_j h2).trans (f1 k h1 h2)
      have g2 : ∀ a, a ≠ 3553 → a ≠ 3563 → zup τ1 3553 20 ((j : Int) + 1) a = τ a := fun a h1 h2 => (zup_f h1).trans (f2 a h1 h2)
      have hd2 : ∀ i, i < j + 1 → zDc ts tl (sO ts tl i) f' (4 * i) := by
        intro i hi
        by_cases e : i = j
        · subst e; exact dc
        · exact zDc_cg (hd i (by omega)) (fun k h1 h2 => pf k (by omega))
      have z20 : ∀ r : Int, ztk τ1 r f' 3553 20 = (j : Int) := fun r => (ztk_k (by omega)).trans h20
      by_cases c2 : (tl : Int) ≤ eO ts tl (sO ts tl j)
      · have e3 : eO ts tl (sO ts tl j) = (tl : Int) := by omega
        rw [if_pos c2] at fo
        have sk : sA ts tl tl ≠ 59 := by unfold sA; rw [if_neg (by omega)]; omega
        rw [e3]
        have tn := fun (Q : ZO → ZT → ZI → Prop) => t_skipN (x := x) (Q := Q) (w := w) (f := f') (r := (tl : Int)) (s := tl) (c := 59) hs hm2 rfl (by omega) sk (by omega)
        have z12 : ∀ r : Int, ztk (zup τ1 3553 20 ((j : Int) + 1)) r f' 3553 12 = (tl : Int) := fun r => (ztk_k (by omega)).trans hm2.1
        have d : ((1 : Int) = 0) = False := eq_false (by omega)
        simp (disch := first | assumption | exact p_c2i | exact p_c2r | exact p_c2n | omega | ((repeat (first | refine p_a1i.trans ?_ | refine p_a1r.trans ?_)); exact p_a10) | ((repeat (first | refine p_wI ?_ | refine p_wR ?_)); exact p_w0) | decide) only [reduceIte, Int.reduceLT, Int.reduceLE, Int.reduceEq, Int.reduceToNat, Int.reduceAdd, Int.reduceSub, Int.reduceMul, Int.reduceNeg, e206_14, e206_17, e206_18, e206_19, e206_20, e206_21, e206_24, e206_25, e206_26, e206_29, e206_30, e206_32, e206_35, e206_38, e206_39, e206_42, e206_43, e206_46, e206_49, e206_50, e206_53, e206_54, p_ifne, p_push, p_ret1, p_al0, p_dupi, p_dupr, p_getI, p_bin, p_putI, p_cv1_0, p_cv1_1, p_cv1_2, p_cv1_3, p_cv1_4, zK_v, zK_0, WN_ncl, p_cne, p_goto, WN_nx, WN_nrt, WN_ite, d, zg_o3, z20, ztk_20, tn, ztk_r, z12]
        exact K1 fo (j + 1) ⟨j, rfl, hp, e3⟩ (by omega) _ ((ztk_k (by omega)).trans zup_s) (fun i hi => by rw [ztk_t]; exact hd2 i hi) (fun k h1 h2 => (ztk_k h1).trans (g1 k h1 h2)) (fun a h1 h2 => (ztk_o h1 h2).trans (g2 a h1 h2))
      · rw [if_neg c2] at fo
        by_cases c3 : sA ts tl (eO ts tl (sO ts tl j)).toNat = 59
        · rw [if_neg (fun z => z c3)] at fo
          have ty := fun (Q : ZO → ZT → ZI → Prop) => t_skipY (x := x) (Q := Q) (w := w) (f := f') (r := eO ts tl (sO ts tl j)) (s := (eO ts tl (sO ts tl j)).toNat) (c := 59) hs hm2 (by omega) (by omega) c3
          have d : ((1 : Int) = 0) = False := eq_false (by omega)
          have e5 : eO ts tl (sO ts tl j) + 1 = ((sO ts tl (j + 1) : Nat) : Int) := by
            show _ = (((eO ts tl (sO ts tl j)).toNat + 1 : Nat) : Int)
            omega
          simp (disch := first | assumption | exact p_c2i | exact p_c2r | exact p_c2n | omega | ((repeat (first | refine p_a1i.trans ?_ | refine p_a1r.trans ?_)); exact p_a10) | ((repeat (first | refine p_wI ?_ | refine p_wR ?_)); exact p_w0) | decide) only [reduceIte, Int.reduceLT, Int.reduceLE, Int.reduceEq, Int.reduceToNat, Int.reduceAdd, Int.reduceSub, Int.reduceMul, Int.reduceNeg, e206_14, e206_17, e206_18, e206_19, e206_20, e206_21, e206_24, e206_25, e206_26, e206_29, e206_30, e206_32, e206_35, p_ifne, p_push, p_ret1, p_al0, p_dupi, p_dupr, p_getI, p_bin, p_putI, p_cv1_0, p_cv1_1, p_cv1_2, p_cv1_3, p_cv1_4, zK_v, zK_0, WN_ncl, WN_nx, WN_nrt, WN_ite, d, zg_o3, z20, ztk_20, ty, e5]
          refine ih (j + 1) f' _ (by omega) (fun i hi => ?_) (by rw [zup_s]; omega) hm2 hx2 g1 g2 hd2
          by_cases e : i = j
          · subst e; exact ⟨c, by omega, c3⟩
          · exact hp i (by omega)
        · rw [if_pos c3] at fo
          have tn := fun (Q : ZO → ZT → ZI → Prop) => t_skipN (x := x) (Q := Q) (w := w) (f := f') (r := eO ts tl (sO ts tl j)) (s := (eO ts tl (sO ts tl j)).toNat) (c := 59) hs hm2 (by omega) (by omega) c3 (by omega)
          have z12 : ∀ r : Int, ztk (zup τ1 3553 20 ((j : Int) + 1)) r f' 3553 12 = (tl : Int) := fun r => (ztk_k (by omega)).trans hm2.1
          have d : ((1 : Int) = 0) = False := eq_false (by omega)
          have d2 : (eO ts tl (sO ts tl j) = (tl : Int)) = False := eq_false (by omega)
          simp (disch := first | assumption | exact p_c2i | exact p_c2r | exact p_c2n | omega | ((repeat (first | refine p_a1i.trans ?_ | refine p_a1r.trans ?_)); exact p_a10) | ((repeat (first | refine p_wI ?_ | refine p_wR ?_)); exact p_w0) | decide) only [reduceIte, Int.reduceLT, Int.reduceLE, Int.reduceEq, Int.reduceToNat, Int.reduceAdd, Int.reduceSub, Int.reduceMul, Int.reduceNeg, e206_14, e206_17, e206_18, e206_19, e206_20, e206_21, e206_24, e206_25, e206_26, e206_29, e206_30, e206_32, e206_35, e206_38, e206_39, e206_42, e206_43, e206_46, e206_49, e206_50, e206_53, e206_54, p_ifne, p_push, p_ret1, p_al0, p_dupi, p_dupr, p_getI, p_bin, p_putI, p_cv1_0, p_cv1_1, p_cv1_2, p_cv1_3, p_cv1_4, zK_v, zK_0, WN_ncl, p_cne, p_goto, WN_nx, WN_nrt, WN_ite, d, zg_o3, z20, ztk_20, tn, ztk_r, z12, d2]
          exact K0 (by omega) _ (by rw [fo]; exact ztk_r) (fun k h1 h2 => (ztk_k h1).trans (g1 k h1 h2)) (fun a h1 h2 => (ztk_o h1 h2).trans (g2 a h1 h2))
theorem t_isTextM (hs : zTt ts tl) (hm : zTm τ ts tl) (hx : zTx τ) (K0 : 0 ≤ fO ts tl 61 0 → ∀ τ', τ' 3553 18 = fO ts tl 61 0 → (∀ k, k ≠ 18 → k ≠ 20 → τ' 3553 k = τ 3553 k) → (∀ a, a ≠ 3553 → a ≠ 3563 → τ' a = τ a) → Q (.inl (some (.inl 0))) (3565, x, zrho) (zg τ' w)) (K1 : fO ts tl 61 0 = -1 → ∀ M, zPar ts tl M → M ≤ 31 → ∀ τ', τ' 3553 20 = (M : Int) → (∀ i, i < M → zDc ts tl (sO ts tl i) (τ' 3563) (4 * i)) → (∀ k, k ≠ 18 → k ≠ 20 → τ' 3553 k = τ 3553 k) → (∀ a, a ≠ 3553 → a ≠ 3563 → τ' a = τ a) → Q (.inl (some (.inl 1))) (3565, x, zrho) (zg τ' w)) : WM 206 [.inr (.inl (some 3553))] (3565, x, zrho) (zg τ w) Q := by
  show Wp 206 0 [some (.inr (.inl (some 3553)))] [] _ _ Q
  have k := zm_k
  simp (disch := first | assumption | exact p_c2i | exact p_c2r | exact p_c2n | omega | ((repeat (first | refine p_a1i.trans ?_ | refine p_a1r.trans ?_)); exact p_a10) | ((repeat (first | refine p_wI ?_ | refine p_wR ?_)); exact p_w0) | decide) only [reduceIte, Int.reduceLT, Int.reduceLE, Int.reduceEq, Int.reduceToNat, Int.reduceAdd, Int.reduceSub, Int.reduceMul, Int.reduceNeg, e206_0, e206_1, e206_2, e206_5, e206_6, e206_7, p_al0, p_push, p_putI, WN_nx, WN_nrt, WN_ite, zg_c3]
  have e : zup (zup τ 3553 18 0) 3553 20 0 = ztk (zup τ 3553 20 0) ((sO ts tl 0 : Nat) : Int) (τ 3563) := by
    funext a k
    unfold ztk
    by_cases h : a = 3553 ∧ k = 18
    · rw [if_pos h, h.1, h.2, zup_j (by omega), zup_s]
      rfl
    · rw [if_neg h]
      by_cases h2 : a = 3563
      · rw [if_pos h2, h2, zup_f (by omega), zup_f (by omega)]
      · rw [if_neg h2]
        unfold zup
        rw [if_neg h]
  rw [e]
  exact l_isText hs K0 K1 61 0 _ _ rfl (fun i hi => absurd hi (Nat.not_lt_zero i)) zup_s ⟨by rw [zup_j (by omega)]; exact hm.1, fun i hi => by rw [zup_f (by omega)]; exact hm.2 i hi⟩ (fun b k h1 h2 => by rw [zup_f (by omega)]; exact hx b k h1 h2) (fun k h1 h2 => zup_j h2) (fun a h1 h2 => zup_f h1) (fun i hi => absurd hi (Nat.not_lt_zero i))
end
