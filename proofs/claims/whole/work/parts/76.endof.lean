/-! THE CLASS: where an order ends -/
theorem zsw_q {x k t : Int} {d : Nat} {r : List Int} (h : x ≠ k ∨ t.toNat = d) (hr : zsw x d r = d) : zsw x d (k :: t :: r) = d := by
  show (if x = k then t.toNat else zsw x d r) = d
  by_cases e : x = k
  · rw [if_pos e]; exact h.elim (fun z => absurd e z) id
  · rw [if_neg e]; exact hr
section
variable {σ : ZI} {θ : ZT} {Q : ZO → ZT → ZI → Prop} {x n : Nat} {ts : Nat → Int} {tl : Nat}
theorem t_sh104 : WM 63 [.inl 104] θ σ Q = Q (.inl (some (.inr (.inl (some 1))))) θ σ := by
  show Wp 63 0 [some (.inl 104)] [] _ _ Q = _
  have sw : zsw 104 132 [98, 129, 99, 132, 100, 132, 101, 132, 102, 132, 103, 132, 104, 108, 105, 132, 106, 132, 107, 120, 108, 132, 109, 123, 110, 132, 111, 132, 112, 114, 113, 132, 114, 132, 115, 126, 116, 117, 117, 132, 118, 132, 119, 132, 120, 111] = 108 := rfl
  simp (disch := first | assumption | exact p_c2i | exact p_c2r | exact p_c2n | omega | ((repeat (first | refine p_a1i.trans ?_ | refine p_a1r.trans ?_)); exact p_a10) | ((repeat (first | refine p_wI ?_ | refine p_wR ?_)); exact p_w0) | decide) only [reduceIte, Int.reduceLT, Int.reduceLE, Int.reduceEq, Int.reduceToNat, Int.reduceAdd, Int.reduceSub, Int.reduceMul, Int.reduceNeg, e63_0, e63_1, e63_108, e63_110, e63_111, e63_113, e63_114, e63_116, e63_117, e63_119, e63_120, e63_122, e63_123, e63_125, e63_126, e63_128, e63_129, e63_131, e63_132, e63_134, p_il0, p_sw, p_push, p_aret, WN_nx, WN_nrt, WN_ite, sw]
theorem t_sh112 : WM 63 [.inl 112] θ σ Q = Q (.inl (some (.inr (.inl (some 3))))) θ σ := by
  show Wp 63 0 [some (.inl 112)] [] _ _ Q = _
  have sw : zsw 112 132 [98, 129, 99, 132, 100, 132, 101, 132, 102, 132, 103, 132, 104, 108, 105, 132, 106, 132, 107, 120, 108, 132, 109, 123, 110, 132, 111, 132, 112, 114, 113, 132, 114, 132, 115, 126, 116, 117, 117, 132, 118, 132, 119, 132, 120, 111] = 114 := rfl
  simp (disch := first | assumption | exact p_c2i | exact p_c2r | exact p_c2n | omega | ((repeat (first | refine p_a1i.trans ?_ | refine p_a1r.trans ?_)); exact p_a10) | ((repeat (first | refine p_wI ?_ | refine p_wR ?_)); exact p_w0) | decide) only [reduceIte, Int.reduceLT, Int.reduceLE, Int.reduceEq, Int.reduceToNat, Int.reduceAdd, Int.reduceSub, Int.reduceMul, Int.reduceNeg, e63_0, e63_1, e63_108, e63_110, e63_111, e63_113, e63_114, e63_116, e63_117, e63_119, e63_120, e63_122, e63_123, e63_125, e63_126, e63_128, e63_129, e63_131, e63_132, e63_134, p_il0, p_sw, p_push, p_aret, WN_nx, WN_nrt, WN_ite, sw]
theorem t_sh116 : WM 63 [.inl 116] θ σ Q = Q (.inl (some (.inr (.inl (some 4))))) θ σ := by
  show Wp 63 0 [some (.inl 116)] [] _ _ Q = _
  have sw : zsw 116 132 [98, 129, 99, 132, 100, 132, 101, 132, 102, 132, 103, 132, 104, 108, 105, 132, 106, 132, 107, 120, 108, 132, 109, 123, 110, 132, 111, 132, 112, 114, 113, 132, 114, 132, 115, 126, 116, 117, 117, 132, 118, 132, 119, 132, 120, 111] = 117 := rfl
  simp (disch := first | assumption | exact p_c2i | exact p_c2r | exact p_c2n | omega | ((repeat (first | refine p_a1i.trans ?_ | refine p_a1r.trans ?_)); exact p_a10) | ((repeat (first | refine p_wI ?_ | refine p_wR ?_)); exact p_w0) | decide) only [reduceIte, Int.reduceLT, Int.reduceLE, Int.reduceEq, Int.reduceToNat, Int.reduceAdd, Int.reduceSub, Int.reduceMul, Int.reduceNeg, e63_0, e63_1, e63_108, e63_110, e63_111, e63_113, e63_114, e63_116, e63_117, e63_119, e63_120, e63_122, e63_123, e63_125, e63_126, e63_128, e63_129, e63_131, e63_132, e63_134, p_il0, p_sw, p_push, p_aret, WN_nx, WN_nrt, WN_ite, sw]
theorem t_sh115 : WM 63 [.inl 115] θ σ Q = Q (.inl (some (.inr (.inl (some 7))))) θ σ := by
  show Wp 63 0 [some (.inl 115)] [] _ _ Q = _
  have sw : zsw 115 132 [98, 129, 99, 132, 100, 132, 101, 132, 102, 132, 103, 132, 104, 108, 105, 132, 106, 132, 107, 120, 108, 132, 109, 123, 110, 132, 111, 132, 112, 114, 113, 132, 114, 132, 115, 126, 116, 117, 117, 132, 118, 132, 119, 132, 120, 111] = 126 := rfl
  simp (disch := first | assumption | exact p_c2i | exact p_c2r | exact p_c2n | omega | ((repeat (first | refine p_a1i.trans ?_ | refine p_a1r.trans ?_)); exact p_a10) | ((repeat (first | refine p_wI ?_ | refine p_wR ?_)); exact p_w0) | decide) only [reduceIte, Int.reduceLT, Int.reduceLE, Int.reduceEq, Int.reduceToNat, Int.reduceAdd, Int.reduceSub, Int.reduceMul, Int.reduceNeg, e63_0, e63_1, e63_108, e63_110, e63_111, e63_113, e63_114, e63_116, e63_117, e63_119, e63_120, e63_122, e63_123, e63_125, e63_126, e63_128, e63_129, e63_131, e63_132, e63_134, p_il0, p_sw, p_push, p_aret, WN_nx, WN_nrt, WN_ite, sw]
theorem t_sh98 : WM 63 [.inl 98] θ σ Q = Q (.inl (some (.inr (.inl (some 8))))) θ σ := by
  show Wp 63 0 [some (.inl 98)] [] _ _ Q = _
  have sw : zsw 98 132 [98, 129, 99, 132, 100, 132, 101, 132, 102, 132, 103, 132, 104, 108, 105, 132, 106, 132, 107, 120, 108, 132, 109, 123, 110, 132, 111, 132, 112, 114, 113, 132, 114, 132, 115, 126, 116, 117, 117, 132, 118, 132, 119, 132, 120, 111] = 129 := rfl
  simp (disch := first | assumption | exact p_c2i | exact p_c2r | exact p_c2n | omega | ((repeat (first | refine p_a1i.trans ?_ | refine p_a1r.trans ?_)); exact p_a10) | ((repeat (first | refine p_wI ?_ | refine p_wR ?_)); exact p_w0) | decide) only [reduceIte, Int.reduceLT, Int.reduceLE, Int.reduceEq, Int.reduceToNat, Int.reduceAdd, Int.reduceSub, Int.reduceMul, Int.reduceNeg, e63_0, e63_1, e63_108, e63_110, e63_111, e63_113, e63_114, e63_116, e63_117, e63_119, e63_120, e63_122, e63_123, e63_125, e63_126, e63_128, e63_129, e63_131, e63_132, e63_134, p_il0, p_sw, p_push, p_aret, WN_nx, WN_nrt, WN_ite, sw]
theorem t_sh120 : WM 63 [.inl 120] θ σ Q = Q (.inl (some (.inr (.inl (some 2))))) θ σ := by
  show Wp 63 0 [some (.inl 120)] [] _ _ Q = _
  have sw : zsw 120 132 [98, 129, 99, 132, 100, 132, 101, 132, 102, 132, 103, 132, 104, 108, 105, 132, 106, 132, 107, 120, 108, 132, 109, 123, 110, 132, 111, 132, 112, 114, 113, 132, 114, 132, 115, 126, 116, 117, 117, 132, 118, 132, 119, 132, 120, 111] = 111 := rfl
  simp (disch := first | assumption | exact p_c2i | exact p_c2r | exact p_c2n | omega | ((repeat (first | refine p_a1i.trans ?_ | refine p_a1r.trans ?_)); exact p_a10) | ((repeat (first | refine p_wI ?_ | refine p_wR ?_)); exact p_w0) | decide) only [reduceIte, Int.reduceLT, Int.reduceLE, Int.reduceEq, Int.reduceToNat, Int.reduceAdd, Int.reduceSub, Int.reduceMul, Int.reduceNeg, e63_0, e63_1, e63_108, e63_110, e63_111, e63_113, e63_114, e63_116, e63_117, e63_119, e63_120, e63_122, e63_123, e63_125, e63_126, e63_128, e63_129, e63_131, e63_132, e63_134, p_il0, p_sw, p_push, p_aret, WN_nx, WN_nrt, WN_ite, sw]
theorem t_sh107 : WM 63 [.inl 107] θ σ Q = Q (.inl (some (.inr (.inl (some 5))))) θ σ := by
  show Wp 63 0 [some (.inl 107)] [] _ _ Q = _
  have sw : zsw 107 132 [98, 129, 99, 132, 100, 132, 101, 132, 102, 132, 103, 132, 104, 108, 105, 132, 106, 132, 107, 120, 108, 132, 109, 123, 110, 132, 111, 132, 112, 114, 113, 132, 114, 132, 115, 126, 116, 117, 117, 132, 118, 132, 119, 132, 120, 111] = 120 := rfl
  simp (disch := first | assumption | exact p_c2i | exact p_c2r | exact p_c2n | omega | ((repeat (first | refine p_a1i.trans ?_ | refine p_a1r.trans ?_)); exact p_a10) | ((repeat (first | refine p_wI ?_ | refine p_wR ?_)); exact p_w0) | decide) only [reduceIte, Int.reduceLT, Int.reduceLE, Int.reduceEq, Int.reduceToNat, Int.reduceAdd, Int.reduceSub, Int.reduceMul, Int.reduceNeg, e63_0, e63_1, e63_108, e63_110, e63_111, e63_113, e63_114, e63_116, e63_117, e63_119, e63_120, e63_122, e63_123, e63_125, e63_126, e63_128, e63_129, e63_131, e63_132, e63_134, p_il0, p_sw, p_push, p_aret, WN_nx, WN_nrt, WN_ite, sw]
theorem t_sh109 : WM 63 [.inl 109] θ σ Q = Q (.inl (some (.inr (.inl (some 6))))) θ σ := by
  show Wp 63 0 [some (.inl 109)] [] _ _ Q = _
  have sw : zsw 109 132 [98, 129, 99, 132, 100, 132, 101, 132, 102, 132, 103, 132, 104, 108, 105, 132, 106, 132, 107, 120, 108, 132, 109, 123, 110, 132, 111, 132, 112, 114, 113, 132, 114, 132, 115, 126, 116, 117, 117, 132, 118, 132, 119, 132, 120, 111] = 123 := rfl
  simp (disch := first | assumption | exact p_c2i | exact p_c2r | exact p_c2n | omega | ((repeat (first | refine p_a1i.trans ?_ | refine p_a1r.trans ?_)); exact p_a10) | ((repeat (first | refine p_wI ?_ | refine p_wR ?_)); exact p_w0) | decide) only [reduceIte, Int.reduceLT, Int.reduceLE, Int.reduceEq, Int.reduceToNat, Int.reduceAdd, Int.reduceSub, Int.reduceMul, Int.reduceNeg, e63_0, e63_1, e63_108, e63_110, e63_111, e63_113, e63_114, e63_116, e63_117, e63_119, e63_120, e63_122, e63_123, e63_125, e63_126, e63_128, e63_129, e63_131, e63_132, e63_134, p_il0, p_sw, p_push, p_aret, WN_nx, WN_nrt, WN_ite, sw]
theorem t_shz {c : Int} (hc : -2147483648 ≤ c ∧ c < 2147483648) (c104 : c ≠ 104) (c112 : c ≠ 112) (c116 : c ≠ 116) (c115 : c ≠ 115) (c98 : c ≠ 98) (c120 : c ≠ 120) (c107 : c ≠ 107) (c109 : c ≠ 109) : WM 63 [.inl c] θ σ Q = Q (.inl (some (.inr (.inl (some 9))))) θ σ := by
  show Wp 63 0 [some (.inl c)] [] _ _ Q = _
  obtain ⟨hc1, hc2⟩ := hc
  have sw : zsw c 132 [98, 129, 99, 132, 100, 132, 101, 132, 102, 132, 103, 132, 104, 108, 105, 132, 106, 132, 107, 120, 108, 132, 109, 123, 110, 132, 111, 132, 112, 114, 113, 132, 114, 132, 115, 126, 116, 117, 117, 132, 118, 132, 119, 132, 120, 111] = 132 := zsw_q (Or.inl c98) (zsw_q (Or.inr rfl) (zsw_q (Or.inr rfl) (zsw_q (Or.inr rfl) (zsw_q (Or.inr rfl) (zsw_q (Or.inr rfl) (zsw_q (Or.inl c104) (zsw_q (Or.inr rfl) (zsw_q (Or.inr rfl) (zsw_q (Or.inl c107) (zsw_q (Or.inr rfl) (zsw_q (Or.inl c109) (zsw_q (Or.inr rfl) (zsw_q (Or.inr rfl) (zsw_q (Or.inl c112) (zsw_q (Or.inr rfl) (zsw_q (Or.inr rfl) (zsw_q (Or.inl c115) (zsw_q (Or.inl c116) (zsw_q (Or.inr rfl) (zsw_q (Or.inr rfl) (zsw_q (Or.inr rfl) (zsw_q (Or.inl c120) (rfl)))))))))))))))))))))))
  simp (disch := first | assumption | exact p_c2i | exact p_c2r | exact p_c2n | omega | ((repeat (first | refine p_a1i.trans ?_ | refine p_a1r.trans ?_)); exact p_a10) | ((repeat (first | refine p_wI ?_ | refine p_wR ?_)); exact p_w0) | decide) only [reduceIte, Int.reduceLT, Int.reduceLE, Int.reduceEq, Int.reduceToNat, Int.reduceAdd, Int.reduceSub, Int.reduceMul, Int.reduceNeg, e63_0, e63_1, e63_108, e63_110, e63_111, e63_113, e63_114, e63_116, e63_117, e63_119, e63_120, e63_122, e63_123, e63_125, e63_126, e63_128, e63_129, e63_131, e63_132, e63_134, p_il0, p_sw, p_push, p_aret, WN_nx, WN_nrt, WN_ite, sw]
theorem t_end104 {s : Nat} (hs : zTt ts tl) (h : zTc σ ts tl) (hx : zTx σ) (hs1 : s ≤ 100) (e0 : sA ts tl s = 104) : WM 62 [.inr (.inl (some 3550)), .inl ((s : Int))] (3565, x, zrho) σ Q = Q (.inl (some (.inl (eO ts tl s)))) (3565, x, zrho) σ := by
  show Wp 62 0 [some (.inr (.inl (some 3550))), some (.inl ((s : Int))), none, none, none] [] _ _ Q = _
  have k := zt_k
  have t0 := fun (Q : ZO → ZT → ZI → Prop) => t_signAt (x := x) (Q := Q) (o := (s : Int)) (i := s) hs h rfl (by omega)
  rw [e0] at t0
  have f0 := fun (Q : ZO → ZT → ZI → Prop) => t_fitL (x := x) (Q := Q) (o := (s : Int)) (i := s) (v := 104) hs h rfl (by omega) (by omega) (by omega) (by omega) (by omega) (by omega)
  rw [if_pos e0] at f0
  unfold eO
  rw [e0]
  have f1 := fun (Q : ZO → ZT → ZI → Prop) => t_fitD (x := x) (Q := Q) (o := (s : Int) + 1) (i := s + 1) hs h (by omega) (by omega)
  have f2 := fun (Q : ZO → ZT → ZI → Prop) => t_fitD (x := x) (Q := Q) (o := (s : Int) + 2) (i := s + 2) hs h (by omega) (by omega)
  have f3 := fun (Q : ZO → ZT → ZI → Prop) => t_fitH (x := x) (Q := Q) (o := (s : Int) + 3) (i := s + 3) hs h (by omega) (by omega)
  simp only [Int.reduceEq, reduceIte, or_true, true_or, or_false, false_or, or_self]
  by_cases q1 : dA ts tl (s + 1) < 0
  · rw [if_pos q1]
    rw [if_pos q1] at f1
    simp (disch := first | assumption | exact p_c2i | exact p_c2r | exact p_c2n | omega | ((repeat (first | refine p_a1i.trans ?_ | refine p_a1r.trans ?_)); exact p_a10) | ((repeat (first | refine p_wI ?_ | refine p_wR ?_)); exact p_w0) | decide) only [reduceIte, Int.reduceLT, Int.reduceLE, Int.reduceEq, Int.reduceToNat, Int.reduceAdd, Int.reduceSub, Int.reduceMul, Int.reduceNeg, e62_0, e62_1, e62_2, e62_5, e62_8, e62_9, e62_10, e62_11, e62_12, e62_13, e62_16, e62_19, e62_20, e62_21, e62_22, e62_25, e62_26, e62_27, e62_28, e62_31, e62_34, e62_35, e62_36, e62_37, e62_38, e62_39, e62_40, e62_43, e62_46, e62_47, e62_48, e62_51, e62_52, e62_53, e62_54, e62_55, e62_58, e62_60, e62_63, e62_64, e62_65, e62_68, e62_71, e62_72, e62_75, e62_76, e62_78, e62_80, e62_83, e62_84, e62_85, e62_86, e62_89, e62_90, p_al0, p_il1, p_cv1_0, p_cv1_1, p_cv1_2, p_cv1_3, p_cv1_4, zK_v, zK_0, WN_ncl, p_cs1_0, p_cs1_1, p_cs1_2, p_cs1_3, p_cs1_4, p_as2, p_c2n, p_c2i, p_c2r, p_push, p_is3, p_il3, p_al2, p_cv0_0, p_cv0_1, p_cv0_2, p_cv0_3, p_cv0_4, p_cge, p_bin, p_cv2_0, p_cv2_1, p_cv2_2, p_cv2_3, p_cv2_4, p_ifne, p_ret0, p_ii3, p_goto, p_cne, p_iflt, p_is4, p_il4, p_ifeq, WN_nx, WN_nrt, WN_ite, t0, t_sh104, t_l1, t_c1_0 hx, t_c1_1 hx, t_c1_2 hx, t_c1_3 hx, f0, Int.add_zero, f1]
  · rw [if_neg q1]
    rw [if_neg q1] at f1
    by_cases q2 : dA ts tl (s + 2) < 0
    · rw [if_pos q2]
      rw [if_pos q2] at f2
      simp (disch := first | assumption | exact p_c2i | exact p_c2r | exact p_c2n | omega | ((repeat (first | refine p_a1i.trans ?_ | refine p_a1r.trans ?_)); exact p_a10) | ((repeat (first | refine p_wI ?_ | refine p_wR ?_)); exact p_w0) | decide) only [reduceIte, Int.reduceLT, Int.reduceLE, Int.reduceEq, Int.reduceToNat, Int.reduceAdd, Int.reduceSub, Int.reduceMul, Int.reduceNeg, e62_0, e62_1, e62_2, e62_5, e62_8, e62_9, e62_10, e62_11, e62_12, e62_13, e62_16, e62_19, e62_20, e62_21, e62_22, e62_25, e62_26, e62_27, e62_28, e62_31, e62_34, e62_35, e62_36, e62_37, e62_38, e62_39, e62_40, e62_43, e62_46, e62_47, e62_48, e62_51, e62_52, e62_53, e62_54, e62_55, e62_58, e62_60, e62_63, e62_64, e62_65, e62_68, e62_71, e62_72, e62_75, e62_76, e62_78, e62_80, e62_83, e62_84, e62_85, e62_86, e62_89, e62_90, p_al0, p_il1, p_cv1_0, p_cv1_1, p_cv1_2, p_cv1_3, p_cv1_4, zK_v, zK_0, WN_ncl, p_cs1_0, p_cs1_1, p_cs1_2, p_cs1_3, p_cs1_4, p_as2, p_c2n, p_c2i, p_c2r, p_push, p_is3, p_il3, p_al2, p_cv0_0, p_cv0_1, p_cv0_2, p_cv0_3, p_cv0_4, p_cge, p_bin, p_cv2_0, p_cv2_1, p_cv2_2, p_cv2_3, p_cv2_4, p_ifne, p_ret0, p_ii3, p_goto, p_cne, p_iflt, p_is4, p_il4, p_ifeq, WN_nx, WN_nrt, WN_ite, t0, t_sh104, t_l1, t_c1_0 hx, t_c1_1 hx, t_c1_2 hx, t_c1_3 hx, f0, Int.add_zero, f1, f2]
    · rw [if_neg q2]
      rw [if_neg q2] at f2
      by_cases q3 : hIx (sA ts tl (s + 3)) < 0
      · rw [if_pos q3]
        rw [if_pos q3] at f3
        simp (disch := first | assumption | exact p_c2i | exact p_c2r | exact p_c2n | omega | ((repeat (first | refine p_a1i.trans ?_ | refine p_a1r.trans ?_)); exact p_a10) | ((repeat (first | refine p_wI ?_ | refine p_wR ?_)); exact p_w0) | decide) only [reduceIte, Int.reduceLT, Int.reduceLE, Int.reduceEq, Int.reduceToNat, Int.reduceAdd, Int.reduceSub, Int.reduceMul, Int.reduceNeg, e62_0, e62_1, e62_2, e62_5, e62_8, e62_9, e62_10, e62_11, e62_12, e62_13, e62_16, e62_19, e62_20, e62_21, e62_22, e62_25, e62_26, e62_27, e62_28, e62_31, e62_34, e62_35, e62_36, e62_37, e62_38, e62_39, e62_40, e62_43, e62_46, e62_47, e62_48, e62_51, e62_52, e62_53, e62_54, e62_55, e62_58, e62_60, e62_63, e62_64, e62_65, e62_68, e62_71, e62_72, e62_75, e62_76, e62_78, e62_80, e62_83, e62_84, e62_85, e62_86, e62_89, e62_90, p_al0, p_il1, p_cv1_0, p_cv1_1, p_cv1_2, p_cv1_3, p_cv1_4, zK_v, zK_0, WN_ncl, p_cs1_0, p_cs1_1, p_cs1_2, p_cs1_3, p_cs1_4, p_as2, p_c2n, p_c2i, p_c2r, p_push, p_is3, p_il3, p_al2, p_cv0_0, p_cv0_1, p_cv0_2, p_cv0_3, p_cv0_4, p_cge, p_bin, p_cv2_0, p_cv2_1, p_cv2_2, p_cv2_3, p_cv2_4, p_ifne, p_ret0, p_ii3, p_goto, p_cne, p_iflt, p_is4, p_il4, p_ifeq, WN_nx, WN_nrt, WN_ite, t0, t_sh104, t_l1, t_c1_0 hx, t_c1_1 hx, t_c1_2 hx, t_c1_3 hx, f0, Int.add_zero, f1, f2, f3]
      · rw [if_neg q3]
        rw [if_neg q3] at f3
        simp (disch := first | assumption | exact p_c2i | exact p_c2r | exact p_c2n | omega | ((repeat (first | refine p_a1i.trans ?_ | refine p_a1r.trans ?_)); exact p_a10) | ((repeat (first | refine p_wI ?_ | refine p_wR ?_)); exact p_w0) | decide) only [reduceIte, Int.reduceLT, Int.reduceLE, Int.reduceEq, Int.reduceToNat, Int.reduceAdd, Int.reduceSub, Int.reduceMul, Int.reduceNeg, e62_0, e62_1, e62_2, e62_5, e62_8, e62_9, e62_10, e62_11, e62_12, e62_13, e62_16, e62_19, e62_20, e62_21, e62_22, e62_25, e62_26, e62_27, e62_28, e62_31, e62_34, e62_35, e62_36, e62_37, e62_38, e62_39, e62_40, e62_43, e62_46, e62_47, e62_48, e62_51, e62_52, e62_53, e62_54, e62_55, e62_58, e62_60, e62_63, e62_64, e62_65, e62_68, e62_71, e62_72, e62_75, e62_76, e62_78, e62_80, e62_83, e62_84, e62_85, e62_86, e62_89, e62_90, p_al0, p_il1, p_cv1_0, p_cv1_1, p_cv1_2, p_cv1_3, p_cv1_4, zK_v, zK_0, WN_ncl, p_cs1_0, p_cs1_1, p_cs1_2, p_cs1_3, p_cs1_4, p_as2, p_c2n, p_c2i, p_c2r, p_push, p_is3, p_il3, p_al2, p_cv0_0, p_cv0_1, p_cv0_2, p_cv0_3, p_cv0_4, p_cge, p_bin, p_cv2_0, p_cv2_1, p_cv2_2, p_cv2_3, p_cv2_4, p_ifne, p_ret0, p_ii3, p_goto, p_cne, p_iflt, p_is4, p_il4, p_ifeq, WN_nx, WN_nrt, WN_ite, t0, t_sh104, t_l1, t_c1_0 hx, t_c1_1 hx, t_c1_2 hx, t_c1_3 hx, f0, Int.add_zero, f1, f2, f3]
theorem t_end112 {s : Nat} (hs : zTt ts tl) (h : zTc σ ts tl) (hx : zTx σ) (hs1 : s ≤ 100) (e0 : sA ts tl s = 112) : WM 62 [.inr (.inl (some 3550)), .inl ((s : Int))] (3565, x, zrho) σ Q = Q (.inl (some (.inl (eO ts tl s)))) (3565, x, zrho) σ := by
  show Wp 62 0 [some (.inr (.inl (some 3550))), some (.inl ((s : Int))), none, none, none] [] _ _ Q = _
  have k := zt_k
  have t0 := fun (Q : ZO → ZT → ZI → Prop) => t_signAt (x := x) (Q := Q) (o := (s : Int)) (i := s) hs h rfl (by omega)
  rw [e0] at t0
  have f0 := fun (Q : ZO → ZT → ZI → Prop) => t_fitL (x := x) (Q := Q) (o := (s : Int)) (i := s) (v := 112) hs h rfl (by omega) (by omega) (by omega) (by omega) (by omega) (by omega)
  rw [if_pos e0] at f0
  unfold eO
  rw [e0]
  have f1 := fun (Q : ZO → ZT → ZI → Prop) => t_fitD (x := x) (Q := Q) (o := (s : Int) + 1) (i := s + 1) hs h (by omega) (by omega)
  have f2 := fun (Q : ZO → ZT → ZI → Prop) => t_fitD (x := x) (Q := Q) (o := (s : Int) + 2) (i := s + 2) hs h (by omega) (by omega)
  have f3 := fun (Q : ZO → ZT → ZI → Prop) => t_fitL (x := x) (Q := Q) (o := (s : Int) + 3) (i := s + 3) (v := 61) hs h (by omega) (by omega) (by omega) (by omega) (by omega) (by omega) (by omega)
  have f4 := fun (Q : ZO → ZT → ZI → Prop) => t_fitD (x := x) (Q := Q) (o := (s : Int) + 4) (i := s + 4) hs h (by omega) (by omega)
  simp only [Int.reduceEq, reduceIte, or_true, true_or, or_false, false_or, or_self]
  by_cases q1 : dA ts tl (s + 1) < 0
  · rw [if_pos q1]
    rw [if_pos q1] at f1
    simp (disch := first | assumption | exact p_c2i | exact p_c2r | exact p_c2n | omega | ((repeat (first | refine p_a1i.trans ?_ | refine p_a1r.trans ?_)); exact p_a10) | ((repeat (first | refine p_wI ?_ | refine p_wR ?_)); exact p_w0) | decide) only [reduceIte, Int.reduceLT, Int.reduceLE, Int.reduceEq, Int.reduceToNat, Int.reduceAdd, Int.reduceSub, Int.reduceMul, Int.reduceNeg, e62_0, e62_1, e62_2, e62_5, e62_8, e62_9, e62_10, e62_11, e62_12, e62_13, e62_16, e62_19, e62_20, e62_21, e62_22, e62_25, e62_26, e62_27, e62_28, e62_31, e62_34, e62_35, e62_36, e62_37, e62_38, e62_39, e62_40, e62_43, e62_46, e62_47, e62_48, e62_51, e62_52, e62_53, e62_54, e62_55, e62_58, e62_60, e62_63, e62_64, e62_65, e62_68, e62_71, e62_72, e62_75, e62_76, e62_78, e62_80, e62_83, e62_84, e62_85, e62_86, e62_89, e62_90, p_al0, p_il1, p_cv1_0, p_cv1_1, p_cv1_2, p_cv1_3, p_cv1_4, zK_v, zK_0, WN_ncl, p_cs1_0, p_cs1_1, p_cs1_2, p_cs1_3, p_cs1_4, p_as2, p_c2n, p_c2i, p_c2r, p_push, p_is3, p_il3, p_al2, p_cv0_0, p_cv0_1, p_cv0_2, p_cv0_3, p_cv0_4, p_cge, p_bin, p_cv2_0, p_cv2_1, p_cv2_2, p_cv2_3, p_cv2_4, p_ifne, p_ret0, p_ii3, p_goto, p_cne, p_iflt, p_is4, p_il4, p_ifeq, WN_nx, WN_nrt, WN_ite, t0, t_sh112, t_l3, t_c3_0 hx, t_c3_1 hx, t_c3_2 hx, t_c3_3 hx, t_c3_4 hx, f0, Int.add_zero, f1]
  · rw [if_neg q1]
    rw [if_neg q1] at f1
    by_cases q2 : dA ts tl (s + 2) < 0
    · rw [if_pos q2]
      rw [if_pos q2] at f2
      simp (disch := first | assumption | exact p_c2i | exact p_c2r | exact p_c2n | omega | ((repeat (first | refine p_a1i.trans ?_ | refine p_a1r.trans ?_)); exact p_a10) | ((repeat (first | refine p_wI ?_ | refine p_wR ?_)); exact p_w0) | decide) only [reduceIte, Int.reduceLT, Int.reduceLE, Int.reduceEq, Int.reduceToNat, Int.reduceAdd, Int.reduceSub, Int.reduceMul, Int.reduceNeg, e62_0, e62_1, e62_2, e62_5, e62_8, e62_9, e62_10, e62_11, e62_12, e62_13, e62_16, e62_19, e62_20, e62_21, e62_22, e62_25, e62_26, e62_27, e62_28, e62_31, e62_34, e62_35, e62_36, e62_37, e62_38, e62_39, e62_40, e62_43, e62_46, e62_47, e62_48, e62_51, e62_52, e62_53, e62_54, e62_55, e62_58, e62_60, e62_63, e62_64, e62_65, e62_68, e62_71, e62_72, e62_75, e62_76, e62_78, e62_80, e62_83, e62_84, e62_85, e62_86, e62_89, e62_90, p_al0, p_il1, p_cv1_0, p_cv1_1, p_cv1_2, p_cv1_3, p_cv1_4, zK_v, zK_0, WN_ncl, p_cs1_0, p_cs1_1, p_cs1_2, p_cs1_3, p_cs1_4, p_as2, p_c2n, p_c2i, p_c2r, p_push, p_is3, p_il3, p_al2, p_cv0_0, p_cv0_1, p_cv0_2, p_cv0_3, p_cv0_4, p_cge, p_bin, p_cv2_0, p_cv2_1, p_cv2_2, p_cv2_3, p_cv2_4, p_ifne, p_ret0, p_ii3, p_goto, p_cne, p_iflt, p_is4, p_il4, p_ifeq, WN_nx, WN_nrt, WN_ite, t0, t_sh112, t_l3, t_c3_0 hx, t_c3_1 hx, t_c3_2 hx, t_c3_3 hx, t_c3_4 hx, f0, Int.add_zero, f1, f2]
    · rw [if_neg q2]
      rw [if_neg q2] at f2
      by_cases q3 : sA ts tl (s + 3) ≠ 61
      · rw [if_pos q3]
        rw [if_neg q3] at f3
        simp (disch := first | assumption | exact p_c2i | exact p_c2r | exact p_c2n | omega | ((repeat (first | refine p_a1i.trans ?_ | refine p_a1r.trans ?_)); exact p_a10) | ((repeat (first | refine p_wI ?_ | refine p_wR ?_)); exact p_w0) | decide) only [reduceIte, Int.reduceLT, Int.reduceLE, Int.reduceEq, Int.reduceToNat, Int.reduceAdd, Int.reduceSub, Int.reduceMul, Int.reduceNeg, e62_0, e62_1, e62_2, e62_5, e62_8, e62_9, e62_10, e62_11, e62_12, e62_13, e62_16, e62_19, e62_20, e62_21, e62_22, e62_25, e62_26, e62_27, e62_28, e62_31, e62_34, e62_35, e62_36, e62_37, e62_38, e62_39, e62_40, e62_43, e62_46, e62_47, e62_48, e62_51, e62_52, e62_53, e62_54, e62_55, e62_58, e62_60, e62_63, e62_64, e62_65, e62_68, e62_71, e62_72, e62_75, e62_76, e62_78, e62_80, e62_83, e62_84, e62_85, e62_86, e62_89, e62_90, p_al0, p_il1, p_cv1_0, p_cv1_1, p_cv1_2, p_cv1_3, p_cv1_4, zK_v, zK_0, WN_ncl, p_cs1_0, p_cs1_1, p_cs1_2, p_cs1_3, p_cs1_4, p_as2, p_c2n, p_c2i, p_c2r, p_push, p_is3, p_il3, p_al2, p_cv0_0, p_cv0_1, p_cv0_2, p_cv0_3, p_cv0_4, p_cge, p_bin, p_cv2_0, p_cv2_1, p_cv2_2, p_cv2_3, p_cv2_4, p_ifne, p_ret0, p_ii3, p_goto, p_cne, p_iflt, p_is4, p_il4, p_ifeq, WN_nx, WN_nrt, WN_ite, t0, t_sh112, t_l3, t_c3_0 hx, t_c3_1 hx, t_c3_2 hx, t_c3_3 hx, t_c3_4 hx, f0, Int.add_zero, f1, f2, f3]
      · rw [if_neg q3]
        rw [if_pos (Classical.not_not.mp q3)] at f3
        by_cases q4 : dA ts tl (s + 4) < 0
        · rw [if_pos q4]
          rw [if_pos q4] at f4
          simp (disch := first | assumption | exact p_c2i | exact p_c2r | exact p_c2n | omega | ((repeat (first | refine p_a1i.trans ?_ | refine p_a1r.trans ?_)); exact p_a10) | ((repeat (first | refine p_wI ?_ | refine p_wR ?_)); exact p_w0) | decide) only [reduceIte, Int.reduceLT, Int.reduceLE, Int.reduceEq, Int.reduceToNat, Int.reduceAdd, Int.reduceSub, Int.reduceMul, Int.reduceNeg, e62_0, e62_1, e62_2, e62_5, e62_8, e62_9, e62_10, e62_11, e62_12, e62_13, e62_16, e62_19, e62_20, e62_21, e62_22, e62_25, e62_26, e62_27, e62_28, e62_31, e62_34, e62_35, e62_36, e62_37, e62_38, e62_39, e62_40, e62_43, e62_46, e62_47, e62_48, e62_51, e62_52, e62_53, e62_54, e62_55, e62_58, e62_60, e62_63, e62_64, e62_65, e62_68, e62_71, e62_72, e62_75, e62_76, e62_78, e62_80, e62_83, e62_84, e62_85, e62_86, e62_89, e62_90, p_al0, p_il1, p_cv1_0, p_cv1_1, p_cv1_2, p_cv1_3, p_cv1_4, zK_v, zK_0, WN_ncl, p_cs1_0, p_cs1_1, p_cs1_2, p_cs1_3, p_cs1_4, p_as2, p_c2n, p_c2i, p_c2r, p_push, p_is3, p_il3, p_al2, p_cv0_0, p_cv0_1, p_cv0_2, p_cv0_3, p_cv0_4, p_cge, p_bin, p_cv2_0, p_cv2_1, p_cv2_2, p_cv2_3, p_cv2_4, p_ifne, p_ret0, p_ii3, p_goto, p_cne, p_iflt, p_is4, p_il4, p_ifeq, WN_nx, WN_nrt, WN_ite, t0, t_sh112, t_l3, t_c3_0 hx, t_c3_1 hx, t_c3_2 hx, t_c3_3 hx, t_c3_4 hx, f0, Int.add_zero, f1, f2, f3, f4]
        · rw [if_neg q4]
          rw [if_neg q4] at f4
          simp (disch := first | assumption | exact p_c2i | exact p_c2r | exact p_c2n | omega | ((repeat (first | refine p_a1i.trans ?_ | refine p_a1r.trans ?_)); exact p_a10) | ((repeat (first | refine p_wI ?_ | refine p_wR ?_)); exact p_w0) | decide) only [reduceIte, Int.reduceLT, Int.reduceLE, Int.reduceEq, Int.reduceToNat, Int.reduceAdd, Int.reduceSub, Int.reduceMul, Int.reduceNeg, e62_0, e62_1, e62_2, e62_5, e62_8, e62_9, e62_10, e62_11, e62_12, e62_13, e62_16, e62_19, e62_20, e62_21, e62_22, e62_25, e62_26, e62_27, e62_28, e62_31, e62_34, e62_35, e62_36, e62_37, e62_38, e62_39, e62_40, e62_43, e62_46, e62_47, e62_48, e62_51, e62_52, e62_53, e62_54, e62_55, e62_58, e62_60, e62_63, e62_64, e62_65, e62_68, e62_71, e62_72, e62_75, e62_76, e62_78, e62_80, e62_83, e62_84, e62_85, e62_86, e62_89, e62_90, p_al0, p_il1, p_cv1_0, p_cv1_1, p_cv1_2, p_cv1_3, p_cv1_4, zK_v, zK_0, WN_ncl, p_cs1_0, p_cs1_1, p_cs1_2, p_cs1_3, p_cs1_4, p_as2, p_c2n, p_c2i, p_c2r, p_push, p_is3, p_il3, p_al2, p_cv0_0, p_cv0_1, p_cv0_2, p_cv0_3, p_cv0_4, p_cge, p_bin, p_cv2_0, p_cv2_1, p_cv2_2, p_cv2_3, p_cv2_4, p_ifne, p_ret0, p_ii3, p_goto, p_cne, p_iflt, p_is4, p_il4, p_ifeq, WN_nx, WN_nrt, WN_ite, t0, t_sh112, t_l3, t_c3_0 hx, t_c3_1 hx, t_c3_2 hx, t_c3_3 hx, t_c3_4 hx, f0, Int.add_zero, f1, f2, f3, f4]
theorem t_end116 {s : Nat} (hs : zTt ts tl) (h : zTc σ ts tl) (hx : zTx σ) (hs1 : s ≤ 100) (e0 : sA ts tl s = 116) : WM 62 [.inr (.inl (some 3550)), .inl ((s : Int))] (3565, x, zrho) σ Q = Q (.inl (some (.inl (eO ts tl s)))) (3565, x, zrho) σ := by
  show Wp 62 0 [some (.inr (.inl (some 3550))), some (.inl ((s : Int))), none, none, none] [] _ _ Q = _
  have k := zt_k
  have t0 := fun (Q : ZO → ZT → ZI → Prop) => t_signAt (x := x) (Q := Q) (o := (s : Int)) (i := s) hs h rfl (by omega)
  rw [e0] at t0
  have f0 := fun (Q : ZO → ZT → ZI → Prop) => t_fitL (x := x) (Q := Q) (o := (s : Int)) (i := s) (v := 116) hs h rfl (by omega) (by omega) (by omega) (by omega) (by omega) (by omega)
  rw [if_pos e0] at f0
  unfold eO
  rw [e0]
  have f1 := fun (Q : ZO → ZT → ZI → Prop) => t_fitD (x := x) (Q := Q) (o := (s : Int) + 1) (i := s + 1) hs h (by omega) (by omega)
  have f2 := fun (Q : ZO → ZT → ZI → Prop) => t_fitL (x := x) (Q := Q) (o := (s : Int) + 2) (i := s + 2) (v := 61) hs h (by omega) (by omega) (by omega) (by omega) (by omega) (by omega) (by omega)
  have f3 := fun (Q : ZO → ZT → ZI → Prop) => t_fitT (x := x) (Q := Q) (o := (s : Int) + 3) (i := s + 3) hs h (by omega) (by omega)
  simp only [Int.reduceEq, reduceIte, or_true, true_or, or_false, false_or, or_self]
  by_cases q1 : dA ts tl (s + 1) < 0
  · rw [if_pos q1]
    rw [if_pos q1] at f1
    simp (disch := first | assumption | exact p_c2i | exact p_c2r | exact p_c2n | omega | ((repeat (first | refine p_a1i.trans ?_ | refine p_a1r.trans ?_)); exact p_a10) | ((repeat (first | refine p_wI ?_ | refine p_wR ?_)); exact p_w0) | decide) only [reduceIte, Int.reduceLT, Int.reduceLE, Int.reduceEq, Int.reduceToNat, Int.reduceAdd, Int.reduceSub, Int.reduceMul, Int.reduceNeg, e62_0, e62_1, e62_2, e62_5, e62_8, e62_9, e62_10, e62_11, e62_12, e62_13, e62_16, e62_19, e62_20, e62_21, e62_22, e62_25, e62_26, e62_27, e62_28, e62_31, e62_34, e62_35, e62_36, e62_37, e62_38, e62_39, e62_40, e62_43, e62_46, e62_47, e62_48, e62_51, e62_52, e62_53, e62_54, e62_55, e62_58, e62_60, e62_63, e62_64, e62_65, e62_68, e62_71, e62_72, e62_75, e62_76, e62_78, e62_80, e62_83, e62_84, e62_85, e62_86, e62_89, e62_90, p_al0, p_il1, p_cv1_0, p_cv1_1, p_cv1_2, p_cv1_3, p_cv1_4, zK_v, zK_0, WN_ncl, p_cs1_0, p_cs1_1, p_cs1_2, p_cs1_3, p_cs1_4, p_as2, p_c2n, p_c2i, p_c2r, p_push, p_is3, p_il3, p_al2, p_cv0_0, p_cv0_1, p_cv0_2, p_cv0_3, p_cv0_4, p_cge, p_bin, p_cv2_0, p_cv2_1, p_cv2_2, p_cv2_3, p_cv2_4, p_ifne, p_ret0, p_ii3, p_goto, p_cne, p_iflt, p_is4, p_il4, p_ifeq, WN_nx, WN_nrt, WN_ite, t0, t_sh116, t_l4, t_c4_0 hx, t_c4_1 hx, t_c4_2 hx, t_c4_3 hx, f0, Int.add_zero, f1]
  · rw [if_neg q1]
    rw [if_neg q1] at f1
    by_cases q2 : sA ts tl (s + 2) ≠ 61
    · rw [if_pos q2]
      rw [if_neg q2] at f2
      simp (disch := first | assumption | exact p_c2i | exact p_c2r | exact p_c2n | omega | ((repeat (first | refine p_a1i.trans ?_ | refine p_a1r.trans ?_)); exact p_a10) | ((repeat (first | refine p_wI ?_ | refine p_wR ?_)); exact p_w0) | decide) only [reduceIte, Int.reduceLT, Int.reduceLE, Int.reduceEq, Int.reduceToNat, Int.reduceAdd, Int.reduceSub, Int.reduceMul, Int.reduceNeg, e62_0, e62_1, e62_2, e62_5, e62_8, e62_9, e62_10, e62_11, e62_12, e62_13, e62_16, e62_19, e62_20, e62_21, e62_22, e62_25, e62_26, e62_27, e62_28, e62_31, e62_34, e62_35, e62_36, e62_37, e62_38, e62_39, e62_40, e62_43, e62_46, e62_47, e62_48, e62_51, e62_52, e62_53, e62_54, e62_55, e62_58, e62_60, e62_63, e62_64, e62_65, e62_68, e62_71, e62_72, e62_75, e62_76, e62_78, e62_80, e62_83, e62_84, e62_85, e62_86, e62_89, e62_90, p_al0, p_il1, p_cv1_0, p_cv1_1, p_cv1_2, p_cv1_3, p_cv1_4, zK_v, zK_0, WN_ncl, p_cs1_0, p_cs1_1, p_cs1_2, p_cs1_3, p_cs1_4, p_as2, p_c2n, p_c2i, p_c2r, p_push, p_is3, p_il3, p_al2, p_cv0_0, p_cv0_1, p_cv0_2, p_cv0_3, p_cv0_4, p_cge, p_bin, p_cv2_0, p_cv2_1, p_cv2_2, p_cv2_3, p_cv2_4, p_ifne, p_ret0, p_ii3, p_goto, p_cne, p_iflt, p_is4, p_il4, p_ifeq, WN_nx, WN_nrt, WN_ite, t0, t_sh116, t_l4, t_c4_0 hx, t_c4_1 hx, t_c4_2 hx, t_c4_3 hx, f0, Int.add_zero, f1, f2]
    · rw [if_neg q2]
      rw [if_pos (Classical.not_not.mp q2)] at f2
      by_cases q3 : tIx (sA ts tl (s + 3)) < 0
      · rw [if_pos q3]
        rw [if_pos q3] at f3
        simp (disch := first | assumption | exact p_c2i | exact p_c2r | exact p_c2n | omega | ((repeat (first | refine p_a1i.trans ?_ | refine p_a1r.trans ?_)); exact p_a10) | ((repeat (first | refine p_wI ?_ | refine p_wR ?_)); exact p_w0) | decide) only [reduceIte, Int.reduceLT, Int.reduceLE, Int.reduceEq, Int.reduceToNat, Int.reduceAdd, Int.reduceSub, Int.reduceMul, Int.reduceNeg, e62_0, e62_1, e62_2, e62_5, e62_8, e62_9, e62_10, e62_11, e62_12, e62_13, e62_16, e62_19, e62_20, e62_21, e62_22, e62_25, e62_26, e62_27, e62_28, e62_31, e62_34, e62_35, e62_36, e62_37, e62_38, e62_39, e62_40, e62_43, e62_46, e62_47, e62_48, e62_51, e62_52, e62_53, e62_54, e62_55, e62_58, e62_60, e62_63, e62_64, e62_65, e62_68, e62_71, e62_72, e62_75, e62_76, e62_78, e62_80, e62_83, e62_84, e62_85, e62_86, e62_89, e62_90, p_al0, p_il1, p_cv1_0, p_cv1_1, p_cv1_2, p_cv1_3, p_cv1_4, zK_v, zK_0, WN_ncl, p_cs1_0, p_cs1_1, p_cs1_2, p_cs1_3, p_cs1_4, p_as2, p_c2n, p_c2i, p_c2r, p_push, p_is3, p_il3, p_al2, p_cv0_0, p_cv0_1, p_cv0_2, p_cv0_3, p_cv0_4, p_cge, p_bin, p_cv2_0, p_cv2_1, p_cv2_2, p_cv2_3, p_cv2_4, p_ifne, p_ret0, p_ii3, p_goto, p_cne, p_iflt, p_is4, p_il4, p_ifeq, WN_nx, WN_nrt, WN_ite, t0, t_sh116, t_l4, t_c4_0 hx, t_c4_1 hx, t_c4_2 hx, t_c4_3 hx, f0, Int.add_zero, f1, f2, f3]
      · rw [if_neg q3]
        rw [if_neg q3] at f3
        simp (disch := first | assumption | exact p_c2i | exact p_c2r | exact p_c2n | omega | ((repeat (first | refine p_a1i.trans ?_ | refine p_a1r.trans ?_)); exact p_a10) | ((repeat (first | refine p_wI ?_ | refine p_wR ?_)); exact p_w0) | decide) only [reduceIte, Int.reduceLT, Int.reduceLE, Int.reduceEq, Int.reduceToNat, Int.reduceAdd, Int.reduceSub, Int.reduceMul, Int.reduceNeg, e62_0, e62_1, e62_2, e62_5, e62_8, e62_9, e62_10, e62_11, e62_12, e62_13, e62_16, e62_19, e62_20, e62_21, e62_22, e62_25, e62_26, e62_27, e62_28, e62_31, e62_34, e62_35, e62_36, e62_37, e62_38, e62_39, e62_40, e62_43, e62_46, e62_47, e62_48, e62_51, e62_52, e62_53, e62_54, e62_55, e62_58, e62_60, e62_63, e62_64, e62_65, e62_68, e62_71, e62_72, e62_75, e62_76, e62_78, e62_80, e62_83, e62_84, e62_85, e62_86, e62_89, e62_90, p_al0, p_il1, p_cv1_0, p_cv1_1, p_cv1_2, p_cv1_3, p_cv1_4, zK_v, zK_0, WN_ncl, p_cs1_0, p_cs1_1, p_cs1_2, p_cs1_3, p_cs1_4, p_as2, p_c2n, p_c2i, p_c2r, p_push, p_is3, p_il3, p_al2, p_cv0_0, p_cv0_1, p_cv0_2, p_cv0_3, p_cv0_4, p_cge, p_bin, p_cv2_0, p_cv2_1, p_cv2_2, p_cv2_3, p_cv2_4, p_ifne, p_ret0, p_ii3, p_goto, p_cne, p_iflt, p_is4, p_il4, p_ifeq, WN_nx, WN_nrt, WN_ite, t0, t_sh116, t_l4, t_c4_0 hx, t_c4_1 hx, t_c4_2 hx, t_c4_3 hx, f0, Int.add_zero, f1, f2, f3]
theorem t_end115 {s : Nat} (hs : zTt ts tl) (h : zTc σ ts tl) (hx : zTx σ) (hs1 : s ≤ 100) (e0 : sA ts tl s = 115) : WM 62 [.inr (.inl (some 3550)), .inl ((s : Int))] (3565, x, zrho) σ Q = Q (.inl (some (.inl (eO ts tl s)))) (3565, x, zrho) σ := by
  show Wp 62 0 [some (.inr (.inl (some 3550))), some (.inl ((s : Int))), none, none, none] [] _ _ Q = _
  have k := zt_k
  have t0 := fun (Q : ZO → ZT → ZI → Prop) => t_signAt (x := x) (Q := Q) (o := (s : Int)) (i := s) hs h rfl (by omega)
  rw [e0] at t0
  have f0 := fun (Q : ZO → ZT → ZI → Prop) => t_fitL (x := x) (Q := Q) (o := (s : Int)) (i := s) (v := 115) hs h rfl (by omega) (by omega) (by omega) (by omega) (by omega) (by omega)
  rw [if_pos e0] at f0
  unfold eO
  rw [e0]
  have f1 := fun (Q : ZO → ZT → ZI → Prop) => t_fitD (x := x) (Q := Q) (o := (s : Int) + 1) (i := s + 1) hs h (by omega) (by omega)
  have g2 := fun (Q : ZO → ZT → ZI → Prop) => t_digitAt (x := x) (Q := Q) (o := (s : Int) + 2) (i := s + 2) hs h (by omega) (by omega)
  have b2 := dA_in (ts := ts) (tl := tl) (s + 2)
  simp only [Int.reduceEq, reduceIte, or_true, true_or, or_false, false_or, or_self]
  by_cases q1 : dA ts tl (s + 1) < 0
  · rw [if_pos q1]
    rw [if_pos q1] at f1
    simp (disch := first | assumption | exact p_c2i | exact p_c2r | exact p_c2n | omega | ((repeat (first | refine p_a1i.trans ?_ | refine p_a1r.trans ?_)); exact p_a10) | ((repeat (first | refine p_wI ?_ | refine p_wR ?_)); exact p_w0) | decide) only [reduceIte, Int.reduceLT, Int.reduceLE, Int.reduceEq, Int.reduceToNat, Int.reduceAdd, Int.reduceSub, Int.reduceMul, Int.reduceNeg, e62_0, e62_1, e62_2, e62_5, e62_8, e62_9, e62_10, e62_11, e62_12, e62_13, e62_16, e62_19, e62_20, e62_21, e62_22, e62_25, e62_26, e62_27, e62_28, e62_31, e62_34, e62_35, e62_36, e62_37, e62_38, e62_39, e62_40, e62_43, e62_46, e62_47, e62_48, e62_51, e62_52, e62_53, e62_54, e62_55, e62_58, e62_60, e62_63, e62_64, e62_65, e62_68, e62_71, e62_72, e62_75, e62_76, e62_78, e62_80, e62_83, e62_84, e62_85, e62_86, e62_89, e62_90, p_al0, p_il1, p_cv1_0, p_cv1_1, p_cv1_2, p_cv1_3, p_cv1_4, zK_v, zK_0, WN_ncl, p_cs1_0, p_cs1_1, p_cs1_2, p_cs1_3, p_cs1_4, p_as2, p_c2n, p_c2i, p_c2r, p_push, p_is3, p_il3, p_al2, p_cv0_0, p_cv0_1, p_cv0_2, p_cv0_3, p_cv0_4, p_cge, p_bin, p_cv2_0, p_cv2_1, p_cv2_2, p_cv2_3, p_cv2_4, p_ifne, p_ret0, p_ii3, p_goto, p_cne, p_iflt, p_is4, p_il4, p_ifeq, WN_nx, WN_nrt, WN_ite, t0, t_sh115, t_l7, t_c7_0 hx, t_c7_1 hx, f0, Int.add_zero, f1]
  · rw [if_neg q1]
    rw [if_neg q1] at f1
    by_cases q2 : dA ts tl (s + 2) < 0
    · have d2 : (dA ts tl (s + 2) < 0) = True := eq_true q2
      rw [if_pos q2]
      simp (disch := first | assumption | exact p_c2i | exact p_c2r | exact p_c2n | omega | ((repeat (first | refine p_a1i.trans ?_ | refine p_a1r.trans ?_)); exact p_a10) | ((repeat (first | refine p_wI ?_ | refine p_wR ?_)); exact p_w0) | decide) only [reduceIte, Int.reduceLT, Int.reduceLE, Int.reduceEq, Int.reduceToNat, Int.reduceAdd, Int.reduceSub, Int.reduceMul, Int.reduceNeg, e62_0, e62_1, e62_2, e62_5, e62_8, e62_9, e62_10, e62_11, e62_12, e62_13, e62_16, e62_19, e62_20, e62_21, e62_22, e62_25, e62_26, e62_27, e62_28, e62_31, e62_34, e62_35, e62_36, e62_37, e62_38, e62_39, e62_40, e62_43, e62_46, e62_47, e62_48, e62_51, e62_52, e62_53, e62_54, e62_55, e62_58, e62_60, e62_63, e62_64, e62_65, e62_68, e62_71, e62_72, e62_75, e62_76, e62_78, e62_80, e62_83, e62_84, e62_85, e62_86, e62_89, e62_90, p_al0, p_il1, p_cv1_0, p_cv1_1, p_cv1_2, p_cv1_3, p_cv1_4, zK_v, zK_0, WN_ncl, p_cs1_0, p_cs1_1, p_cs1_2, p_cs1_3, p_cs1_4, p_as2, p_c2n, p_c2i, p_c2r, p_push, p_is3, p_il3, p_al2, p_cv0_0, p_cv0_1, p_cv0_2, p_cv0_3, p_cv0_4, p_cge, p_bin, p_cv2_0, p_cv2_1, p_cv2_2, p_cv2_3, p_cv2_4, p_ifne, p_ret0, p_ii3, p_goto, p_cne, p_iflt, p_is4, p_il4, p_ifeq, WN_nx, WN_nrt, WN_ite, t0, t_sh115, t_l7, t_c7_0 hx, t_c7_1 hx, f0, Int.add_zero, f1, g2, d2]
    · have d2 : (dA ts tl (s + 2) < 0) = False := eq_false q2
      rw [if_neg q2]
      have e3 : (s : Int) + 2 + 1 = (s : Int) + 3 := by omega
      simp (disch := first | assumption | exact p_c2i | exact p_c2r | exact p_c2n | omega | ((repeat (first | refine p_a1i.trans ?_ | refine p_a1r.trans ?_)); exact p_a10) | ((repeat (first | refine p_wI ?_ | refine p_wR ?_)); exact p_w0) | decide) only [reduceIte, Int.reduceLT, Int.reduceLE, Int.reduceEq, Int.reduceToNat, Int.reduceAdd, Int.reduceSub, Int.reduceMul, Int.reduceNeg, e62_0, e62_1, e62_2, e62_5, e62_8, e62_9, e62_10, e62_11, e62_12, e62_13, e62_16, e62_19, e62_20, e62_21, e62_22, e62_25, e62_26, e62_27, e62_28, e62_31, e62_34, e62_35, e62_36, e62_37, e62_38, e62_39, e62_40, e62_43, e62_46, e62_47, e62_48, e62_51, e62_52, e62_53, e62_54, e62_55, e62_58, e62_60, e62_63, e62_64, e62_65, e62_68, e62_71, e62_72, e62_75, e62_76, e62_78, e62_80, e62_83, e62_84, e62_85, e62_86, e62_89, e62_90, p_al0, p_il1, p_cv1_0, p_cv1_1, p_cv1_2, p_cv1_3, p_cv1_4, zK_v, zK_0, WN_ncl, p_cs1_0, p_cs1_1, p_cs1_2, p_cs1_3, p_cs1_4, p_as2, p_c2n, p_c2i, p_c2r, p_push, p_is3, p_il3, p_al2, p_cv0_0, p_cv0_1, p_cv0_2, p_cv0_3, p_cv0_4, p_cge, p_bin, p_cv2_0, p_cv2_1, p_cv2_2, p_cv2_3, p_cv2_4, p_ifne, p_ret0, p_ii3, p_goto, p_cne, p_iflt, p_is4, p_il4, p_ifeq, WN_nx, WN_nrt, WN_ite, t0, t_sh115, t_l7, t_c7_0 hx, t_c7_1 hx, f0, Int.add_zero, f1, g2, d2, e3]
theorem t_end98 {s : Nat} (hs : zTt ts tl) (h : zTc σ ts tl) (hx : zTx σ) (hs1 : s ≤ 100) (e0 : sA ts tl s = 98) : WM 62 [.inr (.inl (some 3550)), .inl ((s : Int))] (3565, x, zrho) σ Q = Q (.inl (some (.inl (eO ts tl s)))) (3565, x, zrho) σ := by
  show Wp 62 0 [some (.inr (.inl (some 3550))), some (.inl ((s : Int))), none, none, none] [] _ _ Q = _
  have k := zt_k
  have t0 := fun (Q : ZO → ZT → ZI → Prop) => t_signAt (x := x) (Q := Q) (o := (s : Int)) (i := s) hs h rfl (by omega)
  rw [e0] at t0
  have f0 := fun (Q : ZO → ZT → ZI → Prop) => t_fitL (x := x) (Q := Q) (o := (s : Int)) (i := s) (v := 98) hs h rfl (by omega) (by omega) (by omega) (by omega) (by omega) (by omega)
  rw [if_pos e0] at f0
  unfold eO
  rw [e0]
  simp only [Int.reduceEq, reduceIte, or_true, true_or, or_false, false_or, or_self]
  simp (disch := first | assumption | exact p_c2i | exact p_c2r | exact p_c2n | omega | ((repeat (first | refine p_a1i.trans ?_ | refine p_a1r.trans ?_)); exact p_a10) | ((repeat (first | refine p_wI ?_ | refine p_wR ?_)); exact p_w0) | decide) only [reduceIte, Int.reduceLT, Int.reduceLE, Int.reduceEq, Int.reduceToNat, Int.reduceAdd, Int.reduceSub, Int.reduceMul, Int.reduceNeg, e62_0, e62_1, e62_2, e62_5, e62_8, e62_9, e62_10, e62_11, e62_12, e62_13, e62_16, e62_19, e62_20, e62_21, e62_22, e62_25, e62_26, e62_27, e62_28, e62_31, e62_34, e62_35, e62_36, e62_37, e62_38, e62_39, e62_40, e62_43, e62_46, e62_47, e62_48, e62_51, e62_52, e62_53, e62_54, e62_55, e62_58, e62_60, e62_63, e62_64, e62_65, e62_68, e62_71, e62_72, e62_75, e62_76, e62_78, e62_80, e62_83, e62_84, e62_85, e62_86, e62_89, e62_90, p_al0, p_il1, p_cv1_0, p_cv1_1, p_cv1_2, p_cv1_3, p_cv1_4, zK_v, zK_0, WN_ncl, p_cs1_0, p_cs1_1, p_cs1_2, p_cs1_3, p_cs1_4, p_as2, p_c2n, p_c2i, p_c2r, p_push, p_is3, p_il3, p_al2, p_cv0_0, p_cv0_1, p_cv0_2, p_cv0_3, p_cv0_4, p_cge, p_bin, p_cv2_0, p_cv2_1, p_cv2_2, p_cv2_3, p_cv2_4, p_ifne, p_ret0, p_ii3, p_goto, p_cne, p_iflt, p_is4, p_il4, p_ifeq, WN_nx, WN_nrt, WN_ite, t0, t_sh98, t_l8, t_c8_0 hx, f0, Int.add_zero]
theorem t_end120 {s : Nat} (hs : zTt ts tl) (h : zTc σ ts tl) (hx : zTx σ) (hs1 : s ≤ 100) (e0 : sA ts tl s = 120) : WM 62 [.inr (.inl (some 3550)), .inl ((s : Int))] (3565, x, zrho) σ Q = Q (.inl (some (.inl (eO ts tl s)))) (3565, x, zrho) σ := by
  show Wp 62 0 [some (.inr (.inl (some 3550))), some (.inl ((s : Int))), none, none, none] [] _ _ Q = _
  have k := zt_k
  have t0 := fun (Q : ZO → ZT → ZI → Prop) => t_signAt (x := x) (Q := Q) (o := (s : Int)) (i := s) hs h rfl (by omega)
  rw [e0] at t0
  have f0 := fun (Q : ZO → ZT → ZI → Prop) => t_fitL (x := x) (Q := Q) (o := (s : Int)) (i := s) (v := 120) hs h rfl (by omega) (by omega) (by omega) (by omega) (by omega) (by omega)
  rw [if_pos e0] at f0
  unfold eO
  rw [e0]
  have f1 := fun (Q : ZO → ZT → ZI → Prop) => t_fitD (x := x) (Q := Q) (o := (s : Int) + 1) (i := s + 1) hs h (by omega) (by omega)
  simp only [Int.reduceEq, reduceIte, or_true, true_or, or_false, false_or, or_self]
  by_cases q1 : dA ts tl (s + 1) < 0
  · rw [if_pos q1]
    rw [if_pos q1] at f1
    simp (disch := first | assumption | exact p_c2i | exact p_c2r | exact p_c2n | omega | ((repeat (first | refine p_a1i.trans ?_ | refine p_a1r.trans ?_)); exact p_a10) | ((repeat (first | refine p_wI ?_ | refine p_wR ?_)); exact p_w0) | decide) only [reduceIte, Int.reduceLT, Int.reduceLE, Int.reduceEq, Int.reduceToNat, Int.reduceAdd, Int.reduceSub, Int.reduceMul, Int.reduceNeg, e62_0, e62_1, e62_2, e62_5, e62_8, e62_9, e62_10, e62_11, e62_12, e62_13, e62_16, e62_19, e62_20, e62_21, e62_22, e62_25, e62_26, e62_27, e62_28, e62_31, e62_34, e62_35, e62_36, e62_37, e62_38, e62_39, e62_40, e62_43, e62_46, e62_47, e62_48, e62_51, e62_52, e62_53, e62_54, e62_55, e62_58, e62_60, e62_63, e62_64, e62_65, e62_68, e62_71, e62_72, e62_75, e62_76, e62_78, e62_80, e62_83, e62_84, e62_85, e62_86, e62_89, e62_90, p_al0, p_il1, p_cv1_0, p_cv1_1, p_cv1_2, p_cv1_3, p_cv1_4, zK_v, zK_0, WN_ncl, p_cs1_0, p_cs1_1, p_cs1_2, p_cs1_3, p_cs1_4, p_as2, p_c2n, p_c2i, p_c2r, p_push, p_is3, p_il3, p_al2, p_cv0_0, p_cv0_1, p_cv0_2, p_cv0_3, p_cv0_4, p_cge, p_bin, p_cv2_0, p_cv2_1, p_cv2_2, p_cv2_3, p_cv2_4, p_ifne, p_ret0, p_ii3, p_goto, p_cne, p_iflt, p_is4, p_il4, p_ifeq, WN_nx, WN_nrt, WN_ite, t0, t_sh120, t_l2, t_c2_0 hx, t_c2_1 hx, f0, Int.add_zero, f1]
  · rw [if_neg q1]
    rw [if_neg q1] at f1
    simp (disch := first | assumption | exact p_c2i | exact p_c2r | exact p_c2n | omega | ((repeat (first | refine p_a1i.trans ?_ | refine p_a1r.trans ?_)); exact p_a10) | ((repeat (first | refine p_wI ?_ | refine p_wR ?_)); exact p_w0) | decide) only [reduceIte, Int.reduceLT, Int.reduceLE, Int.reduceEq, Int.reduceToNat, Int.reduceAdd, Int.reduceSub, Int.reduceMul, Int.reduceNeg, e62_0, e62_1, e62_2, e62_5, e62_8, e62_9, e62_10, e62_11, e62_12, e62_13, e62_16, e62_19, e62_20, e62_21, e62_22, e62_25, e62_26, e62_27, e62_28, e62_31, e62_34, e62_35, e62_36, e62_37, e62_38, e62_39, e62_40, e62_43, e62_46, e62_47, e62_48, e62_51, e62_52, e62_53, e62_54, e62_55, e62_58, e62_60, e62_63, e62_64, e62_65, e62_68, e62_71, e62_72, e62_75, e62_76, e62_78, e62_80, e62_83, e62_84, e62_85, e62_86, e62_89, e62_90, p_al0, p_il1, p_cv1_0, p_cv1_1, p_cv1_2, p_cv1_3, p_cv1_4, zK_v, zK_0, WN_ncl, p_cs1_0, p_cs1_1, p_cs1_2, p_cs1_3, p_cs1_4, p_as2, p_c2n, p_c2i, p_c2r, p_push, p_is3, p_il3, p_al2, p_cv0_0, p_cv0_1, p_cv0_2, p_cv0_3, p_cv0_4, p_cge, p_bin, p_cv2_0, p_cv2_1, p_cv2_2, p_cv2_3, p_cv2_4, p_ifne, p_ret0, p_ii3, p_goto, p_cne, p_iflt, p_is4, p_il4, p_ifeq, WN_nx, WN_nrt, WN_ite, t0, t_sh120, t_l2, t_c2_0 hx, t_c2_1 hx, f0, Int.add_zero, f1]
theorem t_end107 {s : Nat} (hs : zTt ts tl) (h : zTc σ ts tl) (hx : zTx σ) (hs1 : s ≤ 100) (e0 : sA ts tl s = 107) : WM 62 [.inr (.inl (some 3550)), .inl ((s : Int))] (3565, x, zrho) σ Q = Q (.inl (some (.inl (eO ts tl s)))) (3565, x, zrho) σ := by
  show Wp 62 0 [some (.inr (.inl (some 3550))), some (.inl ((s : Int))), none, none, none] [] _ _ Q = _
  have k := zt_k
  have t0 := fun (Q : ZO → ZT → ZI → Prop) => t_signAt (x := x) (Q := Q) (o := (s : Int)) (i := s) hs h rfl (by omega)
  rw [e0] at t0
  have f0 := fun (Q : ZO → ZT → ZI → Prop) => t_fitL (x := x) (Q := Q) (o := (s : Int)) (i := s) (v := 107) hs h rfl (by omega) (by omega) (by omega) (by omega) (by omega) (by omega)
  rw [if_pos e0] at f0
  unfold eO
  rw [e0]
  have f1 := fun (Q : ZO → ZT → ZI → Prop) => t_fitD (x := x) (Q := Q) (o := (s : Int) + 1) (i := s + 1) hs h (by omega) (by omega)
  simp only [Int.reduceEq, reduceIte, or_true, true_or, or_false, false_or, or_self]
  by_cases q1 : dA ts tl (s + 1) < 0
  · rw [if_pos q1]
    rw [if_pos q1] at f1
    simp (disch := first | assumption | exact p_c2i | exact p_c2r | exact p_c2n | omega | ((repeat (first | refine p_a1i.trans ?_ | refine p_a1r.trans ?_)); exact p_a10) | ((repeat (first | refine p_wI ?_ | refine p_wR ?_)); exact p_w0) | decide) only [reduceIte, Int.reduceLT, Int.reduceLE, Int.reduceEq, Int.reduceToNat, Int.reduceAdd, Int.reduceSub, Int.reduceMul, Int.reduceNeg, e62_0, e62_1, e62_2, e62_5, e62_8, e62_9, e62_10, e62_11, e62_12, e62_13, e62_16, e62_19, e62_20, e62_21, e62_22, e62_25, e62_26, e62_27, e62_28, e62_31, e62_34, e62_35, e62_36, e62_37, e62_38, e62_39, e62_40, e62_43, e62_46, e62_47, e62_48, e62_51, e62_52, e62_53, e62_54, e62_55, e62_58, e62_60, e62_63, e62_64, e62_65, e62_68, e62_71, e62_72, e62_75, e62_76, e62_78, e62_80, e62_83, e62_84, e62_85, e62_86, e62_89, e62_90, p_al0, p_il1, p_cv1_0, p_cv1_1, p_cv1_2, p_cv1_3, p_cv1_4, zK_v, zK_0, WN_ncl, p_cs1_0, p_cs1_1, p_cs1_2, p_cs1_3, p_cs1_4, p_as2, p_c2n, p_c2i, p_c2r, p_push, p_is3, p_il3, p_al2, p_cv0_0, p_cv0_1, p_cv0_2, p_cv0_3, p_cv0_4, p_cge, p_bin, p_cv2_0, p_cv2_1, p_cv2_2, p_cv2_3, p_cv2_4, p_ifne, p_ret0, p_ii3, p_goto, p_cne, p_iflt, p_is4, p_il4, p_ifeq, WN_nx, WN_nrt, WN_ite, t0, t_sh107, t_l5, t_c5_0 hx, t_c5_1 hx, f0, Int.add_zero, f1]
  · rw [if_neg q1]
    rw [if_neg q1] at f1
    simp (disch := first | assumption | exact p_c2i | exact p_c2r | exact p_c2n | omega | ((repeat (first | refine p_a1i.trans ?_ | refine p_a1r.trans ?_)); exact p_a10) | ((repeat (first | refine p_wI ?_ | refine p_wR ?_)); exact p_w0) | decide) only [reduceIte, Int.reduceLT, Int.reduceLE, Int.reduceEq, Int.reduceToNat, Int.reduceAdd, Int.reduceSub, Int.reduceMul, Int.reduceNeg, e62_0, e62_1, e62_2, e62_5, e62_8, e62_9, e62_10, e62_11, e62_12, e62_13, e62_16, e62_19, e62_20, e62_21, e62_22, e62_25, e62_26, e62_27, e62_28, e62_31, e62_34, e62_35, e62_36, e62_37, e62_38, e62_39, e62_40, e62_43, e62_46, e62_47, e62_48, e62_51, e62_52, e62_53, e62_54, e62_55, e62_58, e62_60, e62_63, e62_64, e62_65, e62_68, e62_71, e62_72, e62_75, e62_76, e62_78, e62_80, e62_83, e62_84, e62_85, e62_86, e62_89, e62_90, p_al0, p_il1, p_cv1_0, p_cv1_1, p_cv1_2, p_cv1_3, p_cv1_4, zK_v, zK_0, WN_ncl, p_cs1_0, p_cs1_1, p_cs1_2, p_cs1_3, p_cs1_4, p_as2, p_c2n, p_c2i, p_c2r, p_push, p_is3, p_il3, p_al2, p_cv0_0, p_cv0_1, p_cv0_2, p_cv0_3, p_cv0_4, p_cge, p_bin, p_cv2_0, p_cv2_1, p_cv2_2, p_cv2_3, p_cv2_4, p_ifne, p_ret0, p_ii3, p_goto, p_cne, p_iflt, p_is4, p_il4, p_ifeq, WN_nx, WN_nrt, WN_ite, t0, t_sh107, t_l5, t_c5_0 hx, t_c5_1 hx, f0, Int.add_zero, f1]
theorem t_end109 {s : Nat} (hs : zTt ts tl) (h : zTc σ ts tl) (hx : zTx σ) (hs1 : s ≤ 100) (e0 : sA ts tl s = 109) : WM 62 [.inr (.inl (some 3550)), .inl ((s : Int))] (3565, x, zrho) σ Q = Q (.inl (some (.inl (eO ts tl s)))) (3565, x, zrho) σ := by
  show Wp 62 0 [some (.inr (.inl (some 3550))), some (.inl ((s : Int))), none, none, none] [] _ _ Q = _
  have k := zt_k
  have t0 := fun (Q : ZO → ZT → ZI → Prop) => t_signAt (x := x) (Q := Q) (o := (s : Int)) (i := s) hs h rfl (by omega)
  rw [e0] at t0
  have f0 := fun (Q : ZO → ZT → ZI → Prop) => t_fitL (x := x) (Q := Q) (o := (s : Int)) (i := s) (v := 109) hs h rfl (by omega) (by omega) (by omega) (by omega) (by omega) (by omega)
  rw [if_pos e0] at f0
  unfold eO
  rw [e0]
  have f1 := fun (Q : ZO → ZT → ZI → Prop) => t_fitD (x := x) (Q := Q) (o := (s : Int) + 1) (i := s + 1) hs h (by omega) (by omega)
  simp only [Int.reduceEq, reduceIte, or_true, true_or, or_false, false_or, or_self]
  by_cases q1 : dA ts tl (s + 1) < 0
  · rw [if_pos q1]
    rw [if_pos q1] at f1
    simp (disch := first | assumption | exact p_c2i | exact p_c2r | exact p_c2n | omega | ((repeat (first | refine p_a1i.trans ?_ | refine p_a1r.trans ?_)); exact p_a10) | ((repeat (first | refine p_wI ?_ | refine p_wR ?_)); exact p_w0) | decide) only [reduceIte, Int.reduceLT, Int.reduceLE, Int.reduceEq, Int.reduceToNat, Int.reduceAdd, Int.reduceSub, Int.reduceMul, Int.reduceNeg, e62_0, e62_1, e62_2, e62_5, e62_8, e62_9, e62_10, e62_11, e62_12, e62_13, e62_16, e62_19, e62_20, e62_21, e62_22, e62_25, e62_26, e62_27, e62_28, e62_31, e62_34, e62_35, e62_36, e62_37, e62_38, e62_39, e62_40, e62_43, e62_46, e62_47, e62_48, e62_51, e62_52, e62_53, e62_54, e62_55, e62_58, e62_60, e62_63, e62_64, e62_65, e62_68, e62_71, e62_72, e62_75, e62_76, e62_78, e62_80, e62_83, e62_84, e62_85, e62_86, e62_89, e62_90, p_al0, p_il1, p_cv1_0, p_cv1_1, p_cv1_2, p_cv1_3, p_cv1_4, zK_v, zK_0, WN_ncl, p_cs1_0, p_cs1_1, p_cs1_2, p_cs1_3, p_cs1_4, p_as2, p_c2n, p_c2i, p_c2r, p_push, p_is3, p_il3, p_al2, p_cv0_0, p_cv0_1, p_cv0_2, p_cv0_3, p_cv0_4, p_cge, p_bin, p_cv2_0, p_cv2_1, p_cv2_2, p_cv2_3, p_cv2_4, p_ifne, p_ret0, p_ii3, p_goto, p_cne, p_iflt, p_is4, p_il4, p_ifeq, WN_nx, WN_nrt, WN_ite, t0, t_sh109, t_l6, t_c6_0 hx, t_c6_1 hx, f0, Int.add_zero, f1]
  · rw [if_neg q1]
    rw [if_neg q1] at f1
    simp (disch := first | assumption | exact p_c2i | exact p_c2r | exact p_c2n | omega | ((repeat (first | refine p_a1i.trans ?_ | refine p_a1r.trans ?_)); exact p_a10) | ((repeat (first | refine p_wI ?_ | refine p_wR ?_)); exact p_w0) | decide) only [reduceIte, Int.reduceLT, Int.reduceLE, Int.reduceEq, Int.reduceToNat, Int.reduceAdd, Int.reduceSub, Int.reduceMul, Int.reduceNeg, e62_0, e62_1, e62_2, e62_5, e62_8, e62_9, e62_10, e62_11, e62_12, e62_13, e62_16, e62_19, e62_20, e62_21, e62_22, e62_25, e62_26, e62_27, e62_28, e62_31, e62_34, e62_35, e62_36, e62_37, e62_38, e62_39, e62_40, e62_43, e62_46, e62_47, e62_48, e62_51, e62_52, e62_53, e62_54, e62_55, e62_58, e62_60, e62_63, e62_64, e62_65, e62_68, e62_71, e62_72, e62_75, e62_76, e62_78, e62_80, e62_83, e62_84, e62_85, e62_86, e62_89, e62_90, p_al0, p_il1, p_cv1_0, p_cv1_1, p_cv1_2, p_cv1_3, p_cv1_4, zK_v, zK_0, WN_ncl, p_cs1_0, p_cs1_1, p_cs1_2, p_cs1_3, p_cs1_4, p_as2, p_c2n, p_c2i, p_c2r, p_push, p_is3, p_il3, p_al2, p_cv0_0, p_cv0_1, p_cv0_2, p_cv0_3, p_cv0_4, p_cge, p_bin, p_cv2_0, p_cv2_1, p_cv2_2, p_cv2_3, p_cv2_4, p_ifne, p_ret0, p_ii3, p_goto, p_cne, p_iflt, p_is4, p_il4, p_ifeq, WN_nx, WN_nrt, WN_ite, t0, t_sh109, t_l6, t_c6_0 hx, t_c6_1 hx, f0, Int.add_zero, f1]
theorem t_endz {s : Nat} (hs : zTt ts tl) (h : zTc σ ts tl) (hx : zTx σ) (hs1 : s ≤ 100) (c104 : sA ts tl s ≠ 104) (c112 : sA ts tl s ≠ 112) (c116 : sA ts tl s ≠ 116) (c115 : sA ts tl s ≠ 115) (c98 : sA ts tl s ≠ 98) (c120 : sA ts tl s ≠ 120) (c107 : sA ts tl s ≠ 107) (c109 : sA ts tl s ≠ 109) : WM 62 [.inr (.inl (some 3550)), .inl ((s : Int))] (3565, x, zrho) σ Q = Q (.inl (some (.inl (eO ts tl s)))) (3565, x, zrho) σ := by
  show Wp 62 0 [some (.inr (.inl (some 3550))), some (.inl ((s : Int))), none, none, none] [] _ _ Q = _
  have k := zt_k
  have b := sA_in hs s
  have t0 := fun (Q : ZO → ZT → ZI → Prop) => t_signAt (x := x) (Q := Q) (o := (s : Int)) (i := s) hs h rfl (by omega)
  have f0 := fun (Q : ZO → ZT → ZI → Prop) => t_fitZ (x := x) (Q := Q) (o := (s : Int)) (i := s) hs h rfl (by omega)
  have sh := fun (Q : ZO → ZT → ZI → Prop) (θ : ZT) => t_shz (θ := θ) (σ := σ) (Q := Q) (c := sA ts tl s) (by omega) c104 c112 c116 c115 c98 c120 c107 c109
  unfold eO
  rw [if_neg c104, if_neg c112, if_neg c116, if_neg c115, if_neg c98, if_neg (fun z => z.elim c120 (fun z => z.elim c107 c109))]
  simp (disch := first | assumption | exact p_c2i | exact p_c2r | exact p_c2n | omega | ((repeat (first | refine p_a1i.trans ?_ | refine p_a1r.trans ?_)); exact p_a10) | ((repeat (first | refine p_wI ?_ | refine p_wR ?_)); exact p_w0) | decide) only [reduceIte, Int.reduceLT, Int.reduceLE, Int.reduceEq, Int.reduceToNat, Int.reduceAdd, Int.reduceSub, Int.reduceMul, Int.reduceNeg, e62_0, e62_1, e62_2, e62_5, e62_8, e62_9, e62_10, e62_11, e62_12, e62_13, e62_16, e62_19, e62_20, e62_21, e62_22, e62_25, e62_26, e62_27, e62_28, e62_31, e62_34, e62_35, e62_36, e62_37, e62_38, e62_39, e62_40, e62_43, e62_46, e62_47, e62_48, e62_51, e62_52, e62_53, e62_54, e62_55, e62_58, e62_60, e62_63, e62_64, e62_65, e62_68, e62_71, e62_72, e62_75, e62_76, e62_78, e62_80, e62_83, e62_84, e62_85, e62_86, e62_89, e62_90, p_al0, p_il1, p_cv1_0, p_cv1_1, p_cv1_2, p_cv1_3, p_cv1_4, zK_v, zK_0, WN_ncl, p_cs1_0, p_cs1_1, p_cs1_2, p_cs1_3, p_cs1_4, p_as2, p_c2n, p_c2i, p_c2r, p_push, p_is3, p_il3, p_al2, p_cv0_0, p_cv0_1, p_cv0_2, p_cv0_3, p_cv0_4, p_cge, p_bin, p_cv2_0, p_cv2_1, p_cv2_2, p_cv2_3, p_cv2_4, p_ifne, p_ret0, p_ii3, p_goto, p_cne, p_iflt, p_is4, p_il4, p_ifeq, WN_nx, WN_nrt, WN_ite, t0, sh, t_l9, t_c9_0 hx, f0, Int.add_zero]
theorem t_endOf {s : Nat} (hs : zTt ts tl) (h : zTc σ ts tl) (hx : zTx σ) (hs1 : s ≤ 100) : WM 62 [.inr (.inl (some 3550)), .inl ((s : Int))] (3565, x, zrho) σ Q = Q (.inl (some (.inl (eO ts tl s)))) (3565, x, zrho) σ := by
  by_cases c104 : sA ts tl s = 104
  · exact t_end104 hs h hx hs1 c104
  by_cases c112 : sA ts tl s = 112
  · exact t_end112 hs h hx hs1 c112
  by_cases c116 : sA ts tl s = 116
  · exact t_end116 hs h hx hs1 c116
  by_cases c115 : sA ts tl s = 115
  · exact t_end115 hs h hx hs1 c115
  by_cases c98 : sA ts tl s = 98
  · exact t_end98 hs h hx hs1 c98
  by_cases c120 : sA ts tl s = 120
  · exact t_end120 hs h hx hs1 c120
  by_cases c107 : sA ts tl s = 107
  · exact t_end107 hs h hx hs1 c107
  by_cases c109 : sA ts tl s = 109
  · exact t_end109 hs h hx hs1 c109
  exact t_endz hs h hx hs1 c104 c112 c116 c115 c98 c120 c107 c109
end
