/-! THE LAW: its loop -/
section
variable {σ s0 : ZI} {Q : ZO → ZT → ZI → Prop} {x i : Nat} {N : Int} {l5 l6 l7 l8 : Option ZV}
theorem t_lawS (hI : zInv s0 N σ) (hN0 : 0 ≤ N) (hN : N ≤ 60000000) (hl : 4 * (i : Int) + 3 < s0 23 0) (hl2 : s0 23 0 ≤ 2048) (hs : ∀ k, zi3 (s0 0 k)) (hz : zTx s0) (K : ∀ (σ' : ZI) (x' : Nat) (l5 l6 l7 l8 : Option ZV), zInv s0 (N + 20000) σ' → x' ≤ x + 1 → Wp 262 2277 [some (.inr (.inl (some 0))), some (.inr (.inl (some 100))), some (.inr (.inl (some 3553))), some (.inr (.inl (some 3564))), some (.inl (4 * (i : Int))), l5, l6, l7, l8] [] (3565, x', zrho) σ' Q) : Wp 262 32 [some (.inr (.inl (some 0))), some (.inr (.inl (some 100))), some (.inr (.inl (some 3553))), some (.inr (.inl (some 3564))), some (.inl (4 * (i : Int))), l5, l6, l7, l8] [] (3565, x, zrho) σ Q := by
  have hH := hI.2.2.2.2.2.2.2
  have k20 : zkd 0 = 20 := rfl
  have gp : ∀ k, σ 0 k = s0 0 k := fun k => congrFun (hH.2 0 (by omega)) k
  have c23 : σ 23 0 = s0 23 0 := congrFun (hH.2 23 (by omega)) 0
  have e0 : (4 * (i : Int)).toNat = 4 * i := by omega
  simp (disch := first | assumption | exact p_c2i | exact p_c2r | exact p_c2n | omega | ((repeat (first | refine p_a1i.trans ?_ | refine p_a1r.trans ?_)); exact p_a10) | ((repeat (first | refine p_wI ?_ | refine p_wR ?_)); exact p_w0) | decide) only [reduceIte, Int.reduceLT, Int.reduceLE, Int.reduceEq, Int.reduceToNat, Int.reduceAdd, Int.reduceSub, Int.reduceMul, Int.reduceNeg, e262_32, e262_33, e262_35, e262_36, e262_38, p_al0, p_il4, p_sald, p_push, p_bin, WN_nx, WN_nrt, WN_ite, gp, e0]
  have vb1 : -2147483648 ≤ z_and (s0 0 (4 * i)) 63 := Int32.le_toInt _
  have vb2 : z_and (s0 0 (4 * i)) 63 < 2147483648 := Int32.toInt_lt _
  generalize z_and (s0 0 (4 * i)) 63 = v at vb1 vb2 ⊢
  by_cases c0 : v = 0
  · subst c0
    have sw : zsw 0 2277 [0, 208, 1, 288, 2, 344, 3, 400, 4, 468, 5, 548, 6, 604, 7, 672, 8, 740, 9, 808, 10, 864, 11, 908, 12, 959, 13, 1015, 14, 1083, 15, 1139, 16, 1195, 17, 1251, 18, 1319, 19, 1375, 20, 1443, 21, 1499, 22, 1543, 23, 1599, 24, 1655, 25, 1711, 26, 1767, 27, 1780, 28, 1836, 29, 1894, 30, 1938, 31, 1951, 32, 2023, 33, 2079, 34, 2092, 35, 2133, 36, 2176, 37, 2220, 38, 2233] = 208 := rfl
    simp (disch := first | assumption | exact p_c2i | exact p_c2r | exact p_c2n | omega | ((repeat (first | refine p_a1i.trans ?_ | refine p_a1r.trans ?_)); exact p_a10) | ((repeat (first | refine p_wI ?_ | refine p_wR ?_)); exact p_w0) | decide) only [reduceIte, Int.reduceLT, Int.reduceLE, Int.reduceEq, Int.reduceToNat, Int.reduceAdd, Int.reduceSub, Int.reduceMul, Int.reduceNeg, e262_39, p_sw, WN_nx, WN_nrt, WN_ite, sw]
    exact t_law0 hI hN0 hN hl hl2 hs hz K
  by_cases c1 : v = 1
  · subst c1
    have sw : zsw 1 2277 [0, 208, 1, 288, 2, 344, 3, 400, 4, 468, 5, 548, 6, 604, 7, 672, 8, 740, 9, 808, 10, 864, 11, 908, 12, 959, 13, 1015, 14, 1083, 15, 1139, 16, 1195, 17, 1251, 18, 1319, 19, 1375, 20, 1443, 21, 1499, 22, 1543, 23, 1599, 24, 1655, 25, 1711, 26, 1767, 27, 1780, 28, 1836, 29, 1894, 30, 1938, 31, 1951, 32, 2023, 33, 2079, 34, 2092, 35, 2133, 36, 2176, 37, 2220, 38, 2233] = 288 := rfl
    simp (disch := first | assumption | exact p_c2i | exact p_c2r | exact p_c2n | omega | ((repeat (first | refine p_a1i.trans ?_ | refine p_a1r.trans ?_)); exact p_a10) | ((repeat (first | refine p_wI ?_ | refine p_wR ?_)); exact p_w0) | decide) only [reduceIte, Int.reduceLT, Int.reduceLE, Int.reduceEq, Int.reduceToNat, Int.reduceAdd, Int.reduceSub, Int.reduceMul, Int.reduceNeg, e262_39, p_sw, WN_nx, WN_nrt, WN_ite, sw]
    exact t_law1 hI hN0 hN hl hl2 hs hz K
  by_cases c2 : v = 2
  · subst c2
    have sw : zsw 2 2277 [0, 208, 1, 288, 2, 344, 3, 400, 4, 468, 5, 548, 6, 604, 7, 672, 8, 740, 9, 808, 10, 864, 11, 908, 12, 959, 13, 1015, 14, 1083, 15, 1139, 16, 1195, 17, 1251, 18, 1319, 19, 1375, 20, 1443, 21, 1499, 22, 1543, 23, 1599, 24, 1655, 25, 1711, 26, 1767, 27, 1780, 28, 1836, 29, 1894, 30, 1938, 31, 1951, 32, 2023, 33, 2079, 34, 2092, 35, 2133, 36, 2176, 37, 2220, 38, 2233] = 344 := rfl
    simp (disch := first | assumption | exact p_c2i | exact p_c2r | exact p_c2n | omega | ((repeat (first | refine p_a1i.trans ?_ | refine p_a1r.trans ?_)); exact p_a10) | ((repeat (first | refine p_wI ?_ | refine p_wR ?_)); exact p_w0) | decide) only [reduceIte, Int.reduceLT, Int.reduceLE, Int.reduceEq, Int.reduceToNat, Int.reduceAdd, Int.reduceSub, Int.reduceMul, Int.reduceNeg, e262_39, p_sw, WN_nx, WN_nrt, WN_ite, sw]
    exact t_law2 hI hN0 hN hl hl2 hs hz K
  by_cases c3 : v = 3
  · subst c3
    have sw : zsw 3 2277 [0, 208, 1, 288, 2, 344, 3, 400, 4, 468, 5, 548, 6, 604, 7, 672, 8, 740, 9, 808, 10, 864, 11, 908, 12, 959, 13, 1015, 14, 1083, 15, 1139, 16, 1195, 17, 1251, 18, 1319, 19, 1375, 20, 1443, 21, 1499, 22, 1543, 23, 1599, 24, 1655, 25, 1711, 26, 1767, 27, 1780, 28, 1836, 29, 1894, 30, 1938, 31, 1951, 32, 2023, 33, 2079, 34, 2092, 35, 2133, 36, 2176, 37, 2220, 38, 2233] = 400 := rfl
    simp (disch := first | assumption | exact p_c2i | exact p_c2r | exact p_c2n | omega | ((repeat (first | refine p_a1i.trans ?_ | refine p_a1r.trans ?_)); exact p_a10) | ((repeat (first | refine p_wI ?_ | refine p_wR ?_)); exact p_w0) | decide) only [reduceIte, Int.reduceLT, Int.reduceLE, Int.reduceEq, Int.reduceToNat, Int.reduceAdd, Int.reduceSub, Int.reduceMul, Int.reduceNeg, e262_39, p_sw, WN_nx, WN_nrt, WN_ite, sw]
    exact t_law3 hI hN0 hN hl hl2 hs hz K
  by_cases c4 : v = 4
  · subst c4
    have sw : zsw 4 2277 [0, 208, 1, 288, 2, 344, 3, 400, 4, 468, 5, 548, 6, 604, 7, 672, 8, 740, 9, 808, 10, 864, 11, 908, 12, 959, 13, 1015, 14, 1083, 15, 1139, 16, 1195, 17, 1251, 18, 1319, 19, 1375, 20, 1443, 21, 1499, 22, 1543, 23, 1599, 24, 1655, 25, 1711, 26, 1767, 27, 1780, 28, 1836, 29, 1894, 30, 1938, 31, 1951, 32, 2023, 33, 2079, 34, 2092, 35, 2133, 36, 2176, 37, 2220, 38, 2233] = 468 := rfl
    simp (disch := first | assumption | exact p_c2i | exact p_c2r | exact p_c2n | omega | ((repeat (first | refine p_a1i.trans ?_ | refine p_a1r.trans ?_)); exact p_a10) | ((repeat (first | refine p_wI ?_ | refine p_wR ?_)); exact p_w0) | decide) only [reduceIte, Int.reduceLT, Int.reduceLE, Int.reduceEq, Int.reduceToNat, Int.reduceAdd, Int.reduceSub, Int.reduceMul, Int.reduceNeg, e262_39, p_sw, WN_nx, WN_nrt, WN_ite, sw]
    exact t_law4 hI hN0 hN hl hl2 hs hz K
  by_cases c5 : v = 5
  · subst c5
    have sw : zsw 5 2277 [0, 208, 1, 288, 2, 344, 3, 400, 4, 468, 5, 548, 6, 604, 7, 672, 8, 740, 9, 808, 10, 864, 11, 908, 12, 959, 13, 1015, 14, 1083, 15, 1139, 16, 1195, 17, 1251, 18, 1319, 19, 1375, 20, 1443, 21, 1499, 22, 1543, 23, 1599, 24, 1655, 25, 1711, 26, 1767, 27, 1780, 28, 1836, 29, 1894, 30, 1938, 31, 1951, 32, 2023, 33, 2079, 34, 2092, 35, 2133, 36, 2176, 37, 2220, 38, 2233] = 548 := rfl
    simp (disch := first | assumption | exact p_c2i | exact p_c2r | exact p_c2n | omega | ((repeat (first | refine p_a1i.trans ?_ | refine p_a1r.trans ?_)); exact p_a10) | ((repeat (first | refine p_wI ?_ | refine p_wR ?_)); exact p_w0) | decide) only [reduceIte, Int.reduceLT, Int.reduceLE, Int.reduceEq, Int.reduceToNat, Int.reduceAdd, Int.reduceSub, Int.reduceMul, Int.reduceNeg, e262_39, p_sw, WN_nx, WN_nrt, WN_ite, sw]
    exact t_law5 hI hN0 hN hl hl2 hs hz K
  by_cases c6 : v = 6
  · subst c6
    have sw : zsw 6 2277 [0, 208, 1, 288, 2, 344, 3, 400, 4, 468, 5, 548, 6, 604, 7, 672, 8, 740, 9, 808, 10, 864, 11, 908, 12, 959, 13, 1015, 14, 1083, 15, 1139, 16, 1195, 17, 1251, 18, 1319, 19, 1375, 20, 1443, 21, 1499, 22, 1543, 23, 1599, 24, 1655, 25, 1711, 26, 1767, 27, 1780, 28, 1836, 29, 1894, 30, 1938, 31, 1951, 32, 2023, 33, 2079, 34, 2092, 35, 2133, 36, 2176, 37, 2220, 38, 2233] = 604 := rfl
    simp (disch := first | assumption | exact p_c2i | exact p_c2r | exact p_c2n | omega | ((repeat (first | refine p_a1i.trans ?_ | refine p_a1r.trans ?_)); exact p_a10) | ((repeat (first | refine p_wI ?_ | refine p_wR ?_)); exact p_w0) | decide) only [reduceIte, Int.reduceLT, Int.reduceLE, Int.reduceEq, Int.reduceToNat, Int.reduceAdd, Int.reduceSub, Int.reduceMul, Int.reduceNeg, e262_39, p_sw, WN_nx, WN_nrt, WN_ite, sw]
    exact t_law6 hI hN0 hN hl hl2 hs hz K
  by_cases c7 : v = 7
  · subst c7
    have sw : zsw 7 2277 [0, 208, 1, 288, 2, 344, 3, 400, 4, 468, 5, 548, 6, 604, 7, 672, 8, 740, 9, 808, 10, 864, 11, 908, 12, 959, 13, 1015, 14, 1083, 15, 1139, 16, 1195, 17, 1251, 18, 1319, 19, 1375, 20, 1443, 21, 1499, 22, 1543, 23, 1599, 24, 1655, 25, 1711, 26, 1767, 27, 1780, 28, 1836, 29, 1894, 30, 1938, 31, 1951, 32, 2023, 33, 2079, 34, 2092, 35, 2133, 36, 2176, 37, 2220, 38, 2233] = 672 := rfl
    simp (disch := first | assumption | exact p_c2i | exact p_c2r | exact p_c2n | omega | ((repeat (first | refine p_a1i.trans ?_ | refine p_a1r.trans ?_)); exact p_a10) | ((repeat (first | refine p_wI ?_ | refine p_wR ?_)); exact p_w0) | decide) only [reduceIte, Int.reduceLT, Int.reduceLE, Int.reduceEq, Int.reduceToNat, Int.reduceAdd, Int.reduceSub, Int.reduceMul, Int.reduceNeg, e262_39, p_sw, WN_nx, WN_nrt, WN_ite, sw]
    exact t_law7 hI hN0 hN hl hl2 hs hz K
  by_cases c8 : v = 8
  · subst c8
    have sw : zsw 8 2277 [0, 208, 1, 288, 2, 344, 3, 400, 4, 468, 5, 548, 6, 604, 7, 672, 8, 740, 9, 808, 10, 864, 11, 908, 12, 959, 13, 1015, 14, 1083, 15, 1139, 16, 1195, 17, 1251, 18, 1319, 19, 1375, 20, 1443, 21, 1499, 22, 1543, 23, 1599, 24, 1655, 25, 1711, 26, 1767, 27, 1780, 28, 1836, 29, 1894, 30, 1938, 31, 1951, 32, 2023, 33, 2079, 34, 2092, 35, 2133, 36, 2176, 37, 2220, 38, 2233] = 740 := rfl
    simp (disch := first | assumption | exact p_c2i | exact p_c2r | exact p_c2n | omega | ((repeat (first | refine p_a1i.trans ?_ | refine p_a1r.trans ?_)); exact p_a10) | ((repeat (first | refine p_wI ?_ | refine p_wR ?_)); exact p_w0) | decide) only [reduceIte, Int.reduceLT, Int.reduceLE, Int.reduceEq, Int.reduceToNat, Int.reduceAdd, Int.reduceSub, Int.reduceMul, Int.reduceNeg, e262_39, p_sw, WN_nx, WN_nrt, WN_ite, sw]
    exact t_law8 hI hN0 hN hl hl2 hs hz K
  by_cases c9 : v = 9
  · subst c9
    have sw : zsw 9 2277 [0, 208, 1, 288, 2, 344, 3, 400, 4, 468, 5, 548, 6, 604, 7, 672, 8, 740, 9, 808, 10, 864, 11, 908, 12, 959, 13, 1015, 14, 1083, 15, 1139, 16, 1195, 17, 1251, 18, 1319, 19, 1375, 20, 1443, 21, 1499, 22, 1543, 23, 1599, 24, 1655, 25, 1711, 26, 1767, 27, 1780, 28, 1836, 29, 1894, 30, 1938, 31, 1951, 32, 2023, 33, 2079, 34, 2092, 35, 2133, 36, 2176, 37, 2220, 38, 2233] = 808 := rfl
    simp (disch := first | assumption | exact p_c2i | exact p_c2r | exact p_c2n | omega | ((repeat (first | refine p_a1i.trans ?_ | refine p_a1r.trans ?_)); exact p_a10) | ((repeat (first | refine p_wI ?_ | refine p_wR ?_)); exact p_w0) | decide) only [reduceIte, Int.reduceLT, Int.reduceLE, Int.reduceEq, Int.reduceToNat, Int.reduceAdd, Int.reduceSub, Int.reduceMul, Int.reduceNeg, e262_39, p_sw, WN_nx, WN_nrt, WN_ite, sw]
    exact t_law9 hI hN0 hN hl hl2 hs hz K
  by_cases c10 : v = 10
  · subst c10
    have sw : zsw 10 2277 [0, 208, 1, 288, 2, 344, 3, 400, 4, 468, 5, 548, 6, 604, 7, 672, 8, 740, 9, 808, 10, 864, 11, 908, 12, 959, 13, 1015, 14, 1083, 15, 1139, 16, 1195, 17, 1251, 18, 1319, 19, 1375, 20, 1443, 21, 1499, 22, 1543, 23, 1599, 24, 1655, 25, 1711, 26, 1767, 27, 1780, 28, 1836, 29, 1894, 30, 1938, 31, 1951, 32, 2023, 33, 2079, 34, 2092, 35, 2133, 36, 2176, 37, 2220, 38, 2233] = 864 := rfl
    simp (disch := first | assumption | exact p_c2i | exact p_c2r | exact p_c2n | omega | ((repeat (first | refine p_a1i.trans ?_ | refine p_a1r.trans ?_)); exact p_a10) | ((repeat (first | refine p_wI ?_ | refine p_wR ?_)); exact p_w0) | decide) only [reduceIte, Int.reduceLT, Int.reduceLE, Int.reduceEq, Int.reduceToNat, Int.reduceAdd, Int.reduceSub, Int.reduceMul, Int.reduceNeg, e262_39, p_sw, WN_nx, WN_nrt, WN_ite, sw]
    exact t_law10 hI hN0 hN hl hl2 hs hz K
  by_cases c11 : v = 11
  · subst c11
    have sw : zsw 11 2277 [0, 208, 1, 288, 2, 344, 3, 400, 4, 468, 5, 548, 6, 604, 7, 672, 8, 740, 9, 808, 10, 864, 11, 908, 12, 959, 13, 1015, 14, 1083, 15, 1139, 16, 1195, 17, 1251, 18, 1319, 19, 1375, 20, 1443, 21, 1499, 22, 1543, 23, 1599, 24, 1655, 25, 1711, 26, 1767, 27, 1780, 28, 1836, 29, 1894, 30, 1938, 31, 1951, 32, 2023, 33, 2079, 34, 2092, 35, 2133, 36, 2176, 37, 2220, 38, 2233] = 908 := rfl
    simp (disch := first | assumption | exact p_c2i | exact p_c2r | exact p_c2n | omega | ((repeat (first | refine p_a1i.trans ?_ | refine p_a1r.trans ?_)); exact p_a10) | ((repeat (first | refine p_wI ?_ | refine p_wR ?_)); exact p_w0) | decide) only [reduceIte, Int.reduceLT, Int.reduceLE, Int.reduceEq, Int.reduceToNat, Int.reduceAdd, Int.reduceSub, Int.reduceMul, Int.reduceNeg, e262_39, p_sw, WN_nx, WN_nrt, WN_ite, sw]
    exact t_law11 hI hN0 hN hl hl2 hs hz K
  by_cases c12 : v = 12
  · subst c12
    have sw : zsw 12 2277 [0, 208, 1, 288, 2, 344, 3, 400, 4, 468, 5, 548, 6, 604, 7, 672, 8, 740, 9, 808, 10, 864, 11, 908, 12, 959, 13, 1015, 14, 1083, 15, 1139, 16, 1195, 17, 1251, 18, 1319, 19, 1375, 20, 1443, 21, 1499, 22, 1543, 23, 1599, 24, 1655, 25, 1711, 26, 1767, 27, 1780, 28, 1836, 29, 1894, 30, 1938, 31, 1951, 32, 2023, 33, 2079, 34, 2092, 35, 2133, 36, 2176, 37, 2220, 38, 2233] = 959 := rfl
    simp (disch := first | assumption | exact p_c2i | exact p_c2r | exact p_c2n | omega | ((repeat (first | refine p_a1i.trans ?_ | refine p_a1r.trans ?_)); exact p_a10) | ((repeat (first | refine p_wI ?_ | refine p_wR ?_)); exact p_w0) | decide) only [reduceIte, Int.reduceLT, Int.reduceLE, Int.reduceEq, Int.reduceToNat, Int.reduceAdd, Int.reduceSub, Int.reduceMul, Int.reduceNeg, e262_39, p_sw, WN_nx, WN_nrt, WN_ite, sw]
    exact t_law12 hI hN0 hN hl hl2 hs hz K
  by_cases c13 : v = 13
  · subst c13
    have sw : zsw 13 2277 [0, 208, 1, 288, 2, 344, 3, 400, 4, 468, 5, 548, 6, 604, 7, 672, 8, 740, 9, 808, 10, 864, 11, 908, 12, 959, 13, 1015, 14, 1083, 15, 1139, 16, 1195, 17, 1251, 18, 1319, 19, 1375, 20, 1443, 21, 1499, 22, 1543, 23, 1599, 24, 1655, 25, 1711, 26, 1767, 27, 1780, 28, 1836, 29, 1894, 30, 1938, 31, 1951, 32, 2023, 33, 2079, 34, 2092, 35, 2133, 36, 2176, 37, 2220, 38, 2233] = 1015 := rfl
    simp (disch := first | assumption | exact p_c2i | exact p_c2r | exact p_c2n | omega | ((repeat (first | refine p_a1i.trans ?_ | refine p_a1r.trans ?_)); exact p_a10) | ((repeat (first | refine p_wI ?_ | refine p_wR ?_)); exact p_w0) | decide) only [reduceIte, Int.reduceLT, Int.reduceLE, Int.reduceEq, Int.reduceToNat, Int.reduceAdd, Int.reduceSub, Int.reduceMul, Int.reduceNeg, e262_39, p_sw, WN_nx, WN_nrt, WN_ite, sw]
    exact t_law13 hI hN0 hN hl hl2 hs hz K
  by_cases c14 : v = 14
  · subst c14
    have sw : zsw 14 2277 [0, 208, 1, 288, 2, 344, 3, 400, 4, 468, 5, 548, 6, 604, 7, 672, 8, 740, 9, 808, 10, 864, 11, 908, 12, 959, 13, 1015, 14, 1083, 15, 1139, 16, 1195, 17, 1251, 18, 1319, 19, 1375, 20, 1443, 21, 1499, 22, 1543, 23, 1599, 24, 1655, 25, 1711, 26, 1767, 27, 1780, 28, 1836, 29, 1894, 30, 1938, 31, 1951, 32, 2023, 33, 2079, 34, 2092, 35, 2133, 36, 2176, 37, 2220, 38, 2233] = 1083 := rfl
    simp (disch := first | assumption | exact p_c2i | exact p_c2r | exact p_c2n | omega | ((repeat (first | refine p_a1i.trans ?_ | refine p_a1r.trans ?_)); exact p_a10) | ((repeat (first | refine p_wI ?_ | refine p_wR ?_)); exact p_w0) | decide) only [reduceIte, Int.reduceLT, Int.reduceLE, Int.reduceEq, Int.reduceToNat, Int.reduceAdd, Int.reduceSub, Int.reduceMul, Int.reduceNeg, e262_39, p_sw, WN_nx, WN_nrt, WN_ite, sw]
    exact t_law14 hI hN0 hN hl hl2 hs hz K
  by_cases c15 : v = 15
  · subst c15
    have sw : zsw 15 2277 [0, 208, 1, 288, 2, 344, 3, 400, 4, 468, 5, 548, 6, 604, 7, 672, 8, 740, 9, 808, 10, 864, 11, 908, 12, 959, 13, 1015, 14, 1083, 15, 1139, 16, 1195, 17, 1251, 18, 1319, 19, 1375, 20, 1443, 21, 1499, 22, 1543, 23, 1599, 24, 1655, 25, 1711, 26, 1767, 27, 1780, 28, 1836, 29, 1894, 30, 1938, 31, 1951, 32, 2023, 33, 2079, 34, 2092, 35, 2133, 36, 2176, 37, 2220, 38, 2233] = 1139 := rfl
    simp (disch := first | assumption | exact p_c2i | exact p_c2r | exact p_c2n | omega | ((repeat (first | refine p_a1i.trans ?_ | refine p_a1r.trans ?_)); exact p_a10) | ((repeat (first | refine p_wI ?_ | refine p_wR ?_)); exact p_w0) | decide) only [reduceIte, Int.reduceLT, Int.reduceLE, Int.reduceEq, Int.reduceToNat, Int.reduceAdd, Int.reduceSub, Int.reduceMul, Int.reduceNeg, e262_39, p_sw, WN_nx, WN_nrt, WN_ite, sw]
    exact t_law15 hI hN0 hN hl hl2 hs hz K
  by_cases c16 : v = 16
  · subst c16
    have sw : zsw 16 2277 [0, 208, 1, 288, 2, 344, 3, 400, 4, 468, 5, 548, 6, 604, 7, 672, 8, 740, 9, 808, 10, 864, 11, 908, 12, 959, 13, 1015, 14, 1083, 15, 1139, 16, 1195, 17, 1251, 18, 1319, 19, 1375, 20, 1443, 21, 1499, 22, 1543, 23, 1599, 24, 1655, 25, 1711, 26, 1767, 27, 1780, 28, 1836, 29, 1894, 30, 1938, 31, 1951, 32, 2023, 33, 2079, 34, 2092, 35, 2133, 36, 2176, 37, 2220, 38, 2233] = 1195 := rfl
    simp (disch := first | assumption | exact p_c2i | exact p_c2r | exact p_c2n | omega | ((repeat (first | refine p_a1i.trans ?_ | refine p_a1r.trans ?_)); exact p_a10) | ((repeat (first | refine p_wI ?_ | refine p_wR ?_)); exact p_w0) | decide) only [reduceIte, Int.reduceLT, Int.reduceLE, Int.reduceEq, Int.reduceToNat, Int.reduceAdd, Int.reduceSub, Int.reduceMul, Int.reduceNeg, e262_39, p_sw, WN_nx, WN_nrt, WN_ite, sw]
    exact t_law16 hI hN0 hN hl hl2 hs hz K
  by_cases c17 : v = 17
  · subst c17
    have sw : zsw 17 2277 [0, 208, 1, 288, 2, 344, 3, 400, 4, 468, 5, 548, 6, 604, 7, 672, 8, 740, 9, 808, 10, 864, 11, 908, 12, 959, 13, 1015, 14, 1083, 15, 1139, 16, 1195, 17, 1251, 18, 1319, 19, 1375, 20, 1443, 21, 1499, 22, 1543, 23, 1599, 24, 1655, 25, 1711, 26, 1767, 27, 1780, 28, 1836, 29, 1894, 30, 1938, 31, 1951, 32, 2023, 33, 2079, 34, 2092, 35, 2133, 36, 2176, 37, 2220, 38, 2233] = 1251 := rfl
    simp (disch := first | assumption | exact p_c2i | exact p_c2r | exact p_c2n | omega | ((repeat (first | refine p_a1i.trans ?_ | refine p_a1r.trans ?_)); exact p_a10) | ((repeat (first | refine p_wI ?_ | refine p_wR ?_)); exact p_w0) | decide) only [reduceIte, Int.reduceLT, Int.reduceLE, Int.reduceEq, Int.reduceToNat, Int.reduceAdd, Int.reduceSub, Int.reduceMul, Int.reduceNeg, e262_39, p_sw, WN_nx, WN_nrt, WN_ite, sw]
    exact t_law17 hI hN0 hN hl hl2 hs hz K
  by_cases c18 : v = 18
  · subst c18
    have sw : zsw 18 2277 [0, 208, 1, 288, 2, 344, 3, 400, 4, 468, 5, 548, 6, 604, 7, 672, 8, 740, 9, 808, 10, 864, 11, 908, 12, 959, 13, 1015, 14, 1083, 15, 1139, 16, 1195, 17, 1251, 18, 1319, 19, 1375, 20, 1443, 21, 1499, 22, 1543, 23, 1599, 24, 1655, 25, 1711, 26, 1767, 27, 1780, 28, 1836, 29, 1894, 30, 1938, 31, 1951, 32, 2023, 33, 2079, 34, 2092, 35, 2133, 36, 2176, 37, 2220, 38, 2233] = 1319 := rfl
    simp (disch := first | assumption | exact p_c2i | exact p_c2r | exact p_c2n | omega | ((repeat (first | refine p_a1i.trans ?_ | refine p_a1r.trans ?_)); exact p_a10) | ((repeat (first | refine p_wI ?_ | refine p_wR ?_)); exact p_w0) | decide) only [reduceIte, Int.reduceLT, Int.reduceLE, Int.reduceEq, Int.reduceToNat, Int.reduceAdd, Int.reduceSub, Int.reduceMul, Int.reduceNeg, e262_39, p_sw, WN_nx, WN_nrt, WN_ite, sw]
    exact t_law18 hI hN0 hN hl hl2 hs hz K
  by_cases c19 : v = 19
  · subst c19
    have sw : zsw 19 2277 [0, 208, 1, 288, 2, 344, 3, 400, 4, 468, 5, 548, 6, 604, 7, 672, 8, 740, 9, 808, 10, 864, 11, 908, 12, 959, 13, 1015, 14, 1083, 15, 1139, 16, 1195, 17, 1251, 18, 1319, 19, 1375, 20, 1443, 21, 1499, 22, 1543, 23, 1599, 24, 1655, 25, 1711, 26, 1767, 27, 1780, 28, 1836, 29, 1894, 30, 1938, 31, 1951, 32, 2023, 33, 2079, 34, 2092, 35, 2133, 36, 2176, 37, 2220, 38, 2233] = 1375 := rfl
    simp (disch := first | assumption | exact p_c2i | exact p_c2r | exact p_c2n | omega | ((repeat (first | refine p_a1i.trans ?_ | refine p_a1r.trans ?_)); exact p_a10) | ((repeat (first | refine p_wI ?_ | refine p_wR ?_)); exact p_w0) | decide) only [reduceIte, Int.reduceLT, Int.reduceLE, Int.reduceEq, Int.reduceToNat, Int.reduceAdd, Int.reduceSub, Int.reduceMul, Int.reduceNeg, e262_39, p_sw, WN_nx, WN_nrt, WN_ite, sw]
    exact t_law19 hI hN0 hN hl hl2 hs hz K
  by_cases c20 : v = 20
  · subst c20
    have sw : zsw 20 2277 [0, 208, 1, 288, 2, 344, 3, 400, 4, 468, 5, 548, 6, 604, 7, 672, 8, 740, 9, 808, 10, 864, 11, 908, 12, 959, 13, 1015, 14, 1083, 15, 1139, 16, 1195, 17, 1251, 18, 1319, 19, 1375, 20, 1443, 21, 1499, 22, 1543, 23, 1599, 24, 1655, 25, 1711, 26, 1767, 27, 1780, 28, 1836, 29, 1894, 30, 1938, 31, 1951, 32, 2023, 33, 2079, 34, 2092, 35, 2133, 36, 2176, 37, 2220, 38, 2233] = 1443 := rfl
    simp (disch := first | assumption | exact p_c2i | exact p_c2r | exact p_c2n | omega | ((repeat (first | refine p_a1i.trans ?_ | refine p_a1r.trans ?_)); exact p_a10) | ((repeat (first | refine p_wI ?_ | refine p_wR ?_)); exact p_w0) | decide) only [reduceIte, Int.reduceLT, Int.reduceLE, Int.reduceEq, Int.reduceToNat, Int.reduceAdd, Int.reduceSub, Int.reduceMul, Int.reduceNeg, e262_39, p_sw, WN_nx, WN_nrt, WN_ite, sw]
    exact t_law20 hI hN0 hN hl hl2 hs hz K
  by_cases c21 : v = 21
  · subst c21
    have sw : zsw 21 2277 [0, 208, 1, 288, 2, 344, 3, 400, 4, 468, 5, 548, 6, 604, 7, 672, 8, 740, 9, 808, 10, 864, 11, 908, 12, 959, 13, 1015, 14, 1083, 15, 1139, 16, 1195, 17, 1251, 18, 1319, 19, 1375, 20, 1443, 21, 1499, 22, 1543, 23, 1599, 24, 1655, 25, 1711, 26, 1767, 27, 1780, 28, 1836, 29, 1894, 30, 1938, 31, 1951, 32, 2023, 33, 2079, 34, 2092, 35, 2133, 36, 2176, 37, 2220, 38, 2233] = 1499 := rfl
    simp (disch := first | assumption | exact p_c2i | exact p_c2r | exact p_c2n | omega | ((repeat (first | refine p_a1i.trans ?_ | refine p_a1r.trans ?_)); exact p_a10) | ((repeat (first | refine p_wI ?_ | refine p_wR ?_)); exact p_w0) | decide) only [reduceIte, Int.reduceLT, Int.reduceLE, Int.reduceEq, Int.reduceToNat, Int.reduceAdd, Int.reduceSub, Int.reduceMul, Int.reduceNeg, e262_39, p_sw, WN_nx, WN_nrt, WN_ite, sw]
    exact t_law21 hI hN0 hN hl hl2 hs hz K
  by_cases c22 : v = 22
  · subst c22
    have sw : zsw 22 2277 [0, 208, 1, 288, 2, 344, 3, 400, 4, 468, 5, 548, 6, 604, 7, 672, 8, 740, 9, 808, 10, 864, 11, 908, 12, 959, 13, 1015, 14, 1083, 15, 1139, 16, 1195, 17, 1251, 18, 1319, 19, 1375, 20, 1443, 21, 1499, 22, 1543, 23, 1599, 24, 1655, 25, 1711, 26, 1767, 27, 1780, 28, 1836, 29, 1894, 30, 1938, 31, 1951, 32, 2023, 33, 2079, 34, 2092, 35, 2133, 36, 2176, 37, 2220, 38, 2233] = 1543 := rfl
    simp (disch := first | assumption | exact p_c2i | exact p_c2r | exact p_c2n | omega | ((repeat (first | refine p_a1i.trans ?_ | refine p_a1r.trans ?_)); exact p_a10) | ((repeat (first | refine p_wI ?_ | refine p_wR ?_)); exact p_w0) | decide) only [reduceIte, Int.reduceLT, Int.reduceLE, Int.reduceEq, Int.reduceToNat, Int.reduceAdd, Int.reduceSub, Int.reduceMul, Int.reduceNeg, e262_39, p_sw, WN_nx, WN_nrt, WN_ite, sw]
    exact t_law22 hI hN0 hN hl hl2 hs hz K
  by_cases c23 : v = 23
  · subst c23
    have sw : zsw 23 2277 [0, 208, 1, 288, 2, 344, 3, 400, 4, 468, 5, 548, 6, 604, 7, 672, 8, 740, 9, 808, 10, 864, 11, 908, 12, 959, 13, 1015, 14, 1083, 15, 1139, 16, 1195, 17, 1251, 18, 1319, 19, 1375, 20, 1443, 21, 1499, 22, 1543, 23, 1599, 24, 1655, 25, 1711, 26, 1767, 27, 1780, 28, 1836, 29, 1894, 30, 1938, 31, 1951, 32, 2023, 33, 2079, 34, 2092, 35, 2133, 36, 2176, 37, 2220, 38, 2233] = 1599 := rfl
    simp (disch := first | assumption | exact p_c2i | exact p_c2r | exact p_c2n | omega | ((repeat (first | refine p_a1i.trans ?_ | refine p_a1r.trans ?_)); exact p_a10) | ((repeat (first | refine p_wI ?_ | refine p_wR ?_)); exact p_w0) | decide) only [reduceIte, Int.reduceLT, Int.reduceLE, Int.reduceEq, Int.reduceToNat, Int.reduceAdd, Int.reduceSub, Int.reduceMul, Int.reduceNeg, e262_39, p_sw, WN_nx, WN_nrt, WN_ite, sw]
    exact t_law23 hI hN0 hN hl hl2 hs hz K
  by_cases c24 : v = 24
  · subst c24
    have sw : zsw 24 2277 [0, 208, 1, 288, 2, 344, 3, 400, 4, 468, 5, 548, 6, 604, 7, 672, 8, 740, 9, 808, 10, 864, 11, 908, 12, 959, 13, 1015, 14, 1083, 15, 1139, 16, 1195, 17, 1251, 18, 1319, 19, 1375, 20, 1443, 21, 1499, 22, 1543, 23, 1599, 24, 1655, 25, 1711, 26, 1767, 27, 1780, 28, 1836, 29, 1894, 30, 1938, 31, 1951, 32, 2023, 33, 2079, 34, 2092, 35, 2133, 36, 2176, 37, 2220, 38, 2233] = 1655 := rfl
    simp (disch := first | assumption | exact p_c2i | exact p_c2r | exact p_c2n | omega | ((repeat (first | refine p_a1i.trans ?_ | refine p_a1r.trans ?_)); exact p_a10) | ((repeat (first | refine p_wI ?_ | refine p_wR ?_)); exact p_w0) | decide) only [reduceIte, Int.reduceLT, Int.reduceLE, Int.reduceEq, Int.reduceToNat, Int.reduceAdd, Int.reduceSub, Int.reduceMul, Int.reduceNeg, e262_39, p_sw, WN_nx, WN_nrt, WN_ite, sw]
    exact t_law24 hI hN0 hN hl hl2 hs hz K
  by_cases c25 : v = 25
  · subst c25
    have sw : zsw 25 2277 [0, 208, 1, 288, 2, 344, 3, 400, 4, 468, 5, 548, 6, 604, 7, 672, 8, 740, 9, 808, 10, 864, 11, 908, 12, 959, 13, 1015, 14, 1083, 15, 1139, 16, 1195, 17, 1251, 18, 1319, 19, 1375, 20, 1443, 21, 1499, 22, 1543, 23, 1599, 24, 1655, 25, 1711, 26, 1767, 27, 1780, 28, 1836, 29, 1894, 30, 1938, 31, 1951, 32, 2023, 33, 2079, 34, 2092, 35, 2133, 36, 2176, 37, 2220, 38, 2233] = 1711 := rfl
    simp (disch := first | assumption | exact p_c2i | exact p_c2r | exact p_c2n | omega | ((repeat (first | refine p_a1i.trans ?_ | refine p_a1r.trans ?_)); exact p_a10) | ((repeat (first | refine p_wI ?_ | refine p_wR ?_)); exact p_w0) | decide) only [reduceIte, Int.reduceLT, Int.reduceLE, Int.reduceEq, Int.reduceToNat, Int.reduceAdd, Int.reduceSub, Int.reduceMul, Int.reduceNeg, e262_39, p_sw, WN_nx, WN_nrt, WN_ite, sw]
    exact t_law25 hI hN0 hN hl hl2 hs hz K
  by_cases c26 : v = 26
  · subst c26
    have sw : zsw 26 2277 [0, 208, 1, 288, 2, 344, 3, 400, 4, 468, 5, 548, 6, 604, 7, 672, 8, 740, 9, 808, 10, 864, 11, 908, 12, 959, 13, 1015, 14, 1083, 15, 1139, 16, 1195, 17, 1251, 18, 1319, 19, 1375, 20, 1443, 21, 1499, 22, 1543, 23, 1599, 24, 1655, 25, 1711, 26, 1767, 27, 1780, 28, 1836, 29, 1894, 30, 1938, 31, 1951, 32, 2023, 33, 2079, 34, 2092, 35, 2133, 36, 2176, 37, 2220, 38, 2233] = 1767 := rfl
    simp (disch := first | assumption | exact p_c2i | exact p_c2r | exact p_c2n | omega | ((repeat (first | refine p_a1i.trans ?_ | refine p_a1r.trans ?_)); exact p_a10) | ((repeat (first | refine p_wI ?_ | refine p_wR ?_)); exact p_w0) | decide) only [reduceIte, Int.reduceLT, Int.reduceLE, Int.reduceEq, Int.reduceToNat, Int.reduceAdd, Int.reduceSub, Int.reduceMul, Int.reduceNeg, e262_39, p_sw, WN_nx, WN_nrt, WN_ite, sw]
    exact t_law26 hI hN0 hN hl hl2 hs hz K
  by_cases c27 : v = 27
  · subst c27
    have sw : zsw 27 2277 [0, 208, 1, 288, 2, 344, 3, 400, 4, 468, 5, 548, 6, 604, 7, 672, 8, 740, 9, 808, 10, 864, 11, 908, 12, 959, 13, 1015, 14, 1083, 15, 1139, 16, 1195, 17, 1251, 18, 1319, 19, 1375, 20, 1443, 21, 1499, 22, 1543, 23, 1599, 24, 1655, 25, 1711, 26, 1767, 27, 1780, 28, 1836, 29, 1894, 30, 1938, 31, 1951, 32, 2023, 33, 2079, 34, 2092, 35, 2133, 36, 2176, 37, 2220, 38, 2233] = 1780 := rfl
    simp (disch := first | assumption | exact p_c2i | exact p_c2r | exact p_c2n | omega | ((repeat (first | refine p_a1i.trans ?_ | refine p_a1r.trans ?_)); exact p_a10) | ((repeat (first | refine p_wI ?_ | refine p_wR ?_)); exact p_w0) | decide) only [reduceIte, Int.reduceLT, Int.reduceLE, Int.reduceEq, Int.reduceToNat, Int.reduceAdd, Int.reduceSub, Int.reduceMul, Int.reduceNeg, e262_39, p_sw, WN_nx, WN_nrt, WN_ite, sw]
    exact t_law27 hI hN0 hN hl hl2 hs hz K
  by_cases c28 : v = 28
  · subst c28
    have sw : zsw 28 2277 [0, 208, 1, 288, 2, 344, 3, 400, 4, 468, 5, 548, 6, 604, 7, 672, 8, 740, 9, 808, 10, 864, 11, 908, 12, 959, 13, 1015, 14, 1083, 15, 1139, 16, 1195, 17, 1251, 18, 1319, 19, 1375, 20, 1443, 21, 1499, 22, 1543, 23, 1599, 24, 1655, 25, 1711, 26, 1767, 27, 1780, 28, 1836, 29, 1894, 30, 1938, 31, 1951, 32, 2023, 33, 2079, 34, 2092, 35, 2133, 36, 2176, 37, 2220, 38, 2233] = 1836 := rfl
    simp (disch := first | assumption | exact p_c2i | exact p_c2r | exact p_c2n | omega | ((repeat (first | refine p_a1i.trans ?_ | refine p_a1r.trans ?_)); exact p_a10) | ((repeat (first | refine p_wI ?_ | refine p_wR ?_)); exact p_w0) | decide) only [reduceIte, Int.reduceLT, Int.reduceLE, Int.reduceEq, Int.reduceToNat, Int.reduceAdd, Int.reduceSub, Int.reduceMul, Int.reduceNeg, e262_39, p_sw, WN_nx, WN_nrt, WN_ite, sw]
    exact t_law28 hI hN0 hN hl hl2 hs hz K
  by_cases c29 : v = 29
  · subst c29
    have sw : zsw 29 2277 [0, 208, 1, 288, 2, 344, 3, 400, 4, 468, 5, 548, 6, 604, 7, 672, 8, 740, 9, 808, 10, 864, 11, 908, 12, 959, 13, 1015, 14, 1083, 15, 1139, 16, 1195, 17, 1251, 18, 1319, 19, 1375, 20, 1443, 21, 1499, 22, 1543, 23, 1599, 24, 1655, 25, 1711, 26, 1767, 27, 1780, 28, 1836, 29, 1894, 30, 1938, 31, 1951, 32, 2023, 33, 2079, 34, 2092, 35, 2133, 36, 2176, 37, 2220, 38, 2233] = 1894 := rfl
    simp (disch := first | assumption | exact p_c2i | exact p_c2r | exact p_c2n | omega | ((repeat (first | refine p_a1i.trans ?_ | refine p_a1r.trans ?_)); exact p_a10) | ((repeat (first | refine p_wI ?_ | refine p_wR ?_)); exact p_w0) | decide) only [reduceIte, Int.reduceLT, Int.reduceLE, Int.reduceEq, Int.reduceToNat, Int.reduceAdd, Int.reduceSub, Int.reduceMul, Int.reduceNeg, e262_39, p_sw, WN_nx, WN_nrt, WN_ite, sw]
    exact t_law29 hI hN0 hN hl hl2 hs hz K
  by_cases c30 : v = 30
  · subst c30
    have sw : zsw 30 2277 [0, 208, 1, 288, 2, 344, 3, 400, 4, 468, 5, 548, 6, 604, 7, 672, 8, 740, 9, 808, 10, 864, 11, 908, 12, 959, 13, 1015, 14, 1083, 15, 1139, 16, 1195, 17, 1251, 18, 1319, 19, 1375, 20, 1443, 21, 1499, 22, 1543, 23, 1599, 24, 1655, 25, 1711, 26, 1767, 27, 1780, 28, 1836, 29, 1894, 30, 1938, 31, 1951, 32, 2023, 33, 2079, 34, 2092, 35, 2133, 36, 2176, 37, 2220, 38, 2233] = 1938 := rfl
    simp (disch := first | assumption | exact p_c2i | exact p_c2r | exact p_c2n | omega | ((repeat (first | refine p_a1i.trans ?_ | refine p_a1r.trans ?_)); exact p_a10) | ((repeat (first | refine p_wI ?_ | refine p_wR ?_)); exact p_w0) | decide) only [reduceIte, Int.reduceLT, Int.reduceLE, Int.reduceEq, Int.reduceToNat, Int.reduceAdd, Int.reduceSub, Int.reduceMul, Int.reduceNeg, e262_39, p_sw, WN_nx, WN_nrt, WN_ite, sw]
    exact t_law30 hI hN0 hN hl hl2 hs hz K
  by_cases c31 : v = 31
  · subst c31
    have sw : zsw 31 2277 [0, 208, 1, 288, 2, 344, 3, 400, 4, 468, 5, 548, 6, 604, 7, 672, 8, 740, 9, 808, 10, 864, 11, 908, 12, 959, 13, 1015, 14, 1083, 15, 1139, 16, 1195, 17, 1251, 18, 1319, 19, 1375, 20, 1443, 21, 1499, 22, 1543, 23, 1599, 24, 1655, 25, 1711, 26, 1767, 27, 1780, 28, 1836, 29, 1894, 30, 1938, 31, 1951, 32, 2023, 33, 2079, 34, 2092, 35, 2133, 36, 2176, 37, 2220, 38, 2233] = 1951 := rfl
    simp (disch := first | assumption | exact p_c2i | exact p_c2r | exact p_c2n | omega | ((repeat (first | refine p_a1i.trans ?_ | refine p_a1r.trans ?_)); exact p_a10) | ((repeat (first | refine p_wI ?_ | refine p_wR ?_)); exact p_w0) | decide) only [reduceIte, Int.reduceLT, Int.reduceLE, Int.reduceEq, Int.reduceToNat, Int.reduceAdd, Int.reduceSub, Int.reduceMul, Int.reduceNeg, e262_39, p_sw, WN_nx, WN_nrt, WN_ite, sw]
    exact t_law31 hI hN0 hN hl hl2 hs hz K
  by_cases c32 : v = 32
  · subst c32
    have sw : zsw 32 2277 [0, 208, 1, 288, 2, 344, 3, 400, 4, 468, 5, 548, 6, 604, 7, 672, 8, 740, 9, 808, 10, 864, 11, 908, 12, 959, 13, 1015, 14, 1083, 15, 1139, 16, 1195, 17, 1251, 18, 1319, 19, 1375, 20, 1443, 21, 1499, 22, 1543, 23, 1599, 24, 1655, 25, 1711, 26, 1767, 27, 1780, 28, 1836, 29, 1894, 30, 1938, 31, 1951, 32, 2023, 33, 2079, 34, 2092, 35, 2133, 36, 2176, 37, 2220, 38, 2233] = 2023 := rfl
    simp (disch := first | assumption | exact p_c2i | exact p_c2r | exact p_c2n | omega | ((repeat (first | refine p_a1i.trans ?_ | refine p_a1r.trans ?_)); exact p_a10) | ((repeat (first | refine p_wI ?_ | refine p_wR ?_)); exact p_w0) | decide) only [reduceIte, Int.reduceLT, Int.reduceLE, Int.reduceEq, Int.reduceToNat, Int.reduceAdd, Int.reduceSub, Int.reduceMul, Int.reduceNeg, e262_39, p_sw, WN_nx, WN_nrt, WN_ite, sw]
    exact t_law32 hI hN0 hN hl hl2 hs hz K
  by_cases c33 : v = 33
  · subst c33
    have sw : zsw 33 2277 [0, 208, 1, 288, 2, 344, 3, 400, 4, 468, 5, 548, 6, 604, 7, 672, 8, 740, 9, 808, 10, 864, 11, 908, 12, 959, 13, 1015, 14, 1083, 15, 1139, 16, 1195, 17, 1251, 18, 1319, 19, 1375, 20, 1443, 21, 1499, 22, 1543, 23, 1599, 24, 1655, 25, 1711, 26, 1767, 27, 1780, 28, 1836, 29, 1894, 30, 1938, 31, 1951, 32, 2023, 33, 2079, 34, 2092, 35, 2133, 36, 2176, 37, 2220, 38, 2233] = 2079 := rfl
    simp (disch := first | assumption | exact p_c2i | exact p_c2r | exact p_c2n | omega | ((repeat (first | refine p_a1i.trans ?_ | refine p_a1r.trans ?_)); exact p_a10) | ((repeat (first | refine p_wI ?_ | refine p_wR ?_)); exact p_w0) | decide) only [reduceIte, Int.reduceLT, Int.reduceLE, Int.reduceEq, Int.reduceToNat, Int.reduceAdd, Int.reduceSub, Int.reduceMul, Int.reduceNeg, e262_39, p_sw, WN_nx, WN_nrt, WN_ite, sw]
    exact t_law33 hI hN0 hN hl hl2 hs hz K
  by_cases c34 : v = 34
  · subst c34
    have sw : zsw 34 2277 [0, 208, 1, 288, 2, 344, 3, 400, 4, 468, 5, 548, 6, 604, 7, 672, 8, 740, 9, 808, 10, 864, 11, 908, 12, 959, 13, 1015, 14, 1083, 15, 1139, 16, 1195, 17, 1251, 18, 1319, 19, 1375, 20, 1443, 21, 1499, 22, 1543, 23, 1599, 24, 1655, 25, 1711, 26, 1767, 27, 1780, 28, 1836, 29, 1894, 30, 1938, 31, 1951, 32, 2023, 33, 2079, 34, 2092, 35, 2133, 36, 2176, 37, 2220, 38, 2233] = 2092 := rfl
    simp (disch := first | assumption | exact p_c2i | exact p_c2r | exact p_c2n | omega | ((repeat (first | refine p_a1i.trans ?_ | refine p_a1r.trans ?_)); exact p_a10) | ((repeat (first | refine p_wI ?_ | refine p_wR ?_)); exact p_w0) | decide) only [reduceIte, Int.reduceLT, Int.reduceLE, Int.reduceEq, Int.reduceToNat, Int.reduceAdd, Int.reduceSub, Int.reduceMul, Int.reduceNeg, e262_39, p_sw, WN_nx, WN_nrt, WN_ite, sw]
    exact t_law34 hI hN0 hN hl hl2 hs hz K
  by_cases c35 : v = 35
  · subst c35
    have sw : zsw 35 2277 [0, 208, 1, 288, 2, 344, 3, 400, 4, 468, 5, 548, 6, 604, 7, 672, 8, 740, 9, 808, 10, 864, 11, 908, 12, 959, 13, 1015, 14, 1083, 15, 1139, 16, 1195, 17, 1251, 18, 1319, 19, 1375, 20, 1443, 21, 1499, 22, 1543, 23, 1599, 24, 1655, 25, 1711, 26, 1767, 27, 1780, 28, 1836, 29, 1894, 30, 1938, 31, 1951, 32, 2023, 33, 2079, 34, 2092, 35, 2133, 36, 2176, 37, 2220, 38, 2233] = 2133 := rfl
    simp (disch := first | assumption | exact p_c2i | exact p_c2r | exact p_c2n | omega | ((repeat (first | refine p_a1i.trans ?_ | refine p_a1r.trans ?_)); exact p_a10) | ((repeat (first | refine p_wI ?_ | refine p_wR ?_)); exact p_w0) | decide) only [reduceIte, Int.reduceLT, Int.reduceLE, Int.reduceEq, Int.reduceToNat, Int.reduceAdd, Int.reduceSub, Int.reduceMul, Int.reduceNeg, e262_39, p_sw, WN_nx, WN_nrt, WN_ite, sw]
    exact t_law35 hI hN0 hN hl hl2 hs hz K
  by_cases c36 : v = 36
  · subst c36
    have sw : zsw 36 2277 [0, 208, 1, 288, 2, 344, 3, 400, 4, 468, 5, 548, 6, 604, 7, 672, 8, 740, 9, 808, 10, 864, 11, 908, 12, 959, 13, 1015, 14, 1083, 15, 1139, 16, 1195, 17, 1251, 18, 1319, 19, 1375, 20, 1443, 21, 1499, 22, 1543, 23, 1599, 24, 1655, 25, 1711, 26, 1767, 27, 1780, 28, 1836, 29, 1894, 30, 1938, 31, 1951, 32, 2023, 33, 2079, 34, 2092, 35, 2133, 36, 2176, 37, 2220, 38, 2233] = 2176 := rfl
    simp (disch := first | assumption | exact p_c2i | exact p_c2r | exact p_c2n | omega | ((repeat (first | refine p_a1i.trans ?_ | refine p_a1r.trans ?_)); exact p_a10) | ((repeat (first | refine p_wI ?_ | refine p_wR ?_)); exact p_w0) | decide) only [reduceIte, Int.reduceLT, Int.reduceLE, Int.reduceEq, Int.reduceToNat, Int.reduceAdd, Int.reduceSub, Int.reduceMul, Int.reduceNeg, e262_39, p_sw, WN_nx, WN_nrt, WN_ite, sw]
    exact t_law36 hI hN0 hN hl hl2 hs hz K
  by_cases c37 : v = 37
  · subst c37
    have sw : zsw 37 2277 [0, 208, 1, 288, 2, 344, 3, 400, 4, 468, 5, 548, 6, 604, 7, 672, 8, 740, 9, 808, 10, 864, 11, 908, 12, 959, 13, 1015, 14, 1083, 15, 1139, 16, 1195, 17, 1251, 18, 1319, 19, 1375, 20, 1443, 21, 1499, 22, 1543, 23, 1599, 24, 1655, 25, 1711, 26, 1767, 27, 1780, 28, 1836, 29, 1894, 30, 1938, 31, 1951, 32, 2023, 33, 2079, 34, 2092, 35, 2133, 36, 2176, 37, 2220, 38, 2233] = 2220 := rfl
    simp (disch := first | assumption | exact p_c2i | exact p_c2r | exact p_c2n | omega | ((repeat (first | refine p_a1i.trans ?_ | refine p_a1r.trans ?_)); exact p_a10) | ((repeat (first | refine p_wI ?_ | refine p_wR ?_)); exact p_w0) | decide) only [reduceIte, Int.reduceLT, Int.reduceLE, Int.reduceEq, Int.reduceToNat, Int.reduceAdd, Int.reduceSub, Int.reduceMul, Int.reduceNeg, e262_39, p_sw, WN_nx, WN_nrt, WN_ite, sw]
    exact t_law37 hI hN0 hN hl hl2 hs hz K
  by_cases c38 : v = 38
  · subst c38
    have sw : zsw 38 2277 [0, 208, 1, 288, 2, 344, 3, 400, 4, 468, 5, 548, 6, 604, 7, 672, 8, 740, 9, 808, 10, 864, 11, 908, 12, 959, 13, 1015, 14, 1083, 15, 1139, 16, 1195, 17, 1251, 18, 1319, 19, 1375, 20, 1443, 21, 1499, 22, 1543, 23, 1599, 24, 1655, 25, 1711, 26, 1767, 27, 1780, 28, 1836, 29, 1894, 30, 1938, 31, 1951, 32, 2023, 33, 2079, 34, 2092, 35, 2133, 36, 2176, 37, 2220, 38, 2233] = 2233 := rfl
    simp (disch := first | assumption | exact p_c2i | exact p_c2r | exact p_c2n | omega | ((repeat (first | refine p_a1i.trans ?_ | refine p_a1r.trans ?_)); exact p_a10) | ((repeat (first | refine p_wI ?_ | refine p_wR ?_)); exact p_w0) | decide) only [reduceIte, Int.reduceLT, Int.reduceLE, Int.reduceEq, Int.reduceToNat, Int.reduceAdd, Int.reduceSub, Int.reduceMul, Int.reduceNeg, e262_39, p_sw, WN_nx, WN_nrt, WN_ite, sw]
    exact t_law38 hI hN0 hN hl hl2 hs hz K
  have sw : zsw v 2277 [0, 208, 1, 288, 2, 344, 3, 400, 4, 468, 5, 548, 6, 604, 7, 672, 8, 740, 9, 808, 10, 864, 11, 908, 12, 959, 13, 1015, 14, 1083, 15, 1139, 16, 1195, 17, 1251, 18, 1319, 19, 1375, 20, 1443, 21, 1499, 22, 1543, 23, 1599, 24, 1655, 25, 1711, 26, 1767, 27, 1780, 28, 1836, 29, 1894, 30, 1938, 31, 1951, 32, 2023, 33, 2079, 34, 2092, 35, 2133, 36, 2176, 37, 2220, 38, 2233] = 2277 := zsw_q (Or.inl c0) (zsw_q (Or.inl c1) (zsw_q (Or.inl c2) (zsw_q (Or.inl c3) (zsw_q (Or.inl c4) (zsw_q (Or.inl c5) (zsw_q (Or.inl c6) (zsw_q (Or.inl c7) (zsw_q (Or.inl c8) (zsw_q (Or.inl c9) (zsw_q (Or.inl c10) (zsw_q (Or.inl c11) (zsw_q (Or.inl c12) (zsw_q (Or.inl c13) (zsw_q (Or.inl c14) (zsw_q (Or.inl c15) (zsw_q (Or.inl c16) (zsw_q (Or.inl c17) (zsw_q (Or.inl c18) (zsw_q (Or.inl c19) (zsw_q (Or.inl c20) (zsw_q (Or.inl c21) (zsw_q (Or.inl c22) (zsw_q (Or.inl c23) (zsw_q (Or.inl c24) (zsw_q (Or.inl c25) (zsw_q (Or.inl c26) (zsw_q (Or.inl c27) (zsw_q (Or.inl c28) (zsw_q (Or.inl c29) (zsw_q (Or.inl c30) (zsw_q (Or.inl c31) (zsw_q (Or.inl c32) (zsw_q (Or.inl c33) (zsw_q (Or.inl c34) (zsw_q (Or.inl c35) (zsw_q (Or.inl c36) (zsw_q (Or.inl c37) (zsw_q (Or.inl c38) (rfl)))))))))))))))))))))))))))))))))))))))
  simp (disch := first | assumption | exact p_c2i | exact p_c2r | exact p_c2n | omega | ((repeat (first | refine p_a1i.trans ?_ | refine p_a1r.trans ?_)); exact p_a10) | ((repeat (first | refine p_wI ?_ | refine p_wR ?_)); exact p_w0) | decide) only [reduceIte, Int.reduceLT, Int.reduceLE, Int.reduceEq, Int.reduceToNat, Int.reduceAdd, Int.reduceSub, Int.reduceMul, Int.reduceNeg, e262_39, p_sw, WN_nx, WN_nrt, WN_ite, sw]
  have q := inv_q (N' := N + 20000) hI (by omega) zfx_r (zQy_f (τ := σ) (p := σ 3553 8))
  have qe : zg (zup σ 3553 8 (σ 3553 8)) (σ 3554) = σ := by
    have e : zup σ 3553 8 (σ 3553 8) = σ := by
      funext a k
      unfold zup
      split
      · next h => rw [h.1, h.2]
      · rfl
    rw [e]
    exact zg_r
  rw [qe] at q
  exact K σ x l5 l6 l7 l8 q (by omega)
theorem l_law (hl2 : s0 23 0 ≤ 2048) (hl3 : -2147483000 ≤ s0 23 0) (hs : ∀ k, zi3 (s0 0 k)) (hz : zTx s0) (F : ∀ σ' x', x' ≤ 513 → Q (.inl (some (.inl 1))) (3565, x', zrho) σ') : ∀ (n i x : Nat) (σ : ZI) (l5 l6 l7 l8 : Option ZV), i + n = 513 → x ≤ i → zInv s0 (20000 * i) σ → Wp 262 23 [some (.inr (.inl (some 0))), some (.inr (.inl (some 100))), some (.inr (.inl (some 3553))), some (.inr (.inl (some 3564))), some (.inl (4 * (i : Int))), l5, l6, l7, l8] [] (3565, x, zrho) σ Q := by
  intro n
  induction n with
  | zero =>
    intro i x σ l5 l6 l7 l8 hi hx hI
    have c23 : σ 23 0 = s0 23 0 := congrFun (hI.2.2.2.2.2.2.2.2 23 (by omega)) 0
    have k20 : zkd 0 = 20 := rfl
    have e : i = 513 := by omega
    subst e
    have l0 : 0 ≤ s0 23 0 ∨ s0 23 0 < 0 := by omega
    have d : (s0 23 0 - 4 < 4 * ((513 : Nat) : Int)) = True := eq_true (by omega)
    by_cases bz : -2147483000 ≤ s0 23 0
    · simp (disch := first | assumption | exact p_c2i | exact p_c2r | exact p_c2n | omega | ((repeat (first | refine p_a1i.trans ?_ | refine p_a1r.trans ?_)); exact p_a10) | ((repeat (first | refine p_wI ?_ | refine p_wR ?_)); exact p_w0) | decide) only [reduceIte, Int.reduceLT, Int.reduceLE, Int.reduceEq, Int.reduceToNat, Int.reduceAdd, Int.reduceSub, Int.reduceMul, Int.reduceNeg, e262_23, e262_25, e262_26, e262_27, e262_28, e262_29, e262_2283, e262_2284, p_il4, p_al0, p_alen, p_alenS, p_alen22, p_push, p_bin, p_cgt, p_ret1, WN_nx, WN_nrt, WN_ite, c23, d]
      exact F σ x (by omega)
    · exact absurd hl3 bz
  | succ n ih =>
    intro i x σ l5 l6 l7 l8 hi hx hI
    have c23 : σ 23 0 = s0 23 0 := congrFun (hI.2.2.2.2.2.2.2.2 23 (by omega)) 0
    have k20 : zkd 0 = 20 := rfl
    by_cases c : s0 23 0 - 4 < 4 * (i : Int)
    · have d : (s0 23 0 - 4 < 4 * (i : Int)) = True := eq_true c
      simp (disch := first | assumption | exact p_c2i | exact p_c2r | exact p_c2n | omega | ((repeat (first | refine p_a1i.trans ?_ | refine p_a1r.trans ?_)); exact p_a10) | ((repeat (first | refine p_wI ?_ | refine p_wR ?_)); exact p_w0) | decide) only [reduceIte, Int.reduceLT, Int.reduceLE, Int.reduceEq, Int.reduceToNat, Int.reduceAdd, Int.reduceSub, Int.reduceMul, Int.reduceNeg, e262_23, e262_25, e262_26, e262_27, e262_28, e262_29, e262_2283, e262_2284, p_il4, p_al0, p_alen, p_alenS, p_alen22, p_push, p_bin, p_cgt, p_ret1, WN_nx, WN_nrt, WN_ite, c23, d]
      exact F σ x (by omega)
    · have d : (s0 23 0 - 4 < 4 * (i : Int)) = False := eq_false c
      rw [e262_23]
      simp (disch := first | assumption | exact p_c2i | exact p_c2r | exact p_c2n | omega | ((repeat (first | refine p_a1i.trans ?_ | refine p_a1r.trans ?_)); exact p_a10) | ((repeat (first | refine p_wI ?_ | refine p_wR ?_)); exact p_w0) | decide) only [reduceIte, Int.reduceLT, Int.reduceLE, Int.reduceEq, Int.reduceToNat, Int.reduceAdd, Int.reduceSub, Int.reduceMul, Int.reduceNeg, e262_25, e262_26, e262_27, e262_28, e262_29, p_il4, p_al0, p_alen, p_alenS, p_alen22, p_push, p_bin, p_cgt, WN_nx, WN_nrt, WN_ite, c23, d]
      refine t_lawS hI (by omega) (by omega) (by omega) hl2 hs hz (fun σ2 x2 m5 m6 m7 m8 h2 hx2 => ?_)
      have e4 : 4 * (i : Int) + 4 = 4 * ((i + 1 : Nat) : Int) := by omega
      simp (disch := first | assumption | exact p_c2i | exact p_c2r | exact p_c2n | omega | ((repeat (first | refine p_a1i.trans ?_ | refine p_a1r.trans ?_)); exact p_a10) | ((repeat (first | refine p_wI ?_ | refine p_wR ?_)); exact p_w0) | decide) only [reduceIte, Int.reduceLT, Int.reduceLE, Int.reduceEq, Int.reduceToNat, Int.reduceAdd, Int.reduceSub, Int.reduceMul, Int.reduceNeg, e262_2277, e262_2280, p_ii4, p_goto, WN_nx, WN_nrt, WN_ite, e4]
      have e5 : 20000 * (i : Int) + 20000 = 20000 * ((i + 1 : Nat) : Int) := by omega
      rw [e5] at h2
      exact ih (i + 1) x2 σ2 m5 m6 m7 m8 (by omega) (by omega) h2
end
