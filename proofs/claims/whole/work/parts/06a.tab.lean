/-! TABLES: every row of the interpreter's tables stands in the Statement's words -/
def zcn : Nat → String
  | 0 => RX0
  | 1 => RX1
  | 2 => RX2
  | 3 => RX3
  | 4 => RX4
  | 5 => RX5
  | 6 => RX6
  | 7 => RL
  | 8 => RJ9
  | 9 => RJ0
  | _ => RJ1
def zEX : Nat → String
  | 0 => "java/lang/IndexOutOfBoundsException"
  | 1 => "java/lang/IllegalArgumentException"
  | 2 => "java/lang/UnsupportedOperationException"
  | 3 => "java/util/NoSuchElementException"
  | _ => "java/lang/IllegalStateException"
def zw (p : Nat) (w : Cond) : Bool := match tables_1[p]? with
  | some x => decide (x = w)
  | none => false
theorem zw_in {p : Nat} {w : Cond} (h : zw p w = true) : w ∈ lw_tbl := by
  unfold zw at h
  split at h
  next x hx =>
    have e : x = w := of_decide_eq_true h
    subst e
    exact List.mem_append_right _ (List.mem_of_getElem? hx)
  next => cases h
def zwp (p : Nat) (w : Cond) : Bool := match (k2_sels lw_privs)[p]? with
  | some x => decide (x = w)
  | none => false
theorem zwp_in {p : Nat} {w : Cond} (h : zwp p w = true) : w ∈ lw_tbl := by
  unfold zwp at h
  split at h
  next x hx =>
    have e : x = w := of_decide_eq_true h
    subst e
    exact List.mem_append_left _ (List.mem_of_getElem? hx)
  next => cases h
theorem zlk_in {α : Type} {i : Nat} {x : α} : ∀ {l : List (Nat × α)}, zlk i l = some x → (i, x) ∈ l
  | [], h => by cases h
  | (j, y) :: r, h => by
    unfold zlk at h
    split at h
    next e => cases h; subst e; exact List.mem_cons_self
    next => exact List.mem_cons_of_mem _ (zlk_in h)
theorem zall_in {α : Type} {p : α → Bool} {l : List α} (h : l.all p = true) {x : α} (hx : x ∈ l) : p x = true := List.all_eq_true.mp h x hx
/-- which fields are references -/
def zrf (ci k : Nat) : Bool := match ci with
  | 0 => k == 0
  | 1 => k == 0 || k == 1 || k == 3
  | 2 => k == 0 || k == 1 || k == 2 || k == 3 || k == 4 || k == 5 || k == 6 || k == 7 || k == 8
  | 3 => k == 0 || k == 1
  | 4 => k == 0
  | 5 => k == 0 || k == 1 || k == 2 || k == 4 || k == 5 || k == 6 || k == 7 || k == 8 || k == 10
  | 6 => k == 0 || k == 1 || k == 2 || k == 3 || k == 4 || k == 11 || k == 14 || k == 16 || k == 17 || k == 19
  | _ => false
def zMP0 : List (Nat × (Nat × (Nat × (Nat × Nat)))) := [(115, 4, 114, 0, 0), (505, 4, 504, 0, 10), (500, 4, 498, 499, 0), (1090, 4, 1088, 1089, 0), (1102, 4, 1100, 1101, 0), (137, 5, 136, 0, 0), (256, 5, 255, 0, 1), (252, 5, 250, 251, 0), (812, 5, 810, 811, 0), (801, 5, 799, 800, 0), (264, 5, 263, 0, 2), (268, 5, 267, 0, 3), (278, 5, 276, 277, 0), (282, 5, 281, 0, 4), (40, 3, 39, 0, 0), (303, 3, 301, 302, 0), (332, 3, 330, 331, 0), (328, 3, 326, 327, 0), (336, 3, 334, 335, 0), (636, 3, 634, 635, 0), (640, 3, 638, 639, 0), (881, 3, 879, 880, 0), (260, 3, 258, 259, 0), (761, 3, 759, 760, 0), (237, 3, 235, 236, 0), (750, 3, 748, 749, 0), (518, 3, 516, 517, 0), (538, 3, 536, 537, 0), (557, 3, 555, 556, 0), (576, 3, 574, 575, 0), (316, 3, 314, 315, 0), (652, 3, 650, 651, 0)]
def zMP1 : List (Nat × (Nat × (Nat × (Nat × Nat)))) := [(388, 3, 386, 387, 0), (680, 3, 678, 679, 0), (684, 3, 683, 0, 25), (698, 3, 697, 0, 28), (688, 3, 687, 0, 26), (692, 3, 691, 0, 27), (310, 3, 308, 309, 0), (324, 3, 322, 323, 0), (671, 3, 669, 670, 0), (841, 3, 839, 840, 0), (898, 3, 896, 897, 0), (902, 3, 901, 0, 35), (776, 3, 774, 775, 0), (353, 3, 351, 352, 0), (344, 3, 342, 343, 0), (914, 3, 912, 913, 0), (34, 2, 33, 0, 0), (362, 2, 360, 361, 0), (296, 2, 295, 0, 6), (292, 2, 290, 291, 0), (676, 2, 674, 675, 0), (713, 2, 711, 712, 0), (514, 2, 512, 513, 0), (157, 6, 156, 0, 0), (951, 6, 949, 950, 0), (1048, 6, 1046, 1047, 0), (970, 6, 968, 969, 0), (1038, 6, 1036, 1037, 0), (1053, 6, 1051, 1052, 0), (962, 6, 960, 961, 0), (966, 6, 964, 965, 0), (973, 6, 972, 0, 0)]
def zMP2 : List (Nat × (Nat × (Nat × (Nat × Nat)))) := [(1034, 6, 1033, 0, 36), (26, 1, 25, 0, 0), (373, 1, 371, 372, 0), (525, 1, 523, 524, 0), (545, 1, 543, 544, 0), (564, 1, 562, 563, 0), (583, 1, 581, 582, 0), (599, 1, 597, 598, 0), (614, 1, 612, 613, 0), (625, 1, 623, 624, 0), (648, 1, 646, 647, 0), (659, 1, 657, 658, 0), (705, 1, 703, 704, 0), (722, 1, 720, 721, 0), (745, 1, 743, 744, 0), (757, 1, 755, 756, 0), (768, 1, 766, 767, 0), (783, 1, 781, 782, 0), (790, 1, 788, 789, 0), (797, 1, 795, 796, 0), (808, 1, 806, 807, 0), (822, 1, 820, 821, 0), (837, 1, 835, 836, 0), (849, 1, 847, 848, 0), (861, 1, 859, 860, 0), (873, 1, 871, 872, 0), (893, 1, 891, 892, 0), (909, 1, 907, 908, 0), (230, 1, 228, 229, 0), (922, 1, 920, 921, 0), (931, 1, 929, 930, 0), (958, 1, 956, 957, 0)]
def zMP3 : List (Nat × (Nat × (Nat × (Nat × Nat)))) := [(244, 1, 242, 243, 0), (1069, 1, 1067, 1068, 0), (1077, 1, 1075, 1076, 0), (248, 1, 246, 247, 0), (340, 1, 338, 339, 0), (349, 1, 347, 348, 0), (1085, 1, 1083, 1084, 0), (358, 1, 356, 357, 0), (1097, 1, 1095, 1096, 0), (380, 1, 379, 0, 0), (274, 1, 273, 0, 0), (271, 1, 270, 0, 0), (320, 1, 319, 0, 0), (240, 1, 239, 0, 0), (1044, 1, 1043, 0, 0), (1041, 1, 1040, 0, 0), (391, 1, 390, 0, 0), (464, 1, 463, 0, 0), (617, 1, 616, 0, 0), (629, 1, 628, 0, 22), (771, 1, 770, 0, 0), (825, 1, 824, 0, 0), (384, 1, 383, 0, 8), (377, 1, 376, 0, 7), (510, 1, 509, 0, 11), (529, 1, 528, 0, 12), (534, 1, 533, 0, 13), (549, 1, 548, 0, 14), (553, 1, 552, 0, 15), (568, 1, 567, 0, 16), (572, 1, 571, 0, 17), (587, 1, 586, 0, 18)]
def zMP4 : List (Nat × (Nat × (Nat × (Nat × Nat)))) := [(591, 1, 590, 0, 19), (603, 1, 602, 0, 20), (607, 1, 606, 0, 21), (663, 1, 662, 0, 23), (667, 1, 666, 0, 24), (709, 1, 708, 0, 29), (288, 1, 287, 0, 5), (830, 1, 829, 0, 30), (853, 1, 852, 0, 31), (865, 1, 864, 0, 32), (877, 1, 876, 0, 33), (885, 1, 884, 0, 34), (1057, 1, 1056, 0, 37), (1061, 1, 1060, 0, 38), (1107, 7, 1106, 0, 0), (1177, 7, 1175, 1176, 0), (1191, 7, 1190, 0, 39), (1195, 7, 1194, 0, 40), (1187, 7, 1186, 0, 0), (1218, 7, 1217, 0, 0), (1214, 7, 1213, 0, 44), (1210, 7, 1209, 0, 43), (1184, 7, 1183, 0, 0), (1198, 7, 1197, 0, 0), (1230, 7, 1229, 0, 46), (1206, 7, 1205, 0, 42), (1222, 7, 1221, 0, 45), (1202, 7, 1201, 0, 41), (1181, 7, 1179, 1180, 0), (1226, 7, 1224, 1225, 0), (1234, 7, 1232, 1233, 0), (1238, 7, 1236, 1237, 0)]
def zMP5 : List (Nat × (Nat × (Nat × (Nat × Nat)))) := [(1242, 7, 1240, 1241, 0), (1246, 7, 1244, 1245, 0), (1250, 7, 1248, 1249, 0), (1254, 7, 1252, 1253, 0), (1262, 7, 1261, 0, 47), (1258, 7, 1256, 1257, 0), (1288, 7, 1287, 0, 0), (1281, 7, 1280, 0, 0), (1278, 7, 1277, 0, 50), (1285, 7, 1284, 0, 51), (1274, 7, 1273, 0, 49), (1292, 7, 1291, 0, 52), (1270, 7, 1269, 0, 48), (1266, 7, 1264, 1265, 0), (1296, 7, 1294, 1295, 0), (1304, 7, 1303, 0, 53), (1300, 7, 1298, 1299, 0), (1308, 7, 1306, 1307, 0), (1312, 7, 1310, 1311, 0), (1332, 7, 1331, 0, 56), (1320, 7, 1319, 0, 54), (1316, 7, 1314, 1315, 0), (1328, 7, 1327, 0, 55), (1324, 7, 1322, 1323, 0), (1336, 7, 1334, 1335, 0), (1344, 7, 1343, 0, 57), (1340, 7, 1338, 1339, 0), (1348, 7, 1346, 1347, 0), (1352, 7, 1350, 1351, 0), (1356, 7, 1354, 1355, 0), (1360, 7, 1358, 1359, 0), (1364, 7, 1362, 1363, 0)]
def zMP6 : List (Nat × (Nat × (Nat × (Nat × Nat)))) := [(1376, 7, 1375, 0, 59), (1372, 7, 1371, 0, 58), (1368, 7, 1366, 1367, 0), (1380, 7, 1378, 1379, 0), (1388, 7, 1387, 0, 60), (1384, 7, 1382, 1383, 0), (1392, 7, 1390, 1391, 0), (1398, 7, 1396, 1397, 0), (1402, 7, 1400, 1401, 0), (1418, 7, 1417, 0, 63), (1422, 7, 1421, 0, 64), (1426, 7, 1425, 0, 65), (1431, 7, 1430, 0, 66), (1414, 7, 1413, 0, 62), (1410, 7, 1409, 0, 61), (1436, 7, 1435, 0, 67), (1447, 7, 1446, 0, 0), (1406, 7, 1404, 1405, 0), (1451, 7, 1449, 1450, 0), (1455, 7, 1453, 1454, 0), (1467, 7, 1466, 0, 69), (1463, 7, 1462, 0, 68), (1459, 7, 1457, 1458, 0), (1471, 7, 1469, 1470, 0), (1475, 7, 1473, 1474, 0), (1480, 7, 1478, 1479, 0), (1485, 7, 1483, 1484, 0), (1489, 7, 1487, 1488, 0), (1493, 7, 1491, 1492, 0), (299, 14, 298, 0, 0), (815, 14, 814, 0, 0), (233, 14, 232, 0, 0)]
def zMP7 : List (Nat × (Nat × (Nat × (Nat × Nat)))) := [(986, 17, 984, 985, 0), (996, 17, 994, 995, 0), (990, 17, 988, 989, 0), (1000, 17, 998, 999, 0), (1003, 18, 1002, 0, 0), (366, 0, 365, 0, 0), (521, 0, 520, 0, 0), (541, 0, 540, 0, 0), (560, 0, 559, 0, 0), (579, 0, 578, 0, 0), (595, 0, 594, 0, 0), (610, 0, 609, 0, 0), (621, 0, 620, 0, 0), (644, 0, 643, 0, 0), (655, 0, 654, 0, 0), (701, 0, 700, 0, 0), (717, 0, 716, 0, 0), (741, 0, 740, 0, 0), (753, 0, 752, 0, 0), (764, 0, 763, 0, 0), (779, 0, 778, 0, 0), (786, 0, 785, 0, 0), (793, 0, 792, 0, 0), (804, 0, 803, 0, 0), (818, 0, 817, 0, 0), (833, 0, 832, 0, 0), (845, 0, 844, 0, 0), (857, 0, 856, 0, 0), (869, 0, 868, 0, 0), (889, 0, 888, 0, 0), (905, 0, 904, 0, 0), (918, 0, 917, 0, 0)]
def zMP8 : List (Nat × (Nat × (Nat × (Nat × Nat)))) := [(926, 0, 925, 0, 0), (954, 0, 953, 0, 0), (1065, 0, 1064, 0, 0), (1073, 0, 1072, 0, 0), (1081, 0, 1080, 0, 0), (1093, 0, 1092, 0, 0), (0, 0, 0, 0, 0)]
def zMPs : List (List (Nat × (Nat × (Nat × (Nat × Nat))))) := [zMP0, zMP1, zMP2, zMP3, zMP4, zMP5, zMP6, zMP7, zMP8]
def zMP (i : Nat) : Nat × (Nat × (Nat × (Nat × Nat))) := (zMPs.getD (i / 32) []).getD (i % 32) (0, 0, 0, 0, 0)
def zcode (r : ZM) : Cond := if r.2.2.2.2.2.1 = [] then .code r.2.1 r.2.2.1 r.2.2.2.1 r.2.2.2.2.1 else .codeWith r.2.1 r.2.2.1 r.2.2.2.1 r.2.2.2.2.1 r.2.2.2.2.2.1
def zckM (mi : Nat) (r : ZM) : Bool := decide (r.2.1.cls = zcn r.1) && (plainFor r.2.1 && (decide (r.2.1.cls ≠ "java/lang/invoke/MethodHandle" ∧ r.2.1.cls ≠ "java/lang/invoke/VarHandle") && (decide ((parseMethodDescriptor r.2.1.desc).map (fun d => d.parameters.length) = some r.2.2.2.2.2.2.2.2) && (zw (zMP mi).1 (zcode r) && zw (zMP mi).2.1 (.initialized r.2.1.cls)))))
def zckMs (mi : Nat) : Bool := match zMT mi with
  | some r => zckM mi r
  | none => false
theorem zckM0 : (List.range' 0 32).all zckMs = true := by decide +kernel
theorem zckM1 : (List.range' 32 32).all zckMs = true := by decide +kernel
theorem zckM2 : (List.range' 64 32).all zckMs = true := by decide +kernel
theorem zckM3 : (List.range' 96 32).all zckMs = true := by decide +kernel
theorem zckM4 : (List.range' 128 32).all zckMs = true := by decide +kernel
theorem zckM5 : (List.range' 160 32).all zckMs = true := by decide +kernel
theorem zckM6 : (List.range' 192 32).all zckMs = true := by decide +kernel
theorem zckM7 : (List.range' 224 32).all zckMs = true := by decide +kernel
theorem zckM8 : (List.range' 256 6).all zckMs = true := by decide +kernel
theorem zckM_all (mi : Nat) (h : mi < 262) : zckMs mi = true := by
  by_cases h0 : mi < 32
  · exact List.all_eq_true.mp zckM0 mi (List.mem_range'_1.mpr (by omega))
  by_cases h1 : mi < 64
  · exact List.all_eq_true.mp zckM1 mi (List.mem_range'_1.mpr (by omega))
  by_cases h2 : mi < 96
  · exact List.all_eq_true.mp zckM2 mi (List.mem_range'_1.mpr (by omega))
  by_cases h3 : mi < 128
  · exact List.all_eq_true.mp zckM3 mi (List.mem_range'_1.mpr (by omega))
  by_cases h4 : mi < 160
  · exact List.all_eq_true.mp zckM4 mi (List.mem_range'_1.mpr (by omega))
  by_cases h5 : mi < 192
  · exact List.all_eq_true.mp zckM5 mi (List.mem_range'_1.mpr (by omega))
  by_cases h6 : mi < 224
  · exact List.all_eq_true.mp zckM6 mi (List.mem_range'_1.mpr (by omega))
  by_cases h7 : mi < 256
  · exact List.all_eq_true.mp zckM7 mi (List.mem_range'_1.mpr (by omega))
  by_cases h8 : mi < 262
  · exact List.all_eq_true.mp zckM8 mi (List.mem_range'_1.mpr (by omega))
  omega
theorem zMT_lt {mi : Nat} {r : ZM} (h : zMT mi = some r) : mi < 263 := by
  unfold zMT at h
  split at h
  next l hl =>
    have h1 : mi / 32 < 9 := (List.getElem?_eq_some_iff.mp hl).1
    have h2 : mi % 32 < l.length := (List.getElem?_eq_some_iff.mp h).1
    by_cases h3 : mi / 32 = 8
    · rw [h3] at hl
      have h4 : l = zMT8 := by cases hl; rfl
      rw [h4] at h2
      have h5 : mi % 32 < 7 := h2
      omega
    · omega
  next => cases h
def zMok (r : ZM) : Prop := r.2.1.cls = zcn r.1 ∧ plainFor r.2.1 = true ∧ (r.2.1.cls ≠ "java/lang/invoke/MethodHandle" ∧ r.2.1.cls ≠ "java/lang/invoke/VarHandle") ∧ (parseMethodDescriptor r.2.1.desc).map (fun d => d.parameters.length) = some r.2.2.2.2.2.2.2.2 ∧ zcode r ∈ lw_tbl ∧ .initialized r.2.1.cls ∈ lw_tbl
theorem zT_M {mi : Nat} {r : ZM} (h : zMT mi = some r) (hl : mi ≠ 262) : zMok r := by
  have h1 := zckM_all mi (by have := zMT_lt h; omega)
  unfold zckMs at h1
  rw [h] at h1
  simp only [zckM, Bool.and_eq_true, decide_eq_true_eq] at h1
  obtain ⟨a1, a2, a3, a4, a5, a6⟩ := h1
  exact ⟨a1, a2, a3, a4, zw_in a5, zw_in a6⟩
def zckS (mj : Nat) (y : MethodName) : Bool := if (zMP mj).2.2.2.2 = 0 then zw (zMP mj).2.2.2.1 (.selects y.cls y y) else zwp ((zMP mj).2.2.2.2 - 1) (.selects y.cls y y)
theorem zckS_in {mj : Nat} {y : MethodName} (h : zckS mj y = true) : .selects y.cls y y ∈ lw_tbl := by
  unfold zckS at h
  split at h
  · exact zw_in h
  · exact zwp_in h
def zcc : MethodName := ⟨"java/lang/String", "checkIndex", "(II)V"⟩
def zckC (c : Nat) (e : Nat × (Nat × (Nat × Nat))) : Bool := match e with
  | (i, 7, _, p) => zw p (.methodLink (zcn c) i arraycopyName)
  | (i, 8, _, p) => zw p (.methodLink (zcn c) i zcc) && decide (c = 10)
  | (i, 9, _, p) => zw p (.methodLink (zcn c) i Lib.objectInit)
  | (i, m, mj, p) => match zMT mj with
    | none => false
    | some r => decide (mj ≠ 262) && match m with
      | 0 => zw p (.methodLink (zcn c) i r.2.1) && (zw (zMP mj).2.2.1 (.instanceMethod r.2.1) && (zckS mj r.2.1 && decide (r.2.2.2.2.2.1 = [])))
      | 1 => zw p (.methodLink (zcn c) i r.2.1) && (zw (zMP mj).2.2.1 (.static r.2.1) && decide (r.2.2.2.2.2.1 = []))
      | 2 => zw p (.methodLink (zcn c) i r.2.1) && (zw (zMP mj).2.2.1 (.instanceMethod r.2.1) && (decide (r.2.1.name = "<init>" ∧ r.2.2.2.2.1 = none) && decide (r.2.2.2.2.2.1 = [])))
      | 3 => zw p (.methodLinkNest (zcn c) i r.2.1 RX5) && (zw (zMP mj).2.2.1 (.static r.2.1) && decide (r.2.2.2.2.2.1 = []))
      | 4 => zw p (.methodLinkNest (zcn c) i r.2.1 RX5) && (zw (zMP mj).2.2.1 (.instanceMethod r.2.1) && (decide (r.2.1.name = "<init>" ∧ r.2.2.2.2.1 = none) && decide (r.2.2.2.2.2.1 = [])))
      | 5 => zw p (.methodLink (zcn c) i r.2.1) && (zw (zMP mj).2.2.1 (.static r.2.1) && decide (r.2.2.2.2.2.1 ≠ []))
      | _ => false
theorem zckC0 : (zCT 0).all (zckC 0) = true := by decide +kernel
theorem zckC1 : (zCT 1).all (zckC 1) = true := by decide +kernel
theorem zckC2 : (zCT 2).all (zckC 2) = true := by decide +kernel
theorem zckC3 : (zCT 3).all (zckC 3) = true := by decide +kernel
theorem zckC4 : (zCT 4).all (zckC 4) = true := by decide +kernel
theorem zckC5 : (zCT 5).all (zckC 5) = true := by decide +kernel
theorem zckC6 : (zCT 6).all (zckC 6) = true := by decide +kernel
theorem zckC7 : (zCT 7).all (zckC 7) = true := by decide +kernel
theorem zckC8 : (zCT 8).all (zckC 8) = true := by decide +kernel
theorem zckC9 : (zCT 9).all (zckC 9) = true := by decide +kernel
theorem zckC10 : (zCT 10).all (zckC 10) = true := by decide +kernel
theorem zckC_all : ∀ c : Nat, (zCT c).all (zckC c) = true
  | 0 => zckC0
  | 1 => zckC1
  | 2 => zckC2
  | 3 => zckC3
  | 4 => zckC4
  | 5 => zckC5
  | 6 => zckC6
  | 7 => zckC7
  | 8 => zckC8
  | 9 => zckC9
  | 10 => zckC10
  | _ + 11 => rfl
def zIN : Nat → Nat × Nat
  | 0 => (112, 4)
  | 1 => (134, 5)
  | 2 => (37, 3)
  | 3 => (31, 2)
  | 4 => (154, 6)
  | 5 => (23, 1)
  | 6 => (1104, 7)
  | _ => (0, 0)
def zXI : Nat → Nat
  | 0 => 11
  | 1 => 13
  | 2 => 12
  | 3 => 16
  | 4 => 21
  | _ => 0
def zckN (c : Nat) (e : Nat × (Nat × (Nat × Nat))) : Bool := match e with
  | (i, 0, ci, p) => match vwCl[ci]? with
    | some q => zw p (.classLink (zcn c) i q.1) && (zw (zIN ci).1 (.instantiable q.1 q.2.2) && (zw (zIN ci).2 (.initialized q.1) && decide (ci < 7)))
    | none => false
  | (i, ic, E, p) => zw p (.classLink (zcn c) i (zEX E)) && (zw (zXI E) (.initialized (zEX E)) && (decide (E < 5) && decide (c = 5 ∧ (ic, E) ∈ [(238, 0), (350, 2), (141, 1), (167, 3), (269, 4)])))
theorem zckN0 : (zNT 0).all (zckN 0) = true := by decide +kernel
theorem zckN1 : (zNT 1).all (zckN 1) = true := by decide +kernel
theorem zckN2 : (zNT 2).all (zckN 2) = true := by decide +kernel
theorem zckN3 : (zNT 3).all (zckN 3) = true := by decide +kernel
theorem zckN4 : (zNT 4).all (zckN 4) = true := by decide +kernel
theorem zckN5 : (zNT 5).all (zckN 5) = true := by decide +kernel
theorem zckN6 : (zNT 6).all (zckN 6) = true := by decide +kernel
theorem zckN7 : (zNT 7).all (zckN 7) = true := by decide +kernel
theorem zckN8 : (zNT 8).all (zckN 8) = true := by decide +kernel
theorem zckN9 : (zNT 9).all (zckN 9) = true := by decide +kernel
theorem zckN10 : (zNT 10).all (zckN 10) = true := by decide +kernel
theorem zckN_all : ∀ c : Nat, (zNT c).all (zckN c) = true
  | 0 => zckN0
  | 1 => zckN1
  | 2 => zckN2
  | 3 => zckN3
  | 4 => zckN4
  | 5 => zckN5
  | 6 => zckN6
  | 7 => zckN7
  | 8 => zckN8
  | 9 => zckN9
  | 10 => zckN10
  | _ + 11 => rfl
def zty (d : String) : Nat := match parseFieldDescriptor d with
  | some .int => 0
  | some .boolean => 1
  | some (.object _) => 2
  | some (.array _) => 2
  | _ => 9
def zckF (c : Nat) (e : Nat × (Nat × (Nat × (Nat × (Nat × (Nat × Nat)))))) : Bool := match e with
  | (i, 2, _, _, _, _, p) => zw p (.fieldLink (zcn c) i "java/lang/String" "value" "[B")
  | (i, 3, _, _, _, _, p) => zw p (.fieldLink (zcn c) i "java/lang/String" "coder" "B")
  | (i, 4, _, _, _, _, p) => zw p (.fieldLink (zcn c) i "java/lang/String" "COMPACT_STRINGS" "Z")
  | (i, m, ci, k, knd, fin, p) => match vwCl[ci]? with
    | some q => (match m with
      | 0 => zw p (.fieldLink (zcn c) i q.1 (q.2.1 k).2.1 (q.2.1 k).2.2.1)
      | 1 => zw p (.fieldLinkNest (zcn c) i q.1 (q.2.1 k).2.1 (q.2.1 k).2.2.1 RX5)
      | _ => false) && (decide (k < q.2.2 ∧ (q.2.1 k).1 = q.1 ∧ (q.2.1 k).2.2.2 = (fin == 1) ∧ zrf ci k = (knd == 2) ∧ zty (q.2.1 k).2.2.1 = knd ∧ ci < 7))
    | none => false
theorem zckF0 : (zFT 0).all (zckF 0) = true := by decide +kernel
theorem zckF1 : (zFT 1).all (zckF 1) = true := by decide +kernel
theorem zckF2 : (zFT 2).all (zckF 2) = true := by decide +kernel
theorem zckF3 : (zFT 3).all (zckF 3) = true := by decide +kernel
theorem zckF4 : (zFT 4).all (zckF 4) = true := by decide +kernel
theorem zckF5 : (zFT 5).all (zckF 5) = true := by decide +kernel
theorem zckF6 : (zFT 6).all (zckF 6) = true := by decide +kernel
theorem zckF7 : (zFT 7).all (zckF 7) = true := by decide +kernel
theorem zckF8 : (zFT 8).all (zckF 8) = true := by decide +kernel
theorem zckF9 : (zFT 9).all (zckF 9) = true := by decide +kernel
theorem zckF10 : (zFT 10).all (zckF 10) = true := by decide +kernel
theorem zckF_all : ∀ c : Nat, (zFT c).all (zckF c) = true
  | 0 => zckF0
  | 1 => zckF1
  | 2 => zckF2
  | 3 => zckF3
  | 4 => zckF4
  | 5 => zckF5
  | 6 => zckF6
  | 7 => zckF7
  | 8 => zckF8
  | 9 => zckF9
  | 10 => zckF10
  | _ + 11 => rfl
def zLP : Nat → List Nat
  | 0 => [124, 126, 128]
  | 1 => [143, 145, 147, 149]
  | 2 => [61, 63, 65, 67, 69, 71, 73, 75, 77, 79, 81, 83, 85, 87]
  | 3 => [100, 102, 104, 106, 108]
  | 4 => [170, 172, 174, 176, 178, 180]
  | 5 => [198, 200, 202, 204, 206, 208, 210, 212, 214, 216, 218, 220, 222, 224]
  | 6 => [1131, 1133, 1135, 1137, 1139, 1141, 1143, 1145, 1147, 1149, 1151, 1153, 1155, 1157, 1159, 1161, 1163, 1165, 1167, 1169, 1171]
  | _ => []
def zckL (ci : Nat) : Bool := match vwCl[ci]? with
  | some q => decide ((u_ws q.1 q.2.1 q.2.2).length = (zLP ci).length) && ((u_ws q.1 q.2.1 q.2.2).zip (zLP ci)).all (fun x => zw x.2 x.1)
  | none => true
theorem zckL_all : ∀ ci : Nat, zckL ci = true
  | 0 => by decide +kernel
  | 1 => by decide +kernel
  | 2 => by decide +kernel
  | 3 => by decide +kernel
  | 4 => by decide +kernel
  | 5 => by decide +kernel
  | 6 => by decide +kernel
  | _ + 7 => rfl
theorem zip_in {α β : Type} {x : α} : ∀ {l : List α} {m : List β}, l.length = m.length → x ∈ l → ∃ y, (x, y) ∈ l.zip m
  | [], _, _, h => by cases h
  | a :: l, [], h, _ => by cases h
  | a :: l, b :: m, hl, h => by
    rcases List.mem_cons.mp h with e | h
    · subst e; exact ⟨b, List.mem_cons_self⟩
    · obtain ⟨y, hy⟩ := zip_in (by simpa using hl) h
      exact ⟨y, List.mem_cons_of_mem _ hy⟩
theorem zT_L {ci : Nat} {q : vw_C} (h : vwCl[ci]? = some q) : ∀ w ∈ u_ws q.1 q.2.1 q.2.2, w ∈ lw_tbl := by
  intro w hw
  have h1 := zckL_all ci
  unfold zckL at h1
  rw [h] at h1
  simp only [Bool.and_eq_true, decide_eq_true_eq] at h1
  obtain ⟨y, hy⟩ := zip_in h1.1 hw
  exact zw_in (zall_in h1.2 hy)
def zckX (e : Nat × (Nat × String)) : Bool := zw e.2.1 (.stringRef RX5 e.1 e.2.2)
theorem zckX_all : zMS.all zckX = true := by decide +kernel
/-- the texts that are values: class, index, place, text -/
def zSV : List (Nat × (Nat × (Nat × String))) := [(4, 64, 974, "h00u"), (4, 66, 975, "x0"), (4, 68, 976, "p00=0"), (4, 70, 977, "t0=N"), (4, 72, 978, "k0"), (4, 74, 979, "m0"), (4, 76, 980, "s0"), (4, 78, 981, "b"), (4, 80, 982, "z"), (6, 163, 1393, "NRLU"), (6, 191, 1427, "urdl")]
theorem zckV_all : zSV.all (fun e => zw e.2.2.1 (.stringRef (zcn e.1) e.2.1 e.2.2.2)) = true := by decide +kernel
theorem zw_int : Cond.arrayClass .int ∈ lw_tbl := zw_in (p := 90) (by decide +kernel)
theorem zw_bool : Cond.arrayClass .boolean ∈ lw_tbl := zw_in (p := 152) (by decide +kernel)
theorem zw_char : Cond.arrayClass .char ∈ lw_tbl := zw_in (p := 183) (by decide +kernel)
theorem zw_byte : Cond.arrayClass .byte ∈ lw_tbl := zw_in (p := 461) (by decide +kernel)
theorem zw_long : Cond.arrayClass .long ∈ lw_tbl := zw_in (p := 1494) (by decide +kernel)
theorem zw_lawn : Cond.arrayOver (.object RX2) ∈ lw_tbl := zw_in (p := 91) (by decide +kernel)
theorem zw_story : Cond.arrayOver (.object RX3) ∈ lw_tbl := zw_in (p := 118) (by decide +kernel)
theorem zw_acn : Cond.native arraycopyName ∈ lw_tbl := zw_in (p := 306) (by decide +kernel)
theorem zw_acs : Cond.static arraycopyName ∈ lw_tbl := zw_in (p := 305) (by decide +kernel)
theorem zw_aci : Cond.initialized "java/lang/System" ∈ lw_tbl := zw_in (p := 15) (by decide +kernel)
theorem zw_oii : Cond.instanceMethod Lib.objectInit ∈ lw_tbl := zw_in (p := 28) (by decide +kernel)
theorem zw_oic : Cond.code Lib.objectInit ⟨#[0xb1]⟩ 1 none ∈ lw_tbl := zw_in (p := 29) (by decide +kernel)
theorem zw_f5 : Cond.constantFloat RX5 328 1117913088 ∈ lw_tbl := zw_in (p := 354) (by decide +kernel)
theorem zw_f6 : Cond.constantFloat RX6 241 1117913088 ∈ lw_tbl := zw_in (p := 1481) (by decide +kernel)
theorem zw_d5 : Cond.constantDouble RX5 326 4635400285215260672 ∈ lw_tbl := zw_in (p := 345) (by decide +kernel)
theorem zw_d6 : Cond.constantDouble RX6 239 4635400285215260672 ∈ lw_tbl := zw_in (p := 1476) (by decide +kernel)
theorem zw_c13 : Cond.constant RX6 13 49616 ∈ lw_tbl := zw_in (p := 1109) (by decide +kernel)
theorem zw_c62 : Cond.constant RX6 62 43414 ∈ lw_tbl := zw_in (p := 1215) (by decide +kernel)
def zxn : List String := ["java/lang/RuntimeException", "java/lang/Exception"]
