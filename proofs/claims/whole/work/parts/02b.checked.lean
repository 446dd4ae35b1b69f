/-! What the tables of part 02 say is among the words of the Statement (printed by gen02.py). -/
theorem x_in {w : Cond} (h : w ∈ lw_tbl) (g : goodWord w = true) : w ∈ x_G := List.mem_filter.mpr ⟨h, g⟩
theorem x_good : ∀ w ∈ x_G, (w.onTables && w.keeps) = true ∨ ∃ ty, w = .arrayClass ty := fun w h => good_of_word (List.mem_filter.mp h).2
theorem x_at_in {i : Nat} {w : Cond} (h : lw_tbl[i]? = some w) (g : goodWord w = true) : w ∈ x_G := x_in (List.mem_of_getElem? h) g
def x_cis_0 : List Nat := [112, 124, 130, 158, 187, 205, 287, 293, 362, 417, 421, 424, 430, 438, 442, 446, 450, 455, 459, 463, 467, 471, 475, 479, 483, 487, 491, 524, 527, 531, 535, 539, 544, 547, 557, 561, 565, 569, 573, 577, 581, 585, 589, 596, 601, 605, 614, 618, 622, 626, 631, 635, 639, 643, 648, 654, 658, 663, 667, 671, 676, 681, 685, 689, 693, 698, 702, 706, 710, 714, 719, 733, 759, 763, 767, 771, 775, 779, 783, 787, 791, 795, 799, 804, 808, 815, 819, 824, 828, 832, 836, 840, 844, 848, 854, 858, 863, 867, 871, 874]
def x_cis_1 : List Nat := [877, 881, 884, 887, 892, 895, 898, 902, 906, 909, 912, 915, 923, 927, 933, 937, 941, 945, 949, 953, 957, 961, 966, 970, 974, 980, 1182, 1186, 1189, 1195, 1203, 1207, 1211, 1215, 1219, 1223, 1227, 1231, 1235, 1239, 1243, 1247, 1251, 1254, 1270, 1274, 1279, 1283, 1287, 1295, 1299, 1303, 1307, 1311, 1315, 1319, 1323, 1327, 1331, 1335, 1339, 1343, 1347, 1351, 1355, 1359, 1363, 1367, 1371, 1375, 1379, 1383, 1387, 1391, 1395, 1399, 1403, 1407, 1411, 1416, 1421, 1425, 1429, 1433, 1436, 1441, 1450, 1455, 1460, 1464, 1468, 1472, 1476, 1480, 1484, 1488, 1493, 1497, 1501, 1506]
def x_cis_2 : List Nat := [1510, 1514, 1518]
def x_cis : List Nat := x_cis_0 ++ (x_cis_1 ++ (x_cis_2))
def x_ci (j : Nat) : Nat := (x_cis[j]?).getD 0
set_option maxRecDepth 100000 in
theorem x_cc0 : ∀ j, j < 20 → lw_tbl[x_ci (0 + j)]? = some (x_code (0 + j))
  | 0, _ => rfl
  | 1, _ => rfl
  | 2, _ => rfl
  | 3, _ => rfl
  | 4, _ => rfl
  | 5, _ => rfl
  | 6, _ => rfl
  | 7, _ => rfl
  | 8, _ => rfl
  | 9, _ => rfl
  | 10, _ => rfl
  | 11, _ => rfl
  | 12, _ => rfl
  | 13, _ => rfl
  | 14, _ => rfl
  | 15, _ => rfl
  | 16, _ => rfl
  | 17, _ => rfl
  | 18, _ => rfl
  | 19, _ => rfl
  | n + 20, h => absurd h (by omega)
set_option maxRecDepth 100000 in
theorem x_cc1 : ∀ j, j < 20 → lw_tbl[x_ci (20 + j)]? = some (x_code (20 + j))
  | 0, _ => rfl
  | 1, _ => rfl
  | 2, _ => rfl
  | 3, _ => rfl
  | 4, _ => rfl
  | 5, _ => rfl
  | 6, _ => rfl
  | 7, _ => rfl
  | 8, _ => rfl
  | 9, _ => rfl
  | 10, _ => rfl
  | 11, _ => rfl
  | 12, _ => rfl
  | 13, _ => rfl
  | 14, _ => rfl
  | 15, _ => rfl
  | 16, _ => rfl
  | 17, _ => rfl
  | 18, _ => rfl
  | 19, _ => rfl
  | n + 20, h => absurd h (by omega)
set_option maxRecDepth 100000 in
theorem x_cc2 : ∀ j, j < 20 → lw_tbl[x_ci (40 + j)]? = some (x_code (40 + j))
  | 0, _ => rfl
  | 1, _ => rfl
  | 2, _ => rfl
  | 3, _ => rfl
  | 4, _ => rfl
  | 5, _ => rfl
  | 6, _ => rfl
  | 7, _ => rfl
  | 8, _ => rfl
  | 9, _ => rfl
  | 10, _ => rfl
  | 11, _ => rfl
  | 12, _ => rfl
  | 13, _ => rfl
  | 14, _ => rfl
  | 15, _ => rfl
  | 16, _ => rfl
  | 17, _ => rfl
  | 18, _ => rfl
  | 19, _ => rfl
  | n + 20, h => absurd h (by omega)
set_option maxRecDepth 100000 in
theorem x_cc3 : ∀ j, j < 20 → lw_tbl[x_ci (60 + j)]? = some (x_code (60 + j))
  | 0, _ => rfl
  | 1, _ => rfl
  | 2, _ => rfl
  | 3, _ => rfl
  | 4, _ => rfl
  | 5, _ => rfl
  | 6, _ => rfl
  | 7, _ => rfl
  | 8, _ => rfl
  | 9, _ => rfl
  | 10, _ => rfl
  | 11, _ => rfl
  | 12, _ => rfl
  | 13, _ => rfl
  | 14, _ => rfl
  | 15, _ => rfl
  | 16, _ => rfl
  | 17, _ => rfl
  | 18, _ => rfl
  | 19, _ => rfl
  | n + 20, h => absurd h (by omega)
set_option maxRecDepth 100000 in
theorem x_cc4 : ∀ j, j < 20 → lw_tbl[x_ci (80 + j)]? = some (x_code (80 + j))
  | 0, _ => rfl
  | 1, _ => rfl
  | 2, _ => rfl
  | 3, _ => rfl
  | 4, _ => rfl
  | 5, _ => rfl
  | 6, _ => rfl
  | 7, _ => rfl
  | 8, _ => rfl
  | 9, _ => rfl
  | 10, _ => rfl
  | 11, _ => rfl
  | 12, _ => rfl
  | 13, _ => rfl
  | 14, _ => rfl
  | 15, _ => rfl
  | 16, _ => rfl
  | 17, _ => rfl
  | 18, _ => rfl
  | 19, _ => rfl
  | n + 20, h => absurd h (by omega)
set_option maxRecDepth 100000 in
theorem x_cc5 : ∀ j, j < 20 → lw_tbl[x_ci (100 + j)]? = some (x_code (100 + j))
  | 0, _ => rfl
  | 1, _ => rfl
  | 2, _ => rfl
  | 3, _ => rfl
  | 4, _ => rfl
  | 5, _ => rfl
  | 6, _ => rfl
  | 7, _ => rfl
  | 8, _ => rfl
  | 9, _ => rfl
  | 10, _ => rfl
  | 11, _ => rfl
  | 12, _ => rfl
  | 13, _ => rfl
  | 14, _ => rfl
  | 15, _ => rfl
  | 16, _ => rfl
  | 17, _ => rfl
  | 18, _ => rfl
  | 19, _ => rfl
  | n + 20, h => absurd h (by omega)
set_option maxRecDepth 100000 in
theorem x_cc6 : ∀ j, j < 20 → lw_tbl[x_ci (120 + j)]? = some (x_code (120 + j))
  | 0, _ => rfl
  | 1, _ => rfl
  | 2, _ => rfl
  | 3, _ => rfl
  | 4, _ => rfl
  | 5, _ => rfl
  | 6, _ => rfl
  | 7, _ => rfl
  | 8, _ => rfl
  | 9, _ => rfl
  | 10, _ => rfl
  | 11, _ => rfl
  | 12, _ => rfl
  | 13, _ => rfl
  | 14, _ => rfl
  | 15, _ => rfl
  | 16, _ => rfl
  | 17, _ => rfl
  | 18, _ => rfl
  | 19, _ => rfl
  | n + 20, h => absurd h (by omega)
set_option maxRecDepth 100000 in
theorem x_cc7 : ∀ j, j < 20 → lw_tbl[x_ci (140 + j)]? = some (x_code (140 + j))
  | 0, _ => rfl
  | 1, _ => rfl
  | 2, _ => rfl
  | 3, _ => rfl
  | 4, _ => rfl
  | 5, _ => rfl
  | 6, _ => rfl
  | 7, _ => rfl
  | 8, _ => rfl
  | 9, _ => rfl
  | 10, _ => rfl
  | 11, _ => rfl
  | 12, _ => rfl
  | 13, _ => rfl
  | 14, _ => rfl
  | 15, _ => rfl
  | 16, _ => rfl
  | 17, _ => rfl
  | 18, _ => rfl
  | 19, _ => rfl
  | n + 20, h => absurd h (by omega)
set_option maxRecDepth 100000 in
theorem x_cc8 : ∀ j, j < 20 → lw_tbl[x_ci (160 + j)]? = some (x_code (160 + j))
  | 0, _ => rfl
  | 1, _ => rfl
  | 2, _ => rfl
  | 3, _ => rfl
  | 4, _ => rfl
  | 5, _ => rfl
  | 6, _ => rfl
  | 7, _ => rfl
  | 8, _ => rfl
  | 9, _ => rfl
  | 10, _ => rfl
  | 11, _ => rfl
  | 12, _ => rfl
  | 13, _ => rfl
  | 14, _ => rfl
  | 15, _ => rfl
  | 16, _ => rfl
  | 17, _ => rfl
  | 18, _ => rfl
  | 19, _ => rfl
  | n + 20, h => absurd h (by omega)
set_option maxRecDepth 100000 in
theorem x_cc9 : ∀ j, j < 20 → lw_tbl[x_ci (180 + j)]? = some (x_code (180 + j))
  | 0, _ => rfl
  | 1, _ => rfl
  | 2, _ => rfl
  | 3, _ => rfl
  | 4, _ => rfl
  | 5, _ => rfl
  | 6, _ => rfl
  | 7, _ => rfl
  | 8, _ => rfl
  | 9, _ => rfl
  | 10, _ => rfl
  | 11, _ => rfl
  | 12, _ => rfl
  | 13, _ => rfl
  | 14, _ => rfl
  | 15, _ => rfl
  | 16, _ => rfl
  | 17, _ => rfl
  | 18, _ => rfl
  | 19, _ => rfl
  | n + 20, h => absurd h (by omega)
set_option maxRecDepth 100000 in
theorem x_cc10 : ∀ j, j < 3 → lw_tbl[x_ci (200 + j)]? = some (x_code (200 + j))
  | 0, _ => rfl
  | 1, _ => rfl
  | 2, _ => rfl
  | n + 3, h => absurd h (by omega)
theorem x_code_in {j : Nat} (hj : j < x_n) : x_code j ∈ x_G := by
  have hj : j < 203 := hj
  rcases Nat.lt_or_ge j 20 with h | h
  · have e := x_cc0 (j - 0) (by omega)
    rw [show 0 + (j - 0) = j by omega] at e
    exact x_at_in e rfl
  rcases Nat.lt_or_ge j 40 with h | h
  · have e := x_cc1 (j - 20) (by omega)
    rw [show 20 + (j - 20) = j by omega] at e
    exact x_at_in e rfl
  rcases Nat.lt_or_ge j 60 with h | h
  · have e := x_cc2 (j - 40) (by omega)
    rw [show 40 + (j - 40) = j by omega] at e
    exact x_at_in e rfl
  rcases Nat.lt_or_ge j 80 with h | h
  · have e := x_cc3 (j - 60) (by omega)
    rw [show 60 + (j - 60) = j by omega] at e
    exact x_at_in e rfl
  rcases Nat.lt_or_ge j 100 with h | h
  · have e := x_cc4 (j - 80) (by omega)
    rw [show 80 + (j - 80) = j by omega] at e
    exact x_at_in e rfl
  rcases Nat.lt_or_ge j 120 with h | h
  · have e := x_cc5 (j - 100) (by omega)
    rw [show 100 + (j - 100) = j by omega] at e
    exact x_at_in e rfl
  rcases Nat.lt_or_ge j 140 with h | h
  · have e := x_cc6 (j - 120) (by omega)
    rw [show 120 + (j - 120) = j by omega] at e
    exact x_at_in e rfl
  rcases Nat.lt_or_ge j 160 with h | h
  · have e := x_cc7 (j - 140) (by omega)
    rw [show 140 + (j - 140) = j by omega] at e
    exact x_at_in e rfl
  rcases Nat.lt_or_ge j 180 with h | h
  · have e := x_cc8 (j - 160) (by omega)
    rw [show 160 + (j - 160) = j by omega] at e
    exact x_at_in e rfl
  rcases Nat.lt_or_ge j 200 with h | h
  · have e := x_cc9 (j - 180) (by omega)
    rw [show 180 + (j - 180) = j by omega] at e
    exact x_at_in e rfl
  · have e := x_cc10 (j - 200) (by omega)
    rw [show 200 + (j - 200) = j by omega] at e
    exact x_at_in e rfl
theorem x_nl_le {j : Nat} (hj : j < x_n) : x_nl j ≤ 45 := (by decide +kernel : ∀ j, j < x_n → x_nl j ≤ 45) j hj
theorem x_cs_le {j : Nat} (hj : j < x_n) : (x_cs j).sum ≤ x_nl j := (by decide +kernel : ∀ j, j < x_n → (x_cs j).sum ≤ x_nl j) j hj
theorem x_plain {j : Nat} (hj : j < x_n) : plainName (x_y j).cls = true := (by decide +kernel : ∀ j, j < x_n → plainName (x_y j).cls = true) j hj
set_option maxRecDepth 100000 in
theorem x_ty0 : ∀ k, k < 5 → parseFieldDescriptor (x_T0 k).2.2.1 = some (x_ft 0 k) := by decide +kernel
set_option maxRecDepth 100000 in
theorem x_nd0 : ∀ a, a < 5 → ∀ b, b < 5 → a ≠ b → (x_T0 a).2.1 ≠ (x_T0 b).2.1 := by decide +kernel
def x_li0 : List Nat := [140, 142, 144, 146, 148]
set_option maxRecDepth 100000 in
theorem x_la0 : ∀ k, k < 5 → lw_tbl[(x_li0[k]?).getD 0]? = some (u_lay "StateMoves$Pieces" x_T0 k) := by decide +kernel
set_option maxRecDepth 100000 in
theorem x_ty1 : ∀ k, k < 5 → parseFieldDescriptor (x_T1 k).2.2.1 = some (x_ft 1 k) := by decide +kernel
set_option maxRecDepth 100000 in
theorem x_nd1 : ∀ a, a < 5 → ∀ b, b < 5 → a ≠ b → (x_T1 a).2.1 ≠ (x_T1 b).2.1 := by decide +kernel
def x_li1 : List Nat := [171, 173, 175, 177, 179]
set_option maxRecDepth 100000 in
theorem x_la1 : ∀ k, k < 5 → lw_tbl[(x_li1[k]?).getD 0]? = some (u_lay "StateMoves$Kind" x_T1 k) := by decide +kernel
set_option maxRecDepth 100000 in
theorem x_ty2 : ∀ k, k < 2 → parseFieldDescriptor (x_T2 k).2.2.1 = some (x_ft 2 k) := by decide +kernel
set_option maxRecDepth 100000 in
theorem x_nd2 : ∀ a, a < 2 → ∀ b, b < 2 → a ≠ b → (x_T2 a).2.1 ≠ (x_T2 b).2.1 := by decide +kernel
def x_li2 : List Nat := [195, 197]
set_option maxRecDepth 100000 in
theorem x_la2 : ∀ k, k < 2 → lw_tbl[(x_li2[k]?).getD 0]? = some (u_lay "StateMoves$Build" x_T2 k) := by decide +kernel
set_option maxRecDepth 100000 in
theorem x_ty3 : ∀ k, k < 7 → parseFieldDescriptor (x_T3 k).2.2.1 = some (x_ft 3 k) := by decide +kernel
set_option maxRecDepth 100000 in
theorem x_nd3 : ∀ a, a < 7 → ∀ b, b < 7 → a ≠ b → (x_T3 a).2.1 ≠ (x_T3 b).2.1 := by decide +kernel
def x_li3 : List Nat := [219, 221, 223, 225, 227, 229, 231]
set_option maxRecDepth 100000 in
theorem x_la3 : ∀ k, k < 7 → lw_tbl[(x_li3[k]?).getD 0]? = some (u_lay "StateMoves$Move" x_T3 k) := by decide +kernel
set_option maxRecDepth 100000 in
theorem x_ty4 : ∀ k, k < 16 → parseFieldDescriptor (x_T4 k).2.2.1 = some (x_ft 4 k) := by decide +kernel
set_option maxRecDepth 100000 in
theorem x_nd4 : ∀ a, a < 16 → ∀ b, b < 16 → a ≠ b → (x_T4 a).2.1 ≠ (x_T4 b).2.1 := by decide +kernel
def x_li4 : List Nat := [250, 252, 254, 256, 258, 260, 262, 264, 266, 268, 270, 272, 274, 276, 278, 280]
set_option maxRecDepth 100000 in
theorem x_la4 : ∀ k, k < 16 → lw_tbl[(x_li4[k]?).getD 0]? = some (u_lay "StateMoves$Parser" x_T4 k) := by decide +kernel
set_option maxRecDepth 100000 in
theorem x_ty5 : ∀ k, k < 4 → parseFieldDescriptor (x_T5 k).2.2.1 = some (x_ft 5 k) := by decide +kernel
set_option maxRecDepth 100000 in
theorem x_nd5 : ∀ a, a < 4 → ∀ b, b < 4 → a ≠ b → (x_T5 a).2.1 ≠ (x_T5 b).2.1 := by decide +kernel
def x_li5 : List Nat := [301, 303, 305, 307]
set_option maxRecDepth 100000 in
theorem x_la5 : ∀ k, k < 4 → lw_tbl[(x_li5[k]?).getD 0]? = some (u_lay "StateMoves$Reckoner" x_T5 k) := by decide +kernel
set_option maxRecDepth 100000 in
theorem x_ty6 : ∀ k, k < 13 → parseFieldDescriptor (x_T6 k).2.2.1 = some (x_ft 6 k) := by decide +kernel
set_option maxRecDepth 100000 in
theorem x_nd6 : ∀ a, a < 13 → ∀ b, b < 13 → a ≠ b → (x_T6 a).2.1 ≠ (x_T6 b).2.1 := by decide +kernel
def x_li6 : List Nat := [331, 333, 335, 337, 339, 341, 343, 345, 347, 349, 351, 353, 355]
set_option maxRecDepth 100000 in
theorem x_la6 : ∀ k, k < 13 → lw_tbl[(x_li6[k]?).getD 0]? = some (u_lay "StateMoves$Carrier" x_T6 k) := by decide +kernel
set_option maxRecDepth 100000 in
theorem x_ty7 : ∀ k, k < 3 → parseFieldDescriptor (x_T7 k).2.2.1 = some (x_ft 7 k) := by decide +kernel
set_option maxRecDepth 100000 in
theorem x_nd7 : ∀ a, a < 3 → ∀ b, b < 3 → a ≠ b → (x_T7 a).2.1 ≠ (x_T7 b).2.1 := by decide +kernel
def x_li7 : List Nat := [372, 374, 376]
set_option maxRecDepth 100000 in
theorem x_la7 : ∀ k, k < 3 → lw_tbl[(x_li7[k]?).getD 0]? = some (u_lay "StateMoves$Store" x_T7 k) := by decide +kernel
set_option maxRecDepth 100000 in
theorem x_ty8 : ∀ k, k < 11 → parseFieldDescriptor (x_T8 k).2.2.1 = some (x_ft 8 k) := by decide +kernel
set_option maxRecDepth 100000 in
theorem x_nd8 : ∀ a, a < 11 → ∀ b, b < 11 → a ≠ b → (x_T8 a).2.1 ≠ (x_T8 b).2.1 := by decide +kernel
def x_li8 : List Nat := [391, 393, 395, 397, 399, 401, 403, 405, 407, 409, 411]
set_option maxRecDepth 100000 in
theorem x_la8 : ∀ k, k < 11 → lw_tbl[(x_li8[k]?).getD 0]? = some (u_lay "StateMoves" x_T8 k) := by decide +kernel
set_option maxRecDepth 100000 in
theorem x_ty9 : ∀ k, k < 6 → parseFieldDescriptor (x_T9 k).2.2.1 = some (x_ft 9 k) := by decide +kernel
set_option maxRecDepth 100000 in
theorem x_nd9 : ∀ a, a < 6 → ∀ b, b < 6 → a ≠ b → (x_T9 a).2.1 ≠ (x_T9 b).2.1 := by decide +kernel
def x_li9 : List Nat := [508, 510, 512, 514, 516, 518]
set_option maxRecDepth 100000 in
theorem x_la9 : ∀ k, k < 6 → lw_tbl[(x_li9[k]?).getD 0]? = some (u_lay "StateMoves$Value" x_T9 k) := by decide +kernel
set_option maxRecDepth 100000 in
theorem x_ty10 : ∀ k, k < 5 → parseFieldDescriptor (x_T10 k).2.2.1 = some (x_ft 10 k) := by decide +kernel
set_option maxRecDepth 100000 in
theorem x_nd10 : ∀ a, a < 5 → ∀ b, b < 5 → a ≠ b → (x_T10 a).2.1 ≠ (x_T10 b).2.1 := by decide +kernel
def x_li10 : List Nat := [744, 746, 748, 750, 752]
set_option maxRecDepth 100000 in
theorem x_la10 : ∀ k, k < 5 → lw_tbl[(x_li10[k]?).getD 0]? = some (u_lay "StateMoves$RuleSet" x_T10 k) := by decide +kernel
set_option maxRecDepth 100000 in
theorem x_ty11 : ∀ k, k < 65 → parseFieldDescriptor (x_T11 k).2.2.1 = some (x_ft 11 k) := by decide +kernel
set_option maxRecDepth 100000 in
theorem x_nd11 : ∀ a, a < 65 → ∀ b, b < 65 → a ≠ b → (x_T11 a).2.1 ≠ (x_T11 b).2.1 := by decide +kernel
def x_li11 : List Nat := [1048, 1050, 1052, 1054, 1056, 1058, 1060, 1062, 1064, 1066, 1068, 1070, 1072, 1074, 1076, 1078, 1080, 1082, 1084, 1086, 1088, 1090, 1092, 1094, 1096, 1098, 1100, 1102, 1104, 1106, 1108, 1110, 1112, 1114, 1116, 1118, 1120, 1122, 1124, 1126, 1128, 1130, 1132, 1134, 1136, 1138, 1140, 1142, 1144, 1146, 1148, 1150, 1152, 1154, 1156, 1158, 1160, 1162, 1164, 1166, 1168, 1170, 1172, 1174, 1176]
set_option maxRecDepth 100000 in
theorem x_la11 : ∀ k, k < 65 → lw_tbl[(x_li11[k]?).getD 0]? = some (u_lay "StateMovesModel" x_T11 k) := by decide +kernel
theorem u_lay_good (C : String) (T : u_T) (k : Nat) : goodWord (u_lay C T k) = true := by unfold u_lay; split <;> rfl
theorem x_cl_ok {ci : Nat} {r : vw_C} (h : x_cl[ci]? = some r) : (∀ k, k < r.2.2 → parseFieldDescriptor (r.2.1 k).2.2.1 = some (x_ft ci k)) ∧ (∀ a, a < r.2.2 → ∀ b, b < r.2.2 → a ≠ b → (r.2.1 a).2.1 ≠ (r.2.1 b).2.1) := by
  match ci, h with
  | 0, h => cases h; exact ⟨x_ty0, x_nd0⟩
  | 1, h => cases h; exact ⟨x_ty1, x_nd1⟩
  | 2, h => cases h; exact ⟨x_ty2, x_nd2⟩
  | 3, h => cases h; exact ⟨x_ty3, x_nd3⟩
  | 4, h => cases h; exact ⟨x_ty4, x_nd4⟩
  | 5, h => cases h; exact ⟨x_ty5, x_nd5⟩
  | 6, h => cases h; exact ⟨x_ty6, x_nd6⟩
  | 7, h => cases h; exact ⟨x_ty7, x_nd7⟩
  | 8, h => cases h; exact ⟨x_ty8, x_nd8⟩
  | 9, h => cases h; exact ⟨x_ty9, x_nd9⟩
  | 10, h => cases h; exact ⟨x_ty10, x_nd10⟩
  | 11, h => cases h; exact ⟨x_ty11, x_nd11⟩
  | k + 12, h => cases h
theorem x_lays {C : String} {T : u_T} {N : Nat} (f : Nat → Nat) (h : ∀ k, k < N → lw_tbl[f k]? = some (u_lay C T k)) : ∀ w ∈ u_ws C T N, w ∈ x_G := by
  intro w hw
  obtain ⟨k, hk, rfl⟩ := List.mem_map.mp hw
  exact x_at_in (h k (List.mem_range.mp hk)) (u_lay_good C T k)
theorem x_cl_in {ci : Nat} {r : vw_C} (h : x_cl[ci]? = some r) : ∀ w ∈ u_ws r.1 r.2.1 r.2.2, w ∈ x_G := by
  match ci, h with
  | 0, h => cases h; exact x_lays (fun k => (x_li0[k]?).getD 0) x_la0
  | 1, h => cases h; exact x_lays (fun k => (x_li1[k]?).getD 0) x_la1
  | 2, h => cases h; exact x_lays (fun k => (x_li2[k]?).getD 0) x_la2
  | 3, h => cases h; exact x_lays (fun k => (x_li3[k]?).getD 0) x_la3
  | 4, h => cases h; exact x_lays (fun k => (x_li4[k]?).getD 0) x_la4
  | 5, h => cases h; exact x_lays (fun k => (x_li5[k]?).getD 0) x_la5
  | 6, h => cases h; exact x_lays (fun k => (x_li6[k]?).getD 0) x_la6
  | 7, h => cases h; exact x_lays (fun k => (x_li7[k]?).getD 0) x_la7
  | 8, h => cases h; exact x_lays (fun k => (x_li8[k]?).getD 0) x_la8
  | 9, h => cases h; exact x_lays (fun k => (x_li9[k]?).getD 0) x_la9
  | 10, h => cases h; exact x_lays (fun k => (x_li10[k]?).getD 0) x_la10
  | 11, h => cases h; exact x_lays (fun k => (x_li11[k]?).getD 0) x_la11
  | k + 12, h => cases h
theorem x_cl_df {ci : Nat} {r : vw_C} (h : x_cl[ci]? = some r) : (x_df ci).length = r.2.2 ∧ ∀ k, k < r.2.2 → (x_df ci)[k]? = some (defaultValue (x_ft ci k)) := by
  match ci, h with
  | 0, h => cases h; exact ⟨rfl, by decide +kernel⟩
  | 1, h => cases h; exact ⟨rfl, by decide +kernel⟩
  | 2, h => cases h; exact ⟨rfl, by decide +kernel⟩
  | 3, h => cases h; exact ⟨rfl, by decide +kernel⟩
  | 4, h => cases h; exact ⟨rfl, by decide +kernel⟩
  | 5, h => cases h; exact ⟨rfl, by decide +kernel⟩
  | 6, h => cases h; exact ⟨rfl, by decide +kernel⟩
  | 7, h => cases h; exact ⟨rfl, by decide +kernel⟩
  | 8, h => cases h; exact ⟨rfl, by decide +kernel⟩
  | 9, h => cases h; exact ⟨rfl, by decide +kernel⟩
  | 10, h => cases h; exact ⟨rfl, by decide +kernel⟩
  | 11, h => cases h; exact ⟨rfl, by decide +kernel⟩
  | k + 12, h => cases h
def x_fchk (q : Nat × Nat × (Nat × Nat) × Nat) : Bool := match x_cl[q.2.2.1.1]? with
  | some r => decide (q.2.2.1.2 < r.2.2) && decide (lw_tbl[q.2.2.2]? = some (.fieldLink (x_cn q.1) q.2.1 (r.2.1 q.2.2.1.2).1 (r.2.1 q.2.2.1.2).2.1 (r.2.1 q.2.2.1.2).2.2.1))
  | none => false
set_option maxRecDepth 100000 in
theorem x_fldT_ok_0 : ∀ q ∈ x_fldT_0, x_fchk q = true := by decide +kernel
set_option maxRecDepth 100000 in
theorem x_fldT_ok_1 : ∀ q ∈ x_fldT_1, x_fchk q = true := by decide +kernel
set_option maxRecDepth 100000 in
theorem x_fldT_ok_2 : ∀ q ∈ x_fldT_2, x_fchk q = true := by decide +kernel
set_option maxRecDepth 100000 in
theorem x_fldT_ok_3 : ∀ q ∈ x_fldT_3, x_fchk q = true := by decide +kernel
set_option maxRecDepth 100000 in
theorem x_fldT_ok_4 : ∀ q ∈ x_fldT_4, x_fchk q = true := by decide +kernel
theorem x_fldT_ok : ∀ q ∈ x_fldT, x_fchk q = true := List.forall_mem_append.mpr ⟨x_fldT_ok_0, List.forall_mem_append.mpr ⟨x_fldT_ok_1, List.forall_mem_append.mpr ⟨x_fldT_ok_2, List.forall_mem_append.mpr ⟨x_fldT_ok_3, x_fldT_ok_4⟩⟩⟩⟩
theorem x_fld_ok {j i ci k : Nat} (h : x_fld (x_oc j) i = some (ci, k)) : ∃ C T N, x_cl[ci]? = some (C, T, N) ∧ k < N ∧ Cond.fieldLink (x_own j) i (T k).1 (T k).2.1 (T k).2.2.1 ∈ x_G ∧ ∀ w ∈ u_ws C T N, w ∈ x_G := by
  unfold x_fld at h
  cases hl : x_look x_fldT (x_oc j) i with
  | none => rw [hl] at h; cases h
  | some v =>
    rw [hl] at h
    obtain ⟨⟨c, k'⟩, n⟩ := v
    cases h
    have h1 := x_fldT_ok _ (x_look_in hl)
    unfold x_fchk at h1
    dsimp only at h1
    split at h1
    · rename_i r hr
      rw [Bool.and_eq_true, decide_eq_true_eq, decide_eq_true_eq] at h1
      exact ⟨r.1, r.2.1, r.2.2, hr, h1.1, x_at_in h1.2 rfl, x_cl_in hr⟩
    · cases h1
theorem x_may_fin {j ci k : Nat} {r : vw_C} (hc : x_cl[ci]? = some r) (hf : (r.2.1 k).2.2.2 = true) (h : x_may j ci k = true) : x_ini j = true ∧ x_own j = (r.2.1 k).1 := by
  unfold x_may at h
  rw [hc] at h
  dsimp only at h
  rw [hf] at h
  simpa using h
def x_cli : List (Nat × Nat) := [(127, 92), (155, 93), (184, 94), (202, 95), (121, 91), (290, 97), (284, 96), (359, 98), (109, 90), (488, 100), (716, 104), (977, 99)]
def x_nchk (q : Nat × Nat × Nat × Nat) : Bool := match x_cl[q.2.2.1]?, x_cli[q.2.2.1]? with
  | some r, some z => decide (lw_tbl[q.2.2.2]? = some (.classLink (x_cn q.1) q.2.1 r.1)) && decide (lw_tbl[z.1]? = some (.instantiable r.1 r.2.2)) && decide (lw_tbl[z.2]? = some (.initialized r.1))
  | _, _ => false
set_option maxRecDepth 100000 in
theorem x_newT_ok_0 : ∀ q ∈ x_newT_0, x_nchk q = true := by decide +kernel
theorem x_newT_ok : ∀ q ∈ x_newT, x_nchk q = true := x_newT_ok_0
theorem x_newc_ok {j i ci : Nat} (h : x_newc (x_oc j) i = some ci) : ∃ C T N, x_cl[ci]? = some (C, T, N) ∧ (x_df ci).length = N ∧ (∀ k, k < N → (x_df ci)[k]? = some (defaultValue (x_ft ci k))) ∧ Cond.classLink (x_own j) i C ∈ x_G ∧ Cond.instantiable C N ∈ x_G ∧ Cond.initialized C ∈ x_G ∧ ∀ w ∈ u_ws C T N, w ∈ x_G := by
  unfold x_newc at h
  cases hl : x_look x_newT (x_oc j) i with
  | none => rw [hl] at h; cases h
  | some v =>
    rw [hl] at h
    obtain ⟨c, n⟩ := v
    cases h
    have h1 := x_newT_ok _ (x_look_in hl)
    unfold x_nchk at h1
    dsimp only at h1
    split at h1
    · rename_i r z hr hz
      rw [Bool.and_eq_true, Bool.and_eq_true, decide_eq_true_eq, decide_eq_true_eq, decide_eq_true_eq] at h1
      exact ⟨r.1, r.2.1, r.2.2, hr, (x_cl_df hr).1, (x_cl_df hr).2, x_at_in h1.1.1 rfl, x_at_in h1.1.2 rfl, x_at_in h1.2 rfl, x_cl_in hr⟩
    · cases h1
theorem x_na_ok {ty : Jvm.ClassFile.ArrayType} {t : Nat} (h : x_na ty = some t) : x_at[t]? = some (newarray.typeOf ty) ∧ Cond.arrayClass (newarray.typeOf ty) ∈ x_G := by
  cases ty <;> first
    | (cases h; exact ⟨rfl, x_at_in (i := 152) (by decide +kernel) rfl⟩)
    | (cases h; exact ⟨rfl, x_at_in (i := 153) (by decide +kernel) rfl⟩)
    | (cases h; exact ⟨rfl, x_at_in (i := 151) (by decide +kernel) rfl⟩)
    | (cases h; exact ⟨rfl, x_at_in (i := 182) (by decide +kernel) rfl⟩)
    | (exact absurd h (by intro q; cases q))
def x_aoi : List Nat := [0, 0, 0, 0, 0, 117, 119, 190, 201, 365]
def x_achk (q : Nat × Nat × Nat × Nat) : Bool := match x_at[q.2.2.1]?, x_aoi[q.2.2.1]? with
  | some (.object C), some z => decide (lw_tbl[q.2.2.2]? = some (.classLink (x_cn q.1) q.2.1 C)) && decide (lw_tbl[z]? = some (.arrayOver (.object C)))
  | _, _ => false
set_option maxRecDepth 100000 in
theorem x_anaT_ok_0 : ∀ q ∈ x_anaT_0, x_achk q = true := by decide +kernel
theorem x_anaT_ok : ∀ q ∈ x_anaT, x_achk q = true := x_anaT_ok_0
theorem x_ana_ok {j i t : Nat} (h : x_ana (x_oc j) i = some t) : ∃ C, x_at[t]? = some (.object C) ∧ Cond.classLink (x_own j) i C ∈ x_G ∧ Cond.arrayOver (.object C) ∈ x_O := by
  unfold x_ana at h
  cases hl : x_look x_anaT (x_oc j) i with
  | none => rw [hl] at h; cases h
  | some v =>
    rw [hl] at h
    obtain ⟨c, n⟩ := v
    cases h
    have h1 := x_anaT_ok _ (x_look_in hl)
    unfold x_achk at h1
    dsimp only at h1
    split at h1
    · rename_i C z hr hz
      rw [Bool.and_eq_true, decide_eq_true_eq, decide_eq_true_eq] at h1
      exact ⟨C, hr, x_at_in h1.1 rfl, List.mem_filter.mpr ⟨List.mem_of_getElem? h1.2, rfl⟩⟩
    · cases h1
theorem x_isq_ok {t : Nat} (h : x_isq t = true) : ∃ C, x_at[t]? = some (.object C) ∧ t ≠ x_tS ∧ ∀ r, x_cl[x_ac t]? = some r → r.1 = C := by
  unfold x_isq at h
  rw [Bool.and_eq_true, decide_eq_true_eq, decide_eq_true_eq] at h
  obtain ⟨h1, h2⟩ := h
  rcases Nat.lt_or_ge t 6 with hh | hh
  · have : t = 5 := by omega
    subst this
    exact ⟨_, rfl, by decide, fun r hr => by cases hr; rfl⟩
  rcases Nat.lt_or_ge t 7 with hh | hh
  · have : t = 6 := by omega
    subst this
    exact ⟨_, rfl, by decide, fun r hr => by cases hr; rfl⟩
  rcases Nat.lt_or_ge t 8 with hh | hh
  · have : t = 7 := by omega
    subst this
    exact ⟨_, rfl, by decide, fun r hr => by cases hr; rfl⟩
  rcases Nat.lt_or_ge t 9 with hh | hh
  · have : t = 8 := by omega
    subst this
    exact ⟨_, rfl, by decide, fun r hr => by cases hr; rfl⟩
  have : t = 9 := by omega
  subst this
  exact ⟨_, rfl, by decide, fun r hr => by cases hr; rfl⟩
theorem x_at_I {t : Nat} (h : t = x_tI ∨ t = x_tS) : x_at[t]? = some .int := by rcases h with rfl | rfl <;> rfl
theorem x_at_J {t : Nat} (h : t = x_tJ ∨ t = x_tJ) : x_at[t]? = some .long := by rcases h with rfl | rfl <;> rfl
theorem x_at_B : x_at[x_tB]? = some .byte := rfl
theorem x_at_Z : x_at[x_tZ]? = some .boolean := rfl
theorem x_nS_I : x_tI ≠ x_tS := by decide
theorem x_nS_J : x_tJ ≠ x_tS := by decide
theorem x_nS_B : x_tB ≠ x_tS := by decide
theorem x_nS_Z : x_tZ ≠ x_tS := by decide
def x_lchk (q : Nat × Nat × Int32 × Nat) : Bool := decide (lw_tbl[q.2.2.2]? = some (.constant (x_cn q.1) q.2.1 q.2.2.1))
set_option maxRecDepth 100000 in
theorem x_ldciT_ok_0 : ∀ q ∈ x_ldciT_0, x_lchk q = true := by decide +kernel
theorem x_ldciT_ok : ∀ q ∈ x_ldciT, x_lchk q = true := x_ldciT_ok_0
def x_l2chk (q : Nat × Nat × Int64 × Nat) : Bool := decide (lw_tbl[q.2.2.2]? = some (.constantLong (x_cn q.1) q.2.1 q.2.2.1))
set_option maxRecDepth 100000 in
theorem x_ldclT_ok_0 : ∀ q ∈ x_ldclT_0, x_l2chk q = true := by decide +kernel
set_option maxRecDepth 100000 in
theorem x_ldclT_ok_1 : ∀ q ∈ x_ldclT_1, x_l2chk q = true := by decide +kernel
theorem x_ldclT_ok : ∀ q ∈ x_ldclT, x_l2chk q = true := List.forall_mem_append.mpr ⟨x_ldclT_ok_0, x_ldclT_ok_1⟩
theorem x_ldci_ok {j i : Nat} {v : Int32} (h : x_ldci (x_oc j) i = some v) : Cond.constant (x_own j) i v ∈ x_G := by
  unfold x_ldci at h
  cases hl : x_look x_ldciT (x_oc j) i with
  | none => rw [hl] at h; cases h
  | some w =>
    rw [hl] at h
    obtain ⟨c, n⟩ := w
    cases h
    have h1 := x_ldciT_ok _ (x_look_in hl)
    unfold x_lchk at h1
    exact x_at_in (of_decide_eq_true h1) rfl
theorem x_ldcl_ok {j i : Nat} {v : Int64} (h : x_ldcl (x_oc j) i = some v) : Cond.constantLong (x_own j) i v ∈ x_G := by
  unfold x_ldcl at h
  cases hl : x_look x_ldclT (x_oc j) i with
  | none => rw [hl] at h; cases h
  | some w =>
    rw [hl] at h
    obtain ⟨c, n⟩ := w
    cases h
    have h1 := x_ldclT_ok _ (x_look_in hl)
    unfold x_l2chk at h1
    exact x_at_in (of_decide_eq_true h1) rfl
def x_dchk (jj n : Nat) : Bool := decide ((x_y jj).cls ≠ "java/lang/invoke/MethodHandle") && decide ((x_y jj).cls ≠ "java/lang/invoke/VarHandle") && decide ((parseMethodDescriptor (x_y jj).desc).map (fun d => d.parameters.length) = some n)
def x_ichk (q : Nat × Nat × (Nat × Nat × Nat) × Nat × Nat × Nat × Nat) : Bool := match q with
  | (oc, i, (kd, jj, n), w, a, b, c) =>
    if kd = 0 then decide (lw_tbl[w]? = some (.methodLink (x_cn oc) i (x_y jj))) && (decide (lw_tbl[a]? = some (.static (x_y jj))) && (decide (lw_tbl[b]? = some (.initialized (x_y jj).cls)) && x_dchk jj n))
    else if kd = 2 then decide (lw_tbl[w]? = some (.methodLink (x_cn oc) i (x_y jj))) && (decide (lw_tbl[a]? = some (.instanceMethod (x_y jj))) && (decide (lw_tbl[b]? = some (.initialized (x_y jj).cls)) && (decide (lw_tbl[c]? = some (.selects (x_y jj).cls (x_y jj) (x_y jj))) && (x_rv jj && x_dchk jj n))))
    else if kd = 4 then decide (lw_tbl[w]? = some (.methodLink (x_cn oc) i (x_y jj))) && (decide (lw_tbl[a]? = some (.instanceMethod (x_y jj))) && (decide (lw_tbl[b]? = some (.initialized (x_y jj).cls)) && (decide ((x_y jj).name = "<init>") && (decide (x_rt jj = none) && x_dchk jj n))))
    else if kd = 5 then decide (lw_tbl[w]? = some (.methodLinkNest (x_cn oc) i (x_y jj) "StateMoves")) && (decide (lw_tbl[a]? = some (.instanceMethod (x_y jj))) && (decide (lw_tbl[b]? = some (.initialized (x_y jj).cls)) && (decide ((x_y jj).name = "<init>") && (decide (x_rt jj = none) && x_dchk jj n))))
    else if kd = 6 then decide (lw_tbl[w]? = some (.methodLink (x_cn oc) i objectInit)) && (decide (lw_tbl[a]? = some (.instanceMethod objectInit)) && decide (lw_tbl[b]? = some (.code objectInit ⟨#[0xb1]⟩ 1 none)))
    else if kd = 8 then decide (lw_tbl[w]? = some (.methodLink (x_cn oc) i Lib.Math.min.name)) && (decide (lw_tbl[a]? = some (.static Lib.Math.min.name)) && (decide (lw_tbl[b]? = some (.initialized "java/lang/Math")) && decide (lw_tbl[c]? = some (.code Lib.Math.min.name Lib.Math.min.code 2 (some .int)))))
    else if kd = 9 then decide (lw_tbl[w]? = some (.methodLink (x_cn oc) i Lib.Math.max.name)) && (decide (lw_tbl[a]? = some (.static Lib.Math.max.name)) && (decide (lw_tbl[b]? = some (.initialized "java/lang/Math")) && decide (lw_tbl[c]? = some (.code Lib.Math.max.name Lib.Math.max.code 2 (some .int)))))
    else if kd = 10 then decide (lw_tbl[w]? = some (.methodLink (x_cn oc) i Lib.MathLoose.min_long.x)) && (decide (lw_tbl[a]? = some (.static Lib.MathLoose.min_long.x)) && (decide (lw_tbl[b]? = some (.initialized "java/lang/Math")) && decide (lw_tbl[c]? = some (.code Lib.MathLoose.min_long.x Lib.MathLoose.min_long.code 4 (some .long)))))
    else if kd = 7 then decide (lw_tbl[w]? = some (.methodLink (x_cn oc) i arraycopyName)) && (decide (lw_tbl[a]? = some (.static arraycopyName)) && (decide (lw_tbl[b]? = some (.initialized "java/lang/System")) && decide (lw_tbl[c]? = some (.native arraycopyName))))
    else false
set_option maxRecDepth 100000 in
theorem x_invT_ok_0 : ∀ q ∈ x_invT_0, x_ichk q = true := by decide +kernel
set_option maxRecDepth 100000 in
theorem x_invT_ok_1 : ∀ q ∈ x_invT_1, x_ichk q = true := by decide +kernel
set_option maxRecDepth 100000 in
theorem x_invT_ok_2 : ∀ q ∈ x_invT_2, x_ichk q = true := by decide +kernel
set_option maxRecDepth 100000 in
theorem x_invT_ok_3 : ∀ q ∈ x_invT_3, x_ichk q = true := by decide +kernel
set_option maxRecDepth 100000 in
theorem x_invT_ok_4 : ∀ q ∈ x_invT_4, x_ichk q = true := by decide +kernel
set_option maxRecDepth 100000 in
theorem x_invT_ok_5 : ∀ q ∈ x_invT_5, x_ichk q = true := by decide +kernel
set_option maxRecDepth 100000 in
theorem x_invT_ok_6 : ∀ q ∈ x_invT_6, x_ichk q = true := by decide +kernel
theorem x_invT_ok : ∀ q ∈ x_invT, x_ichk q = true := List.forall_mem_append.mpr ⟨x_invT_ok_0, List.forall_mem_append.mpr ⟨x_invT_ok_1, List.forall_mem_append.mpr ⟨x_invT_ok_2, List.forall_mem_append.mpr ⟨x_invT_ok_3, List.forall_mem_append.mpr ⟨x_invT_ok_4, List.forall_mem_append.mpr ⟨x_invT_ok_5, x_invT_ok_6⟩⟩⟩⟩⟩⟩
theorem x_inv_in {j i kd jj n : Nat} (h : x_inv (x_oc j) i = some (kd, jj, n)) : ∃ w a b c, x_ichk (x_oc j, i, (kd, jj, n), w, a, b, c) = true := by
  unfold x_inv at h
  cases hl : x_look x_invT (x_oc j) i with
  | none => rw [hl] at h; cases h
  | some v =>
    rw [hl] at h
    obtain ⟨q, w, a, b, c⟩ := v
    cases h
    exact ⟨w, a, b, c, x_invT_ok _ (x_look_in hl)⟩
theorem x_dchk_ok {jj n : Nat} (h : x_dchk jj n = true) : (x_y jj).cls ≠ "java/lang/invoke/MethodHandle" ∧ (x_y jj).cls ≠ "java/lang/invoke/VarHandle" ∧ (parseMethodDescriptor (x_y jj).desc).map (fun d => d.parameters.length) = some n := by
  unfold x_dchk at h
  rw [Bool.and_eq_true, Bool.and_eq_true, decide_eq_true_eq, decide_eq_true_eq, decide_eq_true_eq] at h
  exact ⟨h.1.1, h.1.2, h.2⟩
theorem x_inv_ok0 {j i jj n : Nat} (h : x_inv (x_oc j) i = some (0, jj, n)) : Cond.methodLink (x_own j) i (x_y jj) ∈ x_G ∧ Cond.static (x_y jj) ∈ x_G ∧ Cond.initialized (x_y jj).cls ∈ x_G ∧ (x_y jj).cls ≠ "java/lang/invoke/MethodHandle" ∧ (x_y jj).cls ≠ "java/lang/invoke/VarHandle" ∧ (parseMethodDescriptor (x_y jj).desc).map (fun d => d.parameters.length) = some n := by
  obtain ⟨w, a, b, c, q⟩ := x_inv_in h
  replace q : (decide (lw_tbl[w]? = some (Cond.methodLink (x_own j) i (x_y jj))) && (decide (lw_tbl[a]? = some (Cond.static (x_y jj))) && (decide (lw_tbl[b]? = some (Cond.initialized (x_y jj).cls)) && x_dchk jj n))) = true := q
  simp only [Bool.and_eq_true, decide_eq_true_eq] at q
  exact ⟨x_at_in q.1 rfl, x_at_in q.2.1 rfl, x_at_in q.2.2.1 rfl, x_dchk_ok q.2.2.2⟩
theorem x_inv_ok2 {j i jj n : Nat} (h : x_inv (x_oc j) i = some (2, jj, n)) : Cond.methodLink (x_own j) i (x_y jj) ∈ x_G ∧ Cond.instanceMethod (x_y jj) ∈ x_G ∧ Cond.selects (x_y jj).cls (x_y jj) (x_y jj) ∈ x_G ∧ Cond.initialized (x_y jj).cls ∈ x_G ∧ x_rv jj = true ∧ (x_y jj).cls ≠ "java/lang/invoke/MethodHandle" ∧ (x_y jj).cls ≠ "java/lang/invoke/VarHandle" ∧ (parseMethodDescriptor (x_y jj).desc).map (fun d => d.parameters.length) = some n := by
  obtain ⟨w, a, b, c, q⟩ := x_inv_in h
  replace q : (decide (lw_tbl[w]? = some (Cond.methodLink (x_own j) i (x_y jj))) && (decide (lw_tbl[a]? = some (Cond.instanceMethod (x_y jj))) && (decide (lw_tbl[b]? = some (Cond.initialized (x_y jj).cls)) && (decide (lw_tbl[c]? = some (Cond.selects (x_y jj).cls (x_y jj) (x_y jj))) && (x_rv jj && x_dchk jj n))))) = true := q
  simp only [Bool.and_eq_true, decide_eq_true_eq] at q
  exact ⟨x_at_in q.1 rfl, x_at_in q.2.1 rfl, x_at_in q.2.2.2.1 rfl, x_at_in q.2.2.1 rfl, q.2.2.2.2.1, x_dchk_ok q.2.2.2.2.2⟩
theorem x_inv_ok4 {j i jj n : Nat} (h : x_inv (x_oc j) i = some (4, jj, n)) : Cond.methodLink (x_own j) i (x_y jj) ∈ x_G ∧ Cond.instanceMethod (x_y jj) ∈ x_G ∧ Cond.initialized (x_y jj).cls ∈ x_G ∧ (x_y jj).name = "<init>" ∧ x_rt jj = none ∧ (x_y jj).cls ≠ "java/lang/invoke/MethodHandle" ∧ (x_y jj).cls ≠ "java/lang/invoke/VarHandle" ∧ (parseMethodDescriptor (x_y jj).desc).map (fun d => d.parameters.length) = some n := by
  obtain ⟨w, a, b, c, q⟩ := x_inv_in h
  replace q : (decide (lw_tbl[w]? = some (Cond.methodLink (x_own j) i (x_y jj))) && (decide (lw_tbl[a]? = some (Cond.instanceMethod (x_y jj))) && (decide (lw_tbl[b]? = some (Cond.initialized (x_y jj).cls)) && (decide ((x_y jj).name = "<init>") && (decide (x_rt jj = none) && x_dchk jj n))))) = true := q
  simp only [Bool.and_eq_true, decide_eq_true_eq] at q
  exact ⟨x_at_in q.1 rfl, x_at_in q.2.1 rfl, x_at_in q.2.2.1 rfl, q.2.2.2.1, q.2.2.2.2.1, x_dchk_ok q.2.2.2.2.2⟩
theorem x_inv_ok5 {j i jj n : Nat} (h : x_inv (x_oc j) i = some (5, jj, n)) : Cond.methodLinkNest (x_own j) i (x_y jj) "StateMoves" ∈ x_N ∧ Cond.instanceMethod (x_y jj) ∈ x_G ∧ Cond.initialized (x_y jj).cls ∈ x_G ∧ (x_y jj).name = "<init>" ∧ x_rt jj = none ∧ (x_y jj).cls ≠ "java/lang/invoke/MethodHandle" ∧ (x_y jj).cls ≠ "java/lang/invoke/VarHandle" ∧ (parseMethodDescriptor (x_y jj).desc).map (fun d => d.parameters.length) = some n := by
  obtain ⟨w, a, b, c, q⟩ := x_inv_in h
  replace q : (decide (lw_tbl[w]? = some (Cond.methodLinkNest (x_own j) i (x_y jj) "StateMoves")) && (decide (lw_tbl[a]? = some (Cond.instanceMethod (x_y jj))) && (decide (lw_tbl[b]? = some (Cond.initialized (x_y jj).cls)) && (decide ((x_y jj).name = "<init>") && (decide (x_rt jj = none) && x_dchk jj n))))) = true := q
  simp only [Bool.and_eq_true, decide_eq_true_eq] at q
  exact ⟨List.mem_filter.mpr ⟨List.mem_of_getElem? q.1, rfl⟩, x_at_in q.2.1 rfl, x_at_in q.2.2.1 rfl, q.2.2.2.1, q.2.2.2.2.1, x_dchk_ok q.2.2.2.2.2⟩
theorem x_inv_ok6 {j i jj n : Nat} (h : x_inv (x_oc j) i = some (6, jj, n)) : Cond.methodLink (x_own j) i objectInit ∈ x_G ∧ Cond.instanceMethod objectInit ∈ x_G ∧ Cond.code objectInit ⟨#[0xb1]⟩ 1 none ∈ x_G := by
  obtain ⟨w, a, b, c, q⟩ := x_inv_in h
  replace q : (decide (lw_tbl[w]? = some (Cond.methodLink (x_own j) i objectInit)) && (decide (lw_tbl[a]? = some (Cond.instanceMethod objectInit)) && decide (lw_tbl[b]? = some (Cond.code objectInit ⟨#[0xb1]⟩ 1 none)))) = true := q
  simp only [Bool.and_eq_true, decide_eq_true_eq] at q
  exact ⟨x_at_in q.1 rfl, x_at_in q.2.1 rfl, x_at_in q.2.2 rfl⟩
theorem x_inv_ok7 {j i jj n : Nat} (h : x_inv (x_oc j) i = some (7, jj, n)) : Cond.methodLink (x_own j) i arraycopyName ∈ x_G ∧ Cond.static arraycopyName ∈ x_G ∧ Cond.initialized "java/lang/System" ∈ x_G ∧ Cond.native arraycopyName ∈ x_G := by
  obtain ⟨w, a, b, c, q⟩ := x_inv_in h
  replace q : (decide (lw_tbl[w]? = some (Cond.methodLink (x_own j) i arraycopyName)) && (decide (lw_tbl[a]? = some (Cond.static arraycopyName)) && (decide (lw_tbl[b]? = some (Cond.initialized "java/lang/System")) && decide (lw_tbl[c]? = some (Cond.native arraycopyName))))) = true := q
  simp only [Bool.and_eq_true, decide_eq_true_eq] at q
  exact ⟨x_at_in q.1 rfl, x_at_in q.2.1 rfl, x_at_in q.2.2.1 rfl, x_at_in q.2.2.2 rfl⟩
theorem x_inv_ok8 {j i jj n : Nat} (h : x_inv (x_oc j) i = some (8, jj, n)) : Cond.methodLink (x_own j) i Lib.Math.min.name ∈ x_G ∧ Cond.static Lib.Math.min.name ∈ x_G ∧ Cond.initialized "java/lang/Math" ∈ x_G ∧ Cond.code Lib.Math.min.name Lib.Math.min.code 2 (some .int) ∈ x_G := by
  obtain ⟨w, a, b, c, q⟩ := x_inv_in h
  replace q : (decide (lw_tbl[w]? = some (Cond.methodLink (x_own j) i Lib.Math.min.name)) && (decide (lw_tbl[a]? = some (Cond.static Lib.Math.min.name)) && (decide (lw_tbl[b]? = some (Cond.initialized "java/lang/Math")) && decide (lw_tbl[c]? = some (Cond.code Lib.Math.min.name Lib.Math.min.code 2 (some .int)))))) = true := q
  simp only [Bool.and_eq_true, decide_eq_true_eq] at q
  exact ⟨x_at_in q.1 rfl, x_at_in q.2.1 rfl, x_at_in q.2.2.1 rfl, x_at_in q.2.2.2 rfl⟩
theorem x_inv_ok9 {j i jj n : Nat} (h : x_inv (x_oc j) i = some (9, jj, n)) : Cond.methodLink (x_own j) i Lib.Math.max.name ∈ x_G ∧ Cond.static Lib.Math.max.name ∈ x_G ∧ Cond.initialized "java/lang/Math" ∈ x_G ∧ Cond.code Lib.Math.max.name Lib.Math.max.code 2 (some .int) ∈ x_G := by
  obtain ⟨w, a, b, c, q⟩ := x_inv_in h
  replace q : (decide (lw_tbl[w]? = some (Cond.methodLink (x_own j) i Lib.Math.max.name)) && (decide (lw_tbl[a]? = some (Cond.static Lib.Math.max.name)) && (decide (lw_tbl[b]? = some (Cond.initialized "java/lang/Math")) && decide (lw_tbl[c]? = some (Cond.code Lib.Math.max.name Lib.Math.max.code 2 (some .int)))))) = true := q
  simp only [Bool.and_eq_true, decide_eq_true_eq] at q
  exact ⟨x_at_in q.1 rfl, x_at_in q.2.1 rfl, x_at_in q.2.2.1 rfl, x_at_in q.2.2.2 rfl⟩
theorem x_inv_ok10 {j i jj n : Nat} (h : x_inv (x_oc j) i = some (10, jj, n)) : Cond.methodLink (x_own j) i Lib.MathLoose.min_long.x ∈ x_G ∧ Cond.static Lib.MathLoose.min_long.x ∈ x_G ∧ Cond.initialized "java/lang/Math" ∈ x_G ∧ Cond.code Lib.MathLoose.min_long.x Lib.MathLoose.min_long.code 4 (some .long) ∈ x_G := by
  obtain ⟨w, a, b, c, q⟩ := x_inv_in h
  replace q : (decide (lw_tbl[w]? = some (Cond.methodLink (x_own j) i Lib.MathLoose.min_long.x)) && (decide (lw_tbl[a]? = some (Cond.static Lib.MathLoose.min_long.x)) && (decide (lw_tbl[b]? = some (Cond.initialized "java/lang/Math")) && decide (lw_tbl[c]? = some (Cond.code Lib.MathLoose.min_long.x Lib.MathLoose.min_long.code 4 (some .long)))))) = true := q
  simp only [Bool.and_eq_true, decide_eq_true_eq] at q
  exact ⟨x_at_in q.1 rfl, x_at_in q.2.1 rfl, x_at_in q.2.2.1 rfl, x_at_in q.2.2.2 rfl⟩
theorem x_rc_ok {j : Nat} {r : vw_C} (hv : x_rv j = true) (h : x_cl[x_rc j]? = some r) : r.1 = (x_y j).cls := by
  unfold x_rv at hv
  rw [h] at hv
  exact of_decide_eq_true hv
