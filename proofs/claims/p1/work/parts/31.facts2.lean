/-- of each method: is it static, the rows of tables_1 of its code, of its kind, of its class' start, and 1 + the place of its 'selects' in lw_tbl, or 0 -/
def mt_mr : List (Bool × Nat × Nat × Nat × Nat) := [(false, 25, 24, 1, 0), (false, 33, 32, 2, 0), (false, 39, 38, 3, 0), (false, 120, 119, 4, 0), (false, 128, 127, 5, 0), (false, 134, 133, 6, 0), (false, 187, 186, 7, 0), (false, 200, 199, 8, 0), (false, 266, 265, 9, 0), (false, 306, 304, 1, 399), (false, 310, 308, 1, 403), (false, 314, 312, 1, 407), (false, 318, 316, 4, 411), (false, 322, 320, 4, 415), (false, 326, 324, 1, 419), (false, 330, 328, 4, 423), (false, 334, 333, 4, 1), (false, 343, 341, 1, 436), (true, 346, 345, 1, 0), (false, 433, 431, 1, 526), (false, 437, 435, 2, 530), (false, 441, 439, 3, 534), (false, 445, 444, 2, 3), (false, 449, 448, 2, 4), (false, 453, 452, 2, 5), (false, 457, 456, 2, 6), (false, 462, 461, 2, 7), (false, 466, 465, 2, 8), (false, 470, 469, 2, 9), (false, 474, 473, 2, 10), (false, 478, 477, 2, 11), (false, 483, 482, 2, 12), (false, 487, 485, 3, 580), (false, 491, 490, 3, 13), (false, 495, 494, 2, 14), (false, 499, 497, 3, 592), (true, 502, 501, 3, 0), (false, 512, 511, 2, 15), (false, 517, 516, 2, 16), (false, 536, 534, 4, 629), (false, 540, 538, 3, 633), (false, 544, 542, 5, 637), (false, 548, 547, 3, 17), (false, 552, 550, 5, 645), (false, 556, 554, 5, 649), (false, 560, 558, 5, 653), (false, 564, 563, 5, 18), (true, 567, 566, 1, 0), (false, 571, 569, 5, 664), (false, 576, 575, 4, 19), (false, 580, 578, 5, 673), (false, 584, 582, 5, 677), (false, 588, 587, 5, 20), (false, 592, 591, 4, 21), (false, 596, 594, 8, 689), (false, 600, 599, 8, 22), (false, 604, 603, 8, 23), (true, 608, 607, 1, 0), (false, 614, 612, 5, 707), (false, 620, 619, 18, 0), (false, 661, 659, 1, 754), (false, 665, 663, 4, 758), (false, 669, 668, 4, 24), (false, 673, 672, 4, 25), (false, 677, 676, 4, 26), (false, 681, 680, 4, 27), (false, 685, 684, 4, 28), (false, 689, 687, 7, 782), (false, 693, 692, 7, 29), (false, 698, 697, 7, 30), (false, 702, 701, 7, 31), (false, 706, 705, 7, 32), (false, 712, 711, 7, 33), (false, 716, 715, 7, 34), (false, 723, 722, 4, 35), (false, 727, 725, 7, 820), (false, 734, 732, 1, 827), (false, 742, 740, 1, 835), (false, 761, 759, 9, 854), (false, 765, 764, 9, 36), (false, 769, 768, 9, 37), (false, 773, 772, 9, 38), (false, 779, 778, 9, 39), (false, 788, 786, 1, 881), (false, 795, 793, 1, 888), (false, 802, 800, 1, 895), (false, 810, 808, 1, 903), (false, 814, 812, 2, 907), (false, 819, 818, 2, 40), (false, 825, 824, 1, 41), (false, 829, 828, 1, 42), (false, 834, 833, 1, 43), (false, 844, 842, 1, 937), (false, 850, 849, 10, 0), (false, 1033, 1031, 10, 1126), (false, 1037, 1035, 10, 1130), (false, 1044, 1042, 10, 1137), (false, 1048, 1046, 10, 1141), (false, 1052, 1050, 10, 1145), (false, 1056, 1055, 10, 44), (false, 1060, 1059, 10, 45), (false, 1064, 1063, 10, 46), (false, 1068, 1067, 10, 47), (false, 1072, 1071, 10, 48), (false, 1076, 1075, 10, 49), (false, 1080, 1079, 10, 50), (false, 1084, 1083, 10, 51), (false, 1088, 1087, 10, 52), (false, 1092, 1091, 10, 53), (false, 1096, 1095, 10, 54), (false, 1100, 1099, 10, 55), (false, 1104, 1103, 10, 56), (false, 1108, 1107, 10, 57), (false, 1112, 1111, 10, 58), (false, 1116, 1115, 10, 59), (false, 1120, 1119, 10, 60), (false, 1124, 1123, 10, 61), (false, 1128, 1127, 10, 62), (false, 1132, 1131, 10, 63), (false, 1136, 1135, 10, 64), (false, 1140, 1139, 10, 65), (false, 1144, 1143, 10, 66), (true, 1147, 1146, 10, 0), (true, 1150, 1149, 10, 0), (false, 1154, 1153, 10, 67), (true, 1157, 1156, 10, 0), (false, 1161, 1160, 10, 68), (false, 1165, 1164, 10, 69), (false, 1169, 1168, 10, 70), (false, 1173, 1172, 10, 71), (false, 1177, 1176, 10, 72), (false, 1181, 1180, 10, 73), (false, 1185, 1184, 10, 74), (false, 1189, 1187, 10, 1282), (false, 1193, 1192, 10, 75), (false, 1197, 1196, 10, 76), (false, 1201, 1199, 10, 1294), (false, 1205, 1204, 10, 77), (false, 1209, 1208, 10, 78), (false, 1213, 1212, 10, 79), (false, 1217, 1216, 10, 80), (false, 1221, 1220, 10, 81), (false, 1225, 1224, 10, 82), (false, 1229, 1228, 10, 83), (false, 1233, 1232, 10, 84), (false, 1237, 1236, 10, 85), (false, 1241, 1240, 10, 86), (false, 1245, 1243, 10, 1338), (false, 1249, 1247, 10, 1342), (false, 1253, 1252, 10, 87), (false, 1257, 1256, 10, 88), (false, 1261, 1260, 10, 89), (false, 1265, 1264, 10, 90), (false, 1269, 1267, 10, 1362), (false, 1273, 1271, 10, 1366), (false, 1277, 1275, 10, 1370), (false, 1281, 1279, 10, 1374), (false, 1285, 1283, 10, 1378), (false, 1289, 1287, 10, 1382), (false, 1293, 1292, 10, 91), (false, 1297, 1296, 10, 92), (false, 1301, 1300, 10, 93), (true, 337, 336, 0, 0), (true, 428, 427, 0, 0), (true, 657, 656, 0, 0), (true, 730, 729, 0, 0), (true, 737, 736, 0, 0), (true, 784, 783, 0, 0), (true, 791, 790, 0, 0), (true, 798, 797, 0, 0), (true, 806, 805, 0, 0), (true, 840, 839, 0, 0)]
def mt_rowL (i : Nat) (w : Cond) : Bool := decide (lw_tbl[i]? = some w) && mt_okw w
theorem mt_rowL_in {i : Nat} {w : Cond} (h : mt_rowL i w = true) : w ∈ mt_WT := by
  unfold mt_rowL at h
  rw [Bool.and_eq_true, decide_eq_true_eq] at h
  exact List.mem_filter.mpr ⟨List.mem_of_getElem? h.1, h.2⟩
def mt_mck (j : Nat) : Bool := match mt_mr[j]? with
  | some (st, _, b, d, e) => mt_row b (if st then .static (mt_y j) else .instanceMethod (mt_y j)) && mt_row d (.initialized (mt_y j).cls) && (decide (e = 0) || mt_rowL (e - 1) (.selects (mt_y j).cls (mt_y j) (mt_y j)))
  | none => false
set_option maxRecDepth 100000 in
theorem mt_mc0 : ((List.range 20).drop 0).all mt_mck = true := by decide +kernel
set_option maxRecDepth 100000 in
theorem mt_mc1 : ((List.range 40).drop 20).all mt_mck = true := by decide +kernel
set_option maxRecDepth 100000 in
theorem mt_mc2 : ((List.range 60).drop 40).all mt_mck = true := by decide +kernel
set_option maxRecDepth 100000 in
theorem mt_mc3 : ((List.range 80).drop 60).all mt_mck = true := by decide +kernel
set_option maxRecDepth 100000 in
theorem mt_mc4 : ((List.range 100).drop 80).all mt_mck = true := by decide +kernel
set_option maxRecDepth 100000 in
theorem mt_mc5 : ((List.range 120).drop 100).all mt_mck = true := by decide +kernel
set_option maxRecDepth 100000 in
theorem mt_mc6 : ((List.range 140).drop 120).all mt_mck = true := by decide +kernel
set_option maxRecDepth 100000 in
theorem mt_mc7 : ((List.range 160).drop 140).all mt_mck = true := by decide +kernel
set_option maxRecDepth 100000 in
theorem mt_mc8 : ((List.range 172).drop 160).all mt_mck = true := by decide +kernel
theorem mt_mcall : ∀ j, j < 172 → mt_mck j = true := by
  intro j hj
  by_cases h0 : 0 ≤ j ∧ j < 20
  · exact List.all_eq_true.mp mt_mc0 j (by rw [List.mem_drop_iff_getElem]; exact ⟨j - 0, by simp <;> omega, by simp <;> omega⟩)
  by_cases h1 : 20 ≤ j ∧ j < 40
  · exact List.all_eq_true.mp mt_mc1 j (by rw [List.mem_drop_iff_getElem]; exact ⟨j - 20, by simp <;> omega, by simp <;> omega⟩)
  by_cases h2 : 40 ≤ j ∧ j < 60
  · exact List.all_eq_true.mp mt_mc2 j (by rw [List.mem_drop_iff_getElem]; exact ⟨j - 40, by simp <;> omega, by simp <;> omega⟩)
  by_cases h3 : 60 ≤ j ∧ j < 80
  · exact List.all_eq_true.mp mt_mc3 j (by rw [List.mem_drop_iff_getElem]; exact ⟨j - 60, by simp <;> omega, by simp <;> omega⟩)
  by_cases h4 : 80 ≤ j ∧ j < 100
  · exact List.all_eq_true.mp mt_mc4 j (by rw [List.mem_drop_iff_getElem]; exact ⟨j - 80, by simp <;> omega, by simp <;> omega⟩)
  by_cases h5 : 100 ≤ j ∧ j < 120
  · exact List.all_eq_true.mp mt_mc5 j (by rw [List.mem_drop_iff_getElem]; exact ⟨j - 100, by simp <;> omega, by simp <;> omega⟩)
  by_cases h6 : 120 ≤ j ∧ j < 140
  · exact List.all_eq_true.mp mt_mc6 j (by rw [List.mem_drop_iff_getElem]; exact ⟨j - 120, by simp <;> omega, by simp <;> omega⟩)
  by_cases h7 : 140 ≤ j ∧ j < 160
  · exact List.all_eq_true.mp mt_mc7 j (by rw [List.mem_drop_iff_getElem]; exact ⟨j - 140, by simp <;> omega, by simp <;> omega⟩)
  by_cases h8 : 160 ≤ j ∧ j < 172
  · exact List.all_eq_true.mp mt_mc8 j (by rw [List.mem_drop_iff_getElem]; exact ⟨j - 160, by simp <;> omega, by simp <;> omega⟩)
  omega
set_option maxRecDepth 100000 in
theorem mt_w0 : tables_1[25]? = some (mt_cw 0) := rfl
set_option maxRecDepth 100000 in
theorem mt_w1 : tables_1[33]? = some (mt_cw 1) := rfl
set_option maxRecDepth 100000 in
theorem mt_w2 : tables_1[39]? = some (mt_cw 2) := rfl
set_option maxRecDepth 100000 in
theorem mt_w3 : tables_1[120]? = some (mt_cw 3) := rfl
set_option maxRecDepth 100000 in
theorem mt_w4 : tables_1[128]? = some (mt_cw 4) := rfl
set_option maxRecDepth 100000 in
theorem mt_w5 : tables_1[134]? = some (mt_cw 5) := rfl
set_option maxRecDepth 100000 in
theorem mt_w6 : tables_1[187]? = some (mt_cw 6) := rfl
set_option maxRecDepth 100000 in
theorem mt_w7 : tables_1[200]? = some (mt_cw 7) := rfl
set_option maxRecDepth 100000 in
theorem mt_w8 : tables_1[266]? = some (mt_cw 8) := rfl
set_option maxRecDepth 100000 in
theorem mt_w9 : tables_1[306]? = some (mt_cw 9) := rfl
set_option maxRecDepth 100000 in
theorem mt_w10 : tables_1[310]? = some (mt_cw 10) := rfl
set_option maxRecDepth 100000 in
theorem mt_w11 : tables_1[314]? = some (mt_cw 11) := rfl
set_option maxRecDepth 100000 in
theorem mt_w12 : tables_1[318]? = some (mt_cw 12) := rfl
set_option maxRecDepth 100000 in
theorem mt_w13 : tables_1[322]? = some (mt_cw 13) := rfl
set_option maxRecDepth 100000 in
theorem mt_w14 : tables_1[326]? = some (mt_cw 14) := rfl
set_option maxRecDepth 100000 in
theorem mt_w15 : tables_1[330]? = some (mt_cw 15) := rfl
set_option maxRecDepth 100000 in
theorem mt_w16 : tables_1[334]? = some (mt_cw 16) := rfl
set_option maxRecDepth 100000 in
theorem mt_w17 : tables_1[343]? = some (mt_cw 17) := rfl
set_option maxRecDepth 100000 in
theorem mt_w18 : tables_1[346]? = some (mt_cw 18) := rfl
set_option maxRecDepth 100000 in
theorem mt_w19 : tables_1[433]? = some (mt_cw 19) := rfl
set_option maxRecDepth 100000 in
theorem mt_w20 : tables_1[437]? = some (mt_cw 20) := rfl
set_option maxRecDepth 100000 in
theorem mt_w21 : tables_1[441]? = some (mt_cw 21) := rfl
set_option maxRecDepth 100000 in
theorem mt_w22 : tables_1[445]? = some (mt_cw 22) := rfl
set_option maxRecDepth 100000 in
theorem mt_w23 : tables_1[449]? = some (mt_cw 23) := rfl
set_option maxRecDepth 100000 in
theorem mt_w24 : tables_1[453]? = some (mt_cw 24) := rfl
set_option maxRecDepth 100000 in
theorem mt_w25 : tables_1[457]? = some (mt_cw 25) := rfl
set_option maxRecDepth 100000 in
theorem mt_w26 : tables_1[462]? = some (mt_cw 26) := rfl
set_option maxRecDepth 100000 in
theorem mt_w27 : tables_1[466]? = some (mt_cw 27) := rfl
set_option maxRecDepth 100000 in
theorem mt_w28 : tables_1[470]? = some (mt_cw 28) := rfl
set_option maxRecDepth 100000 in
theorem mt_w29 : tables_1[474]? = some (mt_cw 29) := rfl
set_option maxRecDepth 100000 in
theorem mt_w30 : tables_1[478]? = some (mt_cw 30) := rfl
set_option maxRecDepth 100000 in
theorem mt_w31 : tables_1[483]? = some (mt_cw 31) := rfl
set_option maxRecDepth 100000 in
theorem mt_w32 : tables_1[487]? = some (mt_cw 32) := rfl
set_option maxRecDepth 100000 in
theorem mt_w33 : tables_1[491]? = some (mt_cw 33) := rfl
set_option maxRecDepth 100000 in
theorem mt_w34 : tables_1[495]? = some (mt_cw 34) := rfl
set_option maxRecDepth 100000 in
theorem mt_w35 : tables_1[499]? = some (mt_cw 35) := rfl
set_option maxRecDepth 100000 in
theorem mt_w36 : tables_1[502]? = some (mt_cw 36) := rfl
set_option maxRecDepth 100000 in
theorem mt_w37 : tables_1[512]? = some (mt_cw 37) := rfl
set_option maxRecDepth 100000 in
theorem mt_w38 : tables_1[517]? = some (mt_cw 38) := rfl
set_option maxRecDepth 100000 in
theorem mt_w39 : tables_1[536]? = some (mt_cw 39) := rfl
set_option maxRecDepth 100000 in
theorem mt_w40 : tables_1[540]? = some (mt_cw 40) := rfl
set_option maxRecDepth 100000 in
theorem mt_w41 : tables_1[544]? = some (mt_cw 41) := rfl
set_option maxRecDepth 100000 in
theorem mt_w42 : tables_1[548]? = some (mt_cw 42) := rfl
set_option maxRecDepth 100000 in
theorem mt_w43 : tables_1[552]? = some (mt_cw 43) := rfl
set_option maxRecDepth 100000 in
theorem mt_w44 : tables_1[556]? = some (mt_cw 44) := rfl
set_option maxRecDepth 100000 in
theorem mt_w45 : tables_1[560]? = some (mt_cw 45) := rfl
set_option maxRecDepth 100000 in
theorem mt_w46 : tables_1[564]? = some (mt_cw 46) := rfl
set_option maxRecDepth 100000 in
theorem mt_w47 : tables_1[567]? = some (mt_cw 47) := rfl
set_option maxRecDepth 100000 in
theorem mt_w48 : tables_1[571]? = some (mt_cw 48) := rfl
set_option maxRecDepth 100000 in
theorem mt_w49 : tables_1[576]? = some (mt_cw 49) := rfl
set_option maxRecDepth 100000 in
theorem mt_w50 : tables_1[580]? = some (mt_cw 50) := rfl
set_option maxRecDepth 100000 in
theorem mt_w51 : tables_1[584]? = some (mt_cw 51) := rfl
set_option maxRecDepth 100000 in
theorem mt_w52 : tables_1[588]? = some (mt_cw 52) := rfl
set_option maxRecDepth 100000 in
theorem mt_w53 : tables_1[592]? = some (mt_cw 53) := rfl
set_option maxRecDepth 100000 in
theorem mt_w54 : tables_1[596]? = some (mt_cw 54) := rfl
set_option maxRecDepth 100000 in
theorem mt_w55 : tables_1[600]? = some (mt_cw 55) := rfl
set_option maxRecDepth 100000 in
theorem mt_w56 : tables_1[604]? = some (mt_cw 56) := rfl
set_option maxRecDepth 100000 in
theorem mt_w57 : tables_1[608]? = some (mt_cw 57) := rfl
set_option maxRecDepth 100000 in
theorem mt_w58 : tables_1[614]? = some (mt_cw 58) := rfl
set_option maxRecDepth 100000 in
theorem mt_w59 : tables_1[620]? = some (mt_cw 59) := rfl
set_option maxRecDepth 100000 in
theorem mt_w60 : tables_1[661]? = some (mt_cw 60) := rfl
set_option maxRecDepth 100000 in
theorem mt_w61 : tables_1[665]? = some (mt_cw 61) := rfl
set_option maxRecDepth 100000 in
theorem mt_w62 : tables_1[669]? = some (mt_cw 62) := rfl
set_option maxRecDepth 100000 in
theorem mt_w63 : tables_1[673]? = some (mt_cw 63) := rfl
set_option maxRecDepth 100000 in
theorem mt_w64 : tables_1[677]? = some (mt_cw 64) := rfl
set_option maxRecDepth 100000 in
theorem mt_w65 : tables_1[681]? = some (mt_cw 65) := rfl
set_option maxRecDepth 100000 in
theorem mt_w66 : tables_1[685]? = some (mt_cw 66) := rfl
set_option maxRecDepth 100000 in
theorem mt_w67 : tables_1[689]? = some (mt_cw 67) := rfl
set_option maxRecDepth 100000 in
theorem mt_w68 : tables_1[693]? = some (mt_cw 68) := rfl
set_option maxRecDepth 100000 in
theorem mt_w69 : tables_1[698]? = some (mt_cw 69) := rfl
set_option maxRecDepth 100000 in
theorem mt_w70 : tables_1[702]? = some (mt_cw 70) := rfl
set_option maxRecDepth 100000 in
theorem mt_w71 : tables_1[706]? = some (mt_cw 71) := rfl
set_option maxRecDepth 100000 in
theorem mt_w72 : tables_1[712]? = some (mt_cw 72) := rfl
set_option maxRecDepth 100000 in
theorem mt_w73 : tables_1[716]? = some (mt_cw 73) := rfl
set_option maxRecDepth 100000 in
theorem mt_w74 : tables_1[723]? = some (mt_cw 74) := rfl
set_option maxRecDepth 100000 in
theorem mt_w75 : tables_1[727]? = some (mt_cw 75) := rfl
set_option maxRecDepth 100000 in
theorem mt_w76 : tables_1[734]? = some (mt_cw 76) := rfl
set_option maxRecDepth 100000 in
theorem mt_w77 : tables_1[742]? = some (mt_cw 77) := rfl
set_option maxRecDepth 100000 in
theorem mt_w78 : tables_1[761]? = some (mt_cw 78) := rfl
set_option maxRecDepth 100000 in
theorem mt_w79 : tables_1[765]? = some (mt_cw 79) := rfl
set_option maxRecDepth 100000 in
theorem mt_w80 : tables_1[769]? = some (mt_cw 80) := rfl
set_option maxRecDepth 100000 in
theorem mt_w81 : tables_1[773]? = some (mt_cw 81) := rfl
set_option maxRecDepth 100000 in
theorem mt_w82 : tables_1[779]? = some (mt_cw 82) := rfl
set_option maxRecDepth 100000 in
theorem mt_w83 : tables_1[788]? = some (mt_cw 83) := rfl
set_option maxRecDepth 100000 in
theorem mt_w84 : tables_1[795]? = some (mt_cw 84) := rfl
set_option maxRecDepth 100000 in
theorem mt_w85 : tables_1[802]? = some (mt_cw 85) := rfl
set_option maxRecDepth 100000 in
theorem mt_w86 : tables_1[810]? = some (mt_cw 86) := rfl
set_option maxRecDepth 100000 in
theorem mt_w87 : tables_1[814]? = some (mt_cw 87) := rfl
set_option maxRecDepth 100000 in
theorem mt_w88 : tables_1[819]? = some (mt_cw 88) := rfl
set_option maxRecDepth 100000 in
theorem mt_w89 : tables_1[825]? = some (mt_cw 89) := rfl
set_option maxRecDepth 100000 in
theorem mt_w90 : tables_1[829]? = some (mt_cw 90) := rfl
set_option maxRecDepth 100000 in
theorem mt_w91 : tables_1[834]? = some (mt_cw 91) := rfl
set_option maxRecDepth 100000 in
theorem mt_w92 : tables_1[844]? = some (mt_cw 92) := rfl
set_option maxRecDepth 100000 in
theorem mt_w93 : tables_1[850]? = some (mt_cw 93) := rfl
set_option maxRecDepth 100000 in
theorem mt_w94 : tables_1[1033]? = some (mt_cw 94) := rfl
set_option maxRecDepth 100000 in
theorem mt_w95 : tables_1[1037]? = some (mt_cw 95) := rfl
set_option maxRecDepth 100000 in
theorem mt_w96 : tables_1[1044]? = some (mt_cw 96) := rfl
set_option maxRecDepth 100000 in
theorem mt_w97 : tables_1[1048]? = some (mt_cw 97) := rfl
set_option maxRecDepth 100000 in
theorem mt_w98 : tables_1[1052]? = some (mt_cw 98) := rfl
set_option maxRecDepth 100000 in
theorem mt_w99 : tables_1[1056]? = some (mt_cw 99) := rfl
set_option maxRecDepth 100000 in
theorem mt_w100 : tables_1[1060]? = some (mt_cw 100) := rfl
set_option maxRecDepth 100000 in
theorem mt_w101 : tables_1[1064]? = some (mt_cw 101) := rfl
set_option maxRecDepth 100000 in
theorem mt_w102 : tables_1[1068]? = some (mt_cw 102) := rfl
set_option maxRecDepth 100000 in
theorem mt_w103 : tables_1[1072]? = some (mt_cw 103) := rfl
set_option maxRecDepth 100000 in
theorem mt_w104 : tables_1[1076]? = some (mt_cw 104) := rfl
set_option maxRecDepth 100000 in
theorem mt_w105 : tables_1[1080]? = some (mt_cw 105) := rfl
set_option maxRecDepth 100000 in
theorem mt_w106 : tables_1[1084]? = some (mt_cw 106) := rfl
set_option maxRecDepth 100000 in
theorem mt_w107 : tables_1[1088]? = some (mt_cw 107) := rfl
set_option maxRecDepth 100000 in
theorem mt_w108 : tables_1[1092]? = some (mt_cw 108) := rfl
set_option maxRecDepth 100000 in
theorem mt_w109 : tables_1[1096]? = some (mt_cw 109) := rfl
set_option maxRecDepth 100000 in
theorem mt_w110 : tables_1[1100]? = some (mt_cw 110) := rfl
set_option maxRecDepth 100000 in
theorem mt_w111 : tables_1[1104]? = some (mt_cw 111) := rfl
set_option maxRecDepth 100000 in
theorem mt_w112 : tables_1[1108]? = some (mt_cw 112) := rfl
set_option maxRecDepth 100000 in
theorem mt_w113 : tables_1[1112]? = some (mt_cw 113) := rfl
set_option maxRecDepth 100000 in
theorem mt_w114 : tables_1[1116]? = some (mt_cw 114) := rfl
set_option maxRecDepth 100000 in
theorem mt_w115 : tables_1[1120]? = some (mt_cw 115) := rfl
set_option maxRecDepth 100000 in
theorem mt_w116 : tables_1[1124]? = some (mt_cw 116) := rfl
set_option maxRecDepth 100000 in
theorem mt_w117 : tables_1[1128]? = some (mt_cw 117) := rfl
set_option maxRecDepth 100000 in
theorem mt_w118 : tables_1[1132]? = some (mt_cw 118) := rfl
set_option maxRecDepth 100000 in
theorem mt_w119 : tables_1[1136]? = some (mt_cw 119) := rfl
set_option maxRecDepth 100000 in
theorem mt_w120 : tables_1[1140]? = some (mt_cw 120) := rfl
set_option maxRecDepth 100000 in
theorem mt_w121 : tables_1[1144]? = some (mt_cw 121) := rfl
set_option maxRecDepth 100000 in
theorem mt_w122 : tables_1[1147]? = some (mt_cw 122) := rfl
set_option maxRecDepth 100000 in
theorem mt_w123 : tables_1[1150]? = some (mt_cw 123) := rfl
set_option maxRecDepth 100000 in
theorem mt_w124 : tables_1[1154]? = some (mt_cw 124) := rfl
set_option maxRecDepth 100000 in
theorem mt_w125 : tables_1[1157]? = some (mt_cw 125) := rfl
set_option maxRecDepth 100000 in
theorem mt_w126 : tables_1[1161]? = some (mt_cw 126) := rfl
set_option maxRecDepth 100000 in
theorem mt_w127 : tables_1[1165]? = some (mt_cw 127) := rfl
set_option maxRecDepth 100000 in
theorem mt_w128 : tables_1[1169]? = some (mt_cw 128) := rfl
set_option maxRecDepth 100000 in
theorem mt_w129 : tables_1[1173]? = some (mt_cw 129) := rfl
set_option maxRecDepth 100000 in
theorem mt_w130 : tables_1[1177]? = some (mt_cw 130) := rfl
set_option maxRecDepth 100000 in
theorem mt_w131 : tables_1[1181]? = some (mt_cw 131) := rfl
set_option maxRecDepth 100000 in
theorem mt_w132 : tables_1[1185]? = some (mt_cw 132) := rfl
set_option maxRecDepth 100000 in
theorem mt_w133 : tables_1[1189]? = some (mt_cw 133) := rfl
set_option maxRecDepth 100000 in
theorem mt_w134 : tables_1[1193]? = some (mt_cw 134) := rfl
set_option maxRecDepth 100000 in
theorem mt_w135 : tables_1[1197]? = some (mt_cw 135) := rfl
set_option maxRecDepth 100000 in
theorem mt_w136 : tables_1[1201]? = some (mt_cw 136) := rfl
set_option maxRecDepth 100000 in
theorem mt_w137 : tables_1[1205]? = some (mt_cw 137) := rfl
set_option maxRecDepth 100000 in
theorem mt_w138 : tables_1[1209]? = some (mt_cw 138) := rfl
set_option maxRecDepth 100000 in
theorem mt_w139 : tables_1[1213]? = some (mt_cw 139) := rfl
set_option maxRecDepth 100000 in
theorem mt_w140 : tables_1[1217]? = some (mt_cw 140) := rfl
set_option maxRecDepth 100000 in
theorem mt_w141 : tables_1[1221]? = some (mt_cw 141) := rfl
set_option maxRecDepth 100000 in
theorem mt_w142 : tables_1[1225]? = some (mt_cw 142) := rfl
set_option maxRecDepth 100000 in
theorem mt_w143 : tables_1[1229]? = some (mt_cw 143) := rfl
set_option maxRecDepth 100000 in
theorem mt_w144 : tables_1[1233]? = some (mt_cw 144) := rfl
set_option maxRecDepth 100000 in
theorem mt_w145 : tables_1[1237]? = some (mt_cw 145) := rfl
set_option maxRecDepth 100000 in
theorem mt_w146 : tables_1[1241]? = some (mt_cw 146) := rfl
set_option maxRecDepth 100000 in
theorem mt_w147 : tables_1[1245]? = some (mt_cw 147) := rfl
set_option maxRecDepth 100000 in
theorem mt_w148 : tables_1[1249]? = some (mt_cw 148) := rfl
set_option maxRecDepth 100000 in
theorem mt_w149 : tables_1[1253]? = some (mt_cw 149) := rfl
set_option maxRecDepth 100000 in
theorem mt_w150 : tables_1[1257]? = some (mt_cw 150) := rfl
set_option maxRecDepth 100000 in
theorem mt_w151 : tables_1[1261]? = some (mt_cw 151) := rfl
set_option maxRecDepth 100000 in
theorem mt_w152 : tables_1[1265]? = some (mt_cw 152) := rfl
set_option maxRecDepth 100000 in
theorem mt_w153 : tables_1[1269]? = some (mt_cw 153) := rfl
set_option maxRecDepth 100000 in
theorem mt_w154 : tables_1[1273]? = some (mt_cw 154) := rfl
set_option maxRecDepth 100000 in
theorem mt_w155 : tables_1[1277]? = some (mt_cw 155) := rfl
set_option maxRecDepth 100000 in
theorem mt_w156 : tables_1[1281]? = some (mt_cw 156) := rfl
set_option maxRecDepth 100000 in
theorem mt_w157 : tables_1[1285]? = some (mt_cw 157) := rfl
set_option maxRecDepth 100000 in
theorem mt_w158 : tables_1[1289]? = some (mt_cw 158) := rfl
set_option maxRecDepth 100000 in
theorem mt_w159 : tables_1[1293]? = some (mt_cw 159) := rfl
set_option maxRecDepth 100000 in
theorem mt_w160 : tables_1[1297]? = some (mt_cw 160) := rfl
set_option maxRecDepth 100000 in
theorem mt_w161 : tables_1[1301]? = some (mt_cw 161) := rfl
set_option maxRecDepth 100000 in
theorem mt_w162 : tables_1[337]? = some (mt_cw 162) := rfl
set_option maxRecDepth 100000 in
theorem mt_w163 : tables_1[428]? = some (mt_cw 163) := rfl
set_option maxRecDepth 100000 in
theorem mt_w164 : tables_1[657]? = some (mt_cw 164) := rfl
set_option maxRecDepth 100000 in
theorem mt_w165 : tables_1[730]? = some (mt_cw 165) := rfl
set_option maxRecDepth 100000 in
theorem mt_w166 : tables_1[737]? = some (mt_cw 166) := rfl
set_option maxRecDepth 100000 in
theorem mt_w167 : tables_1[784]? = some (mt_cw 167) := rfl
set_option maxRecDepth 100000 in
theorem mt_w168 : tables_1[791]? = some (mt_cw 168) := rfl
set_option maxRecDepth 100000 in
theorem mt_w169 : tables_1[798]? = some (mt_cw 169) := rfl
set_option maxRecDepth 100000 in
theorem mt_w170 : tables_1[806]? = some (mt_cw 170) := rfl
set_option maxRecDepth 100000 in
theorem mt_w171 : tables_1[840]? = some (mt_cw 171) := rfl
theorem mt_wall : ∀ j, j < 172 → mt_cw j ∈ mt_WT
  | 0, _ => mt_in_of 25 mt_w0 rfl
  | 1, _ => mt_in_of 33 mt_w1 rfl
  | 2, _ => mt_in_of 39 mt_w2 rfl
  | 3, _ => mt_in_of 120 mt_w3 rfl
  | 4, _ => mt_in_of 128 mt_w4 rfl
  | 5, _ => mt_in_of 134 mt_w5 rfl
  | 6, _ => mt_in_of 187 mt_w6 rfl
  | 7, _ => mt_in_of 200 mt_w7 rfl
  | 8, _ => mt_in_of 266 mt_w8 rfl
  | 9, _ => mt_in_of 306 mt_w9 rfl
  | 10, _ => mt_in_of 310 mt_w10 rfl
  | 11, _ => mt_in_of 314 mt_w11 rfl
  | 12, _ => mt_in_of 318 mt_w12 rfl
  | 13, _ => mt_in_of 322 mt_w13 rfl
  | 14, _ => mt_in_of 326 mt_w14 rfl
  | 15, _ => mt_in_of 330 mt_w15 rfl
  | 16, _ => mt_in_of 334 mt_w16 rfl
  | 17, _ => mt_in_of 343 mt_w17 rfl
  | 18, _ => mt_in_of 346 mt_w18 rfl
  | 19, _ => mt_in_of 433 mt_w19 rfl
  | 20, _ => mt_in_of 437 mt_w20 rfl
  | 21, _ => mt_in_of 441 mt_w21 rfl
  | 22, _ => mt_in_of 445 mt_w22 rfl
  | 23, _ => mt_in_of 449 mt_w23 rfl
  | 24, _ => mt_in_of 453 mt_w24 rfl
  | 25, _ => mt_in_of 457 mt_w25 rfl
  | 26, _ => mt_in_of 462 mt_w26 rfl
  | 27, _ => mt_in_of 466 mt_w27 rfl
  | 28, _ => mt_in_of 470 mt_w28 rfl
  | 29, _ => mt_in_of 474 mt_w29 rfl
  | 30, _ => mt_in_of 478 mt_w30 rfl
  | 31, _ => mt_in_of 483 mt_w31 rfl
  | 32, _ => mt_in_of 487 mt_w32 rfl
  | 33, _ => mt_in_of 491 mt_w33 rfl
  | 34, _ => mt_in_of 495 mt_w34 rfl
  | 35, _ => mt_in_of 499 mt_w35 rfl
  | 36, _ => mt_in_of 502 mt_w36 rfl
  | 37, _ => mt_in_of 512 mt_w37 rfl
  | 38, _ => mt_in_of 517 mt_w38 rfl
  | 39, _ => mt_in_of 536 mt_w39 rfl
  | 40, _ => mt_in_of 540 mt_w40 rfl
  | 41, _ => mt_in_of 544 mt_w41 rfl
  | 42, _ => mt_in_of 548 mt_w42 rfl
  | 43, _ => mt_in_of 552 mt_w43 rfl
  | 44, _ => mt_in_of 556 mt_w44 rfl
  | 45, _ => mt_in_of 560 mt_w45 rfl
  | 46, _ => mt_in_of 564 mt_w46 rfl
  | 47, _ => mt_in_of 567 mt_w47 rfl
  | 48, _ => mt_in_of 571 mt_w48 rfl
  | 49, _ => mt_in_of 576 mt_w49 rfl
  | 50, _ => mt_in_of 580 mt_w50 rfl
  | 51, _ => mt_in_of 584 mt_w51 rfl
  | 52, _ => mt_in_of 588 mt_w52 rfl
  | 53, _ => mt_in_of 592 mt_w53 rfl
  | 54, _ => mt_in_of 596 mt_w54 rfl
  | 55, _ => mt_in_of 600 mt_w55 rfl
  | 56, _ => mt_in_of 604 mt_w56 rfl
  | 57, _ => mt_in_of 608 mt_w57 rfl
  | 58, _ => mt_in_of 614 mt_w58 rfl
  | 59, _ => mt_in_of 620 mt_w59 rfl
  | 60, _ => mt_in_of 661 mt_w60 rfl
  | 61, _ => mt_in_of 665 mt_w61 rfl
  | 62, _ => mt_in_of 669 mt_w62 rfl
  | 63, _ => mt_in_of 673 mt_w63 rfl
  | 64, _ => mt_in_of 677 mt_w64 rfl
  | 65, _ => mt_in_of 681 mt_w65 rfl
  | 66, _ => mt_in_of 685 mt_w66 rfl
  | 67, _ => mt_in_of 689 mt_w67 rfl
  | 68, _ => mt_in_of 693 mt_w68 rfl
  | 69, _ => mt_in_of 698 mt_w69 rfl
  | 70, _ => mt_in_of 702 mt_w70 rfl
  | 71, _ => mt_in_of 706 mt_w71 rfl
  | 72, _ => mt_in_of 712 mt_w72 rfl
  | 73, _ => mt_in_of 716 mt_w73 rfl
  | 74, _ => mt_in_of 723 mt_w74 rfl
  | 75, _ => mt_in_of 727 mt_w75 rfl
  | 76, _ => mt_in_of 734 mt_w76 rfl
  | 77, _ => mt_in_of 742 mt_w77 rfl
  | 78, _ => mt_in_of 761 mt_w78 rfl
  | 79, _ => mt_in_of 765 mt_w79 rfl
  | 80, _ => mt_in_of 769 mt_w80 rfl
  | 81, _ => mt_in_of 773 mt_w81 rfl
  | 82, _ => mt_in_of 779 mt_w82 rfl
  | 83, _ => mt_in_of 788 mt_w83 rfl
  | 84, _ => mt_in_of 795 mt_w84 rfl
  | 85, _ => mt_in_of 802 mt_w85 rfl
  | 86, _ => mt_in_of 810 mt_w86 rfl
  | 87, _ => mt_in_of 814 mt_w87 rfl
  | 88, _ => mt_in_of 819 mt_w88 rfl
  | 89, _ => mt_in_of 825 mt_w89 rfl
  | 90, _ => mt_in_of 829 mt_w90 rfl
  | 91, _ => mt_in_of 834 mt_w91 rfl
  | 92, _ => mt_in_of 844 mt_w92 rfl
  | 93, _ => mt_in_of 850 mt_w93 rfl
  | 94, _ => mt_in_of 1033 mt_w94 rfl
  | 95, _ => mt_in_of 1037 mt_w95 rfl
  | 96, _ => mt_in_of 1044 mt_w96 rfl
  | 97, _ => mt_in_of 1048 mt_w97 rfl
  | 98, _ => mt_in_of 1052 mt_w98 rfl
  | 99, _ => mt_in_of 1056 mt_w99 rfl
  | 100, _ => mt_in_of 1060 mt_w100 rfl
  | 101, _ => mt_in_of 1064 mt_w101 rfl
  | 102, _ => mt_in_of 1068 mt_w102 rfl
  | 103, _ => mt_in_of 1072 mt_w103 rfl
  | 104, _ => mt_in_of 1076 mt_w104 rfl
  | 105, _ => mt_in_of 1080 mt_w105 rfl
  | 106, _ => mt_in_of 1084 mt_w106 rfl
  | 107, _ => mt_in_of 1088 mt_w107 rfl
  | 108, _ => mt_in_of 1092 mt_w108 rfl
  | 109, _ => mt_in_of 1096 mt_w109 rfl
  | 110, _ => mt_in_of 1100 mt_w110 rfl
  | 111, _ => mt_in_of 1104 mt_w111 rfl
  | 112, _ => mt_in_of 1108 mt_w112 rfl
  | 113, _ => mt_in_of 1112 mt_w113 rfl
  | 114, _ => mt_in_of 1116 mt_w114 rfl
  | 115, _ => mt_in_of 1120 mt_w115 rfl
  | 116, _ => mt_in_of 1124 mt_w116 rfl
  | 117, _ => mt_in_of 1128 mt_w117 rfl
  | 118, _ => mt_in_of 1132 mt_w118 rfl
  | 119, _ => mt_in_of 1136 mt_w119 rfl
  | 120, _ => mt_in_of 1140 mt_w120 rfl
  | 121, _ => mt_in_of 1144 mt_w121 rfl
  | 122, _ => mt_in_of 1147 mt_w122 rfl
  | 123, _ => mt_in_of 1150 mt_w123 rfl
  | 124, _ => mt_in_of 1154 mt_w124 rfl
  | 125, _ => mt_in_of 1157 mt_w125 rfl
  | 126, _ => mt_in_of 1161 mt_w126 rfl
  | 127, _ => mt_in_of 1165 mt_w127 rfl
  | 128, _ => mt_in_of 1169 mt_w128 rfl
  | 129, _ => mt_in_of 1173 mt_w129 rfl
  | 130, _ => mt_in_of 1177 mt_w130 rfl
  | 131, _ => mt_in_of 1181 mt_w131 rfl
  | 132, _ => mt_in_of 1185 mt_w132 rfl
  | 133, _ => mt_in_of 1189 mt_w133 rfl
  | 134, _ => mt_in_of 1193 mt_w134 rfl
  | 135, _ => mt_in_of 1197 mt_w135 rfl
  | 136, _ => mt_in_of 1201 mt_w136 rfl
  | 137, _ => mt_in_of 1205 mt_w137 rfl
  | 138, _ => mt_in_of 1209 mt_w138 rfl
  | 139, _ => mt_in_of 1213 mt_w139 rfl
  | 140, _ => mt_in_of 1217 mt_w140 rfl
  | 141, _ => mt_in_of 1221 mt_w141 rfl
  | 142, _ => mt_in_of 1225 mt_w142 rfl
  | 143, _ => mt_in_of 1229 mt_w143 rfl
  | 144, _ => mt_in_of 1233 mt_w144 rfl
  | 145, _ => mt_in_of 1237 mt_w145 rfl
  | 146, _ => mt_in_of 1241 mt_w146 rfl
  | 147, _ => mt_in_of 1245 mt_w147 rfl
  | 148, _ => mt_in_of 1249 mt_w148 rfl
  | 149, _ => mt_in_of 1253 mt_w149 rfl
  | 150, _ => mt_in_of 1257 mt_w150 rfl
  | 151, _ => mt_in_of 1261 mt_w151 rfl
  | 152, _ => mt_in_of 1265 mt_w152 rfl
  | 153, _ => mt_in_of 1269 mt_w153 rfl
  | 154, _ => mt_in_of 1273 mt_w154 rfl
  | 155, _ => mt_in_of 1277 mt_w155 rfl
  | 156, _ => mt_in_of 1281 mt_w156 rfl
  | 157, _ => mt_in_of 1285 mt_w157 rfl
  | 158, _ => mt_in_of 1289 mt_w158 rfl
  | 159, _ => mt_in_of 1293 mt_w159 rfl
  | 160, _ => mt_in_of 1297 mt_w160 rfl
  | 161, _ => mt_in_of 1301 mt_w161 rfl
  | 162, _ => mt_in_of 337 mt_w162 rfl
  | 163, _ => mt_in_of 428 mt_w163 rfl
  | 164, _ => mt_in_of 657 mt_w164 rfl
  | 165, _ => mt_in_of 730 mt_w165 rfl
  | 166, _ => mt_in_of 737 mt_w166 rfl
  | 167, _ => mt_in_of 784 mt_w167 rfl
  | 168, _ => mt_in_of 791 mt_w168 rfl
  | 169, _ => mt_in_of 798 mt_w169 rfl
  | 170, _ => mt_in_of 806 mt_w170 rfl
  | 171, _ => mt_in_of 840 mt_w171 rfl
  | n + 172, h => absurd h (by omega)
def mt_else2 (K : mn_K) : Bool := match K with
  | (7, j, _, _, _) => (mt_mr.getD j (false, 0, 0, 0, 0)).1
  | (8, j, _, _, _) => !(mt_mr.getD j (true, 0, 0, 0, 0)).1 && decide ((mt_mr.getD j (true, 0, 0, 0, 0)).2.2.2.2 ≠ 0)
  | (9, j, _, _, _) => !(mt_mr.getD j (true, 0, 0, 0, 0)).1 && decide ((mt_y j).name = "<init>")
  | _ => true
set_option maxRecDepth 100000 in
theorem mt_e2all : mt_pls.all (fun l => l.all (fun q => mt_else2 q.2.1)) = true := by decide +kernel
theorem mt_e2 {c i : Nat} {K : mn_K} (h : mt_pool c i = K) (h0 : K.1 ≠ 0) : mt_else2 K = true := by
  unfold mt_pool at h
  split at h
  · next q hq =>
    subst h
    have hq := List.mem_of_find?_eq_some hq
    have hl : mt_pls.getD c [] ∈ mt_pls := by
      rw [List.getD_eq_getElem?_getD] at hq ⊢
      cases h9 : mt_pls[c]? with
      | none => rw [h9] at hq; cases hq
      | some x => exact List.mem_of_getElem? h9
    exact List.all_eq_true.mp (List.all_eq_true.mp mt_e2all _ hl) q hq
  · subst h
    exact absurd rfl h0
theorem mt_cns_c : ∀ (ci : Nat) (q : vw_C), mt_cl[ci]? = some q → mt_cns.getD ci "" = q.1
  | 0, q, h => by cases h; rfl
  | 1, q, h => by cases h; rfl
  | 2, q, h => by cases h; rfl
  | 3, q, h => by cases h; rfl
  | 4, q, h => by cases h; rfl
  | 5, q, h => by cases h; rfl
  | 6, q, h => by cases h; rfl
  | 7, q, h => by cases h; rfl
  | 8, q, h => by cases h; rfl
  | 9, q, h => by cases h; rfl
  | 10, q, h => by cases h; rfl
  | n + 11, q, h => by simp [mt_cl] at h
theorem mt_cl_getD {ci : Nat} {q : vw_C} (h : mt_cl[ci]? = some q) : mt_cl.getD ci ("", mt_T0, 0) = q := by rw [List.getD_eq_getElem?_getD, h]; rfl
theorem mt_mr_of {j : Nat} (hj : j < 172) : ∃ (st : Bool) (a b d e : Nat), mt_mr[j]? = some (st, a, b, d, e) ∧ mt_cw j ∈ mt_WT ∧ (if st then Cond.static (mt_y j) else .instanceMethod (mt_y j)) ∈ mt_WT ∧ Cond.initialized (mt_y j).cls ∈ mt_WT ∧ (e ≠ 0 → Cond.selects (mt_y j).cls (mt_y j) (mt_y j) ∈ mt_WT) := by
  have h := mt_mcall j hj
  unfold mt_mck at h
  split at h
  · next st a b d e h1 =>
    simp only [Bool.and_eq_true, Bool.or_eq_true, decide_eq_true_eq] at h
    obtain ⟨⟨h3, h4⟩, h5⟩ := h
    exact ⟨st, a, b, d, e, h1, mt_wall j hj, mt_row_in h3, mt_row_in h4, fun h9 => mt_rowL_in (h5.resolve_left h9)⟩
  · cases h
set_option maxHeartbeats 4000000 in
theorem mt_GT : mt_G mt_WT := by
  refine ⟨?_, ?_, ?_, ?_, ?_, ?_, ?_, ?_⟩
  · intro j i ci k nn z h
    obtain ⟨hw, he⟩ := mt_pool_ck h (by simp)
    simp only [mt_else, Bool.and_eq_true, decide_eq_true_eq] at he
    obtain ⟨C, T, N, ty, f1, f2, f3, f4, f5, f5', f6, f7, f8, f9, f10, f11, f12⟩ := mt_cf ci he.1
    simp only [mt_word, mt_cl_getD f1, ← (mt_m_ok j).1] at hw
    rw [mt_cl_getD f1] at he
    refine ⟨C, T, N, ty, f1, he.2, f2, f3, f4, Or.inl hw, f6 k he.2, fun h9 => ?_, fun v b hv => mn_kd_ok b (f5' k he.2) (by rw [← f5 k he.2]; exact hv)⟩
    rw [f7 k he.2, (mt_m_ok j).1, ← h9]
    exact (mt_cns_c ci _ f1).symm
  · intro j i ci x y z h
    obtain ⟨hw, he⟩ := mt_pool_ck h (by simp)
    simp only [mt_else, Bool.and_eq_true, decide_eq_true_eq] at he
    obtain ⟨C, T, N, ty, f1, f2, f3, f4, f5, f5', f6, f7, f8, f9, f10, f11, f12⟩ := mt_cf ci he.1.1
    simp only [mt_word, mt_cl_getD f1, ← (mt_m_ok j).1] at hw
    refine ⟨C, T, ty, by rw [f8]; exact f1, by rw [f8]; exact f2, by rw [f8]; exact f3, by rw [f8]; exact f9, fun b => ?_, hw, by rw [f8]; exact f11, f12⟩
    have h9 : (mt_df ci).map (mn_tr b) = (mt_df ci).map id := List.map_congr_left fun v hv => by rcases f10 v hv with rfl | rfl <;> rfl
    rw [h9, List.map_id]
  · intro j i ci k y z h hk
    obtain ⟨hw, he⟩ := mt_pool_ck h (by simp)
    simp only [mt_else, Bool.and_eq_true, Bool.or_eq_true, decide_eq_true_eq] at he
    simp only [mt_word, ← (mt_m_ok j).1] at hw
    rcases (show k = 4 ∨ k = 5 by omega) with rfl | rfl
    · have h9 := he.1.2.resolve_left (by simp)
      rw [h9] at hw
      exact ⟨mt_E4, fun _ => rfl, fun h9 => by omega, mt_in_of 280 (by decide +kernel) (by decide +kernel), hw⟩
    · have h9 := he.2.resolve_left (by simp)
      rw [h9] at hw
      exact ⟨mt_E5, fun h9 => by omega, fun _ => rfl, mt_in_of 123 (by decide +kernel) (by decide +kernel), hw⟩
  · intro j i x y w z h
    obtain ⟨hw, he⟩ := mt_pool_ck h (by simp)
    simp only [mt_word, ← (mt_m_ok j).1] at hw
    exact hw
  · intro j i x y w z h
    obtain ⟨hw, he⟩ := mt_pool_ck h (by simp)
    simp only [mt_word, ← (mt_m_ok j).1] at hw
    exact hw
  · exact ⟨mt_in_of 70 (by decide +kernel) (by decide +kernel), mt_in_of 261 (by decide +kernel) (by decide +kernel), mt_in_of 69 (by decide +kernel) (by decide +kernel), mt_in_of 1303 (by decide +kernel) (by decide +kernel)⟩
  · intro k hk q hq
    rcases (show k = 4 ∨ k = 5 by omega) with rfl | rfl
    · have h9 : q = (mt_E4, mt_T5, 4) := by cases hq; rfl
      rw [h9]
      exact ⟨fun _ => rfl, fun h9 => by omega⟩
    · have h9 : q = (mt_E5, mt_T9, 7) := by cases hq; rfl
      rw [h9]
      exact ⟨fun h9 => by omega, fun _ => rfl⟩
  · intro k hk
    rcases (show k = 4 ∨ k = 5 by omega) with rfl | rfl
    · exact ⟨_, rfl⟩
    · exact ⟨_, rfl⟩
def mt_exck (K : mn_K) : Bool := match K with
  | (3, k, ic, _, _) => match mt_ex[k]? with
    | some X => Bundle.fit X && (Bundle.ownAtoms0 "RefutationDesk" ic X mn_up).all (fun a => (decide (a ∈ tables_1) && mt_okw a) || decide (a = mn_is1) || decide (a = mn_is2) || decide (a = mn_ls1) || decide (a = mn_ls2))
    | none => false
  | _ => true
set_option maxRecDepth 100000 in
theorem mt_exall : mt_pls.all (fun l => l.all (fun q => mt_exck q.2.1)) = true := by decide +kernel
theorem mt_exok {c i : Nat} {K : mn_K} (h : mt_pool c i = K) (h0 : K.1 ≠ 0) : mt_exck K = true := by
  unfold mt_pool at h
  split at h
  · next q hq =>
    subst h
    have hq := List.mem_of_find?_eq_some hq
    have hl : mt_pls.getD c [] ∈ mt_pls := by
      rw [List.getD_eq_getElem?_getD] at hq ⊢
      cases h9 : mt_pls[c]? with
      | none => rw [h9] at hq; cases hq
      | some x => exact List.mem_of_getElem? h9
    exact List.all_eq_true.mp (List.all_eq_true.mp mt_exall _ hl) q hq
  · subst h
    exact absurd rfl h0
theorem mt_exini : ∀ (k : Nat) (X : String), mt_ex[k]? = some X → Cond.initialized X ∈ mt_WT ∧ Cond.castable X X ∈ mt_WT
  | 0, X, h => by cases h; exact ⟨mt_in_of 14 (by decide +kernel) (by decide +kernel), mt_in_of 349 (by decide +kernel) (by decide +kernel)⟩
  | 1, X, h => by cases h; exact ⟨mt_in_of 17 (by decide +kernel) (by decide +kernel), mt_in_of 520 (by decide +kernel) (by decide +kernel)⟩
  | 2, X, h => by cases h; exact ⟨mt_in_of 20 (by decide +kernel) (by decide +kernel), mt_in_of 745 (by decide +kernel) (by decide +kernel)⟩
  | 3, X, h => by cases h; exact ⟨mt_in_of 15 (by decide +kernel) (by decide +kernel), mt_in_of 413 (by decide +kernel) (by decide +kernel)⟩
  | n + 4, X, h => by simp [mt_ex] at h
def mt_clr : List (Nat × Nat) := [(8, 21), (13, 338), (15, 339), (21, 429), (35, 738), (57, 846)]
def mt_hck (q : Nat × List (Nat × Nat × Nat × Nat × Nat)) : Bool := q.2.all (fun t => decide (t.2.2.2.1 ≠ 0) && decide (t.2.2.2.2 < 4) && decide (mt_cn q.1 = "RefutationDeskLaw") && mt_row ((mt_clr.lookup t.2.2.2.1).getD 0) (.classLink "RefutationDeskLaw" t.2.2.2.1 (mt_ex.getD t.2.2.2.2 "")))
set_option maxRecDepth 100000 in
theorem mt_hall : mt_hds.all mt_hck = true := by decide +kernel
theorem mt_hok (j : Nat) : ∀ t ∈ mt_hl j, t.2.2.2.1 ≠ 0 ∧ ∃ C, mt_ex[t.2.2.2.2]? = some C ∧ Cond.classLink (mt_cn j) t.2.2.2.1 C ∈ mt_WT := by
  intro t ht
  unfold mt_hl at ht
  split at ht
  · next q hq =>
    have h1 := List.all_eq_true.mp mt_hall q (List.mem_of_find?_eq_some hq)
    have h2 : q.1 = j := by have h9 := List.find?_some hq; simpa using h9
    have h3 := List.all_eq_true.mp h1 t ht
    simp only [Bool.and_eq_true, decide_eq_true_eq] at h3
    obtain ⟨⟨⟨g1, g2⟩, g3⟩, g4⟩ := h3
    rw [h2] at g3
    rw [g3]
    have g5 := mt_row_in g4
    refine ⟨g1, mt_ex.getD t.2.2.2.2 "", ?_, g5⟩
    rw [List.getD_eq_getElem?_getD]
    rw [List.getElem?_eq_getElem (show t.2.2.2.2 < mt_ex.length from g2)]
    rfl
  · cases ht
theorem mt_oi : Cond.instanceMethod Lib.objectInit ∈ mt_WT ∧ Cond.code Lib.objectInit ⟨#[0xb1]⟩ 1 none ∈ mt_WT := ⟨mt_in_of 27 (by decide +kernel) (by decide +kernel), mt_in_of 28 (by decide +kernel) (by decide +kernel)⟩
theorem mt_ac : Cond.native arraycopyName ∈ mt_WT ∧ Cond.static arraycopyName ∈ mt_WT ∧ Cond.initialized "java/lang/System" ∈ mt_WT := ⟨mt_in_of 617 (by decide +kernel) (by decide +kernel), mt_in_of 616 (by decide +kernel) (by decide +kernel), mt_in_of 19 (by decide +kernel) (by decide +kernel)⟩
theorem mt_mx : Cond.static Lib.Math.max.name ∈ mt_WT ∧ Cond.initialized "java/lang/Math" ∈ mt_WT ∧ Cond.code Lib.Math.max.name Lib.Math.max.code 2 (some .int) ∈ mt_WT := ⟨mt_in_of 507 (by decide +kernel) (by decide +kernel), mt_in_of 16 (by decide +kernel) (by decide +kernel), mt_in_of 508 (by decide +kernel) (by decide +kernel)⟩
theorem mt_mi : Cond.static Lib.Math.min.name ∈ mt_WT ∧ Cond.initialized "java/lang/Math" ∈ mt_WT ∧ Cond.code Lib.Math.min.name Lib.Math.min.code 2 (some .int) ∈ mt_WT := ⟨mt_in_of 504 (by decide +kernel) (by decide +kernel), mt_in_of 16 (by decide +kernel) (by decide +kernel), mt_in_of 505 (by decide +kernel) (by decide +kernel)⟩
theorem mt_hlaw : mt_hds.all (fun q => decide (mt_ow q.1 = 11)) = true := by decide +kernel
set_option maxHeartbeats 4000000 in
theorem mt_HT : mt_H mt_WT := by
  refine ⟨?_, ?_, ?_, ?_, ?_, ?_, ?_, ?_, mt_hok, fun k X h => (mt_exini k X h).2, fun j => ⟨(mt_m_ok j).2.1, (mt_m_ok j).2.2.2.2⟩⟩
  · intro j i j2 x nn z h
    obtain ⟨hw, he⟩ := mt_pool_ck h (by simp)
    have he2 := mt_e2 h (by simp)
    simp only [mt_else, Bool.and_eq_true, Bool.or_eq_true, decide_eq_true_eq] at he
    obtain ⟨st, a, b, d, e, r1, r2, r3, r4, r5⟩ := mt_mr_of he.1
    simp only [mt_else2, List.getD_eq_getElem?_getD, r1, Option.getD_some] at he2
    subst he2
    obtain ⟨o1, o2, o3, o4, o5⟩ := mt_m_ok j2
    have hlink : Cond.methodLink (mt_cn j) i (mt_y j2) ∈ mt_WT ∨ ∃ host, Cond.methodLinkNest (mt_cn j) i (mt_y j2) host ∈ mt_WT := by
      simp only [mt_word, ← (mt_m_ok j).1] at hw
      split at hw
      · exact Or.inl hw
      · exact Or.inr ⟨_, hw⟩
    refine ⟨⟨o3, o4, r4, r3, hlink⟩, ?_, r2⟩
    rcases he.2 with h9 | h9
    · exact Or.inl h9
    · simp only [mt_word, ← (mt_m_ok j).1, h9, if_true] at hw
      exact Or.inr hw
  · intro j i j2 ci nn z h
    obtain ⟨hw, he⟩ := mt_pool_ck h (by simp)
    have he2 := mt_e2 h (by simp)
    simp only [mt_else, Bool.and_eq_true, Bool.or_eq_true, decide_eq_true_eq] at he
    obtain ⟨⟨⟨⟨e1, e2⟩, e3⟩, e4⟩, e5⟩ := he
    obtain ⟨st, a, b, d, e, r1, r2, r3, r4, r5⟩ := mt_mr_of e1
    simp only [mt_else2, List.getD_eq_getElem?_getD, r1, Option.getD_some, Bool.and_eq_true, decide_eq_true_eq, Bool.not_eq_true'] at he2
    obtain ⟨e6, e7⟩ := he2
    subst e6
    obtain ⟨o1, o2, o3, o4, o5⟩ := mt_m_ok j2
    obtain ⟨C, T, N, ty, f1, -⟩ := mt_cf ci e2
    rw [mt_cl_getD f1] at e3
    have hlink : Cond.methodLink (mt_cn j) i (mt_y j2) ∈ mt_WT ∨ ∃ host, Cond.methodLinkNest (mt_cn j) i (mt_y j2) host ∈ mt_WT := by
      simp only [mt_word, ← (mt_m_ok j).1] at hw
      split at hw
      · exact Or.inl hw
      · exact Or.inr ⟨_, hw⟩
    refine ⟨_, f1, ⟨o3, o4, r4, r3, by rw [e3]; exact r5 e7, hlink⟩, e4, r2, fun h9 => ?_⟩
    have hlaw : mt_ow j = 11 := by
      unfold mt_hl at h9
      split at h9
      · next q hq =>
        have g1 := List.mem_of_find?_eq_some hq
        have g2 : q.1 = j := by have h8 := List.find?_some hq; simpa using h8
        have g3 := List.all_eq_true.mp mt_hlaw q g1
        rw [decide_eq_true_eq, g2] at g3
        exact g3
      · exact absurd rfl h9
    rcases e5 with e5 | e5
    · exact absurd hlaw e5
    · simp only [mt_word, ← (mt_m_ok j).1, e5, if_true] at hw
      exact hw
  · intro j i j2 ci nn z h
    obtain ⟨hw, he⟩ := mt_pool_ck h (by simp)
    have he2 := mt_e2 h (by simp)
    simp only [mt_else, Bool.and_eq_true, decide_eq_true_eq] at he
    obtain ⟨⟨e1, e2⟩, e3⟩ := he
    obtain ⟨st, a, b, d, e, r1, r2, r3, r4, r5⟩ := mt_mr_of e1
    simp only [mt_else2, List.getD_eq_getElem?_getD, r1, Option.getD_some, Bool.and_eq_true, decide_eq_true_eq, Bool.not_eq_true'] at he2
    obtain ⟨e6, e7⟩ := he2
    subst e6
    obtain ⟨o1, o2, o3, o4, o5⟩ := mt_m_ok j2
    have hlink : Cond.methodLink (mt_cn j) i (mt_y j2) ∈ mt_WT ∨ ∃ host, Cond.methodLinkNest (mt_cn j) i (mt_y j2) host ∈ mt_WT := by
      simp only [mt_word, ← (mt_m_ok j).1] at hw
      split at hw
      · exact Or.inl hw
      · exact Or.inr ⟨_, hw⟩
    exact ⟨⟨o3, o4, r4, r3, e7, hlink⟩, e2, e3, r2⟩
  · intro j i x y w z h
    obtain ⟨hw, -⟩ := mt_pool_ck h (by simp)
    simp only [mt_word, ← (mt_m_ok j).1] at hw
    exact ⟨hw, mt_oi⟩
  · intro j i x y w z h
    obtain ⟨hw, -⟩ := mt_pool_ck h (by simp)
    simp only [mt_word, ← (mt_m_ok j).1] at hw
    exact ⟨hw, mt_ac⟩
  · intro j i x y w z h
    obtain ⟨hw, -⟩ := mt_pool_ck h (by simp)
    simp only [mt_word, ← (mt_m_ok j).1] at hw
    exact ⟨hw, mt_mx⟩
  · intro j i x y w z h
    obtain ⟨hw, -⟩ := mt_pool_ck h (by simp)
    simp only [mt_word, ← (mt_m_ok j).1] at hw
    exact ⟨hw, mt_mi⟩
  · intro j i k ic w z h
    obtain ⟨hw, he⟩ := mt_pool_ck h (by simp)
    have hx := mt_exok h (by simp)
    simp only [mt_else, Bool.and_eq_true, decide_eq_true_eq] at he
    simp only [mt_exck] at hx
    split at hx
    · next X hX =>
      simp only [Bool.and_eq_true] at hx
      simp only [mt_word, ← (mt_m_ok j).1, List.getD_eq_getElem?_getD, hX, Option.getD_some] at hw
      have hcn : mt_cn j = "RefutationDesk" := by rw [(mt_m_ok j).1, he.2]; rfl
      refine ⟨X, hX, hx.1, hw, (mt_exini k X hX).1, fun a ha => ?_⟩
      rw [hcn] at ha
      have h9 := List.all_eq_true.mp hx.2 a ha
      simp only [Bool.or_eq_true, Bool.and_eq_true, decide_eq_true_eq] at h9
      rcases h9 with (((h9 | h9) | h9) | h9) | h9
      · exact Or.inl (List.mem_filter.mpr ⟨List.mem_append_right _ h9.1, h9.2⟩)
      · exact Or.inr (Or.inl h9)
      · exact Or.inr (Or.inr (Or.inl h9))
      · exact Or.inr (Or.inr (Or.inr (Or.inl h9)))
      · exact Or.inr (Or.inr (Or.inr (Or.inr h9)))
    · cases hx
