/-! THE WORDS BY THEIR PLACES, written by wip/gen/emit6.py -/
def zTt (c : Nat) : u_T := ([TX0, TX1, TX2, TX3, TX4, TX5, TX6, TX7, TX8, TX9, TX10, TX11] : List u_T).getD c TX0
def zTy (c : Nat) : Nat → FieldType := ([tyX0, tyX1, tyX2, tyX3, tyX4, tyX5, tyX6, tyX7, tyX8, tyX9, tyX10, tyX11] : List (Nat → FieldType)).getD c tyX0
theorem zin {w : Cond} (p : Nat) (h : lw_tbl[p]? = some w) (hg : goodWord w = true) : w ∈ zTB := List.mem_filter.mpr ⟨List.mem_of_getElem? h, hg⟩
def zuk (c : Nat) (ps : List Nat) : Bool := (List.range (zN c)).all (fun k => decide (lw_tbl[ps.getD k 0]? = some (u_lay (zRN c) (zTt c) k)) && goodWord (u_lay (zRN c) (zTt c) k))
theorem zuk_in {c : Nat} {ps : List Nat} (h : zuk c ps = true) : ∀ w ∈ u_ws (zRN c) (zTt c) (zN c), w ∈ zTB := by
  intro w hw
  obtain ⟨k, hk, rfl⟩ := List.mem_map.mp hw
  have h1 := List.all_eq_true.mp h k hk
  simp only [Bool.and_eq_true, decide_eq_true_eq] at h1
  exact zin _ h1.1 h1.2
def zfo (c : Nat) : Bool := (List.range (zN c)).all (fun k => decide ((zTt c k).1 = zRN c) && decide ((zTt c k).2.2.2 = !zFw c k) && (match zFk c k with | 0 => decide (zTy c k = .int) | 1 => decide (zTy c k = .boolean) | 2 => (zTy c k).isReference | _ => false))
theorem zu_0 : zuk 0 [275, 277, 279, 281, 283] = true := by decide +kernel
theorem zfo_0 : zfo 0 = true := by decide +kernel
theorem zu_1 : zuk 1 [243] = true := by decide +kernel
theorem zfo_1 : zfo 1 = true := by decide +kernel
theorem zu_2 : zuk 2 [350, 352, 354, 356, 358] = true := by decide +kernel
theorem zfo_2 : zfo 2 = true := by decide +kernel
theorem zu_3 : zuk 3 [190, 192, 194, 196, 198] = true := by decide +kernel
theorem zfo_3 : zfo 3 = true := by decide +kernel
theorem zu_4 : zuk 4 [216, 218, 220, 222, 224, 226, 228, 230, 232] = true := by decide +kernel
theorem zfo_4 : zfo 4 = true := by decide +kernel
theorem zu_5 : zuk 5 [331, 333, 335, 337, 339] = true := by decide +kernel
theorem zfo_5 : zfo 5 = true := by decide +kernel
theorem zu_6 : zuk 6 [154, 156, 158, 160] = true := by decide +kernel
theorem zfo_6 : zfo 6 = true := by decide +kernel
theorem zu_7 : zuk 7 [301, 303, 305, 307, 309, 311, 313, 315, 317] = true := by decide +kernel
theorem zfo_7 : zfo 7 = true := by decide +kernel
theorem zu_8 : zuk 8 [121, 123, 125, 127, 129, 131, 133, 135, 137, 139] = true := by decide +kernel
theorem zfo_8 : zfo 8 = true := by decide +kernel
theorem zu_9 : zuk 9 [178, 180, 182] = true := by decide +kernel
theorem zfo_9 : zfo 9 = true := by decide +kernel
theorem zu_10 : zuk 10 [367, 369, 371, 373, 375, 377] = true := by decide +kernel
theorem zfo_10 : zfo 10 = true := by decide +kernel
theorem zu_11 : zuk 11 [1182, 1184, 1186, 1188, 1190, 1192, 1194, 1196, 1198, 1200, 1202, 1204, 1206, 1208, 1210, 1212, 1214, 1216, 1218, 1220, 1222, 1224, 1226, 1228, 1230, 1232, 1234, 1236, 1238, 1240, 1242, 1244, 1246, 1248, 1250, 1252, 1254, 1256, 1258, 1260, 1262, 1264, 1266, 1268, 1270, 1272, 1274, 1276, 1278, 1280, 1282, 1284, 1286, 1288, 1290, 1292, 1294] = true := by decide +kernel
theorem zfo_11 : zfo 11 = true := by decide +kernel
def zip : List Nat := [89, 86, 87, 83, 85, 91, 82, 90, 81, 84, 80, 92, 79, 93, 94, 96, 95, 88]
def zio (c : Nat) : Bool := decide (lw_tbl[zip.getD c 0]? = some (.initialized (zRN c)))
theorem zio_all : (List.range 18).all zio = true := by decide +kernel
def znp : List Nat := [263, 237, 247, 164, 202, 321, 145, 287, 106, 170, 98, 1067]
theorem zno_all : (List.range 12).all (fun c => decide (lw_tbl[znp.getD c 0]? = some (.instantiable (zRN c) (zN c)))) = true := by decide +kernel
def zfk (o : Nat) (e : Nat × Nat × Nat × Nat) : Bool := decide (e.2.1 < 12) && decide (e.2.2.1 < zN e.2.1) && (if e.2.2.2 = 9999 then decide (Cond.fieldLinkNest (zRN o) e.1 (zTt e.2.1 e.2.2.1).1 (zTt e.2.1 e.2.2.1).2.1 (zTt e.2.1 e.2.2.1).2.2.1 "PaymentHub" ∈ zNW) && !zFw e.2.1 e.2.2.1 && decide (o = 10) && decide (e.2.1 = 2) else decide (lw_tbl[e.2.2.2]? = some (.fieldLink (zRN o) e.1 (zTt e.2.1 e.2.2.1).1 (zTt e.2.1 e.2.2.1).2.1 (zTt e.2.1 e.2.2.1).2.2.1)))
theorem zfk_0 : (zFT.getD 0 []).all (zfk 0) = true := by decide +kernel
theorem zfk_1 : (zFT.getD 1 []).all (zfk 1) = true := by decide +kernel
theorem zfk_2 : (zFT.getD 2 []).all (zfk 2) = true := by decide +kernel
theorem zfk_3 : (zFT.getD 3 []).all (zfk 3) = true := by decide +kernel
theorem zfk_4 : (zFT.getD 4 []).all (zfk 4) = true := by decide +kernel
theorem zfk_5 : (zFT.getD 5 []).all (zfk 5) = true := by decide +kernel
theorem zfk_6 : (zFT.getD 6 []).all (zfk 6) = true := by decide +kernel
theorem zfk_7 : (zFT.getD 7 []).all (zfk 7) = true := by decide +kernel
theorem zfk_8 : (zFT.getD 8 []).all (zfk 8) = true := by decide +kernel
theorem zfk_9 : (zFT.getD 9 []).all (zfk 9) = true := by decide +kernel
theorem zfk_10 : (zFT.getD 10 []).all (zfk 10) = true := by decide +kernel
theorem zfk_11 : (zFT.getD 11 []).all (zfk 11) = true := by decide +kernel
/-- static?, the places of code, static or instanceMethod, selects -/
def zPT : List (List (Bool × Nat × Nat × Nat)) := [[(false, 266, 265, 9999), (false, 747, 745, 746), (false, 751, 749, 750), (false, 759, 757, 758), (false, 1029, 1027, 1028), (false, 1037, 1035, 1036), (false, 867, 865, 866), (false, 871, 869, 870), (false, 755, 754, 22), (false, 240, 239, 9999), (false, 763, 761, 762), (false, 777, 776, 23), (false, 783, 782, 24), (false, 807, 806, 29), (false, 789, 788, 25), (false, 803, 802, 28)], [(false, 793, 792, 26), (false, 799, 798, 27), (false, 260, 259, 9999), (false, 637, 635, 636), (false, 696, 694, 695), (false, 913, 911, 912), (false, 827, 825, 826), (false, 925, 923, 924), (false, 947, 945, 946), (false, 892, 890, 891), (false, 833, 832, 32), (false, 854, 853, 34), (false, 858, 857, 35), (false, 897, 896, 37), (false, 876, 875, 36), (false, 167, 166, 9999)], [(false, 495, 493, 494), (false, 514, 513, 11), (false, 641, 639, 640), (false, 653, 651, 652), (false, 620, 618, 619), (false, 633, 631, 632), (false, 629, 627, 628), (false, 649, 647, 648), (false, 657, 655, 656), (false, 718, 716, 717), (false, 850, 848, 849), (false, 735, 733, 734), (false, 692, 690, 691), (false, 673, 671, 672), (false, 677, 675, 676), (false, 665, 663, 664)], [(false, 661, 659, 660), (false, 669, 667, 668), (false, 681, 679, 680), (false, 688, 686, 687), (false, 205, 204, 9999), (false, 387, 385, 386), (false, 710, 708, 709), (false, 1004, 1002, 1003), (false, 984, 982, 983), (false, 992, 990, 991), (false, 767, 765, 766), (false, 771, 769, 770), (false, 941, 939, 940), (false, 814, 812, 813), (false, 818, 817, 30), (false, 823, 822, 31)], [(false, 324, 323, 9999), (false, 972, 970, 971), (false, 884, 882, 883), (false, 1046, 1044, 1045), (false, 1050, 1048, 1049), (false, 1054, 1052, 1053), (false, 1062, 1060, 1061), (false, 964, 962, 963), (false, 968, 966, 967), (false, 976, 974, 975), (false, 148, 147, 9999), (false, 405, 403, 404), (false, 391, 389, 390), (false, 401, 399, 400), (false, 491, 489, 490), (false, 413, 411, 412)], [(false, 421, 420, 0), (false, 429, 428, 2), (false, 433, 432, 3), (false, 461, 460, 9), (false, 437, 436, 4), (false, 457, 456, 8), (false, 472, 471, 10), (false, 453, 452, 7), (false, 425, 424, 1), (false, 290, 289, 9999), (false, 727, 725, 726), (false, 706, 704, 705), (false, 702, 700, 701), (false, 723, 721, 722), (false, 739, 737, 738), (false, 863, 861, 862)], [(false, 743, 741, 742), (false, 1014, 1012, 1013), (false, 955, 953, 954), (false, 905, 903, 904), (false, 909, 907, 908), (false, 841, 839, 840), (false, 880, 878, 879), (false, 933, 931, 932), (false, 929, 927, 928), (false, 888, 886, 887), (false, 845, 844, 33), (false, 109, 108, 9999), (false, 417, 415, 416), (false, 483, 481, 482), (false, 487, 485, 486), (false, 503, 501, 502)], [(false, 468, 466, 467), (false, 441, 439, 440), (false, 479, 477, 478), (false, 562, 560, 561), (false, 499, 497, 498), (false, 566, 564, 565), (false, 582, 580, 581), (false, 586, 584, 585), (false, 594, 592, 593), (false, 449, 448, 6), (false, 445, 444, 5), (false, 173, 172, 9999), (false, 578, 576, 577), (false, 590, 589, 12), (false, 599, 598, 13), (false, 608, 607, 15)], [(false, 612, 611, 16), (false, 616, 615, 17), (false, 604, 603, 14), (false, 101, 100, 9999), (false, 383, 381, 382), (false, 409, 407, 408), (false, 901, 899, 900), (false, 951, 949, 950), (false, 960, 958, 959), (false, 980, 978, 979), (false, 988, 986, 987), (false, 996, 994, 995), (false, 1000, 998, 999), (false, 1008, 1006, 1007), (false, 1018, 1016, 1017), (false, 1023, 1021, 1022)], [(false, 1033, 1031, 1032), (false, 1041, 1039, 1040), (false, 1058, 1056, 1057), (false, 918, 917, 38), (false, 937, 936, 39), (false, 625, 624, 18), (false, 645, 644, 19), (false, 714, 713, 20), (false, 731, 730, 21), (true, 250, 249, 9999), (true, 397, 396, 9999), (true, 394, 393, 9999), (true, 475, 474, 9999), (true, 464, 463, 9999), (true, 506, 505, 9999), (true, 684, 683, 9999)], [(false, 1070, 1069, 9999), (false, 1301, 1299, 1300), (false, 1320, 1319, 55), (true, 1339, 1338, 9999), (true, 1346, 1345, 9999), (false, 1332, 1331, 58), (false, 1324, 1323, 56), (false, 1328, 1327, 57), (false, 1336, 1335, 59), (false, 1350, 1349, 61), (false, 1343, 1342, 60), (false, 1316, 1315, 54), (false, 1362, 1361, 64), (false, 1358, 1357, 63), (false, 1366, 1365, 65), (false, 1370, 1369, 66)], [(false, 1382, 1381, 69), (false, 1374, 1373, 67), (false, 1378, 1377, 68), (false, 1354, 1353, 62), (true, 1389, 1388, 9999), (false, 1108, 1107, 48), (false, 1386, 1385, 70), (false, 1393, 1392, 71), (false, 1312, 1311, 53), (false, 1405, 1404, 74), (false, 1401, 1400, 73), (false, 1413, 1412, 76), (false, 1409, 1408, 75), (false, 1397, 1396, 72), (false, 1417, 1416, 77), (false, 1425, 1424, 78)], [(false, 1092, 1091, 44), (false, 1088, 1087, 43), (false, 1096, 1095, 45), (false, 1104, 1103, 47), (false, 1124, 1123, 52), (false, 1120, 1119, 51), (false, 1116, 1115, 50), (false, 1112, 1111, 49), (false, 1084, 1083, 42), (false, 1100, 1099, 46), (false, 1080, 1079, 41), (false, 1076, 1075, 40), (false, 1308, 1306, 1307), (false, 1421, 1419, 1420), (false, 1430, 1428, 1429), (false, 1434, 1432, 1433)], [(false, 1438, 1436, 1437), (false, 1442, 1440, 1441), (false, 1446, 1444, 1445), (false, 1450, 1448, 1449), (false, 1454, 1452, 1453), (false, 1458, 1456, 1457), (false, 1462, 1460, 1461), (false, 1466, 1464, 1465), (false, 1470, 1468, 1469), (false, 1474, 1472, 1473), (true, 1065, 1064, 9999), (true, 9999, 9999, 9999), (false, 570, 568, 569), (false, 518, 516, 517), (false, 522, 520, 521), (false, 574, 572, 573)], [(false, 526, 524, 525), (true, 534, 533, 9999), (true, 531, 530, 9999), (true, 552, 551, 9999), (true, 548, 547, 9999), (true, 542, 541, 9999), (true, 545, 544, 9999), (true, 539, 538, 9999), (true, 257, 256, 9999), (true, 254, 253, 9999)]]
def zPp (k : Nat) : Bool × Nat × Nat × Nat := (zPT.getD (k / 16) []).getD (k % 16) (false, 9999, 9999, 9999)
def zSt (k : Nat) : Bool := (zPp k).1
def zmk (o : Nat) (e : Nat × Nat × Nat) : Bool := if e.2.1 = 999 then decide (lw_tbl[e.2.2]? = some (.methodLink (zRN o) e.1 objectInit)) else decide (e.2.1 < 234) && (if e.2.2 = 9999 then decide (Cond.methodLinkNest (zRN o) e.1 (zY e.2.1) "PaymentHub" ∈ zNW) && zSt e.2.1 else decide (lw_tbl[e.2.2]? = some (.methodLink (zRN o) e.1 (zY e.2.1))))
theorem zmk_0 : (zLT.getD 0 []).all (zmk 0) = true := by decide +kernel
theorem zmk_1 : (zLT.getD 1 []).all (zmk 1) = true := by decide +kernel
theorem zmk_2 : (zLT.getD 2 []).all (zmk 2) = true := by decide +kernel
theorem zmk_3 : (zLT.getD 3 []).all (zmk 3) = true := by decide +kernel
theorem zmk_4 : (zLT.getD 4 []).all (zmk 4) = true := by decide +kernel
theorem zmk_5 : (zLT.getD 5 []).all (zmk 5) = true := by decide +kernel
theorem zmk_6 : (zLT.getD 6 []).all (zmk 6) = true := by decide +kernel
theorem zmk_7 : (zLT.getD 7 []).all (zmk 7) = true := by decide +kernel
theorem zmk_8 : (zLT.getD 8 []).all (zmk 8) = true := by decide +kernel
theorem zmk_9 : (zLT.getD 9 []).all (zmk 9) = true := by decide +kernel
theorem zmk_10 : (zLT.getD 10 []).all (zmk 10) = true := by decide +kernel
theorem zmk_11 : (zLT.getD 11 []).all (zmk 11) = true := by decide +kernel
theorem zmk_12 : (zLT.getD 12 []).all (zmk 12) = true := by decide +kernel
theorem zmk_13 : (zLT.getD 13 []).all (zmk 13) = true := by decide +kernel
theorem zmk_14 : (zLT.getD 14 []).all (zmk 14) = true := by decide +kernel
theorem zmk_15 : (zLT.getD 15 []).all (zmk 15) = true := by decide +kernel
theorem zmk_16 : (zLT.getD 16 []).all (zmk 16) = true := by decide +kernel
theorem zmk_17 : (zLT.getD 17 []).all (zmk 17) = true := by decide +kernel
def zmo (k : Nat) : Bool := decide (lw_tbl[(zPp k).2.1]? = some (.code (zY k) (zC k) (zL k) (zRt k))) && (if zSt k then decide (lw_tbl[(zPp k).2.2.1]? = some (.static (zY k))) else decide (lw_tbl[(zPp k).2.2.1]? = some (.instanceMethod (zY k))) && (decide ((zY k).name = "<init>") || decide (lw_tbl[(zPp k).2.2.2]? = some (.selects (zY k).cls (zY k) (zY k))))) && decide ((zY k).cls = zRN (zO k)) && decide (zO k < 18) && plainName (zY k).cls && decide ((zY k).cls ≠ "java/lang/invoke/MethodHandle") && decide ((zY k).cls ≠ "java/lang/invoke/VarHandle") && decide ((parseMethodDescriptor (zY k).desc).map (fun d => d.parameters.length) = some (if zSt k then zNa k else zNa k - 1)) && (zSt k || decide (0 < zNa k))
theorem zmo_0 : [0, 1, 2, 3, 4, 5, 6, 7].all zmo = true := by decide +kernel
theorem zmo_1 : [8, 9, 10, 11, 12, 13, 14, 15].all zmo = true := by decide +kernel
theorem zmo_2 : [16, 17, 18, 19, 20, 21, 22, 23].all zmo = true := by decide +kernel
theorem zmo_3 : [24, 25, 26, 27, 28, 29, 30, 31].all zmo = true := by decide +kernel
theorem zmo_4 : [32, 33, 34, 35, 36, 37, 38, 39].all zmo = true := by decide +kernel
theorem zmo_5 : [40, 41, 42, 43, 44, 45, 46, 47].all zmo = true := by decide +kernel
theorem zmo_6 : [48, 49, 50, 51, 52, 53, 54, 55].all zmo = true := by decide +kernel
theorem zmo_7 : [56, 57, 58, 59, 60, 61, 62, 63].all zmo = true := by decide +kernel
theorem zmo_8 : [64, 65, 66, 67, 68, 69, 70, 71].all zmo = true := by decide +kernel
theorem zmo_9 : [72, 73, 74, 75, 76, 77, 78, 79].all zmo = true := by decide +kernel
theorem zmo_10 : [80, 81, 82, 83, 84, 85, 86, 87].all zmo = true := by decide +kernel
theorem zmo_11 : [88, 89, 90, 91, 92, 93, 94, 95].all zmo = true := by decide +kernel
theorem zmo_12 : [96, 97, 98, 99, 100, 101, 102, 103].all zmo = true := by decide +kernel
theorem zmo_13 : [104, 105, 106, 107, 108, 109, 110, 111].all zmo = true := by decide +kernel
theorem zmo_14 : [112, 113, 114, 115, 116, 117, 118, 119].all zmo = true := by decide +kernel
theorem zmo_15 : [120, 121, 122, 123, 124, 125, 126, 127].all zmo = true := by decide +kernel
theorem zmo_16 : [128, 129, 130, 131, 132, 133, 134, 135].all zmo = true := by decide +kernel
theorem zmo_17 : [136, 137, 138, 139, 140, 141, 142, 143].all zmo = true := by decide +kernel
theorem zmo_18 : [144, 145, 146, 147, 148, 149, 150, 151].all zmo = true := by decide +kernel
theorem zmo_19 : [152, 153, 154, 155, 156, 157, 158, 159].all zmo = true := by decide +kernel
theorem zmo_20 : [160, 161, 162, 163, 164, 165, 166, 167].all zmo = true := by decide +kernel
theorem zmo_21 : [168, 169, 170, 171, 172, 173, 174, 175].all zmo = true := by decide +kernel
theorem zmo_22 : [176, 177, 178, 179, 180, 181, 182, 183].all zmo = true := by decide +kernel
theorem zmo_23 : [184, 185, 186, 187, 188, 189, 190, 191].all zmo = true := by decide +kernel
theorem zmo_24 : [192, 193, 194, 195, 196, 197, 198, 199].all zmo = true := by decide +kernel
theorem zmo_25 : [200, 201, 202, 203, 204, 205, 206, 207].all zmo = true := by decide +kernel
theorem zmo_26 : [208, 209, 210, 211, 212, 213, 214, 215].all zmo = true := by decide +kernel
theorem zmo_27 : [216, 217, 218].all zmo = true := by decide +kernel
theorem zmo_28 : [220, 221, 222, 223, 224, 225, 226, 231].all zmo = true := by decide +kernel
theorem zmo_all (k : Nat) (hk : k < 219) : zmo k = true := by
  by_cases h0 : k < 8
  · exact List.all_eq_true.mp zmo_0 k (by simp only [List.mem_cons, List.not_mem_nil, or_false]; omega)
  by_cases h1 : k < 16
  · exact List.all_eq_true.mp zmo_1 k (by simp only [List.mem_cons, List.not_mem_nil, or_false]; omega)
  by_cases h2 : k < 24
  · exact List.all_eq_true.mp zmo_2 k (by simp only [List.mem_cons, List.not_mem_nil, or_false]; omega)
  by_cases h3 : k < 32
  · exact List.all_eq_true.mp zmo_3 k (by simp only [List.mem_cons, List.not_mem_nil, or_false]; omega)
  by_cases h4 : k < 40
  · exact List.all_eq_true.mp zmo_4 k (by simp only [List.mem_cons, List.not_mem_nil, or_false]; omega)
  by_cases h5 : k < 48
  · exact List.all_eq_true.mp zmo_5 k (by simp only [List.mem_cons, List.not_mem_nil, or_false]; omega)
  by_cases h6 : k < 56
  · exact List.all_eq_true.mp zmo_6 k (by simp only [List.mem_cons, List.not_mem_nil, or_false]; omega)
  by_cases h7 : k < 64
  · exact List.all_eq_true.mp zmo_7 k (by simp only [List.mem_cons, List.not_mem_nil, or_false]; omega)
  by_cases h8 : k < 72
  · exact List.all_eq_true.mp zmo_8 k (by simp only [List.mem_cons, List.not_mem_nil, or_false]; omega)
  by_cases h9 : k < 80
  · exact List.all_eq_true.mp zmo_9 k (by simp only [List.mem_cons, List.not_mem_nil, or_false]; omega)
  by_cases h10 : k < 88
  · exact List.all_eq_true.mp zmo_10 k (by simp only [List.mem_cons, List.not_mem_nil, or_false]; omega)
  by_cases h11 : k < 96
  · exact List.all_eq_true.mp zmo_11 k (by simp only [List.mem_cons, List.not_mem_nil, or_false]; omega)
  by_cases h12 : k < 104
  · exact List.all_eq_true.mp zmo_12 k (by simp only [List.mem_cons, List.not_mem_nil, or_false]; omega)
  by_cases h13 : k < 112
  · exact List.all_eq_true.mp zmo_13 k (by simp only [List.mem_cons, List.not_mem_nil, or_false]; omega)
  by_cases h14 : k < 120
  · exact List.all_eq_true.mp zmo_14 k (by simp only [List.mem_cons, List.not_mem_nil, or_false]; omega)
  by_cases h15 : k < 128
  · exact List.all_eq_true.mp zmo_15 k (by simp only [List.mem_cons, List.not_mem_nil, or_false]; omega)
  by_cases h16 : k < 136
  · exact List.all_eq_true.mp zmo_16 k (by simp only [List.mem_cons, List.not_mem_nil, or_false]; omega)
  by_cases h17 : k < 144
  · exact List.all_eq_true.mp zmo_17 k (by simp only [List.mem_cons, List.not_mem_nil, or_false]; omega)
  by_cases h18 : k < 152
  · exact List.all_eq_true.mp zmo_18 k (by simp only [List.mem_cons, List.not_mem_nil, or_false]; omega)
  by_cases h19 : k < 160
  · exact List.all_eq_true.mp zmo_19 k (by simp only [List.mem_cons, List.not_mem_nil, or_false]; omega)
  by_cases h20 : k < 168
  · exact List.all_eq_true.mp zmo_20 k (by simp only [List.mem_cons, List.not_mem_nil, or_false]; omega)
  by_cases h21 : k < 176
  · exact List.all_eq_true.mp zmo_21 k (by simp only [List.mem_cons, List.not_mem_nil, or_false]; omega)
  by_cases h22 : k < 184
  · exact List.all_eq_true.mp zmo_22 k (by simp only [List.mem_cons, List.not_mem_nil, or_false]; omega)
  by_cases h23 : k < 192
  · exact List.all_eq_true.mp zmo_23 k (by simp only [List.mem_cons, List.not_mem_nil, or_false]; omega)
  by_cases h24 : k < 200
  · exact List.all_eq_true.mp zmo_24 k (by simp only [List.mem_cons, List.not_mem_nil, or_false]; omega)
  by_cases h25 : k < 208
  · exact List.all_eq_true.mp zmo_25 k (by simp only [List.mem_cons, List.not_mem_nil, or_false]; omega)
  by_cases h26 : k < 216
  · exact List.all_eq_true.mp zmo_26 k (by simp only [List.mem_cons, List.not_mem_nil, or_false]; omega)
  by_cases h27 : k < 219
  · exact List.all_eq_true.mp zmo_27 k (by simp only [List.mem_cons, List.not_mem_nil, or_false]; omega)
  omega
theorem zcl_ok : zCT.all (fun e => decide (e.2.2.1 < 12) && decide (lw_tbl[e.2.2.2]? = some (.classLink (zRN e.1) e.2.1 (zRN e.2.2.1)))) = true := by decide +kernel
theorem zki_ok : zKT.all (fun e => decide (lw_tbl[e.2.2.2]? = some (.constant (zRN e.1) e.2.1 (Int32.ofNat e.2.2.1)))) = true := by decide +kernel
theorem zkl_ok : zKLT.all (fun e => decide (lw_tbl[e.2.2.2]? = some (.constantLong (zRN e.1) e.2.1 (Int64.ofNat e.2.2.1)))) = true := by decide +kernel
theorem zob_code : Cond.code objectInit ⟨#[0xb1]⟩ 1 none ∈ zTB := zin 104 (by decide +kernel) rfl
theorem zob_inst : Cond.instanceMethod objectInit ∈ zTB := zin 103 (by decide +kernel) rfl
theorem zarr_0 : Cond.arrayClass .int ∈ zTB := zin 142 (by decide +kernel) rfl
theorem zarr_1 : Cond.arrayClass .byte ∈ zTB := zin 235 (by decide +kernel) rfl
theorem zarr_2 : Cond.arrayClass .boolean ∈ zTB := zin 143 (by decide +kernel) rfl
theorem zarr_3 : Cond.arrayClass .char ∈ zTB := zin 1297 (by decide +kernel) rfl
theorem zcls (c : Nat) (hc : c < 12) : vwCl[c]? = some (zRN c, zTt c, zN c) ∧ (∀ w ∈ u_ws (zRN c) (zTt c) (zN c), w ∈ zTB) ∧ (∀ k, k < zN c → parseFieldDescriptor (zTt c k).2.2.1 = some (zTy c k)) ∧ (∀ a, a < zN c → ∀ b, b < zN c → a ≠ b → (zTt c a).2.1 ≠ (zTt c b).2.1) ∧ zfo c = true := by
  match c, hc with
  | 0, _ => exact ⟨rfl, zuk_in zu_0, tyX0_ok, nmX0, zfo_0⟩
  | 1, _ => exact ⟨rfl, zuk_in zu_1, tyX1_ok, nmX1, zfo_1⟩
  | 2, _ => exact ⟨rfl, zuk_in zu_2, tyX2_ok, nmX2, zfo_2⟩
  | 3, _ => exact ⟨rfl, zuk_in zu_3, tyX3_ok, nmX3, zfo_3⟩
  | 4, _ => exact ⟨rfl, zuk_in zu_4, tyX4_ok, nmX4, zfo_4⟩
  | 5, _ => exact ⟨rfl, zuk_in zu_5, tyX5_ok, nmX5, zfo_5⟩
  | 6, _ => exact ⟨rfl, zuk_in zu_6, tyX6_ok, nmX6, zfo_6⟩
  | 7, _ => exact ⟨rfl, zuk_in zu_7, tyX7_ok, nmX7, zfo_7⟩
  | 8, _ => exact ⟨rfl, zuk_in zu_8, tyX8_ok, nmX8, zfo_8⟩
  | 9, _ => exact ⟨rfl, zuk_in zu_9, tyX9_ok, nmX9, zfo_9⟩
  | 10, _ => exact ⟨rfl, zuk_in zu_10, tyX10_ok, nmX10, zfo_10⟩
  | 11, _ => exact ⟨rfl, zuk_in zu_11, tyX11_ok, nmX11, zfo_11⟩
theorem zfks (o : Nat) (ho : o < 12) : (zFT.getD o []).all (zfk o) = true := by
  match o, ho with
  | 0, _ => exact zfk_0
  | 1, _ => exact zfk_1
  | 2, _ => exact zfk_2
  | 3, _ => exact zfk_3
  | 4, _ => exact zfk_4
  | 5, _ => exact zfk_5
  | 6, _ => exact zfk_6
  | 7, _ => exact zfk_7
  | 8, _ => exact zfk_8
  | 9, _ => exact zfk_9
  | 10, _ => exact zfk_10
  | 11, _ => exact zfk_11
theorem zmks (o : Nat) (ho : o < 18) : (zLT.getD o []).all (zmk o) = true := by
  match o, ho with
  | 0, _ => exact zmk_0
  | 1, _ => exact zmk_1
  | 2, _ => exact zmk_2
  | 3, _ => exact zmk_3
  | 4, _ => exact zmk_4
  | 5, _ => exact zmk_5
  | 6, _ => exact zmk_6
  | 7, _ => exact zmk_7
  | 8, _ => exact zmk_8
  | 9, _ => exact zmk_9
  | 10, _ => exact zmk_10
  | 11, _ => exact zmk_11
  | 12, _ => exact zmk_12
  | 13, _ => exact zmk_13
  | 14, _ => exact zmk_14
  | 15, _ => exact zmk_15
  | 16, _ => exact zmk_16
  | 17, _ => exact zmk_17
  | o + 18, h => omega
