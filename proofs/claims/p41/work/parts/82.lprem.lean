/-! the law's premises: words of the tables, statics, constants -/
theorem sel_sub {C : String} {y y2 : MethodName} {args : Array Value} {s : State} (hcls : y2.cls = y.cls) (hy : y.cls ≠ "java/lang/invoke/MethodHandle" ∧ y.cls ≠ "java/lang/invoke/VarHandle") (h2 : (Cond.selects C y2 y2).before args s = true) (hpriv : (Cond.privateMethod y).before args s = true) (hinst : (Cond.instanceMethod y).before args s = true) : (Cond.selects C y y).before args s = true := by
  obtain ⟨mk, methM, hnamed, hmethM, -, -⟩ := Cond.instanceMethod_spec hinst
  have hfound : s.methodFound? y.cls y.name y.desc = some mk := State.methodFound?_of_named hnamed hy
  simp only [Cond.before, Cond.holds, Cond.value] at h2 ⊢
  cases hc : s.vm.findClass C with
  | none => simp [hc] at h2
  | some c =>
    have hsel : selectMethod {} s.vm c mk = .method mk := selectMethod_private hmethM (Cond.privateMethod_at hpriv mk methM hnamed hmethM)
    cases hf2 : s.methodFound? y2.cls y2.name y2.desc with
    | none => simp [hc, hf2] at h2
    | some r2 =>
      cases hn2 : s.methodNamed? y2 with
      | none => simp [hc, hf2, hn2] at h2
      | some m2 =>
        have e : m2.cls = mk.cls := by
          have a := findClass_of_methodNamed hn2
          have b := findClass_of_methodNamed hnamed
          rw [hcls] at a
          exact Option.some.inj (a.symm.trans b)
        simp only [hc, hf2, hn2] at h2
        have h3 : (s.vm.classes[m2.cls]?).any (fun k => !k.isInterface) = true := by
          generalize selectMethod {} s.vm c r2 = sel at h2
          cases sel with
          | method m' =>
            simp only [beq_iff_eq, Option.some.injEq, Bool.and_eq_true] at h2
            exact h2.2
          | _ => simp at h2
        rw [e] at h3
        simp only [hfound, hnamed, hsel]
        simp only [h3, decide_true, Bool.and_self, beq_self_eq_true]
theorem sv_of {args : Array Value} {s : State} {k : Nat} {tx : String} (bs : List Int32) (h1 : (Cond.stringRef RX6 k tx).before args s = true) (hex : (Cond.exactly (.string RX6 k) "java/lang/String").before args s = true) (hco : (Cond.eq (.field (.string RX6 k) "java/lang/String" "coder" "B") (.int 0)).before args s = true)
    (har : (Cond.arrayOf (.field (.string RX6 k) "java/lang/String" "value" "[B") .byte).before args s = true) (hle : (Cond.eq (.length (.field (.string RX6 k) "java/lang/String" "value" "[B")) (.int (Int32.ofNat bs.length))).before args s = true)
    (hel : ∀ j : Nat, j < bs.length → (Cond.eq (.elem (.field (.string RX6 k) "java/lang/String" "value" "[B") (.int (Int32.ofNat j))) (.int (bs.getD j 0))).before args s = true) (hfit : ∀ j : Nat, j < bs.length → fits .byte (.int (bs.getD j 0)) = true) (hN : bs.length < 1000) :
    ∃ a, vk_R RX6 k tx a s ∧ SV (zB s.heap.size) a bs.length s s.heap := by
  obtain ⟨adK, adV, h, he⟩ := vk_Sof (N := 1) (tm := fun _ => .string RX6 k) (len := [bs.length]) (byt := [bs]) (A := zB s.heap.size) (args := args) (s := s) (fun i hi => by cases Nat.lt_one_iff.mp hi; exact (Nat.lt_trans hN (by decide) : bs.length < 2 ^ 31)) (fun i _ => hex) (fun i _ => hco) (fun i _ => har) (fun i hi => by cases Nat.lt_one_iff.mp hi; exact hle) (fun i hi j hj => by cases Nat.lt_one_iff.mp hi; exact hel j hj) (fun i j hi hj hne => absurd (by omega) hne) (fun a ha z => Nat.not_le.mpr ha z)
  obtain ⟨q1, q2, q3, q4⟩ := h.1 0 (by omega)
  exact ⟨adK 0, vk_R.of h1 (he 0 (by omega)), q1, q2, adV 0, _, q3, q4, hfit⟩
theorem str_R {args : Array Value} {s : State} {own tx : String} {k : Nat} (h1 : (Cond.stringRef own k tx).before args s = true) (h2 : (Cond.exactly (.string own k) "java/lang/String").before args s = true) : ∃ a, vk_R own k tx a s := by
  obtain ⟨a, c, cA, kA, q1, -⟩ := Cond.exactly_spec (args := args) (first := s) (o := none) (s := s) (idx := []) (t := .string own k) (cls := "java/lang/String") h2
  exact ⟨a, vk_R.of h1 q1⟩
def lw_ext : List Cond := [.selects RJ4 yJ5_ensureCapacityInternal_d00df yJ5_ensureCapacityInternal_d00df, .selects RJ4 yJ5_newCapacity_0f7a4 yJ5_newCapacity_0f7a4, .selects RJ4 yJ5_inflate_da8c8 yJ5_inflate_da8c8, .selects RJ4 yJ5_appendNull_278bc yJ5_appendNull_278bc, .selects RJ4 yJ5_putStringAt_47b60 yJ5_putStringAt_47b60, .selects RJ4 yJ5_inflateIfNeededFor_a7421 yJ5_inflateIfNeededFor_a7421]
theorem lw_ext_ok {args : Array Value} {s : State} (hts : ∀ w ∈ lw_tbl, w.before args s = true) : ∀ w ∈ lw_tbl ++ lw_ext, w.before args s = true := by
  intro w hw
  rcases List.mem_append.mp hw with hw | hw
  · exact hts w hw
  · have k : ∀ y : MethodName, yJ5_isLatin1_aae02.cls = y.cls → (y.cls ≠ "java/lang/invoke/MethodHandle" ∧ y.cls ≠ "java/lang/invoke/VarHandle") → Cond.privateMethod y ∈ lw_tbl → Cond.instanceMethod y ∈ lw_tbl → (Cond.selects RJ4 y y).before args s = true :=
      fun y h1 h2 h3 h4 => sel_sub h1 h2 (hts (.selects RJ4 yJ5_isLatin1_aae02 yJ5_isLatin1_aae02) (by decide +kernel)) (hts _ h3) (hts _ h4)
    simp only [lw_ext, List.mem_cons, List.not_mem_nil, or_false] at hw
    rcases hw with rfl | rfl | rfl | rfl | rfl | rfl
    · exact k yJ5_ensureCapacityInternal_d00df rfl (by decide +kernel) (by decide +kernel) (by decide +kernel)
    · exact k yJ5_newCapacity_0f7a4 rfl (by decide +kernel) (by decide +kernel) (by decide +kernel)
    · exact k yJ5_inflate_da8c8 rfl (by decide +kernel) (by decide +kernel) (by decide +kernel)
    · exact k yJ5_appendNull_278bc rfl (by decide +kernel) (by decide +kernel) (by decide +kernel)
    · exact k yJ5_putStringAt_47b60 rfl (by decide +kernel) (by decide +kernel) (by decide +kernel)
    · exact k yJ5_inflateIfNeededFor_a7421 rfl (by decide +kernel) (by decide +kernel) (by decide +kernel)
theorem sub_of {T : List Cond} {ws : List Cond} (ps : List Nat) (h : ws = ps.filterMap (fun i => T[i]?)) : ∀ w ∈ ws, w ∈ T := fun w hw => by
  rw [h] at hw
  obtain ⟨i, -, hi⟩ := List.mem_filterMap.mp hw
  exact List.mem_of_getElem? hi
set_option maxRecDepth 20000 in
theorem wsL_in_r1 : ∀ w ∈ wsL_law0_r1, w ∈ lw_tbl ++ lw_ext := sub_of [69, 70, 46, 1253, 1254, 51, 544, 545, 52, 71, 72, 73, 74, 75, 76, 77, 160, 79, 161, 81, 82, 47, 162, 108] (by decide +kernel)
set_option maxRecDepth 20000 in
theorem wsL_in_r2 : ∀ w ∈ wsL_law0_r2, w ∈ lw_tbl ++ lw_ext := sub_of [109, 49, 163, 88, 48, 164, 119, 50, 165, 166, 167, 168, 84, 85, 86, 87, 104, 90, 91, 92, 103, 93, 94, 95] (by decide +kernel)
set_option maxRecDepth 20000 in
theorem wsL_in_r3 : ∀ w ∈ wsL_law0_r3, w ∈ lw_tbl ++ lw_ext := sub_of [111, 112, 113, 114, 145, 116, 146, 147, 118, 148, 121, 122, 123, 124, 143, 125, 144, 126, 127, 128, 129, 1255, 1256, 1257] (by decide +kernel)
set_option maxRecDepth 20000 in
theorem wsL_in_r4 : ∀ w ∈ wsL_law0_r4, w ∈ lw_tbl ++ lw_ext := sub_of [1258, 1259, 1264, 1265, 1266, 1267, 1261, 1268, 1269, 547, 548, 549, 557, 558, 45, 559, 560, 561, 562, 563, 564, 565, 290, 292] (by decide +kernel)
set_option maxRecDepth 20000 in
theorem wsL_in_r5 : ∀ w ∈ wsL_law0_r5, w ∈ lw_tbl ++ lw_ext := sub_of [2, 293, 200, 56, 566, 567, 568, 569, 570, 571, 572, 57, 494, 304, 305, 306, 588, 590, 21, 591, 592, 594, 22, 595] (by decide +kernel)
set_option maxRecDepth 20000 in
theorem wsL_in_r6 : ∀ w ∈ wsL_law0_r6, w ∈ lw_tbl ++ lw_ext := sub_of [596, 598, 23, 599, 600, 601, 602, 603, 307, 308, 309, 310, 311, 312, 313, 314, 315, 316, 317, 318, 1294, 1295, 1296, 1297] (by decide +kernel)
set_option maxRecDepth 20000 in
theorem wsL_in_r7 : ∀ w ∈ wsL_law0_r7, w ∈ lw_tbl ++ lw_ext := sub_of [1298, 1299, 1300, 1301, 1302, 1303, 1304, 1306, 27, 1307, 1263, 1308, 1310, 28, 1311, 1312, 1313, 1314, 1315, 1317, 29, 1318, 1271, 1319] (by decide +kernel)
set_option maxRecDepth 20000 in
theorem wsL_in_r8 : ∀ w ∈ wsL_law0_r8, w ∈ lw_tbl ++ lw_ext := sub_of [1321, 30, 1322, 1270, 604, 605, 606, 607, 608, 609, 610, 611, 612, 613, 1323, 1324, 1325, 1326, 615, 616, 617, 618, 619, 620] (by decide +kernel)
set_option maxRecDepth 20000 in
theorem wsL_in_r9 : ∀ w ∈ wsL_law0_r9, w ∈ lw_tbl ++ lw_ext := sub_of [621, 622, 351, 352, 353, 1327, 1328, 1329, 1330, 623, 624, 625, 626, 627, 628, 629, 630, 631, 632, 509, 633, 448, 449, 450] (by decide +kernel)
set_option maxRecDepth 20000 in
theorem wsL_in_r10 : ∀ w ∈ wsL_law0_r10, w ∈ lw_tbl ++ lw_ext := sub_of [1331, 1332, 1333, 1334, 634, 635, 636, 637, 638, 639, 640, 641, 339, 340, 341, 1335, 1336, 1337, 1338, 642, 643, 644, 645, 646] (by decide +kernel)
set_option maxRecDepth 20000 in
theorem wsL_in_r11 : ∀ w ∈ wsL_law0_r11, w ∈ lw_tbl ++ lw_ext := sub_of [647, 648, 649, 300, 301, 302, 303, 1339, 1340, 1341, 1342, 650, 651, 652, 653, 654, 655, 656, 657, 379, 380, 381, 382, 331] (by decide +kernel)
set_option maxRecDepth 20000 in
theorem wsL_in_r12 : ∀ w ∈ wsL_law0_r12, w ∈ lw_tbl ++ lw_ext := sub_of [332, 333, 1343, 1344, 1345, 1346, 1347, 1349, 31, 1350, 658, 659, 660, 661, 662, 663, 664, 665, 666, 58, 667, 508, 668, 1351] (by decide +kernel)
set_option maxRecDepth 20000 in
theorem wsL_in_r13 : ∀ w ∈ wsL_law0_r13, w ∈ lw_tbl ++ lw_ext := sub_of [1352, 1353, 1354, 669, 670, 671, 672, 673, 674, 675, 676, 1355, 1356, 1357, 1358, 677, 678, 679, 680, 681, 682, 683, 196, 198] (by decide +kernel)
set_option maxRecDepth 20000 in
theorem wsL_in_r14 : ∀ w ∈ wsL_law0_r14, w ∈ lw_tbl ++ lw_ext := sub_of [0, 199, 684, 320, 321, 322, 323, 324, 325, 326, 327, 328, 329, 272, 273, 274, 330, 334, 336, 3, 337, 342, 343, 58] (by decide +kernel)
set_option maxRecDepth 20000 in
theorem wsL_in_r15 : ∀ w ∈ wsL_law0_r15, w ∈ lw_tbl ++ lw_ext := sub_of [344, 338, 345, 347, 4, 348, 349, 350, 354, 355, 357, 5, 358, 359, 287, 288, 289, 360, 283, 284, 285, 685, 686, 687] (by decide +kernel)
set_option maxRecDepth 20000 in
theorem wsL_in_r16 : ∀ w ∈ wsL_law0_r16, w ∈ lw_tbl ++ lw_ext := sub_of [688, 1359, 1360, 1361, 1362, 1363, 1364, 1365, 1366, 1368, 32, 1369, 1370, 1372, 33, 1373, 1374, 1375, 1376, 689, 690, 691, 692, 693] (by decide +kernel)
set_option maxRecDepth 20000 in
theorem wsL_in_r17 : ∀ w ∈ wsL_law0_r17, w ∈ lw_tbl ++ lw_ext := sub_of [694, 695, 697, 1377, 1378, 1379, 1380, 698, 699, 700, 701, 702, 703, 704, 542, 370, 371, 372, 373, 1381, 1382, 1383, 1384, 1385] (by decide +kernel)
set_option maxRecDepth 20000 in
theorem wsL_in_r18 : ∀ w ∈ wsL_law0_r18, w ∈ lw_tbl ++ lw_ext := sub_of [1387, 34, 1388, 705, 706, 707, 708, 709, 710, 711, 1389, 1390, 1391, 1392, 712, 713, 714, 715, 716, 717, 718, 1393, 1394, 1395] (by decide +kernel)
set_option maxRecDepth 20000 in
theorem wsL_in_r19 : ∀ w ∈ wsL_law0_r19, w ∈ lw_tbl ++ lw_ext := sub_of [1396, 719, 720, 721, 722, 723, 724, 725, 1397, 1398, 1399, 1400, 726, 727, 728, 729, 730, 731, 732, 733, 734, 735, 736, 737] (by decide +kernel)
set_option maxRecDepth 20000 in
theorem wsL_in_r20 : ∀ w ∈ wsL_law0_r20, w ∈ lw_tbl ++ lw_ext := sub_of [738, 60, 739, 740, 741, 742, 743, 59, 744, 745, 746, 266, 755, 756, 748, 749, 62, 750, 751, 752, 753, 754, 769, 770] (by decide +kernel)
set_option maxRecDepth 20000 in
theorem wsL_in_r21 : ∀ w ∈ wsL_law0_r21, w ∈ lw_tbl ++ lw_ext := sub_of [771, 772, 773, 774, 775, 1571, 767, 776, 777, 758, 778, 779, 780, 781, 782, 1572, 783, 784, 785, 1573, 1582, 787, 788, 789] (by decide +kernel)
set_option maxRecDepth 20000 in
theorem wsL_in_r22 : ∀ w ∈ wsL_law0_r22, w ∈ lw_tbl ++ lw_ext := sub_of [1574, 1583, 791, 792, 803, 793, 794, 63, 795, 796, 797, 798, 799, 800, 801, 802, 804, 805, 64, 806, 807, 808, 809, 810] (by decide +kernel)
set_option maxRecDepth 20000 in
theorem wsL_in_r23 : ∀ w ∈ wsL_law0_r23, w ∈ lw_tbl ++ lw_ext := sub_of [811, 813, 814, 815, 817, 816, 65, 818, 820, 821, 819, 822, 823, 824, 66, 825, 826, 1575, 1584, 828, 829, 830, 831, 832] (by decide +kernel)
set_option maxRecDepth 20000 in
theorem wsL_in_r24 : ∀ w ∈ wsL_law0_r24, w ∈ lw_tbl ++ lw_ext := sub_of [833, 834, 835, 836, 837, 838, 839, 840, 841, 842, 843, 61, 844, 845, 847, 848, 67, 849, 850, 851, 852, 853, 855, 857] (by decide +kernel)
set_option maxRecDepth 20000 in
theorem wsL_in_r25 : ∀ w ∈ wsL_law0_r25, w ∈ lw_tbl ++ lw_ext := sub_of [859, 860, 861, 862, 863, 864, 865, 866, 867, 868, 869, 870, 871, 872, 873, 874, 875, 1576, 876, 877, 878, 879, 68, 880] (by decide +kernel)
set_option maxRecDepth 20000 in
theorem wsL_in_r26 : ∀ w ∈ wsL_law0_r26, w ∈ lw_tbl ++ lw_ext := sub_of [881, 882, 883, 884, 886, 888, 889, 890, 891, 892, 893, 894, 895, 896, 897, 898, 899, 900, 901, 902, 903, 904, 905, 906] (by decide +kernel)
set_option maxRecDepth 20000 in
theorem wsL_in_r27 : ∀ w ∈ wsL_law0_r27, w ∈ lw_tbl ++ lw_ext := sub_of [907, 908, 909, 910, 911, 912, 913, 914, 915, 916, 917, 918, 994, 993, 962, 757, 919, 921, 922, 920, 923, 924, 776, 1577] (by decide +kernel)
set_option maxRecDepth 20000 in
theorem wsL_in_r28 : ∀ w ∈ wsL_law0_r28, w ∈ lw_tbl ++ lw_ext := sub_of [925, 926, 927, 928, 929, 930, 931, 932, 933, 934, 936, 980, 981, 982, 983, 984, 985, 986, 987, 988, 989, 990, 991, 992] (by decide +kernel)
set_option maxRecDepth 20000 in
theorem wsL_in_r29 : ∀ w ∈ wsL_law0_r29, w ∈ lw_tbl ++ lw_ext := sub_of [1401, 1402, 1403, 1404, 1406, 1407, 1408, 941, 942, 943, 944, 1578, 945, 946, 947, 1579, 1585, 949, 950, 951, 952, 953, 954, 955] (by decide +kernel)
set_option maxRecDepth 20000 in
theorem wsL_in_r30 : ∀ w ∈ wsL_law0_r30, w ∈ lw_tbl ++ lw_ext := sub_of [956, 957, 958, 959, 960, 961, 963, 1580, 1586, 965, 966, 967, 1581, 1587, 969, 970, 971, 972, 973, 974, 975, 976, 977, 1410] (by decide +kernel)
set_option maxRecDepth 20000 in
theorem wsL_in_r31 : ∀ w ∈ wsL_law0_r31, w ∈ lw_tbl ++ lw_ext := sub_of [1412, 1004, 1005, 1006, 1007, 1008, 1009, 1010, 1011, 1012, 1013, 1014, 1015, 443, 444, 445, 517, 1413, 1414, 1415, 1416, 1417, 1419, 35] (by decide +kernel)
set_option maxRecDepth 20000 in
theorem wsL_in_r32 : ∀ w ∈ wsL_law0_r32, w ∈ lw_tbl ++ lw_ext := sub_of [1420, 1421, 1423, 36, 1424, 1016, 1017, 1018, 1019, 1020, 1021, 1022, 1023, 1024, 1025, 1026, 1027, 1028, 1029, 1030, 1425, 1426, 1427, 1428] (by decide +kernel)
set_option maxRecDepth 20000 in
theorem wsL_in_r33 : ∀ w ∈ wsL_law0_r33, w ∈ lw_tbl ++ lw_ext := sub_of [1031, 1032, 1033, 1034, 1035, 1036, 1037, 1038, 1039, 1040, 1041, 1042, 1043, 1044, 1045, 1047, 24, 1048, 1429, 1430, 1431, 1432, 1049, 1050] (by decide +kernel)
set_option maxRecDepth 20000 in
theorem wsL_in_r34 : ∀ w ∈ wsL_law0_r34, w ∈ lw_tbl ++ lw_ext := sub_of [1051, 1052, 1053, 1054, 1055, 534, 535, 536, 537, 538, 540, 20, 541, 1433, 1434, 1435, 1436, 1437, 1439, 37, 1440, 1441, 1443, 38] (by decide +kernel)
set_option maxRecDepth 20000 in
theorem wsL_in_r35 : ∀ w ∈ wsL_law0_r35, w ∈ lw_tbl ++ lw_ext := sub_of [1444, 1056, 1057, 1058, 1059, 1060, 1061, 1062, 1063, 1064, 1065, 1066, 1445, 1446, 1447, 1448, 1067, 1068, 1069, 1070, 1071, 1072, 1073, 1074] (by decide +kernel)
set_option maxRecDepth 20000 in
theorem wsL_in_r36 : ∀ w ∈ wsL_law0_r36, w ∈ lw_tbl ++ lw_ext := sub_of [1075, 1076, 1077, 1078, 1079, 1081, 25, 1082, 1083, 1449, 1450, 1451, 1452, 1453, 1454, 1455, 1456, 1084, 1085, 1086, 1087, 1088, 1089, 1090] (by decide +kernel)
set_option maxRecDepth 20000 in
theorem wsL_in_r37 : ∀ w ∈ wsL_law0_r37, w ∈ lw_tbl ++ lw_ext := sub_of [1091, 1092, 1093, 1094, 1095, 1458, 1459, 1460, 1461, 1096, 1097, 1098, 1099, 1100, 1101, 1102, 499, 388, 389, 390, 1103, 1104, 1105, 1106] (by decide +kernel)
set_option maxRecDepth 20000 in
theorem wsL_in_r38 : ∀ w ∈ wsL_law0_r38, w ∈ lw_tbl ++ lw_ext := sub_of [403, 405, 7, 406, 407, 409, 8, 410, 420, 411, 412, 413, 414, 415, 416, 417, 418, 419, 421, 423, 9, 424, 425, 427] (by decide +kernel)
set_option maxRecDepth 20000 in
theorem wsL_in_r39 : ∀ w ∈ wsL_law0_r39, w ∈ lw_tbl ++ lw_ext := sub_of [10, 428, 429, 431, 11, 432, 516, 1462, 1463, 1464, 1465, 1466, 1468, 39, 1469, 1470, 1472, 40, 1473, 1107, 1108, 1109, 1110, 1111] (by decide +kernel)
set_option maxRecDepth 20000 in
theorem wsL_in_r40 : ∀ w ∈ wsL_law0_r40, w ∈ lw_tbl ++ lw_ext := sub_of [1112, 1113, 514, 396, 397, 398, 1114, 1115, 1116, 1117, 1474, 1475, 1476, 1477, 1118, 1119, 1120, 1121, 1122, 1123, 1124, 1125, 1126, 1127] (by decide +kernel)
set_option maxRecDepth 20000 in
theorem wsL_in_r41 : ∀ w ∈ wsL_law0_r41, w ∈ lw_tbl ++ lw_ext := sub_of [1128, 1478, 1479, 1480, 1481, 1129, 1130, 1131, 1132, 1133, 1134, 1135, 1136, 384, 385, 386, 387, 391, 393, 6, 394, 395, 399, 400] (by decide +kernel)
set_option maxRecDepth 20000 in
theorem wsL_in_r42 : ∀ w ∈ wsL_law0_r42, w ∈ lw_tbl ++ lw_ext := sub_of [401, 402, 1482, 1483, 1484, 1485, 1137, 1138, 1139, 1140, 1141, 1142, 1143, 1144, 434, 435, 436, 1145, 1146, 1147, 1148, 1486, 1487, 1488] (by decide +kernel)
set_option maxRecDepth 20000 in
theorem wsL_in_r43 : ∀ w ∈ wsL_law0_r43, w ∈ lw_tbl ++ lw_ext := sub_of [1489, 1149, 1150, 1151, 1152, 1153, 1154, 1155, 1156, 461, 462, 463, 1490, 1491, 1492, 1493, 1157, 1158, 1159, 1160, 1161, 1162, 1163, 528] (by decide +kernel)
set_option maxRecDepth 20000 in
theorem wsL_in_r44 : ∀ w ∈ wsL_law0_r44, w ∈ lw_tbl ++ lw_ext := sub_of [1164, 1166, 26, 1167, 1168, 1494, 1495, 1496, 1497, 1169, 1170, 1171, 1172, 1173, 1174, 1175, 1176, 1177, 1178, 1179, 1180, 1181, 1183, 1184] (by decide +kernel)
set_option maxRecDepth 20000 in
theorem wsL_in_r45 : ∀ w ∈ wsL_law0_r45, w ∈ lw_tbl ++ lw_ext := sub_of [1185, 1498, 1499, 1500, 1501, 1186, 1187, 1188, 1189, 1190, 1191, 1192, 1504, 1505, 1506, 1507, 1193, 1194, 1195, 1196, 1197, 1198, 1199, 525] (by decide +kernel)
set_option maxRecDepth 20000 in
theorem wsL_in_r46 : ∀ w ∈ wsL_law0_r46, w ∈ lw_tbl ++ lw_ext := sub_of [526, 527, 1508, 1509, 1510, 1511, 1512, 1514, 41, 1515, 1200, 1201, 1202, 1203, 1204, 1205, 1206, 529, 456, 457, 458, 459, 1516, 1517] (by decide +kernel)
set_option maxRecDepth 20000 in
theorem wsL_in_r47 : ∀ w ∈ wsL_law0_r47, w ∈ lw_tbl ++ lw_ext := sub_of [1518, 1519, 1520, 1522, 42, 1523, 1207, 1208, 1209, 1210, 1211, 1212, 1213, 1214, 1215, 1216, 1217, 1524, 1525, 1526, 1527, 1218, 1219, 1220] (by decide +kernel)
set_option maxRecDepth 20000 in
theorem wsL_in_r48 : ∀ w ∈ wsL_law0_r48, w ∈ lw_tbl ++ lw_ext := sub_of [1221, 1222, 1223, 1224, 522, 523, 524, 1528, 1529, 1530, 1531, 1532, 1534, 43, 1535, 1225, 1226, 1227, 1228, 1229, 1230, 1231, 1536, 1537] (by decide +kernel)
set_option maxRecDepth 20000 in
theorem wsL_in_r49 : ∀ w ∈ wsL_law0_r49, w ∈ lw_tbl ++ lw_ext := sub_of [1538, 1539, 1232, 1233, 1234, 1235, 1236, 1237, 1238, 1540, 1541, 1542, 1543, 1239, 1240, 1241, 1242, 1243, 1244, 1245, 1544, 1545, 1546, 1547] (by decide +kernel)
set_option maxRecDepth 20000 in
theorem wsL_in_r50 : ∀ w ∈ wsL_law0_r50, w ∈ lw_tbl ++ lw_ext := sub_of [188, 189, 190, 191, 1548, 1549, 1550, 1551, 1272, 1246, 1247, 1248, 1249, 1250, 1251, 1252, 486, 488, 13, 489, 490, 492, 14, 493] (by decide +kernel)
set_option maxRecDepth 20000 in
theorem wsL_in_r51 : ∀ w ∈ wsL_law0_r51, w ∈ lw_tbl ++ lw_ext := sub_of [495, 497, 15, 498, 1552, 1553, 1554, 1555, 1556, 1558, 44, 1559, 192, 193, 194, 195, 267, 268, 269, 270, 271, 275, 276, 277] (by decide +kernel)
set_option maxRecDepth 20000 in
theorem wsL_in_r52 : ∀ w ∈ wsL_law0_r52, w ∈ lw_tbl ++ lw_ext := sub_of [278, 279, 280, 281, 282, 286, 295, 296, 297, 298, 299, 319, 361, 362, 363, 364, 365, 366, 367, 368, 369, 374, 375, 376] (by decide +kernel)
set_option maxRecDepth 20000 in
theorem wsL_in_r53 : ∀ w ∈ wsL_law0_r53, w ∈ lw_tbl ++ lw_ext := sub_of [377, 378, 383, 433, 437, 438, 439, 440, 441, 442, 446, 447, 451, 452, 453, 454, 455, 460, 464, 466, 12, 467, 468, 469] (by decide +kernel)
set_option maxRecDepth 20000 in
theorem wsL_in_r54 : ∀ w ∈ wsL_law0_r54, w ∈ lw_tbl ++ lw_ext := sub_of [470, 471, 472, 473, 474, 475, 476, 477, 478, 479, 480, 1560, 1561, 1562, 1563, 481, 482, 483, 484, 485, 500, 501, 502, 503] (by decide +kernel)
set_option maxRecDepth 20000 in
theorem wsL_in_r55 : ∀ w ∈ wsL_law0_r55, w ∈ lw_tbl ++ lw_ext := sub_of [504, 506, 16, 507, 510, 512, 17, 513, 515, 518, 520, 18, 521, 530, 532, 19, 533, 543, 1564, 1565, 1566, 1567, 1568, 1569] (by decide +kernel)
set_option maxRecDepth 20000 in
theorem wsL_in_wsX40 : ∀ w ∈ wsX40, w ∈ lw_tbl := by decide +kernel
set_option maxRecDepth 20000 in
theorem wsL_in_wsX60 : ∀ w ∈ wsX60, w ∈ lw_tbl := by decide +kernel
set_option maxRecDepth 20000 in
theorem wsL_in_wsX50 : ∀ w ∈ wsX50, w ∈ lw_tbl := by decide +kernel
set_option maxRecDepth 20000 in
theorem wsL_in_wsX30 : ∀ w ∈ wsX30, w ∈ lw_tbl := by decide +kernel
set_option maxRecDepth 20000 in
theorem wsL_in_wsX00 : ∀ w ∈ wsX00, w ∈ lw_tbl := by decide +kernel
set_option maxRecDepth 20000 in
theorem wsL_in_wsX20 : ∀ w ∈ wsX20, w ∈ lw_tbl := by decide +kernel
set_option maxRecDepth 20000 in
theorem wsL_in_wsX10 : ∀ w ∈ wsX10, w ∈ lw_tbl := by decide +kernel
set_option maxRecDepth 20000 in
theorem wsL_in_wsJ40 : ∀ w ∈ wsJ40, w ∈ lw_tbl := by decide +kernel
set_option maxRecDepth 20000 in
theorem wsL_in_wsJ00 : ∀ w ∈ wsJ00, w ∈ lw_tbl := by decide +kernel
theorem wsL_law_x0 : ∀ w ∈ (vx_atS RX4 306 "java/lang/IndexOutOfBoundsException" ["java/lang/RuntimeException", "java/lang/Exception"]).filter goodWord, w ∈ lw_tbl := by decide +kernel
theorem wsL_law_x1 : ∀ w ∈ (vx_atS RX4 140 "java/lang/IllegalArgumentException" ["java/lang/RuntimeException", "java/lang/Exception"]).filter goodWord, w ∈ lw_tbl := by decide +kernel
theorem wsL_R_ok {args : Array Value} {s : State} (hts : ∀ w ∈ lw_tbl, w.before args s = true) : ∀ w ∈ wsL_R, w.before args s = true := by
  have h0 := lw_ext_ok hts
  unfold wsL_R
  exact List.forall_mem_append.mpr ⟨(fun w h => h0 w (wsL_in_r1 w h)), List.forall_mem_append.mpr ⟨(fun w h => h0 w (wsL_in_r2 w h)), List.forall_mem_append.mpr ⟨(fun w h => h0 w (wsL_in_r3 w h)), List.forall_mem_append.mpr ⟨(fun w h => h0 w (wsL_in_r4 w h)), List.forall_mem_append.mpr ⟨(fun w h => h0 w (wsL_in_r5 w h)), List.forall_mem_append.mpr ⟨(fun w h => h0 w (wsL_in_r6 w h)), List.forall_mem_append.mpr ⟨(fun w h => h0 w (wsL_in_r7 w h)), List.forall_mem_append.mpr ⟨(fun w h => h0 w (wsL_in_r8 w h)), List.forall_mem_append.mpr ⟨(fun w h => h0 w (wsL_in_r9 w h)), List.forall_mem_append.mpr ⟨(fun w h => h0 w (wsL_in_r10 w h)), List.forall_mem_append.mpr ⟨(fun w h => h0 w (wsL_in_r11 w h)), List.forall_mem_append.mpr ⟨(fun w h => h0 w (wsL_in_r12 w h)), List.forall_mem_append.mpr ⟨(fun w h => h0 w (wsL_in_r13 w h)), List.forall_mem_append.mpr ⟨(fun w h => h0 w (wsL_in_r14 w h)), List.forall_mem_append.mpr ⟨(fun w h => h0 w (wsL_in_r15 w h)), List.forall_mem_append.mpr ⟨(fun w h => h0 w (wsL_in_r16 w h)), List.forall_mem_append.mpr ⟨(fun w h => h0 w (wsL_in_r17 w h)), List.forall_mem_append.mpr ⟨(fun w h => h0 w (wsL_in_r18 w h)), List.forall_mem_append.mpr ⟨(fun w h => h0 w (wsL_in_r19 w h)), List.forall_mem_append.mpr ⟨(fun w h => h0 w (wsL_in_r20 w h)), List.forall_mem_append.mpr ⟨(fun w h => h0 w (wsL_in_r21 w h)), List.forall_mem_append.mpr ⟨(fun w h => h0 w (wsL_in_r22 w h)), List.forall_mem_append.mpr ⟨(fun w h => h0 w (wsL_in_r23 w h)), List.forall_mem_append.mpr ⟨(fun w h => h0 w (wsL_in_r24 w h)), List.forall_mem_append.mpr ⟨(fun w h => h0 w (wsL_in_r25 w h)), List.forall_mem_append.mpr ⟨(fun w h => h0 w (wsL_in_r26 w h)), List.forall_mem_append.mpr ⟨(fun w h => h0 w (wsL_in_r27 w h)), List.forall_mem_append.mpr ⟨(fun w h => h0 w (wsL_in_r28 w h)), List.forall_mem_append.mpr ⟨(fun w h => h0 w (wsL_in_r29 w h)), List.forall_mem_append.mpr ⟨(fun w h => h0 w (wsL_in_r30 w h)), List.forall_mem_append.mpr ⟨(fun w h => h0 w (wsL_in_r31 w h)), List.forall_mem_append.mpr ⟨(fun w h => h0 w (wsL_in_r32 w h)), List.forall_mem_append.mpr ⟨(fun w h => h0 w (wsL_in_r33 w h)), List.forall_mem_append.mpr ⟨(fun w h => h0 w (wsL_in_r34 w h)), List.forall_mem_append.mpr ⟨(fun w h => h0 w (wsL_in_r35 w h)), List.forall_mem_append.mpr ⟨(fun w h => h0 w (wsL_in_r36 w h)), List.forall_mem_append.mpr ⟨(fun w h => h0 w (wsL_in_r37 w h)), List.forall_mem_append.mpr ⟨(fun w h => h0 w (wsL_in_r38 w h)), List.forall_mem_append.mpr ⟨(fun w h => h0 w (wsL_in_r39 w h)), List.forall_mem_append.mpr ⟨(fun w h => h0 w (wsL_in_r40 w h)), List.forall_mem_append.mpr ⟨(fun w h => h0 w (wsL_in_r41 w h)), List.forall_mem_append.mpr ⟨(fun w h => h0 w (wsL_in_r42 w h)), List.forall_mem_append.mpr ⟨(fun w h => h0 w (wsL_in_r43 w h)), List.forall_mem_append.mpr ⟨(fun w h => h0 w (wsL_in_r44 w h)), List.forall_mem_append.mpr ⟨(fun w h => h0 w (wsL_in_r45 w h)), List.forall_mem_append.mpr ⟨(fun w h => h0 w (wsL_in_r46 w h)), List.forall_mem_append.mpr ⟨(fun w h => h0 w (wsL_in_r47 w h)), List.forall_mem_append.mpr ⟨(fun w h => h0 w (wsL_in_r48 w h)), List.forall_mem_append.mpr ⟨(fun w h => h0 w (wsL_in_r49 w h)), List.forall_mem_append.mpr ⟨(fun w h => h0 w (wsL_in_r50 w h)), List.forall_mem_append.mpr ⟨(fun w h => h0 w (wsL_in_r51 w h)), List.forall_mem_append.mpr ⟨(fun w h => h0 w (wsL_in_r52 w h)), List.forall_mem_append.mpr ⟨(fun w h => h0 w (wsL_in_r53 w h)), List.forall_mem_append.mpr ⟨(fun w h => h0 w (wsL_in_r54 w h)), List.forall_mem_append.mpr ⟨(fun w h => h0 w (wsL_in_r55 w h)), List.forall_mem_append.mpr ⟨(fun w h => hts w (wsL_in_wsX40 w h)), List.forall_mem_append.mpr ⟨(fun w h => hts w (wsL_in_wsX60 w h)), List.forall_mem_append.mpr ⟨(fun w h => hts w (wsL_in_wsX50 w h)), List.forall_mem_append.mpr ⟨(fun w h => hts w (wsL_in_wsX30 w h)), List.forall_mem_append.mpr ⟨(fun w h => hts w (wsL_in_wsX00 w h)), List.forall_mem_append.mpr ⟨(fun w h => hts w (wsL_in_wsX20 w h)), List.forall_mem_append.mpr ⟨(fun w h => hts w (wsL_in_wsX10 w h)), List.forall_mem_append.mpr ⟨(fun w h => hts w (wsL_in_wsJ40 w h)), List.forall_mem_append.mpr ⟨(fun w h => hts w (wsL_in_wsJ00 w h)), List.forall_mem_append.mpr ⟨(fun w h => hts w (wsL_law_x0 w h)), (fun w h => hts w (wsL_law_x1 w h))⟩⟩⟩⟩⟩⟩⟩⟩⟩⟩⟩⟩⟩⟩⟩⟩⟩⟩⟩⟩⟩⟩⟩⟩⟩⟩⟩⟩⟩⟩⟩⟩⟩⟩⟩⟩⟩⟩⟩⟩⟩⟩⟩⟩⟩⟩⟩⟩⟩⟩⟩⟩⟩⟩⟩⟩⟩⟩⟩⟩⟩⟩⟩⟩⟩

