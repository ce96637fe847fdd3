/-! the law's premises: words of the tables, statics, constants -/
theorem sel_sub {C : String} {y y2 : MethodName} {args : Array Value} {s : State} (hcls : y2.cls = y.cls) (hy : y.cls ≠ "java/lang/invoke/MethodHandle" ∧ y.cls ≠ "java/lang/invoke/VarHandle") (h2 : (Cond.selects C y2 y2).before args s = true) (hpriv : (Cond.privateMethod y).before args s = true) (hinst : (Cond.instanceMethod y).before args s = true) : (Cond.selects C y y).before args s = true := by
  obtain ⟨mk, methM, hnamed, hmethM, -, -⟩ := Cond.instanceMethod_spec hinst
  have hfound : s.methodFound? y.cls y.name y.desc = some mk := State.methodFound?_of_named hnamed hy
  simp only [Cond.before, Cond.holds, Cond.value] at h2 ⊢
  cases hc : s.vm.findClass C with
  | none => simp [hc] at h2
  | some c =>
    have hsel : selectMethod {} s.vm c mk = .method mk := selectMethod_private hmethM (Cond.privateMethod_at hpriv mk methM hnamed hmethM)
    cases hf2 : s.methodFound? y2.cls y2.name y2.desc with
    | none => simp [hc, hf2] at h2
    | some r2 =>
      cases hn2 : s.methodNamed? y2 with
      | none => simp [hc, hf2, hn2] at h2
      | some m2 =>
        have e : m2.cls = mk.cls := by
          have a := findClass_of_methodNamed hn2
          have b := findClass_of_methodNamed hnamed
          rw [hcls] at a
          exact Option.some.inj (a.symm.trans b)
        simp only [hc, hf2, hn2] at h2
        have h3 : (s.vm.classes[m2.cls]?).any (fun k => !k.isInterface) = true := by
          generalize selectMethod {} s.vm c r2 = sel at h2
          cases sel with
          | method m' =>
            simp only [beq_iff_eq, Option.some.injEq, Bool.and_eq_true] at h2
            exact h2.2
          | _ => simp at h2
        rw [e] at h3
        simp only [hfound, hnamed, hsel]
        simp only [h3, decide_true, Bool.and_self, beq_self_eq_true]
theorem sv_of {args : Array Value} {s : State} {k : Nat} {tx : String} (bs : List Int32) (h1 : (Cond.stringRef RX6 k tx).before args s = true) (hex : (Cond.exactly (.string RX6 k) "java/lang/String").before args s = true) (hco : (Cond.eq (.field (.string RX6 k) "java/lang/String" "coder" "B") (.int 0)).before args s = true)
    (har : (Cond.arrayOf (.field (.string RX6 k) "java/lang/String" "value" "[B") .byte).before args s = true) (hle : (Cond.eq (.length (.field (.string RX6 k) "java/lang/String" "value" "[B")) (.int (Int32.ofNat bs.length))).before args s = true)
    (hel : ∀ j : Nat, j < bs.length → (Cond.eq (.elem (.field (.string RX6 k) "java/lang/String" "value" "[B") (.int (Int32.ofNat j))) (.int (bs.getD j 0))).before args s = true) (hfit : ∀ j : Nat, j < bs.length → fits .byte (.int (bs.getD j 0)) = true) (hN : bs.length < 1000) :
    ∃ a, vk_R RX6 k tx a s ∧ SV (zB s.heap.size) a bs.length s s.heap := by
  obtain ⟨adK, adV, h, he⟩ := vk_Sof (N := 1) (tm := fun _ => .string RX6 k) (len := [bs.length]) (byt := [bs]) (A := zB s.heap.size) (args := args) (s := s) (fun i hi => by obtain rfl : i = 0 := by omega
                                                                                                                                                              show bs.length < 2 ^ 31; omega) (fun i _ => hex) (fun i _ => hco) (fun i _ => har) (fun i hi => by obtain rfl : i = 0 := by omega
                                                                                                                                                                                                                                                                 exact hle) (fun i hi j hj => by obtain rfl : i = 0 := by omega
                                                                                                                                                                                                                                                                                                 exact hel j hj) (fun i j hi hj hne => absurd (by omega) hne) (fun a ha z => Nat.not_le.mpr ha z)
  obtain ⟨q1, q2, q3, q4⟩ := h.1 0 (by omega)
  exact ⟨adK 0, vk_R.of h1 (he 0 (by omega)), q1, q2, adV 0, _, q3, q4, hfit⟩
theorem str_R {args : Array Value} {s : State} {own tx : String} {k : Nat} (h1 : (Cond.stringRef own k tx).before args s = true) (h2 : (Cond.exactly (.string own k) "java/lang/String").before args s = true) : ∃ a, vk_R own k tx a s := by
  obtain ⟨a, c, cA, kA, q1, -⟩ := Cond.exactly_spec (args := args) (first := s) (o := none) (s := s) (idx := []) (t := .string own k) (cls := "java/lang/String") h2
  exact ⟨a, vk_R.of h1 q1⟩
def lw_ext : List Cond := [.selects RJ4 yJ5_ensureCapacityInternal_d00df yJ5_ensureCapacityInternal_d00df, .selects RJ4 yJ5_newCapacity_0f7a4 yJ5_newCapacity_0f7a4, .selects RJ4 yJ5_inflate_da8c8 yJ5_inflate_da8c8, .selects RJ4 yJ5_appendNull_278bc yJ5_appendNull_278bc, .selects RJ4 yJ5_putStringAt_47b60 yJ5_putStringAt_47b60, .selects RJ4 yJ5_inflateIfNeededFor_a7421 yJ5_inflateIfNeededFor_a7421]
theorem lw_ext_ok {args : Array Value} {s : State} (hts : ∀ w ∈ lw_tbl, w.before args s = true) : ∀ w ∈ lw_tbl ++ lw_ext, w.before args s = true := by
  intro w hw
  rcases List.mem_append.mp hw with hw | hw
  · exact hts w hw
  · have k : ∀ y : MethodName, yJ5_isLatin1_aae02.cls = y.cls → (y.cls ≠ "java/lang/invoke/MethodHandle" ∧ y.cls ≠ "java/lang/invoke/VarHandle") → Cond.privateMethod y ∈ lw_tbl → Cond.instanceMethod y ∈ lw_tbl → (Cond.selects RJ4 y y).before args s = true :=
      fun y h1 h2 h3 h4 => sel_sub h1 h2 (hts (.selects RJ4 yJ5_isLatin1_aae02 yJ5_isLatin1_aae02) (by decide +kernel)) (hts _ h3) (hts _ h4)
    simp only [lw_ext, List.mem_cons, List.not_mem_nil, or_false] at hw
    rcases hw with rfl | rfl | rfl | rfl | rfl | rfl
    · exact k yJ5_ensureCapacityInternal_d00df rfl (by decide +kernel) (by decide +kernel) (by decide +kernel)
    · exact k yJ5_newCapacity_0f7a4 rfl (by decide +kernel) (by decide +kernel) (by decide +kernel)
    · exact k yJ5_inflate_da8c8 rfl (by decide +kernel) (by decide +kernel) (by decide +kernel)
    · exact k yJ5_appendNull_278bc rfl (by decide +kernel) (by decide +kernel) (by decide +kernel)
    · exact k yJ5_putStringAt_47b60 rfl (by decide +kernel) (by decide +kernel) (by decide +kernel)
    · exact k yJ5_inflateIfNeededFor_a7421 rfl (by decide +kernel) (by decide +kernel) (by decide +kernel)
set_option maxRecDepth 20000 in
theorem wsL_law_in0 : ∀ w ∈ wsL_law0, w ∈ lw_tbl ++ lw_ext := fun w h => (goodIn_p wsL_law0 [79, 82, 91, 97, 118, 128, 1263, 554, 571, 299, 574, 577, 312, 597, 601, 605, 609, 316, 320, 324, 1303, 1306, 1309, 1313, 1317, 1320, 1324, 1328, 616, 619, 1332, 627, 359, 1336, 635, 638, 456, 1340, 646, 347, 1344, 654, 308, 1348, 662, 387, 339, 1352, 1356, 670, 673, 1360, 681, 1364, 689, 205, 328, 333, 280, 343, 350, 354, 364, 295, 291, 694, 1368, 1371, 1375, 1379, 1382, 701, 1386, 710, 378, 1390, 1394, 717, 1398, 724, 1402, 731, 1406, 738, 742, 747, 750, 756, 759, 776, 780, 783, 787, 790, 794, 798, 801, 804, 808, 812, 828, 831, 835, 838, 841, 844, 847, 850, 855, 858, 867, 870, 873, 876, 880, 883, 886, 889, 896, 899, 902, 905, 908, 915, 920, 923, 929, 934, 937, 940, 988, 991, 994, 998, 1410, 949, 952, 956, 959, 963, 967, 972, 976, 981, 1016, 1020, 451, 1422, 1426, 1430, 1028, 1032, 1036, 1434, 1043, 1047, 1050, 1054, 1438, 1061, 543, 547, 1442, 1446, 1450, 1068, 1072, 1454, 1079, 1083, 1088, 1458, 1462, 1096, 1467, 1108, 396, 1112, 412, 416, 419, 422, 430, 434, 438, 1471, 1475, 1479, 1119, 404, 1123, 1483, 1130, 1134, 1487, 1141, 392, 400, 408, 1491, 1149, 442, 1154, 1495, 1161, 469, 1499, 1169, 1173, 1503, 1181, 1185, 1507, 1198, 1513, 1205, 533, 1517, 1521, 1212, 464, 1525, 1529, 1219, 1223, 1533, 1230, 530, 1537, 1541, 1237, 1545, 1244, 1549, 1251, 1553, 197, 1557, 1258, 495, 499, 504, 1561, 1565, 201, 276, 284, 287, 304, 370, 374, 383, 446, 460, 473, 477, 482, 486, 1569, 490, 508, 513, 519, 527, 539, 1573] (by decide +kernel) (by decide +kernel) w h).1
theorem wsL_law_x0 : ∀ w ∈ (vx_atS RX4 306 "java/lang/IndexOutOfBoundsException" ["java/lang/RuntimeException", "java/lang/Exception"]).filter goodWord, w ∈ lw_tbl := by decide +kernel
theorem wsL_law_x1 : ∀ w ∈ (vx_atS RX4 140 "java/lang/IllegalArgumentException" ["java/lang/RuntimeException", "java/lang/Exception"]).filter goodWord, w ∈ lw_tbl := by decide +kernel
theorem wsL_law_ok {args : Array Value} {s : State} (hts : ∀ w ∈ lw_tbl, w.before args s = true) : ∀ w ∈ wsL_law, w.before args s = true := fun w h => by
  have h0 := lw_ext_ok hts
  rcases List.mem_append.mp h with h | h
  · rcases List.mem_append.mp h with h | h
    · exact h0 w (wsL_law_in0 w h)
    · exact hts w (wsL_law_x0 w h)
  · exact hts w (wsL_law_x1 w h)

