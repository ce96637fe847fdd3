theorem dkX4_wheel_1 : ([(72, (.invokevirtual 117, 3)), (75, (.iinc 6 1, 3)), (78, (.goto (-40), 3)), (81, (.aload_n 3, 1)), (82, (.iconst 0, 1)), (83, (.invokevirtual 91, 3)), (86, (.ireturn, 1))] : List (Nat × (Jvm.ClassFile.Instr × Nat))).all (dcB cX4_wheel) = true := by decide +kernel
theorem dX4_wheel_72 : decode cX4_wheel 72 = .ok (.invokevirtual 117, 3) := dget dkX4_wheel_1 0 rfl
theorem dX4_wheel_75 : decode cX4_wheel 75 = .ok (.iinc 6 1, 3) := dget dkX4_wheel_1 1 rfl
theorem dX4_wheel_78 : decode cX4_wheel 78 = .ok (.goto (-40), 3) := dget dkX4_wheel_1 2 rfl
theorem dX4_wheel_81 : decode cX4_wheel 81 = .ok (.aload_n 3, 1) := dget dkX4_wheel_1 3 rfl
theorem dX4_wheel_82 : decode cX4_wheel 82 = .ok (.iconst 0, 1) := dget dkX4_wheel_1 4 rfl
theorem dX4_wheel_83 : decode cX4_wheel 83 = .ok (.invokevirtual 91, 3) := dget dkX4_wheel_1 5 rfl
theorem dX4_wheel_86 : decode cX4_wheel 86 = .ok (.ireturn, 1) := dget dkX4_wheel_1 6 rfl
theorem ggX4_swap_X4_rowAt : GoodIn wsX4_swap wsX4_rowAt := tgCall 476 e_X4_rowAt (by decide +kernel)
theorem gX4_swap_X4_rowAt : GoodIn wsX4_swap (wsV RX4 55 RX4 yX4_rowAt wsX4_rowAt) := goodIn_app (tgIn [473, 474, 475, 421] (by decide +kernel) rfl) ggX4_swap_X4_rowAt
theorem ggX4_swap_X4_demandPlace : GoodIn wsX4_swap wsX4_demandPlace := tgCall 497 e_X4_demandPlace (by decide +kernel)
theorem gX4_swap_X4_demandPlace : GoodIn wsX4_swap (va_wsS RX4 88 yX4_demandPlace wsX4_demandPlace) := goodIn_app (tgIn [495, 496, 421] (by decide +kernel) rfl) ggX4_swap_X4_demandPlace
theorem ggX4_swap_X2_exchange : GoodIn wsX4_swap wsX2_exchange := tgCall 97 e_X2_exchange (by decide +kernel)
theorem gX4_swap_X2_exchange : GoodIn wsX4_swap (wsV RX4 121 RX2 yX2_exchange wsX2_exchange) := goodIn_app (tgIn [507, 95, 96, 9] (by decide +kernel) rfl) ggX4_swap_X2_exchange
theorem ggX4_swap_X2_valueOn : GoodIn wsX4_swap wsX2_valueOn := tgCall 89 e_X2_valueOn (by decide +kernel)
theorem gX4_swap_X2_valueOn : GoodIn wsX4_swap (wsV RX4 114 RX2 yX2_valueOn wsX2_valueOn) := goodIn_app (tgIn [505, 87, 88, 9] (by decide +kernel) rfl) ggX4_swap_X2_valueOn
theorem dkX4_swap_0 : ([(0, (.aload_n 0, 1)), (1, (.iload_n 1, 1)), (2, (.invokevirtual 55, 3)), (5, (.astore 4, 2)), (7, (.aload 4, 2)), (9, (.iload_n 2, 1)), (10, (.invokestatic 88, 3)), (13, (.aload 4, 2)), (15, (.iload_n 3, 1)), (16, (.invokestatic 88, 3)), (19, (.aload 4, 2)), (21, (.iload_n 2, 1)), (22, (.iload_n 3, 1)), (23, (.invokevirtual 121, 3)), (26, (.aload 4, 2)), (28, (.iload_n 2, 1)), (29, (.invokevirtual 114, 3)), (32, (.aload 4, 2)), (34, (.iload_n 3, 1)), (35, (.invokevirtual 114, 3)), (38, (.if_icmp .eq 7, 3)), (41, (.iconst 1, 1)), (42, (.goto 4, 3)), (45, (.iconst 0, 1)), (46, (.ireturn, 1))] : List (Nat × (Jvm.ClassFile.Instr × Nat))).all (dcB cX4_swap) = true := by decide +kernel
theorem dX4_swap_0 : decode cX4_swap 0 = .ok (.aload_n 0, 1) := dget dkX4_swap_0 0 rfl
theorem dX4_swap_1 : decode cX4_swap 1 = .ok (.iload_n 1, 1) := dget dkX4_swap_0 1 rfl
theorem dX4_swap_2 : decode cX4_swap 2 = .ok (.invokevirtual 55, 3) := dget dkX4_swap_0 2 rfl
theorem dX4_swap_5 : decode cX4_swap 5 = .ok (.astore 4, 2) := dget dkX4_swap_0 3 rfl
theorem dX4_swap_7 : decode cX4_swap 7 = .ok (.aload 4, 2) := dget dkX4_swap_0 4 rfl
theorem dX4_swap_9 : decode cX4_swap 9 = .ok (.iload_n 2, 1) := dget dkX4_swap_0 5 rfl
theorem dX4_swap_10 : decode cX4_swap 10 = .ok (.invokestatic 88, 3) := dget dkX4_swap_0 6 rfl
theorem dX4_swap_13 : decode cX4_swap 13 = .ok (.aload 4, 2) := dget dkX4_swap_0 7 rfl
theorem dX4_swap_15 : decode cX4_swap 15 = .ok (.iload_n 3, 1) := dget dkX4_swap_0 8 rfl
theorem dX4_swap_16 : decode cX4_swap 16 = .ok (.invokestatic 88, 3) := dget dkX4_swap_0 9 rfl
theorem dX4_swap_19 : decode cX4_swap 19 = .ok (.aload 4, 2) := dget dkX4_swap_0 10 rfl
theorem dX4_swap_21 : decode cX4_swap 21 = .ok (.iload_n 2, 1) := dget dkX4_swap_0 11 rfl
theorem dX4_swap_22 : decode cX4_swap 22 = .ok (.iload_n 3, 1) := dget dkX4_swap_0 12 rfl
theorem dX4_swap_23 : decode cX4_swap 23 = .ok (.invokevirtual 121, 3) := dget dkX4_swap_0 13 rfl
theorem dX4_swap_26 : decode cX4_swap 26 = .ok (.aload 4, 2) := dget dkX4_swap_0 14 rfl
theorem dX4_swap_28 : decode cX4_swap 28 = .ok (.iload_n 2, 1) := dget dkX4_swap_0 15 rfl
theorem dX4_swap_29 : decode cX4_swap 29 = .ok (.invokevirtual 114, 3) := dget dkX4_swap_0 16 rfl
theorem dX4_swap_32 : decode cX4_swap 32 = .ok (.aload 4, 2) := dget dkX4_swap_0 17 rfl
theorem dX4_swap_34 : decode cX4_swap 34 = .ok (.iload_n 3, 1) := dget dkX4_swap_0 18 rfl
theorem dX4_swap_35 : decode cX4_swap 35 = .ok (.invokevirtual 114, 3) := dget dkX4_swap_0 19 rfl
theorem dX4_swap_38 : decode cX4_swap 38 = .ok (.if_icmp .eq 7, 3) := dget dkX4_swap_0 20 rfl
theorem dX4_swap_41 : decode cX4_swap 41 = .ok (.iconst 1, 1) := dget dkX4_swap_0 21 rfl
theorem dX4_swap_42 : decode cX4_swap 42 = .ok (.goto 4, 3) := dget dkX4_swap_0 22 rfl
theorem dX4_swap_45 : decode cX4_swap 45 = .ok (.iconst 0, 1) := dget dkX4_swap_0 23 rfl
theorem dX4_swap_46 : decode cX4_swap 46 = .ok (.ireturn, 1) := dget dkX4_swap_0 24 rfl
theorem ggX4_sort_X4_rowAt : GoodIn wsX4_sort wsX4_rowAt := tgCall 476 e_X4_rowAt (by decide +kernel)
theorem gX4_sort_X4_rowAt : GoodIn wsX4_sort (wsV RX4 55 RX4 yX4_rowAt wsX4_rowAt) := goodIn_app (tgIn [473, 474, 475, 421] (by decide +kernel) rfl) ggX4_sort_X4_rowAt
theorem ggX4_sort_X4_orderAt : GoodIn wsX4_sort wsX4_orderAt := tgCall 511 e_X4_orderAt (by decide +kernel)
theorem gX4_sort_X4_orderAt : GoodIn wsX4_sort (wsV RX4 124 RX4 yX4_orderAt wsX4_orderAt) := goodIn_app (tgIn [508, 509, 510, 421] (by decide +kernel) rfl) ggX4_sort_X4_orderAt
theorem ggX4_sort_X4_demandWithin : GoodIn wsX4_sort wsX4_demandWithin := tgCall 484 e_X4_demandWithin (by decide +kernel)
theorem gX4_sort_X4_demandWithin : GoodIn wsX4_sort (va_wsS RX4 75 yX4_demandWithin wsX4_demandWithin) := goodIn_app (tgIn [482, 483, 421] (by decide +kernel) rfl) ggX4_sort_X4_demandWithin
theorem ggX4_sort_X2_becomeCopyOf : GoodIn wsX4_sort wsX2_becomeCopyOf := tgCall 168 e_X2_becomeCopyOf (by decide +kernel)
theorem gX4_sort_X2_becomeCopyOf : GoodIn wsX4_sort (wsV RX4 101 RX2 yX2_becomeCopyOf wsX2_becomeCopyOf) := goodIn_app (tgIn [500, 166, 167, 9] (by decide +kernel) rfl) ggX4_sort_X2_becomeCopyOf
theorem ggX4_sort_X3_arrangeAll : GoodIn wsX4_sort wsX3_arrangeAll := tgCall 188 e_X3_arrangeAll (by decide +kernel)
theorem gX4_sort_X3_arrangeAll : GoodIn wsX4_sort (wsV RX4 128 RX3 yX3_arrangeAll wsX3_arrangeAll) := goodIn_app (tgIn [512, 186, 187, 5] (by decide +kernel) rfl) ggX4_sort_X3_arrangeAll
theorem ggX4_sort_X2_placesUnlike : GoodIn wsX4_sort wsX2_placesUnlike := tgCall 516 e_X2_placesUnlike (by decide +kernel)
theorem gX4_sort_X2_placesUnlike : GoodIn wsX4_sort (wsV RX4 132 RX2 yX2_placesUnlike wsX2_placesUnlike) := goodIn_app (tgIn [513, 514, 515, 9] (by decide +kernel) rfl) ggX4_sort_X2_placesUnlike
theorem dkX4_sort_0 : ([(0, (.aload_n 0, 1)), (1, (.iload_n 1, 1)), (2, (.invokevirtual 55, 3)), (5, (.astore 4, 2)), (7, (.aload_n 0, 1)), (8, (.iload_n 2, 1)), (9, (.invokevirtual 124, 3)), (12, (.astore 5, 2)), (14, (.iload_n 3, 1)), (15, (.iconst 2, 1)), (16, (.invokestatic 75, 3)), (19, (.aload_n 0, 1)), (20, (.getfield 36, 3)), (23, (.aload 4, 2)), (25, (.invokevirtual 101, 3)), (28, (.aload_n 0, 1)), (29, (.getfield 24, 3)), (32, (.aload 4, 2)), (34, (.aload 5, 2)), (36, (.iload_n 3, 1)), (37, (.invokevirtual 128, 3)), (40, (.aload 4, 2)), (42, (.aload_n 0, 1)), (43, (.getfield 36, 3)), (46, (.invokevirtual 132, 3)), (49, (.ireturn, 1))] : List (Nat × (Jvm.ClassFile.Instr × Nat))).all (dcB cX4_sort) = true := by decide +kernel
theorem dX4_sort_0 : decode cX4_sort 0 = .ok (.aload_n 0, 1) := dget dkX4_sort_0 0 rfl
theorem dX4_sort_1 : decode cX4_sort 1 = .ok (.iload_n 1, 1) := dget dkX4_sort_0 1 rfl
theorem dX4_sort_2 : decode cX4_sort 2 = .ok (.invokevirtual 55, 3) := dget dkX4_sort_0 2 rfl
theorem dX4_sort_5 : decode cX4_sort 5 = .ok (.astore 4, 2) := dget dkX4_sort_0 3 rfl
theorem dX4_sort_7 : decode cX4_sort 7 = .ok (.aload_n 0, 1) := dget dkX4_sort_0 4 rfl
theorem dX4_sort_8 : decode cX4_sort 8 = .ok (.iload_n 2, 1) := dget dkX4_sort_0 5 rfl
theorem dX4_sort_9 : decode cX4_sort 9 = .ok (.invokevirtual 124, 3) := dget dkX4_sort_0 6 rfl
theorem dX4_sort_12 : decode cX4_sort 12 = .ok (.astore 5, 2) := dget dkX4_sort_0 7 rfl
theorem dX4_sort_14 : decode cX4_sort 14 = .ok (.iload_n 3, 1) := dget dkX4_sort_0 8 rfl
theorem dX4_sort_15 : decode cX4_sort 15 = .ok (.iconst 2, 1) := dget dkX4_sort_0 9 rfl
theorem dX4_sort_16 : decode cX4_sort 16 = .ok (.invokestatic 75, 3) := dget dkX4_sort_0 10 rfl
theorem dX4_sort_19 : decode cX4_sort 19 = .ok (.aload_n 0, 1) := dget dkX4_sort_0 11 rfl
theorem dX4_sort_20 : decode cX4_sort 20 = .ok (.getfield 36, 3) := dget dkX4_sort_0 12 rfl
theorem dX4_sort_23 : decode cX4_sort 23 = .ok (.aload 4, 2) := dget dkX4_sort_0 13 rfl
theorem dX4_sort_25 : decode cX4_sort 25 = .ok (.invokevirtual 101, 3) := dget dkX4_sort_0 14 rfl
theorem dX4_sort_28 : decode cX4_sort 28 = .ok (.aload_n 0, 1) := dget dkX4_sort_0 15 rfl
theorem dX4_sort_29 : decode cX4_sort 29 = .ok (.getfield 24, 3) := dget dkX4_sort_0 16 rfl
theorem dX4_sort_32 : decode cX4_sort 32 = .ok (.aload 4, 2) := dget dkX4_sort_0 17 rfl
theorem dX4_sort_34 : decode cX4_sort 34 = .ok (.aload 5, 2) := dget dkX4_sort_0 18 rfl
theorem dX4_sort_36 : decode cX4_sort 36 = .ok (.iload_n 3, 1) := dget dkX4_sort_0 19 rfl
theorem dX4_sort_37 : decode cX4_sort 37 = .ok (.invokevirtual 128, 3) := dget dkX4_sort_0 20 rfl
theorem dX4_sort_40 : decode cX4_sort 40 = .ok (.aload 4, 2) := dget dkX4_sort_0 21 rfl
theorem dX4_sort_42 : decode cX4_sort 42 = .ok (.aload_n 0, 1) := dget dkX4_sort_0 22 rfl
theorem dX4_sort_43 : decode cX4_sort 43 = .ok (.getfield 36, 3) := dget dkX4_sort_0 23 rfl
theorem dX4_sort_46 : decode cX4_sort 46 = .ok (.invokevirtual 132, 3) := dget dkX4_sort_0 24 rfl
theorem dX4_sort_49 : decode cX4_sort 49 = .ok (.ireturn, 1) := dget dkX4_sort_0 25 rfl
theorem ggX4_sortPart_X4_rowAt : GoodIn wsX4_sortPart wsX4_rowAt := tgCall 476 e_X4_rowAt (by decide +kernel)
theorem gX4_sortPart_X4_rowAt : GoodIn wsX4_sortPart (wsV RX4 55 RX4 yX4_rowAt wsX4_rowAt) := goodIn_app (tgIn [473, 474, 475, 421] (by decide +kernel) rfl) ggX4_sortPart_X4_rowAt
theorem ggX4_sortPart_X4_orderAt : GoodIn wsX4_sortPart wsX4_orderAt := tgCall 511 e_X4_orderAt (by decide +kernel)
theorem gX4_sortPart_X4_orderAt : GoodIn wsX4_sortPart (wsV RX4 124 RX4 yX4_orderAt wsX4_orderAt) := goodIn_app (tgIn [508, 509, 510, 421] (by decide +kernel) rfl) ggX4_sortPart_X4_orderAt
theorem ggX4_sortPart_X4_demandGap : GoodIn wsX4_sortPart wsX4_demandGap := tgCall 493 e_X4_demandGap (by decide +kernel)
theorem gX4_sortPart_X4_demandGap : GoodIn wsX4_sortPart (va_wsS RX4 71 yX4_demandGap wsX4_demandGap) := goodIn_app (tgIn [491, 492, 421] (by decide +kernel) rfl) ggX4_sortPart_X4_demandGap
theorem ggX4_sortPart_X2_becomeCopyOf : GoodIn wsX4_sortPart wsX2_becomeCopyOf := tgCall 168 e_X2_becomeCopyOf (by decide +kernel)
theorem gX4_sortPart_X2_becomeCopyOf : GoodIn wsX4_sortPart (wsV RX4 101 RX2 yX2_becomeCopyOf wsX2_becomeCopyOf) := goodIn_app (tgIn [500, 166, 167, 9] (by decide +kernel) rfl) ggX4_sortPart_X2_becomeCopyOf
theorem ggX4_sortPart_X3_insertEach : GoodIn wsX4_sortPart wsX3_insertEach := tgCall 122 e_X3_insertEach (by decide +kernel)
theorem gX4_sortPart_X3_insertEach : GoodIn wsX4_sortPart (wsV RX4 143 RX3 yX3_insertEach wsX3_insertEach) := goodIn_app (tgIn [517, 120, 121, 5] (by decide +kernel) rfl) ggX4_sortPart_X3_insertEach
theorem ggX4_sortPart_X2_placesUnlike : GoodIn wsX4_sortPart wsX2_placesUnlike := tgCall 516 e_X2_placesUnlike (by decide +kernel)
theorem gX4_sortPart_X2_placesUnlike : GoodIn wsX4_sortPart (wsV RX4 132 RX2 yX2_placesUnlike wsX2_placesUnlike) := goodIn_app (tgIn [513, 514, 515, 9] (by decide +kernel) rfl) ggX4_sortPart_X2_placesUnlike
theorem dkX4_sortPart_0 : ([(0, (.aload_n 0, 1)), (1, (.iload_n 1, 1)), (2, (.invokevirtual 55, 3)), (5, (.astore 5, 2)), (7, (.aload_n 0, 1)), (8, (.iload_n 2, 1)), (9, (.invokevirtual 124, 3)), (12, (.astore 6, 2)), (14, (.aload 5, 2)), (16, (.iload_n 3, 1)), (17, (.invokestatic 71, 3)), (20, (.aload 5, 2)), (22, (.iload 4, 2)), (24, (.invokestatic 71, 3)), (27, (.iload_n 3, 1)), (28, (.iload 4, 2)), (30, (.if_icmp .le 13, 3)), (33, (.new 136, 3)), (36, (.dup, 1)), (37, (.ldc 138, 2)), (39, (.invokespecial 140, 3)), (42, (.athrow, 1)), (43, (.aload_n 0, 1)), (44, (.getfield 36, 3)), (47, (.aload 5, 2)), (49, (.invokevirtual 101, 3)), (52, (.aload_n 0, 1)), (53, (.getfield 24, 3)), (56, (.aload 5, 2)), (58, (.aload 6, 2)), (60, (.iload_n 3, 1)), (61, (.iload 4, 2)), (63, (.invokevirtual 143, 3)), (66, (.aload 5, 2)), (68, (.aload_n 0, 1)), (69, (.getfield 36, 3)), (72, (.invokevirtual 132, 3)), (75, (.ireturn, 1))] : List (Nat × (Jvm.ClassFile.Instr × Nat))).all (dcB cX4_sortPart) = true := by decide +kernel
theorem dX4_sortPart_0 : decode cX4_sortPart 0 = .ok (.aload_n 0, 1) := dget dkX4_sortPart_0 0 rfl
theorem dX4_sortPart_1 : decode cX4_sortPart 1 = .ok (.iload_n 1, 1) := dget dkX4_sortPart_0 1 rfl
theorem dX4_sortPart_2 : decode cX4_sortPart 2 = .ok (.invokevirtual 55, 3) := dget dkX4_sortPart_0 2 rfl
theorem dX4_sortPart_5 : decode cX4_sortPart 5 = .ok (.astore 5, 2) := dget dkX4_sortPart_0 3 rfl
theorem dX4_sortPart_7 : decode cX4_sortPart 7 = .ok (.aload_n 0, 1) := dget dkX4_sortPart_0 4 rfl
theorem dX4_sortPart_8 : decode cX4_sortPart 8 = .ok (.iload_n 2, 1) := dget dkX4_sortPart_0 5 rfl
theorem dX4_sortPart_9 : decode cX4_sortPart 9 = .ok (.invokevirtual 124, 3) := dget dkX4_sortPart_0 6 rfl
theorem dX4_sortPart_12 : decode cX4_sortPart 12 = .ok (.astore 6, 2) := dget dkX4_sortPart_0 7 rfl
theorem dX4_sortPart_14 : decode cX4_sortPart 14 = .ok (.aload 5, 2) := dget dkX4_sortPart_0 8 rfl
theorem dX4_sortPart_16 : decode cX4_sortPart 16 = .ok (.iload_n 3, 1) := dget dkX4_sortPart_0 9 rfl
theorem dX4_sortPart_17 : decode cX4_sortPart 17 = .ok (.invokestatic 71, 3) := dget dkX4_sortPart_0 10 rfl
theorem dX4_sortPart_20 : decode cX4_sortPart 20 = .ok (.aload 5, 2) := dget dkX4_sortPart_0 11 rfl
theorem dX4_sortPart_22 : decode cX4_sortPart 22 = .ok (.iload 4, 2) := dget dkX4_sortPart_0 12 rfl
theorem dX4_sortPart_24 : decode cX4_sortPart 24 = .ok (.invokestatic 71, 3) := dget dkX4_sortPart_0 13 rfl
theorem dX4_sortPart_27 : decode cX4_sortPart 27 = .ok (.iload_n 3, 1) := dget dkX4_sortPart_0 14 rfl
theorem dX4_sortPart_28 : decode cX4_sortPart 28 = .ok (.iload 4, 2) := dget dkX4_sortPart_0 15 rfl
theorem dX4_sortPart_30 : decode cX4_sortPart 30 = .ok (.if_icmp .le 13, 3) := dget dkX4_sortPart_0 16 rfl
theorem dX4_sortPart_33 : decode cX4_sortPart 33 = .ok (.new 136, 3) := dget dkX4_sortPart_0 17 rfl
theorem dX4_sortPart_36 : decode cX4_sortPart 36 = .ok (.dup, 1) := dget dkX4_sortPart_0 18 rfl
theorem dX4_sortPart_37 : decode cX4_sortPart 37 = .ok (.ldc 138, 2) := dget dkX4_sortPart_0 19 rfl
theorem dX4_sortPart_39 : decode cX4_sortPart 39 = .ok (.invokespecial 140, 3) := dget dkX4_sortPart_0 20 rfl
theorem dX4_sortPart_42 : decode cX4_sortPart 42 = .ok (.athrow, 1) := dget dkX4_sortPart_0 21 rfl
theorem dX4_sortPart_43 : decode cX4_sortPart 43 = .ok (.aload_n 0, 1) := dget dkX4_sortPart_0 22 rfl
theorem dX4_sortPart_44 : decode cX4_sortPart 44 = .ok (.getfield 36, 3) := dget dkX4_sortPart_0 23 rfl
theorem dX4_sortPart_47 : decode cX4_sortPart 47 = .ok (.aload 5, 2) := dget dkX4_sortPart_0 24 rfl
theorem dX4_sortPart_49 : decode cX4_sortPart 49 = .ok (.invokevirtual 101, 3) := dget dkX4_sortPart_0 25 rfl
theorem dX4_sortPart_52 : decode cX4_sortPart 52 = .ok (.aload_n 0, 1) := dget dkX4_sortPart_0 26 rfl
theorem dX4_sortPart_53 : decode cX4_sortPart 53 = .ok (.getfield 24, 3) := dget dkX4_sortPart_0 27 rfl
theorem dX4_sortPart_56 : decode cX4_sortPart 56 = .ok (.aload 5, 2) := dget dkX4_sortPart_0 28 rfl
theorem dX4_sortPart_58 : decode cX4_sortPart 58 = .ok (.aload 6, 2) := dget dkX4_sortPart_0 29 rfl
theorem dX4_sortPart_60 : decode cX4_sortPart 60 = .ok (.iload_n 3, 1) := dget dkX4_sortPart_0 30 rfl
theorem dX4_sortPart_61 : decode cX4_sortPart 61 = .ok (.iload 4, 2) := dget dkX4_sortPart_0 31 rfl
theorem dX4_sortPart_63 : decode cX4_sortPart 63 = .ok (.invokevirtual 143, 3) := dget dkX4_sortPart_0 32 rfl
theorem dX4_sortPart_66 : decode cX4_sortPart 66 = .ok (.aload 5, 2) := dget dkX4_sortPart_0 33 rfl
theorem dX4_sortPart_68 : decode cX4_sortPart 68 = .ok (.aload_n 0, 1) := dget dkX4_sortPart_0 34 rfl
theorem dX4_sortPart_69 : decode cX4_sortPart 69 = .ok (.getfield 36, 3) := dget dkX4_sortPart_0 35 rfl
theorem dX4_sortPart_72 : decode cX4_sortPart 72 = .ok (.invokevirtual 132, 3) := dget dkX4_sortPart_0 36 rfl
theorem dX4_sortPart_75 : decode cX4_sortPart 75 = .ok (.ireturn, 1) := dget dkX4_sortPart_0 37 rfl
theorem ggX4_isSorted_X4_rowAt : GoodIn wsX4_isSorted wsX4_rowAt := tgCall 476 e_X4_rowAt (by decide +kernel)
theorem gX4_isSorted_X4_rowAt : GoodIn wsX4_isSorted (wsV RX4 55 RX4 yX4_rowAt wsX4_rowAt) := goodIn_app (tgIn [473, 474, 475, 421] (by decide +kernel) rfl) ggX4_isSorted_X4_rowAt
theorem ggX4_isSorted_X4_orderAt : GoodIn wsX4_isSorted wsX4_orderAt := tgCall 511 e_X4_orderAt (by decide +kernel)
theorem gX4_isSorted_X4_orderAt : GoodIn wsX4_isSorted (wsV RX4 124 RX4 yX4_orderAt wsX4_orderAt) := goodIn_app (tgIn [508, 509, 510, 421] (by decide +kernel) rfl) ggX4_isSorted_X4_orderAt
theorem ggX4_isSorted_X2_isInSequenceBy : GoodIn wsX4_isSorted wsX2_isInSequenceBy := tgCall 126 e_X2_isInSequenceBy (by decide +kernel)
theorem gX4_isSorted_X2_isInSequenceBy : GoodIn wsX4_isSorted (wsV RX4 147 RX2 yX2_isInSequenceBy wsX2_isInSequenceBy) := goodIn_app (tgIn [518, 124, 125, 9] (by decide +kernel) rfl) ggX4_isSorted_X2_isInSequenceBy
theorem dkX4_isSorted_0 : ([(0, (.aload_n 0, 1)), (1, (.iload_n 1, 1)), (2, (.invokevirtual 55, 3)), (5, (.astore_n 3, 1)), (6, (.aload_n 3, 1)), (7, (.aload_n 0, 1)), (8, (.iload_n 2, 1)), (9, (.invokevirtual 124, 3)), (12, (.invokevirtual 147, 3)), (15, (.ireturn, 1))] : List (Nat × (Jvm.ClassFile.Instr × Nat))).all (dcB cX4_isSorted) = true := by decide +kernel
theorem dX4_isSorted_0 : decode cX4_isSorted 0 = .ok (.aload_n 0, 1) := dget dkX4_isSorted_0 0 rfl
theorem dX4_isSorted_1 : decode cX4_isSorted 1 = .ok (.iload_n 1, 1) := dget dkX4_isSorted_0 1 rfl
theorem dX4_isSorted_2 : decode cX4_isSorted 2 = .ok (.invokevirtual 55, 3) := dget dkX4_isSorted_0 2 rfl
theorem dX4_isSorted_5 : decode cX4_isSorted 5 = .ok (.astore_n 3, 1) := dget dkX4_isSorted_0 3 rfl
theorem dX4_isSorted_6 : decode cX4_isSorted 6 = .ok (.aload_n 3, 1) := dget dkX4_isSorted_0 4 rfl
theorem dX4_isSorted_7 : decode cX4_isSorted 7 = .ok (.aload_n 0, 1) := dget dkX4_isSorted_0 5 rfl
theorem dX4_isSorted_8 : decode cX4_isSorted 8 = .ok (.iload_n 2, 1) := dget dkX4_isSorted_0 6 rfl
theorem dX4_isSorted_9 : decode cX4_isSorted 9 = .ok (.invokevirtual 124, 3) := dget dkX4_isSorted_0 7 rfl
theorem dX4_isSorted_12 : decode cX4_isSorted 12 = .ok (.invokevirtual 147, 3) := dget dkX4_isSorted_0 8 rfl
theorem dX4_isSorted_15 : decode cX4_isSorted 15 = .ok (.ireturn, 1) := dget dkX4_isSorted_0 9 rfl
theorem ggX4_size_X4_rowAt : GoodIn wsX4_size wsX4_rowAt := tgCall 476 e_X4_rowAt (by decide +kernel)
theorem gX4_size_X4_rowAt : GoodIn wsX4_size (wsV RX4 55 RX4 yX4_rowAt wsX4_rowAt) := goodIn_app (tgIn [473, 474, 475, 421] (by decide +kernel) rfl) ggX4_size_X4_rowAt
theorem ggX4_size_X2_length : GoodIn wsX4_size wsX2_length := tgCall 118 e_X2_length (by decide +kernel)
theorem gX4_size_X2_length : GoodIn wsX4_size (wsV RX4 63 RX2 yX2_length wsX2_length) := goodIn_app (tgIn [460, 116, 117, 9] (by decide +kernel) rfl) ggX4_size_X2_length
theorem dkX4_size_0 : ([(0, (.aload_n 0, 1)), (1, (.iload_n 1, 1)), (2, (.invokevirtual 55, 3)), (5, (.invokevirtual 63, 3)), (8, (.ireturn, 1))] : List (Nat × (Jvm.ClassFile.Instr × Nat))).all (dcB cX4_size) = true := by decide +kernel
theorem dX4_size_0 : decode cX4_size 0 = .ok (.aload_n 0, 1) := dget dkX4_size_0 0 rfl
theorem dX4_size_1 : decode cX4_size 1 = .ok (.iload_n 1, 1) := dget dkX4_size_0 1 rfl
theorem dX4_size_2 : decode cX4_size 2 = .ok (.invokevirtual 55, 3) := dget dkX4_size_0 2 rfl
theorem dX4_size_5 : decode cX4_size 5 = .ok (.invokevirtual 63, 3) := dget dkX4_size_0 3 rfl
theorem dX4_size_8 : decode cX4_size 8 = .ok (.ireturn, 1) := dget dkX4_size_0 4 rfl
theorem ggX4_valueAt_X4_rowAt : GoodIn wsX4_valueAt wsX4_rowAt := tgCall 476 e_X4_rowAt (by decide +kernel)
theorem gX4_valueAt_X4_rowAt : GoodIn wsX4_valueAt (wsV RX4 55 RX4 yX4_rowAt wsX4_rowAt) := goodIn_app (tgIn [473, 474, 475, 421] (by decide +kernel) rfl) ggX4_valueAt_X4_rowAt
theorem ggX4_valueAt_X4_demandPlace : GoodIn wsX4_valueAt wsX4_demandPlace := tgCall 497 e_X4_demandPlace (by decide +kernel)
theorem gX4_valueAt_X4_demandPlace : GoodIn wsX4_valueAt (va_wsS RX4 88 yX4_demandPlace wsX4_demandPlace) := goodIn_app (tgIn [495, 496, 421] (by decide +kernel) rfl) ggX4_valueAt_X4_demandPlace
theorem ggX4_valueAt_X2_valueOn : GoodIn wsX4_valueAt wsX2_valueOn := tgCall 89 e_X2_valueOn (by decide +kernel)
theorem gX4_valueAt_X2_valueOn : GoodIn wsX4_valueAt (wsV RX4 114 RX2 yX2_valueOn wsX2_valueOn) := goodIn_app (tgIn [505, 87, 88, 9] (by decide +kernel) rfl) ggX4_valueAt_X2_valueOn
theorem dkX4_valueAt_0 : ([(0, (.aload_n 0, 1)), (1, (.iload_n 1, 1)), (2, (.invokevirtual 55, 3)), (5, (.astore_n 3, 1)), (6, (.aload_n 3, 1)), (7, (.iload_n 2, 1)), (8, (.invokestatic 88, 3)), (11, (.aload_n 3, 1)), (12, (.iload_n 2, 1)), (13, (.invokevirtual 114, 3)), (16, (.ireturn, 1))] : List (Nat × (Jvm.ClassFile.Instr × Nat))).all (dcB cX4_valueAt) = true := by decide +kernel
theorem dX4_valueAt_0 : decode cX4_valueAt 0 = .ok (.aload_n 0, 1) := dget dkX4_valueAt_0 0 rfl
theorem dX4_valueAt_1 : decode cX4_valueAt 1 = .ok (.iload_n 1, 1) := dget dkX4_valueAt_0 1 rfl
theorem dX4_valueAt_2 : decode cX4_valueAt 2 = .ok (.invokevirtual 55, 3) := dget dkX4_valueAt_0 2 rfl
theorem dX4_valueAt_5 : decode cX4_valueAt 5 = .ok (.astore_n 3, 1) := dget dkX4_valueAt_0 3 rfl
theorem dX4_valueAt_6 : decode cX4_valueAt 6 = .ok (.aload_n 3, 1) := dget dkX4_valueAt_0 4 rfl
theorem dX4_valueAt_7 : decode cX4_valueAt 7 = .ok (.iload_n 2, 1) := dget dkX4_valueAt_0 5 rfl
theorem dX4_valueAt_8 : decode cX4_valueAt 8 = .ok (.invokestatic 88, 3) := dget dkX4_valueAt_0 6 rfl
theorem dX4_valueAt_11 : decode cX4_valueAt 11 = .ok (.aload_n 3, 1) := dget dkX4_valueAt_0 7 rfl
theorem dX4_valueAt_12 : decode cX4_valueAt 12 = .ok (.iload_n 2, 1) := dget dkX4_valueAt_0 8 rfl
theorem dX4_valueAt_13 : decode cX4_valueAt 13 = .ok (.invokevirtual 114, 3) := dget dkX4_valueAt_0 9 rfl
theorem dX4_valueAt_16 : decode cX4_valueAt 16 = .ok (.ireturn, 1) := dget dkX4_valueAt_0 10 rfl
theorem ggX4_markAt_X4_rowAt : GoodIn wsX4_markAt wsX4_rowAt := tgCall 476 e_X4_rowAt (by decide +kernel)
theorem gX4_markAt_X4_rowAt : GoodIn wsX4_markAt (wsV RX4 55 RX4 yX4_rowAt wsX4_rowAt) := goodIn_app (tgIn [473, 474, 475, 421] (by decide +kernel) rfl) ggX4_markAt_X4_rowAt
theorem ggX4_markAt_X4_demandPlace : GoodIn wsX4_markAt wsX4_demandPlace := tgCall 497 e_X4_demandPlace (by decide +kernel)
theorem gX4_markAt_X4_demandPlace : GoodIn wsX4_markAt (va_wsS RX4 88 yX4_demandPlace wsX4_demandPlace) := goodIn_app (tgIn [495, 496, 421] (by decide +kernel) rfl) ggX4_markAt_X4_demandPlace
theorem ggX4_markAt_X2_markOn : GoodIn wsX4_markAt wsX2_markOn := tgCall 102 e_X2_markOn (by decide +kernel)
theorem gX4_markAt_X2_markOn : GoodIn wsX4_markAt (wsV RX4 91 RX2 yX2_markOn wsX2_markOn) := goodIn_app (tgIn [498, 100, 101, 9] (by decide +kernel) rfl) ggX4_markAt_X2_markOn
theorem dkX4_markAt_0 : ([(0, (.aload_n 0, 1)), (1, (.iload_n 1, 1)), (2, (.invokevirtual 55, 3)), (5, (.astore_n 3, 1)), (6, (.aload_n 3, 1)), (7, (.iload_n 2, 1)), (8, (.invokestatic 88, 3)), (11, (.aload_n 3, 1)), (12, (.iload_n 2, 1)), (13, (.invokevirtual 91, 3)), (16, (.ireturn, 1))] : List (Nat × (Jvm.ClassFile.Instr × Nat))).all (dcB cX4_markAt) = true := by decide +kernel
theorem dX4_markAt_0 : decode cX4_markAt 0 = .ok (.aload_n 0, 1) := dget dkX4_markAt_0 0 rfl
theorem dX4_markAt_1 : decode cX4_markAt 1 = .ok (.iload_n 1, 1) := dget dkX4_markAt_0 1 rfl
theorem dX4_markAt_2 : decode cX4_markAt 2 = .ok (.invokevirtual 55, 3) := dget dkX4_markAt_0 2 rfl
theorem dX4_markAt_5 : decode cX4_markAt 5 = .ok (.astore_n 3, 1) := dget dkX4_markAt_0 3 rfl
theorem dX4_markAt_6 : decode cX4_markAt 6 = .ok (.aload_n 3, 1) := dget dkX4_markAt_0 4 rfl
theorem dX4_markAt_7 : decode cX4_markAt 7 = .ok (.iload_n 2, 1) := dget dkX4_markAt_0 5 rfl
theorem dX4_markAt_8 : decode cX4_markAt 8 = .ok (.invokestatic 88, 3) := dget dkX4_markAt_0 6 rfl
theorem dX4_markAt_11 : decode cX4_markAt 11 = .ok (.aload_n 3, 1) := dget dkX4_markAt_0 7 rfl
theorem dX4_markAt_12 : decode cX4_markAt 12 = .ok (.iload_n 2, 1) := dget dkX4_markAt_0 8 rfl
theorem dX4_markAt_13 : decode cX4_markAt 13 = .ok (.invokevirtual 91, 3) := dget dkX4_markAt_0 9 rfl
theorem dX4_markAt_16 : decode cX4_markAt 16 = .ok (.ireturn, 1) := dget dkX4_markAt_0 10 rfl
theorem ggX4_text_X4_rowAt : GoodIn wsX4_text wsX4_rowAt := tgCall 476 e_X4_rowAt (by decide +kernel)
theorem gX4_text_X4_rowAt : GoodIn wsX4_text (wsV RX4 55 RX4 yX4_rowAt wsX4_rowAt) := goodIn_app (tgIn [473, 474, 475, 421] (by decide +kernel) rfl) ggX4_text_X4_rowAt
theorem ggX4_text_X2_told : GoodIn wsX4_text wsX2_told := tgCall 522 e_X2_told (by decide +kernel)
theorem gX4_text_X2_told : GoodIn wsX4_text (wsV RX4 151 RX2 yX2_told wsX2_told) := goodIn_app (tgIn [519, 520, 521, 9] (by decide +kernel) rfl) ggX4_text_X2_told
theorem dkX4_text_0 : ([(0, (.aload_n 0, 1)), (1, (.iload_n 1, 1)), (2, (.invokevirtual 55, 3)), (5, (.invokevirtual 151, 3)), (8, (.areturn, 1))] : List (Nat × (Jvm.ClassFile.Instr × Nat))).all (dcB cX4_text) = true := by decide +kernel
theorem dX4_text_0 : decode cX4_text 0 = .ok (.aload_n 0, 1) := dget dkX4_text_0 0 rfl
theorem dX4_text_1 : decode cX4_text 1 = .ok (.iload_n 1, 1) := dget dkX4_text_0 1 rfl
theorem dX4_text_2 : decode cX4_text 2 = .ok (.invokevirtual 55, 3) := dget dkX4_text_0 2 rfl
theorem dX4_text_5 : decode cX4_text 5 = .ok (.invokevirtual 151, 3) := dget dkX4_text_0 3 rfl
theorem dX4_text_8 : decode cX4_text 8 = .ok (.areturn, 1) := dget dkX4_text_0 4 rfl
theorem ggX4_extreme_X4_rowAt : GoodIn wsX4_extreme wsX4_rowAt := tgCall 476 e_X4_rowAt (by decide +kernel)
theorem gX4_extreme_X4_rowAt : GoodIn wsX4_extreme (wsV RX4 55 RX4 yX4_rowAt wsX4_rowAt) := goodIn_app (tgIn [473, 474, 475, 421] (by decide +kernel) rfl) ggX4_extreme_X4_rowAt
theorem ggX4_extreme_X4_orderAt : GoodIn wsX4_extreme wsX4_orderAt := tgCall 511 e_X4_orderAt (by decide +kernel)
theorem gX4_extreme_X4_orderAt : GoodIn wsX4_extreme (wsV RX4 124 RX4 yX4_orderAt wsX4_orderAt) := goodIn_app (tgIn [508, 509, 510, 421] (by decide +kernel) rfl) ggX4_extreme_X4_orderAt
theorem ggX4_extreme_X2_lastPlaceBy : GoodIn wsX4_extreme wsX2_lastPlaceBy := tgCall 526 e_X2_lastPlaceBy (by decide +kernel)
theorem gX4_extreme_X2_lastPlaceBy : GoodIn wsX4_extreme (wsV RX4 155 RX2 yX2_lastPlaceBy wsX2_lastPlaceBy) := goodIn_app (tgIn [523, 524, 525, 9] (by decide +kernel) rfl) ggX4_extreme_X2_lastPlaceBy
theorem ggX4_extreme_X2_firstPlaceBy : GoodIn wsX4_extreme wsX2_firstPlaceBy := tgCall 209 e_X2_firstPlaceBy (by decide +kernel)
theorem gX4_extreme_X2_firstPlaceBy : GoodIn wsX4_extreme (wsV RX4 159 RX2 yX2_firstPlaceBy wsX2_firstPlaceBy) := goodIn_app (tgIn [527, 207, 208, 9] (by decide +kernel) rfl) ggX4_extreme_X2_firstPlaceBy
theorem ggX4_extreme_X2_valueOn : GoodIn wsX4_extreme wsX2_valueOn := tgCall 89 e_X2_valueOn (by decide +kernel)
theorem gX4_extreme_X2_valueOn : GoodIn wsX4_extreme (wsV RX4 114 RX2 yX2_valueOn wsX2_valueOn) := goodIn_app (tgIn [505, 87, 88, 9] (by decide +kernel) rfl) ggX4_extreme_X2_valueOn
theorem ggX4_extreme_X1_rankOf : GoodIn wsX4_extreme wsX1_rankOf := tgCall 174 e_X1_rankOf (by decide +kernel)
theorem gX4_extreme_X1_rankOf : GoodIn wsX4_extreme (wsV RX4 162 RX1 yX1_rankOf wsX1_rankOf) := goodIn_app (tgIn [528, 172, 173, 14] (by decide +kernel) rfl) ggX4_extreme_X1_rankOf
theorem dkX4_extreme_0 : ([(0, (.aload_n 0, 1)), (1, (.iload_n 1, 1)), (2, (.invokevirtual 55, 3)), (5, (.astore 4, 2)), (7, (.aload_n 0, 1)), (8, (.iload_n 2, 1)), (9, (.invokevirtual 124, 3)), (12, (.astore 5, 2)), (14, (.iload_n 3, 1)), (15, (.ifCond .eq 13, 3)), (18, (.aload 4, 2)), (20, (.aload 5, 2)), (22, (.invokevirtual 155, 3)), (25, (.goto 10, 3)), (28, (.aload 4, 2)), (30, (.aload 5, 2)), (32, (.invokevirtual 159, 3)), (35, (.istore 6, 2)), (37, (.iload 6, 2)), (39, (.iconst (-1), 1)), (40, (.if_icmp .ne 7, 3)), (43, (.iconst (-1), 1)), (44, (.goto 15, 3)), (47, (.aload 5, 2)), (49, (.aload 4, 2)), (51, (.iload 6, 2)), (53, (.invokevirtual 114, 3)), (56, (.invokevirtual 162, 3)), (59, (.ireturn, 1))] : List (Nat × (Jvm.ClassFile.Instr × Nat))).all (dcB cX4_extreme) = true := by decide +kernel
theorem dX4_extreme_0 : decode cX4_extreme 0 = .ok (.aload_n 0, 1) := dget dkX4_extreme_0 0 rfl
theorem dX4_extreme_1 : decode cX4_extreme 1 = .ok (.iload_n 1, 1) := dget dkX4_extreme_0 1 rfl
theorem dX4_extreme_2 : decode cX4_extreme 2 = .ok (.invokevirtual 55, 3) := dget dkX4_extreme_0 2 rfl
theorem dX4_extreme_5 : decode cX4_extreme 5 = .ok (.astore 4, 2) := dget dkX4_extreme_0 3 rfl
theorem dX4_extreme_7 : decode cX4_extreme 7 = .ok (.aload_n 0, 1) := dget dkX4_extreme_0 4 rfl
theorem dX4_extreme_8 : decode cX4_extreme 8 = .ok (.iload_n 2, 1) := dget dkX4_extreme_0 5 rfl
theorem dX4_extreme_9 : decode cX4_extreme 9 = .ok (.invokevirtual 124, 3) := dget dkX4_extreme_0 6 rfl
theorem dX4_extreme_12 : decode cX4_extreme 12 = .ok (.astore 5, 2) := dget dkX4_extreme_0 7 rfl
theorem dX4_extreme_14 : decode cX4_extreme 14 = .ok (.iload_n 3, 1) := dget dkX4_extreme_0 8 rfl
theorem dX4_extreme_15 : decode cX4_extreme 15 = .ok (.ifCond .eq 13, 3) := dget dkX4_extreme_0 9 rfl
theorem dX4_extreme_18 : decode cX4_extreme 18 = .ok (.aload 4, 2) := dget dkX4_extreme_0 10 rfl
theorem dX4_extreme_20 : decode cX4_extreme 20 = .ok (.aload 5, 2) := dget dkX4_extreme_0 11 rfl
theorem dX4_extreme_22 : decode cX4_extreme 22 = .ok (.invokevirtual 155, 3) := dget dkX4_extreme_0 12 rfl
theorem dX4_extreme_25 : decode cX4_extreme 25 = .ok (.goto 10, 3) := dget dkX4_extreme_0 13 rfl
theorem dX4_extreme_28 : decode cX4_extreme 28 = .ok (.aload 4, 2) := dget dkX4_extreme_0 14 rfl
theorem dX4_extreme_30 : decode cX4_extreme 30 = .ok (.aload 5, 2) := dget dkX4_extreme_0 15 rfl
theorem dX4_extreme_32 : decode cX4_extreme 32 = .ok (.invokevirtual 159, 3) := dget dkX4_extreme_0 16 rfl
theorem dX4_extreme_35 : decode cX4_extreme 35 = .ok (.istore 6, 2) := dget dkX4_extreme_0 17 rfl
theorem dX4_extreme_37 : decode cX4_extreme 37 = .ok (.iload 6, 2) := dget dkX4_extreme_0 18 rfl
theorem dX4_extreme_39 : decode cX4_extreme 39 = .ok (.iconst (-1), 1) := dget dkX4_extreme_0 19 rfl
theorem dX4_extreme_40 : decode cX4_extreme 40 = .ok (.if_icmp .ne 7, 3) := dget dkX4_extreme_0 20 rfl
theorem dX4_extreme_43 : decode cX4_extreme 43 = .ok (.iconst (-1), 1) := dget dkX4_extreme_0 21 rfl
theorem dX4_extreme_44 : decode cX4_extreme 44 = .ok (.goto 15, 3) := dget dkX4_extreme_0 22 rfl
theorem dX4_extreme_47 : decode cX4_extreme 47 = .ok (.aload 5, 2) := dget dkX4_extreme_0 23 rfl
theorem dX4_extreme_49 : decode cX4_extreme 49 = .ok (.aload 4, 2) := dget dkX4_extreme_0 24 rfl
theorem dX4_extreme_51 : decode cX4_extreme 51 = .ok (.iload 6, 2) := dget dkX4_extreme_0 25 rfl
theorem dX4_extreme_53 : decode cX4_extreme 53 = .ok (.invokevirtual 114, 3) := dget dkX4_extreme_0 26 rfl
theorem dX4_extreme_56 : decode cX4_extreme 56 = .ok (.invokevirtual 162, 3) := dget dkX4_extreme_0 27 rfl
theorem dX4_extreme_59 : decode cX4_extreme 59 = .ok (.ireturn, 1) := dget dkX4_extreme_0 28 rfl
theorem ggX4_search_X4_rowAt : GoodIn wsX4_search wsX4_rowAt := tgCall 476 e_X4_rowAt (by decide +kernel)
theorem gX4_search_X4_rowAt : GoodIn wsX4_search (wsV RX4 55 RX4 yX4_rowAt wsX4_rowAt) := goodIn_app (tgIn [473, 474, 475, 421] (by decide +kernel) rfl) ggX4_search_X4_rowAt
theorem ggX4_search_X4_orderAt : GoodIn wsX4_search wsX4_orderAt := tgCall 511 e_X4_orderAt (by decide +kernel)
theorem gX4_search_X4_orderAt : GoodIn wsX4_search (wsV RX4 124 RX4 yX4_orderAt wsX4_orderAt) := goodIn_app (tgIn [508, 509, 510, 421] (by decide +kernel) rfl) ggX4_search_X4_orderAt
theorem ggX4_search_X4_demandValue : GoodIn wsX4_search wsX4_demandValue := tgCall 481 e_X4_demandValue (by decide +kernel)
theorem gX4_search_X4_demandValue : GoodIn wsX4_search (va_wsS RX4 59 yX4_demandValue wsX4_demandValue) := goodIn_app (tgIn [479, 480, 421] (by decide +kernel) rfl) ggX4_search_X4_demandValue
theorem ggX4_search_X2_isInSequenceBy : GoodIn wsX4_search wsX2_isInSequenceBy := tgCall 126 e_X2_isInSequenceBy (by decide +kernel)
theorem gX4_search_X2_isInSequenceBy : GoodIn wsX4_search (wsV RX4 147 RX2 yX2_isInSequenceBy wsX2_isInSequenceBy) := goodIn_app (tgIn [518, 124, 125, 9] (by decide +kernel) rfl) ggX4_search_X2_isInSequenceBy
theorem ggX4_search_X4_refuse : GoodIn wsX4_search wsX4_refuse := tgCall 464 e_X4_refuse (by decide +kernel)
theorem gX4_search_X4_refuse : GoodIn wsX4_search (wsV RX4 79 RX4 yX4_refuse wsX4_refuse) := goodIn_app (tgIn [461, 462, 463, 421] (by decide +kernel) rfl) ggX4_search_X4_refuse
theorem ggX4_search_X2_hasAlike : GoodIn wsX4_search wsX2_hasAlike := tgCall 532 e_X2_hasAlike (by decide +kernel)
theorem gX4_search_X2_hasAlike : GoodIn wsX4_search (wsV RX4 165 RX2 yX2_hasAlike wsX2_hasAlike) := goodIn_app (tgIn [529, 530, 531, 9] (by decide +kernel) rfl) ggX4_search_X2_hasAlike
theorem ggX4_search_X2_thingsAhead : GoodIn wsX4_search wsX2_thingsAhead := tgCall 536 e_X2_thingsAhead (by decide +kernel)
theorem gX4_search_X2_thingsAhead : GoodIn wsX4_search (wsV RX4 169 RX2 yX2_thingsAhead wsX2_thingsAhead) := goodIn_app (tgIn [533, 534, 535, 9] (by decide +kernel) rfl) ggX4_search_X2_thingsAhead
theorem dkX4_search_0 : ([(0, (.aload_n 0, 1)), (1, (.iload_n 1, 1)), (2, (.invokevirtual 55, 3)), (5, (.astore 4, 2)), (7, (.aload_n 0, 1)), (8, (.iload_n 2, 1)), (9, (.invokevirtual 124, 3)), (12, (.astore 5, 2)), (14, (.iload_n 3, 1)), (15, (.invokestatic 59, 3)), (18, (.aload 4, 2)), (20, (.aload 5, 2)), (22, (.invokevirtual 147, 3)), (25, (.ifCond .ne 8, 3)), (28, (.aload_n 0, 1)), (29, (.invokevirtual 79, 3)), (32, (.ireturn, 1)), (33, (.aload 4, 2)), (35, (.aload 5, 2)), (37, (.iload_n 3, 1)), (38, (.invokevirtual 165, 3)), (41, (.ifCond .eq 8, 3)), (44, (.bipush 16, 2)), (46, (.goto 11, 3)), (49, (.aload 4, 2)), (51, (.aload 5, 2)), (53, (.iload_n 3, 1)), (54, (.invokevirtual 169, 3)), (57, (.ireturn, 1))] : List (Nat × (Jvm.ClassFile.Instr × Nat))).all (dcB cX4_search) = true := by decide +kernel
theorem dX4_search_0 : decode cX4_search 0 = .ok (.aload_n 0, 1) := dget dkX4_search_0 0 rfl
theorem dX4_search_1 : decode cX4_search 1 = .ok (.iload_n 1, 1) := dget dkX4_search_0 1 rfl
theorem dX4_search_2 : decode cX4_search 2 = .ok (.invokevirtual 55, 3) := dget dkX4_search_0 2 rfl
theorem dX4_search_5 : decode cX4_search 5 = .ok (.astore 4, 2) := dget dkX4_search_0 3 rfl
theorem dX4_search_7 : decode cX4_search 7 = .ok (.aload_n 0, 1) := dget dkX4_search_0 4 rfl
theorem dX4_search_8 : decode cX4_search 8 = .ok (.iload_n 2, 1) := dget dkX4_search_0 5 rfl
theorem dX4_search_9 : decode cX4_search 9 = .ok (.invokevirtual 124, 3) := dget dkX4_search_0 6 rfl
theorem dX4_search_12 : decode cX4_search 12 = .ok (.astore 5, 2) := dget dkX4_search_0 7 rfl
theorem dX4_search_14 : decode cX4_search 14 = .ok (.iload_n 3, 1) := dget dkX4_search_0 8 rfl
theorem dX4_search_15 : decode cX4_search 15 = .ok (.invokestatic 59, 3) := dget dkX4_search_0 9 rfl
theorem dX4_search_18 : decode cX4_search 18 = .ok (.aload 4, 2) := dget dkX4_search_0 10 rfl
theorem dX4_search_20 : decode cX4_search 20 = .ok (.aload 5, 2) := dget dkX4_search_0 11 rfl
theorem dX4_search_22 : decode cX4_search 22 = .ok (.invokevirtual 147, 3) := dget dkX4_search_0 12 rfl
theorem dX4_search_25 : decode cX4_search 25 = .ok (.ifCond .ne 8, 3) := dget dkX4_search_0 13 rfl
theorem dX4_search_28 : decode cX4_search 28 = .ok (.aload_n 0, 1) := dget dkX4_search_0 14 rfl
theorem dX4_search_29 : decode cX4_search 29 = .ok (.invokevirtual 79, 3) := dget dkX4_search_0 15 rfl
theorem dX4_search_32 : decode cX4_search 32 = .ok (.ireturn, 1) := dget dkX4_search_0 16 rfl
theorem dX4_search_33 : decode cX4_search 33 = .ok (.aload 4, 2) := dget dkX4_search_0 17 rfl
theorem dX4_search_35 : decode cX4_search 35 = .ok (.aload 5, 2) := dget dkX4_search_0 18 rfl
theorem dX4_search_37 : decode cX4_search 37 = .ok (.iload_n 3, 1) := dget dkX4_search_0 19 rfl
theorem dX4_search_38 : decode cX4_search 38 = .ok (.invokevirtual 165, 3) := dget dkX4_search_0 20 rfl
theorem dX4_search_41 : decode cX4_search 41 = .ok (.ifCond .eq 8, 3) := dget dkX4_search_0 21 rfl
theorem dX4_search_44 : decode cX4_search 44 = .ok (.bipush 16, 2) := dget dkX4_search_0 22 rfl
theorem dX4_search_46 : decode cX4_search 46 = .ok (.goto 11, 3) := dget dkX4_search_0 23 rfl
theorem dX4_search_49 : decode cX4_search 49 = .ok (.aload 4, 2) := dget dkX4_search_0 24 rfl
theorem dX4_search_51 : decode cX4_search 51 = .ok (.aload 5, 2) := dget dkX4_search_0 25 rfl
theorem dX4_search_53 : decode cX4_search 53 = .ok (.iload_n 3, 1) := dget dkX4_search_0 26 rfl
theorem dX4_search_54 : decode cX4_search 54 = .ok (.invokevirtual 169, 3) := dget dkX4_search_0 27 rfl
theorem dX4_search_57 : decode cX4_search 57 = .ok (.ireturn, 1) := dget dkX4_search_0 28 rfl
theorem ggX4_near_X4_rowAt : GoodIn wsX4_near wsX4_rowAt := tgCall 476 e_X4_rowAt (by decide +kernel)
theorem gX4_near_X4_rowAt : GoodIn wsX4_near (wsV RX4 55 RX4 yX4_rowAt wsX4_rowAt) := goodIn_app (tgIn [473, 474, 475, 421] (by decide +kernel) rfl) ggX4_near_X4_rowAt
theorem ggX4_near_X4_orderAt : GoodIn wsX4_near wsX4_orderAt := tgCall 511 e_X4_orderAt (by decide +kernel)
theorem gX4_near_X4_orderAt : GoodIn wsX4_near (wsV RX4 124 RX4 yX4_orderAt wsX4_orderAt) := goodIn_app (tgIn [508, 509, 510, 421] (by decide +kernel) rfl) ggX4_near_X4_orderAt
theorem ggX4_near_X4_demandValue : GoodIn wsX4_near wsX4_demandValue := tgCall 481 e_X4_demandValue (by decide +kernel)
theorem gX4_near_X4_demandValue : GoodIn wsX4_near (va_wsS RX4 59 yX4_demandValue wsX4_demandValue) := goodIn_app (tgIn [479, 480, 421] (by decide +kernel) rfl) ggX4_near_X4_demandValue
theorem ggX4_near_X4_demandWithin : GoodIn wsX4_near wsX4_demandWithin := tgCall 484 e_X4_demandWithin (by decide +kernel)
theorem gX4_near_X4_demandWithin : GoodIn wsX4_near (va_wsS RX4 75 yX4_demandWithin wsX4_demandWithin) := goodIn_app (tgIn [482, 483, 421] (by decide +kernel) rfl) ggX4_near_X4_demandWithin
theorem ggX4_near_X2_nearestPlace : GoodIn wsX4_near wsX2_nearestPlace := tgCall 540 e_X2_nearestPlace (by decide +kernel)
theorem gX4_near_X2_nearestPlace : GoodIn wsX4_near (wsV RX4 173 RX2 yX2_nearestPlace wsX2_nearestPlace) := goodIn_app (tgIn [537, 538, 539, 9] (by decide +kernel) rfl) ggX4_near_X2_nearestPlace
theorem ggX4_near_X2_markOn : GoodIn wsX4_near wsX2_markOn := tgCall 102 e_X2_markOn (by decide +kernel)
theorem gX4_near_X2_markOn : GoodIn wsX4_near (wsV RX4 91 RX2 yX2_markOn wsX2_markOn) := goodIn_app (tgIn [498, 100, 101, 9] (by decide +kernel) rfl) ggX4_near_X2_markOn
theorem dkX4_near_0 : ([(0, (.aload_n 0, 1)), (1, (.iload_n 1, 1)), (2, (.invokevirtual 55, 3)), (5, (.astore 5, 2)), (7, (.aload_n 0, 1)), (8, (.iload_n 2, 1)), (9, (.invokevirtual 124, 3)), (12, (.astore 6, 2)), (14, (.iload_n 3, 1)), (15, (.invokestatic 59, 3)), (18, (.iload 4, 2)), (20, (.iconst 3, 1)), (21, (.invokestatic 75, 3)), (24, (.aload 5, 2)), (26, (.aload 6, 2)), (28, (.iload_n 3, 1)), (29, (.iload 4, 2)), (31, (.invokevirtual 173, 3)), (34, (.istore 7, 2)), (36, (.iload 7, 2)), (38, (.iconst (-1), 1)), (39, (.if_icmp .ne 7, 3)), (42, (.iconst (-1), 1)), (43, (.goto 10, 3)), (46, (.aload 5, 2)), (48, (.iload 7, 2)), (50, (.invokevirtual 91, 3)), (53, (.ireturn, 1))] : List (Nat × (Jvm.ClassFile.Instr × Nat))).all (dcB cX4_near) = true := by decide +kernel
theorem dX4_near_0 : decode cX4_near 0 = .ok (.aload_n 0, 1) := dget dkX4_near_0 0 rfl
theorem dX4_near_1 : decode cX4_near 1 = .ok (.iload_n 1, 1) := dget dkX4_near_0 1 rfl
theorem dX4_near_2 : decode cX4_near 2 = .ok (.invokevirtual 55, 3) := dget dkX4_near_0 2 rfl
theorem dX4_near_5 : decode cX4_near 5 = .ok (.astore 5, 2) := dget dkX4_near_0 3 rfl
theorem dX4_near_7 : decode cX4_near 7 = .ok (.aload_n 0, 1) := dget dkX4_near_0 4 rfl
theorem dX4_near_8 : decode cX4_near 8 = .ok (.iload_n 2, 1) := dget dkX4_near_0 5 rfl
theorem dX4_near_9 : decode cX4_near 9 = .ok (.invokevirtual 124, 3) := dget dkX4_near_0 6 rfl
theorem dX4_near_12 : decode cX4_near 12 = .ok (.astore 6, 2) := dget dkX4_near_0 7 rfl
theorem dX4_near_14 : decode cX4_near 14 = .ok (.iload_n 3, 1) := dget dkX4_near_0 8 rfl
theorem dX4_near_15 : decode cX4_near 15 = .ok (.invokestatic 59, 3) := dget dkX4_near_0 9 rfl
theorem dX4_near_18 : decode cX4_near 18 = .ok (.iload 4, 2) := dget dkX4_near_0 10 rfl
theorem dX4_near_20 : decode cX4_near 20 = .ok (.iconst 3, 1) := dget dkX4_near_0 11 rfl
theorem dX4_near_21 : decode cX4_near 21 = .ok (.invokestatic 75, 3) := dget dkX4_near_0 12 rfl
theorem dX4_near_24 : decode cX4_near 24 = .ok (.aload 5, 2) := dget dkX4_near_0 13 rfl
theorem dX4_near_26 : decode cX4_near 26 = .ok (.aload 6, 2) := dget dkX4_near_0 14 rfl
theorem dX4_near_28 : decode cX4_near 28 = .ok (.iload_n 3, 1) := dget dkX4_near_0 15 rfl
theorem dX4_near_29 : decode cX4_near 29 = .ok (.iload 4, 2) := dget dkX4_near_0 16 rfl
theorem dX4_near_31 : decode cX4_near 31 = .ok (.invokevirtual 173, 3) := dget dkX4_near_0 17 rfl
theorem dX4_near_34 : decode cX4_near 34 = .ok (.istore 7, 2) := dget dkX4_near_0 18 rfl
theorem dX4_near_36 : decode cX4_near 36 = .ok (.iload 7, 2) := dget dkX4_near_0 19 rfl
theorem dX4_near_38 : decode cX4_near 38 = .ok (.iconst (-1), 1) := dget dkX4_near_0 20 rfl
theorem dX4_near_39 : decode cX4_near 39 = .ok (.if_icmp .ne 7, 3) := dget dkX4_near_0 21 rfl
theorem dX4_near_42 : decode cX4_near 42 = .ok (.iconst (-1), 1) := dget dkX4_near_0 22 rfl
theorem dX4_near_43 : decode cX4_near 43 = .ok (.goto 10, 3) := dget dkX4_near_0 23 rfl
theorem dX4_near_46 : decode cX4_near 46 = .ok (.aload 5, 2) := dget dkX4_near_0 24 rfl
theorem dX4_near_48 : decode cX4_near 48 = .ok (.iload 7, 2) := dget dkX4_near_0 25 rfl
theorem dX4_near_50 : decode cX4_near 50 = .ok (.invokevirtual 91, 3) := dget dkX4_near_0 26 rfl
theorem dX4_near_53 : decode cX4_near 53 = .ok (.ireturn, 1) := dget dkX4_near_0 27 rfl
theorem ggX4_kinds_X4_rowAt : GoodIn wsX4_kinds wsX4_rowAt := tgCall 476 e_X4_rowAt (by decide +kernel)
theorem gX4_kinds_X4_rowAt : GoodIn wsX4_kinds (wsV RX4 55 RX4 yX4_rowAt wsX4_rowAt) := goodIn_app (tgIn [473, 474, 475, 421] (by decide +kernel) rfl) ggX4_kinds_X4_rowAt
theorem ggX4_kinds_X4_orderAt : GoodIn wsX4_kinds wsX4_orderAt := tgCall 511 e_X4_orderAt (by decide +kernel)
theorem gX4_kinds_X4_orderAt : GoodIn wsX4_kinds (wsV RX4 124 RX4 yX4_orderAt wsX4_orderAt) := goodIn_app (tgIn [508, 509, 510, 421] (by decide +kernel) rfl) ggX4_kinds_X4_orderAt
theorem ggX4_kinds_X2_lots : GoodIn wsX4_kinds wsX2_lots := tgCall 551 e_X2_lots (by decide +kernel)
theorem gX4_kinds_X2_lots : GoodIn wsX4_kinds (wsV RX4 177 RX2 yX2_lots wsX2_lots) := goodIn_app (tgIn [548, 549, 550, 9] (by decide +kernel) rfl) ggX4_kinds_X2_lots
theorem dkX4_kinds_0 : ([(0, (.aload_n 0, 1)), (1, (.iload_n 1, 1)), (2, (.invokevirtual 55, 3)), (5, (.astore_n 3, 1)), (6, (.aload_n 3, 1)), (7, (.aload_n 0, 1)), (8, (.iload_n 2, 1)), (9, (.invokevirtual 124, 3)), (12, (.invokevirtual 177, 3)), (15, (.ireturn, 1))] : List (Nat × (Jvm.ClassFile.Instr × Nat))).all (dcB cX4_kinds) = true := by decide +kernel
theorem dX4_kinds_0 : decode cX4_kinds 0 = .ok (.aload_n 0, 1) := dget dkX4_kinds_0 0 rfl
theorem dX4_kinds_1 : decode cX4_kinds 1 = .ok (.iload_n 1, 1) := dget dkX4_kinds_0 1 rfl
theorem dX4_kinds_2 : decode cX4_kinds 2 = .ok (.invokevirtual 55, 3) := dget dkX4_kinds_0 2 rfl
theorem dX4_kinds_5 : decode cX4_kinds 5 = .ok (.astore_n 3, 1) := dget dkX4_kinds_0 3 rfl
theorem dX4_kinds_6 : decode cX4_kinds 6 = .ok (.aload_n 3, 1) := dget dkX4_kinds_0 4 rfl
theorem dX4_kinds_7 : decode cX4_kinds 7 = .ok (.aload_n 0, 1) := dget dkX4_kinds_0 5 rfl
theorem dX4_kinds_8 : decode cX4_kinds 8 = .ok (.iload_n 2, 1) := dget dkX4_kinds_0 6 rfl
theorem dX4_kinds_9 : decode cX4_kinds 9 = .ok (.invokevirtual 124, 3) := dget dkX4_kinds_0 7 rfl
theorem dX4_kinds_12 : decode cX4_kinds 12 = .ok (.invokevirtual 177, 3) := dget dkX4_kinds_0 8 rfl
theorem dX4_kinds_15 : decode cX4_kinds 15 = .ok (.ireturn, 1) := dget dkX4_kinds_0 9 rfl
theorem ggX4_ahead_X4_rowAt : GoodIn wsX4_ahead wsX4_rowAt := tgCall 476 e_X4_rowAt (by decide +kernel)
theorem gX4_ahead_X4_rowAt : GoodIn wsX4_ahead (wsV RX4 55 RX4 yX4_rowAt wsX4_rowAt) := goodIn_app (tgIn [473, 474, 475, 421] (by decide +kernel) rfl) ggX4_ahead_X4_rowAt
theorem ggX4_ahead_X4_orderAt : GoodIn wsX4_ahead wsX4_orderAt := tgCall 511 e_X4_orderAt (by decide +kernel)
theorem gX4_ahead_X4_orderAt : GoodIn wsX4_ahead (wsV RX4 124 RX4 yX4_orderAt wsX4_orderAt) := goodIn_app (tgIn [508, 509, 510, 421] (by decide +kernel) rfl) ggX4_ahead_X4_orderAt
theorem ggX4_ahead_X4_demandValue : GoodIn wsX4_ahead wsX4_demandValue := tgCall 481 e_X4_demandValue (by decide +kernel)
theorem gX4_ahead_X4_demandValue : GoodIn wsX4_ahead (va_wsS RX4 59 yX4_demandValue wsX4_demandValue) := goodIn_app (tgIn [479, 480, 421] (by decide +kernel) rfl) ggX4_ahead_X4_demandValue
theorem ggX4_ahead_X2_lotsAhead : GoodIn wsX4_ahead wsX2_lotsAhead := tgCall 559 e_X2_lotsAhead (by decide +kernel)
theorem gX4_ahead_X2_lotsAhead : GoodIn wsX4_ahead (wsV RX4 180 RX2 yX2_lotsAhead wsX2_lotsAhead) := goodIn_app (tgIn [556, 557, 558, 9] (by decide +kernel) rfl) ggX4_ahead_X2_lotsAhead
theorem dkX4_ahead_0 : ([(0, (.aload_n 0, 1)), (1, (.iload_n 1, 1)), (2, (.invokevirtual 55, 3)), (5, (.astore 4, 2)), (7, (.aload_n 0, 1)), (8, (.iload_n 2, 1)), (9, (.invokevirtual 124, 3)), (12, (.astore 5, 2)), (14, (.iload_n 3, 1)), (15, (.invokestatic 59, 3)), (18, (.aload 4, 2)), (20, (.aload 5, 2)), (22, (.iload_n 3, 1)), (23, (.invokevirtual 180, 3)), (26, (.ireturn, 1))] : List (Nat × (Jvm.ClassFile.Instr × Nat))).all (dcB cX4_ahead) = true := by decide +kernel
theorem dX4_ahead_0 : decode cX4_ahead 0 = .ok (.aload_n 0, 1) := dget dkX4_ahead_0 0 rfl
theorem dX4_ahead_1 : decode cX4_ahead 1 = .ok (.iload_n 1, 1) := dget dkX4_ahead_0 1 rfl
theorem dX4_ahead_2 : decode cX4_ahead 2 = .ok (.invokevirtual 55, 3) := dget dkX4_ahead_0 2 rfl
theorem dX4_ahead_5 : decode cX4_ahead 5 = .ok (.astore 4, 2) := dget dkX4_ahead_0 3 rfl
theorem dX4_ahead_7 : decode cX4_ahead 7 = .ok (.aload_n 0, 1) := dget dkX4_ahead_0 4 rfl
theorem dX4_ahead_8 : decode cX4_ahead 8 = .ok (.iload_n 2, 1) := dget dkX4_ahead_0 5 rfl
theorem dX4_ahead_9 : decode cX4_ahead 9 = .ok (.invokevirtual 124, 3) := dget dkX4_ahead_0 6 rfl
theorem dX4_ahead_12 : decode cX4_ahead 12 = .ok (.astore 5, 2) := dget dkX4_ahead_0 7 rfl
theorem dX4_ahead_14 : decode cX4_ahead 14 = .ok (.iload_n 3, 1) := dget dkX4_ahead_0 8 rfl
theorem dX4_ahead_15 : decode cX4_ahead 15 = .ok (.invokestatic 59, 3) := dget dkX4_ahead_0 9 rfl
theorem dX4_ahead_18 : decode cX4_ahead 18 = .ok (.aload 4, 2) := dget dkX4_ahead_0 10 rfl
theorem dX4_ahead_20 : decode cX4_ahead 20 = .ok (.aload 5, 2) := dget dkX4_ahead_0 11 rfl
theorem dX4_ahead_22 : decode cX4_ahead 22 = .ok (.iload_n 3, 1) := dget dkX4_ahead_0 12 rfl
theorem dX4_ahead_23 : decode cX4_ahead 23 = .ok (.invokevirtual 180, 3) := dget dkX4_ahead_0 13 rfl
theorem dX4_ahead_26 : decode cX4_ahead 26 = .ok (.ireturn, 1) := dget dkX4_ahead_0 14 rfl
theorem ggX4_groups_X4_rowAt : GoodIn wsX4_groups wsX4_rowAt := tgCall 476 e_X4_rowAt (by decide +kernel)
theorem gX4_groups_X4_rowAt : GoodIn wsX4_groups (wsV RX4 55 RX4 yX4_rowAt wsX4_rowAt) := goodIn_app (tgIn [473, 474, 475, 421] (by decide +kernel) rfl) ggX4_groups_X4_rowAt
theorem ggX4_groups_X4_orderAt : GoodIn wsX4_groups wsX4_orderAt := tgCall 511 e_X4_orderAt (by decide +kernel)
theorem gX4_groups_X4_orderAt : GoodIn wsX4_groups (wsV RX4 124 RX4 yX4_orderAt wsX4_orderAt) := goodIn_app (tgIn [508, 509, 510, 421] (by decide +kernel) rfl) ggX4_groups_X4_orderAt
theorem ggX4_groups_X2_lotsTold : GoodIn wsX4_groups wsX2_lotsTold := tgCall 563 e_X2_lotsTold (by decide +kernel)
theorem gX4_groups_X2_lotsTold : GoodIn wsX4_groups (wsV RX4 183 RX2 yX2_lotsTold wsX2_lotsTold) := goodIn_app (tgIn [560, 561, 562, 9] (by decide +kernel) rfl) ggX4_groups_X2_lotsTold
theorem dkX4_groups_0 : ([(0, (.aload_n 0, 1)), (1, (.iload_n 1, 1)), (2, (.invokevirtual 55, 3)), (5, (.astore_n 3, 1)), (6, (.aload_n 3, 1)), (7, (.aload_n 0, 1)), (8, (.iload_n 2, 1)), (9, (.invokevirtual 124, 3)), (12, (.invokevirtual 183, 3)), (15, (.areturn, 1))] : List (Nat × (Jvm.ClassFile.Instr × Nat))).all (dcB cX4_groups) = true := by decide +kernel
theorem dX4_groups_0 : decode cX4_groups 0 = .ok (.aload_n 0, 1) := dget dkX4_groups_0 0 rfl
theorem dX4_groups_1 : decode cX4_groups 1 = .ok (.iload_n 1, 1) := dget dkX4_groups_0 1 rfl
theorem dX4_groups_2 : decode cX4_groups 2 = .ok (.invokevirtual 55, 3) := dget dkX4_groups_0 2 rfl
theorem dX4_groups_5 : decode cX4_groups 5 = .ok (.astore_n 3, 1) := dget dkX4_groups_0 3 rfl
theorem dX4_groups_6 : decode cX4_groups 6 = .ok (.aload_n 3, 1) := dget dkX4_groups_0 4 rfl
theorem dX4_groups_7 : decode cX4_groups 7 = .ok (.aload_n 0, 1) := dget dkX4_groups_0 5 rfl
theorem dX4_groups_8 : decode cX4_groups 8 = .ok (.iload_n 2, 1) := dget dkX4_groups_0 6 rfl
theorem dX4_groups_9 : decode cX4_groups 9 = .ok (.invokevirtual 124, 3) := dget dkX4_groups_0 7 rfl
theorem dX4_groups_12 : decode cX4_groups 12 = .ok (.invokevirtual 183, 3) := dget dkX4_groups_0 8 rfl
theorem dX4_groups_15 : decode cX4_groups 15 = .ok (.areturn, 1) := dget dkX4_groups_0 9 rfl
theorem ggX4_ranks_X4_rowAt : GoodIn wsX4_ranks wsX4_rowAt := tgCall 476 e_X4_rowAt (by decide +kernel)
theorem gX4_ranks_X4_rowAt : GoodIn wsX4_ranks (wsV RX4 55 RX4 yX4_rowAt wsX4_rowAt) := goodIn_app (tgIn [473, 474, 475, 421] (by decide +kernel) rfl) ggX4_ranks_X4_rowAt
theorem ggX4_ranks_X4_orderAt : GoodIn wsX4_ranks wsX4_orderAt := tgCall 511 e_X4_orderAt (by decide +kernel)
theorem gX4_ranks_X4_orderAt : GoodIn wsX4_ranks (wsV RX4 124 RX4 yX4_orderAt wsX4_orderAt) := goodIn_app (tgIn [508, 509, 510, 421] (by decide +kernel) rfl) ggX4_ranks_X4_orderAt
theorem ggX4_ranks_X2_becomeCopyOf : GoodIn wsX4_ranks wsX2_becomeCopyOf := tgCall 168 e_X2_becomeCopyOf (by decide +kernel)
theorem gX4_ranks_X2_becomeCopyOf : GoodIn wsX4_ranks (wsV RX4 101 RX2 yX2_becomeCopyOf wsX2_becomeCopyOf) := goodIn_app (tgIn [500, 166, 167, 9] (by decide +kernel) rfl) ggX4_ranks_X2_becomeCopyOf
theorem ggX4_ranks_J4_init_da8c8 : GoodIn wsX4_ranks wsJ4_init_da8c8 := tgCall 415 e_J4_init_da8c8 (by decide +kernel)
theorem gX4_ranks_J4_init_da8c8 : GoodIn wsX4_ranks (wsJ4_init_da8c8) := ggX4_ranks_J4_init_da8c8
theorem ggX4_ranks_X2_length : GoodIn wsX4_ranks wsX2_length := tgCall 118 e_X2_length (by decide +kernel)
theorem gX4_ranks_X2_length : GoodIn wsX4_ranks (wsV RX4 63 RX2 yX2_length wsX2_length) := goodIn_app (tgIn [460, 116, 117, 9] (by decide +kernel) rfl) ggX4_ranks_X2_length
theorem ggX4_ranks_X2_firstPlaceBy : GoodIn wsX4_ranks wsX2_firstPlaceBy := tgCall 209 e_X2_firstPlaceBy (by decide +kernel)
theorem gX4_ranks_X2_firstPlaceBy : GoodIn wsX4_ranks (wsV RX4 159 RX2 yX2_firstPlaceBy wsX2_firstPlaceBy) := goodIn_app (tgIn [527, 207, 208, 9] (by decide +kernel) rfl) ggX4_ranks_X2_firstPlaceBy
theorem ggX4_ranks_X4_appendGap : GoodIn wsX4_ranks wsX4_appendGap := tgCall 422 e_X4_appendGap (by decide +kernel)
theorem gX4_ranks_X4_appendGap : GoodIn wsX4_ranks (va_wsS RX4 190 yX4_appendGap wsX4_appendGap) := goodIn_app (tgIn [566, 420, 421] (by decide +kernel) rfl) ggX4_ranks_X4_appendGap
theorem ggX4_ranks_X2_valueOn : GoodIn wsX4_ranks wsX2_valueOn := tgCall 89 e_X2_valueOn (by decide +kernel)
theorem gX4_ranks_X2_valueOn : GoodIn wsX4_ranks (wsV RX4 114 RX2 yX2_valueOn wsX2_valueOn) := goodIn_app (tgIn [505, 87, 88, 9] (by decide +kernel) rfl) ggX4_ranks_X2_valueOn
theorem ggX4_ranks_X1_rankOf : GoodIn wsX4_ranks wsX1_rankOf := tgCall 174 e_X1_rankOf (by decide +kernel)
theorem gX4_ranks_X1_rankOf : GoodIn wsX4_ranks (wsV RX4 162 RX1 yX1_rankOf wsX1_rankOf) := goodIn_app (tgIn [528, 172, 173, 14] (by decide +kernel) rfl) ggX4_ranks_X1_rankOf
theorem ggX4_ranks_J4_append_bf812 : GoodIn wsX4_ranks wsJ4_append_bf812 := tgCall 426 e_J4_append_bf812 (by decide +kernel)
theorem gX4_ranks_J4_append_bf812 : GoodIn wsX4_ranks (wsV RX4 194 RJ4 yJ4_append_bf812 wsJ4_append_bf812) := goodIn_app (tgIn [567, 424, 425, 328] (by decide +kernel) rfl) ggX4_ranks_J4_append_bf812
theorem ggX4_ranks_X2_remove : GoodIn wsX4_ranks wsX2_remove := tgCall 215 e_X2_remove (by decide +kernel)
theorem gX4_ranks_X2_remove : GoodIn wsX4_ranks (wsV RX4 95 RX2 yX2_remove wsX2_remove) := goodIn_app (tgIn [499, 213, 214, 9] (by decide +kernel) rfl) ggX4_ranks_X2_remove
theorem ggX4_ranks_J4_toString_0e30d : GoodIn wsX4_ranks wsJ4_toString_0e30d := tgCall 431 e_J4_toString_0e30d (by decide +kernel)
theorem gX4_ranks_J4_toString_0e30d : GoodIn wsX4_ranks (wsV RX4 197 RJ4 yJ4_toString_0e30d wsJ4_toString_0e30d) := goodIn_app (tgIn [568, 429, 430, 328] (by decide +kernel) rfl) ggX4_ranks_J4_toString_0e30d
theorem dkX4_ranks_0 : ([(0, (.aload_n 0, 1)), (1, (.iload_n 1, 1)), (2, (.invokevirtual 55, 3)), (5, (.astore 4, 2)), (7, (.aload_n 0, 1)), (8, (.iload_n 2, 1)), (9, (.invokevirtual 124, 3)), (12, (.astore 5, 2)), (14, (.aload_n 0, 1)), (15, (.getfield 36, 3)), (18, (.aload 4, 2)), (20, (.invokevirtual 101, 3)), (23, (.new 187, 3)), (26, (.dup, 1)), (27, (.invokespecial 189, 3)), (30, (.astore 6, 2)), (32, (.aload_n 0, 1)), (33, (.getfield 36, 3)), (36, (.invokevirtual 63, 3)), (39, (.istore 7, 2)), (41, (.iload 7, 2)), (43, (.ifCond .le 62, 3)), (46, (.iload_n 3, 1)), (47, (.ifCond .eq 15, 3)), (50, (.aload_n 0, 1)), (51, (.getfield 36, 3)), (54, (.aload 5, 2)), (56, (.invokevirtual 159, 3)), (59, (.goto 4, 3)), (62, (.iconst 0, 1)), (63, (.istore 8, 2)), (65, (.aload 6, 2)), (67, (.invokestatic 190, 3)), (70, (.aload 6, 2)), (72, (.aload 5, 2)), (74, (.aload_n 0, 1)), (75, (.getfield 36, 3)), (78, (.iload 8, 2)), (80, (.invokevirtual 114, 3)), (83, (.invokevirtual 162, 3))] : List (Nat × (Jvm.ClassFile.Instr × Nat))).all (dcB cX4_ranks) = true := by decide +kernel
theorem dX4_ranks_0 : decode cX4_ranks 0 = .ok (.aload_n 0, 1) := dget dkX4_ranks_0 0 rfl
theorem dX4_ranks_1 : decode cX4_ranks 1 = .ok (.iload_n 1, 1) := dget dkX4_ranks_0 1 rfl
theorem dX4_ranks_2 : decode cX4_ranks 2 = .ok (.invokevirtual 55, 3) := dget dkX4_ranks_0 2 rfl
theorem dX4_ranks_5 : decode cX4_ranks 5 = .ok (.astore 4, 2) := dget dkX4_ranks_0 3 rfl
theorem dX4_ranks_7 : decode cX4_ranks 7 = .ok (.aload_n 0, 1) := dget dkX4_ranks_0 4 rfl
theorem dX4_ranks_8 : decode cX4_ranks 8 = .ok (.iload_n 2, 1) := dget dkX4_ranks_0 5 rfl
theorem dX4_ranks_9 : decode cX4_ranks 9 = .ok (.invokevirtual 124, 3) := dget dkX4_ranks_0 6 rfl
theorem dX4_ranks_12 : decode cX4_ranks 12 = .ok (.astore 5, 2) := dget dkX4_ranks_0 7 rfl
theorem dX4_ranks_14 : decode cX4_ranks 14 = .ok (.aload_n 0, 1) := dget dkX4_ranks_0 8 rfl
theorem dX4_ranks_15 : decode cX4_ranks 15 = .ok (.getfield 36, 3) := dget dkX4_ranks_0 9 rfl
theorem dX4_ranks_18 : decode cX4_ranks 18 = .ok (.aload 4, 2) := dget dkX4_ranks_0 10 rfl
theorem dX4_ranks_20 : decode cX4_ranks 20 = .ok (.invokevirtual 101, 3) := dget dkX4_ranks_0 11 rfl
theorem dX4_ranks_23 : decode cX4_ranks 23 = .ok (.new 187, 3) := dget dkX4_ranks_0 12 rfl
theorem dX4_ranks_26 : decode cX4_ranks 26 = .ok (.dup, 1) := dget dkX4_ranks_0 13 rfl
theorem dX4_ranks_27 : decode cX4_ranks 27 = .ok (.invokespecial 189, 3) := dget dkX4_ranks_0 14 rfl
theorem dX4_ranks_30 : decode cX4_ranks 30 = .ok (.astore 6, 2) := dget dkX4_ranks_0 15 rfl
theorem dX4_ranks_32 : decode cX4_ranks 32 = .ok (.aload_n 0, 1) := dget dkX4_ranks_0 16 rfl
theorem dX4_ranks_33 : decode cX4_ranks 33 = .ok (.getfield 36, 3) := dget dkX4_ranks_0 17 rfl
theorem dX4_ranks_36 : decode cX4_ranks 36 = .ok (.invokevirtual 63, 3) := dget dkX4_ranks_0 18 rfl
theorem dX4_ranks_39 : decode cX4_ranks 39 = .ok (.istore 7, 2) := dget dkX4_ranks_0 19 rfl
theorem dX4_ranks_41 : decode cX4_ranks 41 = .ok (.iload 7, 2) := dget dkX4_ranks_0 20 rfl
theorem dX4_ranks_43 : decode cX4_ranks 43 = .ok (.ifCond .le 62, 3) := dget dkX4_ranks_0 21 rfl
theorem dX4_ranks_46 : decode cX4_ranks 46 = .ok (.iload_n 3, 1) := dget dkX4_ranks_0 22 rfl
theorem dX4_ranks_47 : decode cX4_ranks 47 = .ok (.ifCond .eq 15, 3) := dget dkX4_ranks_0 23 rfl
theorem dX4_ranks_50 : decode cX4_ranks 50 = .ok (.aload_n 0, 1) := dget dkX4_ranks_0 24 rfl
theorem dX4_ranks_51 : decode cX4_ranks 51 = .ok (.getfield 36, 3) := dget dkX4_ranks_0 25 rfl
theorem dX4_ranks_54 : decode cX4_ranks 54 = .ok (.aload 5, 2) := dget dkX4_ranks_0 26 rfl
theorem dX4_ranks_56 : decode cX4_ranks 56 = .ok (.invokevirtual 159, 3) := dget dkX4_ranks_0 27 rfl
theorem dX4_ranks_59 : decode cX4_ranks 59 = .ok (.goto 4, 3) := dget dkX4_ranks_0 28 rfl
theorem dX4_ranks_62 : decode cX4_ranks 62 = .ok (.iconst 0, 1) := dget dkX4_ranks_0 29 rfl
theorem dX4_ranks_63 : decode cX4_ranks 63 = .ok (.istore 8, 2) := dget dkX4_ranks_0 30 rfl
theorem dX4_ranks_65 : decode cX4_ranks 65 = .ok (.aload 6, 2) := dget dkX4_ranks_0 31 rfl
theorem dX4_ranks_67 : decode cX4_ranks 67 = .ok (.invokestatic 190, 3) := dget dkX4_ranks_0 32 rfl
theorem dX4_ranks_70 : decode cX4_ranks 70 = .ok (.aload 6, 2) := dget dkX4_ranks_0 33 rfl
theorem dX4_ranks_72 : decode cX4_ranks 72 = .ok (.aload 5, 2) := dget dkX4_ranks_0 34 rfl
theorem dX4_ranks_74 : decode cX4_ranks 74 = .ok (.aload_n 0, 1) := dget dkX4_ranks_0 35 rfl
theorem dX4_ranks_75 : decode cX4_ranks 75 = .ok (.getfield 36, 3) := dget dkX4_ranks_0 36 rfl
theorem dX4_ranks_78 : decode cX4_ranks 78 = .ok (.iload 8, 2) := dget dkX4_ranks_0 37 rfl
theorem dX4_ranks_80 : decode cX4_ranks 80 = .ok (.invokevirtual 114, 3) := dget dkX4_ranks_0 38 rfl
theorem dX4_ranks_83 : decode cX4_ranks 83 = .ok (.invokevirtual 162, 3) := dget dkX4_ranks_0 39 rfl
theorem dkX4_ranks_1 : ([(86, (.invokevirtual 194, 3)), (89, (.pop, 1)), (90, (.aload_n 0, 1)), (91, (.getfield 36, 3)), (94, (.iload 8, 2)), (96, (.invokevirtual 95, 3)), (99, (.iinc 7 (-1), 3)), (102, (.goto (-61), 3)), (105, (.aload 6, 2)), (107, (.invokevirtual 197, 3)), (110, (.areturn, 1))] : List (Nat × (Jvm.ClassFile.Instr × Nat))).all (dcB cX4_ranks) = true := by decide +kernel
theorem dX4_ranks_86 : decode cX4_ranks 86 = .ok (.invokevirtual 194, 3) := dget dkX4_ranks_1 0 rfl
theorem dX4_ranks_89 : decode cX4_ranks 89 = .ok (.pop, 1) := dget dkX4_ranks_1 1 rfl
theorem dX4_ranks_90 : decode cX4_ranks 90 = .ok (.aload_n 0, 1) := dget dkX4_ranks_1 2 rfl
theorem dX4_ranks_91 : decode cX4_ranks 91 = .ok (.getfield 36, 3) := dget dkX4_ranks_1 3 rfl
theorem dX4_ranks_94 : decode cX4_ranks 94 = .ok (.iload 8, 2) := dget dkX4_ranks_1 4 rfl
theorem dX4_ranks_96 : decode cX4_ranks 96 = .ok (.invokevirtual 95, 3) := dget dkX4_ranks_1 5 rfl
theorem dX4_ranks_99 : decode cX4_ranks 99 = .ok (.iinc 7 (-1), 3) := dget dkX4_ranks_1 6 rfl
theorem dX4_ranks_102 : decode cX4_ranks 102 = .ok (.goto (-61), 3) := dget dkX4_ranks_1 7 rfl
theorem dX4_ranks_105 : decode cX4_ranks 105 = .ok (.aload 6, 2) := dget dkX4_ranks_1 8 rfl
theorem dX4_ranks_107 : decode cX4_ranks 107 = .ok (.invokevirtual 197, 3) := dget dkX4_ranks_1 9 rfl
theorem dX4_ranks_110 : decode cX4_ranks 110 = .ok (.areturn, 1) := dget dkX4_ranks_1 10 rfl
theorem ggX4_step_X4_orderAt : GoodIn wsX4_step wsX4_orderAt := tgCall 511 e_X4_orderAt (by decide +kernel)
theorem gX4_step_X4_orderAt : GoodIn wsX4_step (wsV RX4 124 RX4 yX4_orderAt wsX4_orderAt) := goodIn_app (tgIn [508, 509, 510, 421] (by decide +kernel) rfl) ggX4_step_X4_orderAt
theorem ggX4_step_X4_demandWithin : GoodIn wsX4_step wsX4_demandWithin := tgCall 484 e_X4_demandWithin (by decide +kernel)
theorem gX4_step_X4_demandWithin : GoodIn wsX4_step (va_wsS RX4 75 yX4_demandWithin wsX4_demandWithin) := goodIn_app (tgIn [482, 483, 421] (by decide +kernel) rfl) ggX4_step_X4_demandWithin
theorem ggX4_step_X1_length : GoodIn wsX4_step wsX1_length := tgCall 65 e_X1_length (by decide +kernel)
theorem gX4_step_X1_length : GoodIn wsX4_step (wsV RX4 200 RX1 yX1_length wsX1_length) := goodIn_app (tgIn [569, 63, 64, 14] (by decide +kernel) rfl) ggX4_step_X1_length
theorem ggX4_step_X4_refuse : GoodIn wsX4_step wsX4_refuse := tgCall 464 e_X4_refuse (by decide +kernel)
theorem gX4_step_X4_refuse : GoodIn wsX4_step (wsV RX4 79 RX4 yX4_refuse wsX4_refuse) := goodIn_app (tgIn [461, 462, 463, 421] (by decide +kernel) rfl) ggX4_step_X4_refuse
theorem ggX4_step_X1_append : GoodIn wsX4_step wsX1_append := tgCall 573 e_X1_append (by decide +kernel)
theorem gX4_step_X1_append : GoodIn wsX4_step (wsV RX4 201 RX1 yX1_append wsX1_append) := goodIn_app (tgIn [570, 571, 572, 14] (by decide +kernel) rfl) ggX4_step_X1_append
theorem ggX4_step_X1_classCount : GoodIn wsX4_step wsX1_classCount := tgCall 149 e_X1_classCount (by decide +kernel)
theorem gX4_step_X1_classCount : GoodIn wsX4_step (wsV RX4 204 RX1 yX1_classCount wsX1_classCount) := goodIn_app (tgIn [574, 147, 148, 14] (by decide +kernel) rfl) ggX4_step_X1_classCount
theorem dkX4_step_0 : ([(0, (.aload_n 0, 1)), (1, (.iload_n 1, 1)), (2, (.invokevirtual 124, 3)), (5, (.astore 4, 2)), (7, (.iload_n 2, 1)), (8, (.bipush 7, 2)), (10, (.invokestatic 75, 3)), (13, (.aload 4, 2)), (15, (.invokevirtual 200, 3)), (18, (.iconst 5, 1)), (19, (.if_icmp .lt 8, 3)), (22, (.aload_n 0, 1)), (23, (.invokevirtual 79, 3)), (26, (.ireturn, 1)), (27, (.aload 4, 2)), (29, (.iload_n 2, 1)), (30, (.iload_n 3, 1)), (31, (.invokevirtual 201, 3)), (34, (.aload 4, 2)), (36, (.invokevirtual 204, 3)), (39, (.ireturn, 1))] : List (Nat × (Jvm.ClassFile.Instr × Nat))).all (dcB cX4_step) = true := by decide +kernel
theorem dX4_step_0 : decode cX4_step 0 = .ok (.aload_n 0, 1) := dget dkX4_step_0 0 rfl
theorem dX4_step_1 : decode cX4_step 1 = .ok (.iload_n 1, 1) := dget dkX4_step_0 1 rfl
theorem dX4_step_2 : decode cX4_step 2 = .ok (.invokevirtual 124, 3) := dget dkX4_step_0 2 rfl
theorem dX4_step_5 : decode cX4_step 5 = .ok (.astore 4, 2) := dget dkX4_step_0 3 rfl
theorem dX4_step_7 : decode cX4_step 7 = .ok (.iload_n 2, 1) := dget dkX4_step_0 4 rfl
theorem dX4_step_8 : decode cX4_step 8 = .ok (.bipush 7, 2) := dget dkX4_step_0 5 rfl
theorem dX4_step_10 : decode cX4_step 10 = .ok (.invokestatic 75, 3) := dget dkX4_step_0 6 rfl
theorem dX4_step_13 : decode cX4_step 13 = .ok (.aload 4, 2) := dget dkX4_step_0 7 rfl
theorem dX4_step_15 : decode cX4_step 15 = .ok (.invokevirtual 200, 3) := dget dkX4_step_0 8 rfl
theorem dX4_step_18 : decode cX4_step 18 = .ok (.iconst 5, 1) := dget dkX4_step_0 9 rfl
theorem dX4_step_19 : decode cX4_step 19 = .ok (.if_icmp .lt 8, 3) := dget dkX4_step_0 10 rfl
theorem dX4_step_22 : decode cX4_step 22 = .ok (.aload_n 0, 1) := dget dkX4_step_0 11 rfl
theorem dX4_step_23 : decode cX4_step 23 = .ok (.invokevirtual 79, 3) := dget dkX4_step_0 12 rfl
theorem dX4_step_26 : decode cX4_step 26 = .ok (.ireturn, 1) := dget dkX4_step_0 13 rfl
theorem dX4_step_27 : decode cX4_step 27 = .ok (.aload 4, 2) := dget dkX4_step_0 14 rfl
theorem dX4_step_29 : decode cX4_step 29 = .ok (.iload_n 2, 1) := dget dkX4_step_0 15 rfl
theorem dX4_step_30 : decode cX4_step 30 = .ok (.iload_n 3, 1) := dget dkX4_step_0 16 rfl
theorem dX4_step_31 : decode cX4_step 31 = .ok (.invokevirtual 201, 3) := dget dkX4_step_0 17 rfl
theorem dX4_step_34 : decode cX4_step 34 = .ok (.aload 4, 2) := dget dkX4_step_0 18 rfl
theorem dX4_step_36 : decode cX4_step 36 = .ok (.invokevirtual 204, 3) := dget dkX4_step_0 19 rfl
theorem dX4_step_39 : decode cX4_step 39 = .ok (.ireturn, 1) := dget dkX4_step_0 20 rfl
theorem ggX4_unstep_X4_orderAt : GoodIn wsX4_unstep wsX4_orderAt := tgCall 511 e_X4_orderAt (by decide +kernel)
theorem gX4_unstep_X4_orderAt : GoodIn wsX4_unstep (wsV RX4 124 RX4 yX4_orderAt wsX4_orderAt) := goodIn_app (tgIn [508, 509, 510, 421] (by decide +kernel) rfl) ggX4_unstep_X4_orderAt
theorem ggX4_unstep_X1_length : GoodIn wsX4_unstep wsX1_length := tgCall 65 e_X1_length (by decide +kernel)
theorem gX4_unstep_X1_length : GoodIn wsX4_unstep (wsV RX4 200 RX1 yX1_length wsX1_length) := goodIn_app (tgIn [569, 63, 64, 14] (by decide +kernel) rfl) ggX4_unstep_X1_length
theorem ggX4_unstep_X4_refuse : GoodIn wsX4_unstep wsX4_refuse := tgCall 464 e_X4_refuse (by decide +kernel)
theorem gX4_unstep_X4_refuse : GoodIn wsX4_unstep (wsV RX4 79 RX4 yX4_refuse wsX4_refuse) := goodIn_app (tgIn [461, 462, 463, 421] (by decide +kernel) rfl) ggX4_unstep_X4_refuse
theorem ggX4_unstep_X1_keyOn : GoodIn wsX4_unstep wsX1_keyOn := tgCall 73 e_X1_keyOn (by decide +kernel)
theorem gX4_unstep_X1_keyOn : GoodIn wsX4_unstep (wsV RX4 207 RX1 yX1_keyOn wsX1_keyOn) := goodIn_app (tgIn [575, 71, 72, 14] (by decide +kernel) rfl) ggX4_unstep_X1_keyOn
theorem ggX4_unstep_X1_removeLast : GoodIn wsX4_unstep wsX1_removeLast := tgCall 579 e_X1_removeLast (by decide +kernel)
theorem gX4_unstep_X1_removeLast : GoodIn wsX4_unstep (wsV RX4 210 RX1 yX1_removeLast wsX1_removeLast) := goodIn_app (tgIn [576, 577, 578, 14] (by decide +kernel) rfl) ggX4_unstep_X1_removeLast
theorem dkX4_unstep_0 : ([(0, (.aload_n 0, 1)), (1, (.iload_n 1, 1)), (2, (.invokevirtual 124, 3)), (5, (.astore_n 2, 1)), (6, (.aload_n 2, 1)), (7, (.invokevirtual 200, 3)), (10, (.ifCond .ne 8, 3)), (13, (.aload_n 0, 1)), (14, (.invokevirtual 79, 3)), (17, (.ireturn, 1)), (18, (.aload_n 2, 1)), (19, (.aload_n 2, 1)), (20, (.invokevirtual 200, 3)), (23, (.iconst 1, 1)), (24, (.isub, 1)), (25, (.invokevirtual 207, 3)), (28, (.istore_n 3, 1)), (29, (.aload_n 2, 1)), (30, (.invokevirtual 210, 3)), (33, (.iload_n 3, 1)), (34, (.ireturn, 1))] : List (Nat × (Jvm.ClassFile.Instr × Nat))).all (dcB cX4_unstep) = true := by decide +kernel
theorem dX4_unstep_0 : decode cX4_unstep 0 = .ok (.aload_n 0, 1) := dget dkX4_unstep_0 0 rfl
theorem dX4_unstep_1 : decode cX4_unstep 1 = .ok (.iload_n 1, 1) := dget dkX4_unstep_0 1 rfl
theorem dX4_unstep_2 : decode cX4_unstep 2 = .ok (.invokevirtual 124, 3) := dget dkX4_unstep_0 2 rfl
theorem dX4_unstep_5 : decode cX4_unstep 5 = .ok (.astore_n 2, 1) := dget dkX4_unstep_0 3 rfl
theorem dX4_unstep_6 : decode cX4_unstep 6 = .ok (.aload_n 2, 1) := dget dkX4_unstep_0 4 rfl
theorem dX4_unstep_7 : decode cX4_unstep 7 = .ok (.invokevirtual 200, 3) := dget dkX4_unstep_0 5 rfl
theorem dX4_unstep_10 : decode cX4_unstep 10 = .ok (.ifCond .ne 8, 3) := dget dkX4_unstep_0 6 rfl
theorem dX4_unstep_13 : decode cX4_unstep 13 = .ok (.aload_n 0, 1) := dget dkX4_unstep_0 7 rfl
theorem dX4_unstep_14 : decode cX4_unstep 14 = .ok (.invokevirtual 79, 3) := dget dkX4_unstep_0 8 rfl
theorem dX4_unstep_17 : decode cX4_unstep 17 = .ok (.ireturn, 1) := dget dkX4_unstep_0 9 rfl
theorem dX4_unstep_18 : decode cX4_unstep 18 = .ok (.aload_n 2, 1) := dget dkX4_unstep_0 10 rfl
theorem dX4_unstep_19 : decode cX4_unstep 19 = .ok (.aload_n 2, 1) := dget dkX4_unstep_0 11 rfl
theorem dX4_unstep_20 : decode cX4_unstep 20 = .ok (.invokevirtual 200, 3) := dget dkX4_unstep_0 12 rfl
theorem dX4_unstep_23 : decode cX4_unstep 23 = .ok (.iconst 1, 1) := dget dkX4_unstep_0 13 rfl
theorem dX4_unstep_24 : decode cX4_unstep 24 = .ok (.isub, 1) := dget dkX4_unstep_0 14 rfl
theorem dX4_unstep_25 : decode cX4_unstep 25 = .ok (.invokevirtual 207, 3) := dget dkX4_unstep_0 15 rfl
theorem dX4_unstep_28 : decode cX4_unstep 28 = .ok (.istore_n 3, 1) := dget dkX4_unstep_0 16 rfl
theorem dX4_unstep_29 : decode cX4_unstep 29 = .ok (.aload_n 2, 1) := dget dkX4_unstep_0 17 rfl
theorem dX4_unstep_30 : decode cX4_unstep 30 = .ok (.invokevirtual 210, 3) := dget dkX4_unstep_0 18 rfl
theorem dX4_unstep_33 : decode cX4_unstep 33 = .ok (.iload_n 3, 1) := dget dkX4_unstep_0 19 rfl
theorem dX4_unstep_34 : decode cX4_unstep 34 = .ok (.ireturn, 1) := dget dkX4_unstep_0 20 rfl
theorem ggX4_wipe_X4_orderAt : GoodIn wsX4_wipe wsX4_orderAt := tgCall 511 e_X4_orderAt (by decide +kernel)
theorem gX4_wipe_X4_orderAt : GoodIn wsX4_wipe (wsV RX4 124 RX4 yX4_orderAt wsX4_orderAt) := goodIn_app (tgIn [508, 509, 510, 421] (by decide +kernel) rfl) ggX4_wipe_X4_orderAt
theorem ggX4_wipe_X1_length : GoodIn wsX4_wipe wsX1_length := tgCall 65 e_X1_length (by decide +kernel)
theorem gX4_wipe_X1_length : GoodIn wsX4_wipe (wsV RX4 200 RX1 yX1_length wsX1_length) := goodIn_app (tgIn [569, 63, 64, 14] (by decide +kernel) rfl) ggX4_wipe_X1_length
theorem ggX4_wipe_X1_empty : GoodIn wsX4_wipe wsX1_empty := tgCall 583 e_X1_empty (by decide +kernel)
theorem gX4_wipe_X1_empty : GoodIn wsX4_wipe (wsV RX4 213 RX1 yX1_empty wsX1_empty) := goodIn_app (tgIn [580, 581, 582, 14] (by decide +kernel) rfl) ggX4_wipe_X1_empty
theorem dkX4_wipe_0 : ([(0, (.aload_n 0, 1)), (1, (.iload_n 1, 1)), (2, (.invokevirtual 124, 3)), (5, (.astore_n 2, 1)), (6, (.aload_n 2, 1)), (7, (.invokevirtual 200, 3)), (10, (.istore_n 3, 1)), (11, (.aload_n 2, 1)), (12, (.invokevirtual 213, 3)), (15, (.iload_n 3, 1)), (16, (.ireturn, 1))] : List (Nat × (Jvm.ClassFile.Instr × Nat))).all (dcB cX4_wipe) = true := by decide +kernel
theorem dX4_wipe_0 : decode cX4_wipe 0 = .ok (.aload_n 0, 1) := dget dkX4_wipe_0 0 rfl
theorem dX4_wipe_1 : decode cX4_wipe 1 = .ok (.iload_n 1, 1) := dget dkX4_wipe_0 1 rfl
theorem dX4_wipe_2 : decode cX4_wipe 2 = .ok (.invokevirtual 124, 3) := dget dkX4_wipe_0 2 rfl
theorem dX4_wipe_5 : decode cX4_wipe 5 = .ok (.astore_n 2, 1) := dget dkX4_wipe_0 3 rfl
theorem dX4_wipe_6 : decode cX4_wipe 6 = .ok (.aload_n 2, 1) := dget dkX4_wipe_0 4 rfl
theorem dX4_wipe_7 : decode cX4_wipe 7 = .ok (.invokevirtual 200, 3) := dget dkX4_wipe_0 5 rfl
theorem dX4_wipe_10 : decode cX4_wipe 10 = .ok (.istore_n 3, 1) := dget dkX4_wipe_0 6 rfl
theorem dX4_wipe_11 : decode cX4_wipe 11 = .ok (.aload_n 2, 1) := dget dkX4_wipe_0 7 rfl
theorem dX4_wipe_12 : decode cX4_wipe 12 = .ok (.invokevirtual 213, 3) := dget dkX4_wipe_0 8 rfl
theorem dX4_wipe_15 : decode cX4_wipe 15 = .ok (.iload_n 3, 1) := dget dkX4_wipe_0 9 rfl
theorem dX4_wipe_16 : decode cX4_wipe 16 = .ok (.ireturn, 1) := dget dkX4_wipe_0 10 rfl
theorem ggX4_copyOrder_X4_orderAt : GoodIn wsX4_copyOrder wsX4_orderAt := tgCall 511 e_X4_orderAt (by decide +kernel)
theorem gX4_copyOrder_X4_orderAt : GoodIn wsX4_copyOrder (wsV RX4 124 RX4 yX4_orderAt wsX4_orderAt) := goodIn_app (tgIn [508, 509, 510, 421] (by decide +kernel) rfl) ggX4_copyOrder_X4_orderAt
theorem ggX4_copyOrder_X1_becomeCopyOf : GoodIn wsX4_copyOrder wsX1_becomeCopyOf := tgCall 201 e_X1_becomeCopyOf (by decide +kernel)
theorem gX4_copyOrder_X1_becomeCopyOf : GoodIn wsX4_copyOrder (wsV RX4 214 RX1 yX1_becomeCopyOf wsX1_becomeCopyOf) := goodIn_app (tgIn [584, 199, 200, 14] (by decide +kernel) rfl) ggX4_copyOrder_X1_becomeCopyOf
theorem ggX4_copyOrder_X1_length : GoodIn wsX4_copyOrder wsX1_length := tgCall 65 e_X1_length (by decide +kernel)
theorem gX4_copyOrder_X1_length : GoodIn wsX4_copyOrder (wsV RX4 200 RX1 yX1_length wsX1_length) := goodIn_app (tgIn [569, 63, 64, 14] (by decide +kernel) rfl) ggX4_copyOrder_X1_length
theorem dkX4_copyOrder_0 : ([(0, (.aload_n 0, 1)), (1, (.iload_n 1, 1)), (2, (.invokevirtual 124, 3)), (5, (.astore_n 3, 1)), (6, (.aload_n 0, 1)), (7, (.iload_n 2, 1)), (8, (.invokevirtual 124, 3)), (11, (.astore 4, 2)), (13, (.aload 4, 2)), (15, (.aload_n 3, 1)), (16, (.invokevirtual 214, 3)), (19, (.aload 4, 2)), (21, (.invokevirtual 200, 3)), (24, (.ireturn, 1))] : List (Nat × (Jvm.ClassFile.Instr × Nat))).all (dcB cX4_copyOrder) = true := by decide +kernel
theorem dX4_copyOrder_0 : decode cX4_copyOrder 0 = .ok (.aload_n 0, 1) := dget dkX4_copyOrder_0 0 rfl
theorem dX4_copyOrder_1 : decode cX4_copyOrder 1 = .ok (.iload_n 1, 1) := dget dkX4_copyOrder_0 1 rfl
theorem dX4_copyOrder_2 : decode cX4_copyOrder 2 = .ok (.invokevirtual 124, 3) := dget dkX4_copyOrder_0 2 rfl
theorem dX4_copyOrder_5 : decode cX4_copyOrder 5 = .ok (.astore_n 3, 1) := dget dkX4_copyOrder_0 3 rfl
theorem dX4_copyOrder_6 : decode cX4_copyOrder 6 = .ok (.aload_n 0, 1) := dget dkX4_copyOrder_0 4 rfl
theorem dX4_copyOrder_7 : decode cX4_copyOrder 7 = .ok (.iload_n 2, 1) := dget dkX4_copyOrder_0 5 rfl
theorem dX4_copyOrder_8 : decode cX4_copyOrder 8 = .ok (.invokevirtual 124, 3) := dget dkX4_copyOrder_0 6 rfl
theorem dX4_copyOrder_11 : decode cX4_copyOrder 11 = .ok (.astore 4, 2) := dget dkX4_copyOrder_0 7 rfl
theorem dX4_copyOrder_13 : decode cX4_copyOrder 13 = .ok (.aload 4, 2) := dget dkX4_copyOrder_0 8 rfl
theorem dX4_copyOrder_15 : decode cX4_copyOrder 15 = .ok (.aload_n 3, 1) := dget dkX4_copyOrder_0 9 rfl
theorem dX4_copyOrder_16 : decode cX4_copyOrder 16 = .ok (.invokevirtual 214, 3) := dget dkX4_copyOrder_0 10 rfl
theorem dX4_copyOrder_19 : decode cX4_copyOrder 19 = .ok (.aload 4, 2) := dget dkX4_copyOrder_0 11 rfl
theorem dX4_copyOrder_21 : decode cX4_copyOrder 21 = .ok (.invokevirtual 200, 3) := dget dkX4_copyOrder_0 12 rfl
theorem dX4_copyOrder_24 : decode cX4_copyOrder 24 = .ok (.ireturn, 1) := dget dkX4_copyOrder_0 13 rfl
theorem ggX4_turn_X4_orderAt : GoodIn wsX4_turn wsX4_orderAt := tgCall 511 e_X4_orderAt (by decide +kernel)
theorem gX4_turn_X4_orderAt : GoodIn wsX4_turn (wsV RX4 124 RX4 yX4_orderAt wsX4_orderAt) := goodIn_app (tgIn [508, 509, 510, 421] (by decide +kernel) rfl) ggX4_turn_X4_orderAt
theorem ggX4_turn_X1_reverse : GoodIn wsX4_turn wsX1_reverse := tgCall 205 e_X1_reverse (by decide +kernel)
theorem gX4_turn_X1_reverse : GoodIn wsX4_turn (wsV RX4 217 RX1 yX1_reverse wsX1_reverse) := goodIn_app (tgIn [585, 203, 204, 14] (by decide +kernel) rfl) ggX4_turn_X1_reverse
theorem ggX4_turn_X1_downSteps : GoodIn wsX4_turn wsX1_downSteps := tgCall 589 e_X1_downSteps (by decide +kernel)
theorem gX4_turn_X1_downSteps : GoodIn wsX4_turn (wsV RX4 218 RX1 yX1_downSteps wsX1_downSteps) := goodIn_app (tgIn [586, 587, 588, 14] (by decide +kernel) rfl) ggX4_turn_X1_downSteps
theorem dkX4_turn_0 : ([(0, (.aload_n 0, 1)), (1, (.iload_n 1, 1)), (2, (.invokevirtual 124, 3)), (5, (.astore_n 2, 1)), (6, (.aload_n 2, 1)), (7, (.invokevirtual 217, 3)), (10, (.aload_n 2, 1)), (11, (.invokevirtual 218, 3)), (14, (.ireturn, 1))] : List (Nat × (Jvm.ClassFile.Instr × Nat))).all (dcB cX4_turn) = true := by decide +kernel
theorem dX4_turn_0 : decode cX4_turn 0 = .ok (.aload_n 0, 1) := dget dkX4_turn_0 0 rfl
theorem dX4_turn_1 : decode cX4_turn 1 = .ok (.iload_n 1, 1) := dget dkX4_turn_0 1 rfl
theorem dX4_turn_2 : decode cX4_turn 2 = .ok (.invokevirtual 124, 3) := dget dkX4_turn_0 2 rfl
theorem dX4_turn_5 : decode cX4_turn 5 = .ok (.astore_n 2, 1) := dget dkX4_turn_0 3 rfl
theorem dX4_turn_6 : decode cX4_turn 6 = .ok (.aload_n 2, 1) := dget dkX4_turn_0 4 rfl
theorem dX4_turn_7 : decode cX4_turn 7 = .ok (.invokevirtual 217, 3) := dget dkX4_turn_0 5 rfl
theorem dX4_turn_10 : decode cX4_turn 10 = .ok (.aload_n 2, 1) := dget dkX4_turn_0 6 rfl
theorem dX4_turn_11 : decode cX4_turn 11 = .ok (.invokevirtual 218, 3) := dget dkX4_turn_0 7 rfl
theorem dX4_turn_14 : decode cX4_turn 14 = .ok (.ireturn, 1) := dget dkX4_turn_0 8 rfl
theorem ggX4_product_X4_orderAt : GoodIn wsX4_product wsX4_orderAt := tgCall 511 e_X4_orderAt (by decide +kernel)
theorem gX4_product_X4_orderAt : GoodIn wsX4_product (wsV RX4 124 RX4 yX4_orderAt wsX4_orderAt) := goodIn_app (tgIn [508, 509, 510, 421] (by decide +kernel) rfl) ggX4_product_X4_orderAt
theorem ggX4_product_X1_length : GoodIn wsX4_product wsX1_length := tgCall 65 e_X1_length (by decide +kernel)
theorem gX4_product_X1_length : GoodIn wsX4_product (wsV RX4 200 RX1 yX1_length wsX1_length) := goodIn_app (tgIn [569, 63, 64, 14] (by decide +kernel) rfl) ggX4_product_X1_length
theorem ggX4_product_X4_refuse : GoodIn wsX4_product wsX4_refuse := tgCall 464 e_X4_refuse (by decide +kernel)
theorem gX4_product_X4_refuse : GoodIn wsX4_product (wsV RX4 79 RX4 yX4_refuse wsX4_refuse) := goodIn_app (tgIn [461, 462, 463, 421] (by decide +kernel) rfl) ggX4_product_X4_refuse
theorem ggX4_product_X1_becomeProductOf : GoodIn wsX4_product wsX1_becomeProductOf := tgCall 141 e_X1_becomeProductOf (by decide +kernel)
theorem gX4_product_X1_becomeProductOf : GoodIn wsX4_product (wsV RX4 221 RX1 yX1_becomeProductOf wsX1_becomeProductOf) := goodIn_app (tgIn [590, 139, 140, 14] (by decide +kernel) rfl) ggX4_product_X1_becomeProductOf
theorem ggX4_product_X1_becomeCopyOf : GoodIn wsX4_product wsX1_becomeCopyOf := tgCall 201 e_X1_becomeCopyOf (by decide +kernel)
theorem gX4_product_X1_becomeCopyOf : GoodIn wsX4_product (wsV RX4 214 RX1 yX1_becomeCopyOf wsX1_becomeCopyOf) := goodIn_app (tgIn [584, 199, 200, 14] (by decide +kernel) rfl) ggX4_product_X1_becomeCopyOf
theorem ggX4_product_X1_classCount : GoodIn wsX4_product wsX1_classCount := tgCall 149 e_X1_classCount (by decide +kernel)
theorem gX4_product_X1_classCount : GoodIn wsX4_product (wsV RX4 204 RX1 yX1_classCount wsX1_classCount) := goodIn_app (tgIn [574, 147, 148, 14] (by decide +kernel) rfl) ggX4_product_X1_classCount
theorem dkX4_product_0 : ([(0, (.aload_n 0, 1)), (1, (.iload_n 1, 1)), (2, (.invokevirtual 124, 3)), (5, (.astore 4, 2)), (7, (.aload_n 0, 1)), (8, (.iload_n 2, 1)), (9, (.invokevirtual 124, 3)), (12, (.astore 5, 2)), (14, (.aload_n 0, 1)), (15, (.iload_n 3, 1)), (16, (.invokevirtual 124, 3)), (19, (.astore 6, 2)), (21, (.aload 4, 2)), (23, (.invokevirtual 200, 3)), (26, (.aload 5, 2)), (28, (.invokevirtual 200, 3)), (31, (.iadd, 1)), (32, (.iconst 5, 1)), (33, (.if_icmp .le 8, 3)), (36, (.aload_n 0, 1)), (37, (.invokevirtual 79, 3)), (40, (.ireturn, 1)), (41, (.aload_n 0, 1)), (42, (.getfield 41, 3)), (45, (.aload 4, 2)), (47, (.aload 5, 2)), (49, (.invokevirtual 221, 3)), (52, (.aload 6, 2)), (54, (.aload_n 0, 1)), (55, (.getfield 41, 3)), (58, (.invokevirtual 214, 3)), (61, (.aload 6, 2)), (63, (.invokevirtual 204, 3)), (66, (.ireturn, 1))] : List (Nat × (Jvm.ClassFile.Instr × Nat))).all (dcB cX4_product) = true := by decide +kernel
theorem dX4_product_0 : decode cX4_product 0 = .ok (.aload_n 0, 1) := dget dkX4_product_0 0 rfl
theorem dX4_product_1 : decode cX4_product 1 = .ok (.iload_n 1, 1) := dget dkX4_product_0 1 rfl
theorem dX4_product_2 : decode cX4_product 2 = .ok (.invokevirtual 124, 3) := dget dkX4_product_0 2 rfl
theorem dX4_product_5 : decode cX4_product 5 = .ok (.astore 4, 2) := dget dkX4_product_0 3 rfl
theorem dX4_product_7 : decode cX4_product 7 = .ok (.aload_n 0, 1) := dget dkX4_product_0 4 rfl
theorem dX4_product_8 : decode cX4_product 8 = .ok (.iload_n 2, 1) := dget dkX4_product_0 5 rfl
theorem dX4_product_9 : decode cX4_product 9 = .ok (.invokevirtual 124, 3) := dget dkX4_product_0 6 rfl
theorem dX4_product_12 : decode cX4_product 12 = .ok (.astore 5, 2) := dget dkX4_product_0 7 rfl
theorem dX4_product_14 : decode cX4_product 14 = .ok (.aload_n 0, 1) := dget dkX4_product_0 8 rfl
theorem dX4_product_15 : decode cX4_product 15 = .ok (.iload_n 3, 1) := dget dkX4_product_0 9 rfl
theorem dX4_product_16 : decode cX4_product 16 = .ok (.invokevirtual 124, 3) := dget dkX4_product_0 10 rfl
theorem dX4_product_19 : decode cX4_product 19 = .ok (.astore 6, 2) := dget dkX4_product_0 11 rfl
theorem dX4_product_21 : decode cX4_product 21 = .ok (.aload 4, 2) := dget dkX4_product_0 12 rfl
theorem dX4_product_23 : decode cX4_product 23 = .ok (.invokevirtual 200, 3) := dget dkX4_product_0 13 rfl
theorem dX4_product_26 : decode cX4_product 26 = .ok (.aload 5, 2) := dget dkX4_product_0 14 rfl
theorem dX4_product_28 : decode cX4_product 28 = .ok (.invokevirtual 200, 3) := dget dkX4_product_0 15 rfl
theorem dX4_product_31 : decode cX4_product 31 = .ok (.iadd, 1) := dget dkX4_product_0 16 rfl
theorem dX4_product_32 : decode cX4_product 32 = .ok (.iconst 5, 1) := dget dkX4_product_0 17 rfl
theorem dX4_product_33 : decode cX4_product 33 = .ok (.if_icmp .le 8, 3) := dget dkX4_product_0 18 rfl
theorem dX4_product_36 : decode cX4_product 36 = .ok (.aload_n 0, 1) := dget dkX4_product_0 19 rfl
theorem dX4_product_37 : decode cX4_product 37 = .ok (.invokevirtual 79, 3) := dget dkX4_product_0 20 rfl
theorem dX4_product_40 : decode cX4_product 40 = .ok (.ireturn, 1) := dget dkX4_product_0 21 rfl
theorem dX4_product_41 : decode cX4_product 41 = .ok (.aload_n 0, 1) := dget dkX4_product_0 22 rfl
theorem dX4_product_42 : decode cX4_product 42 = .ok (.getfield 41, 3) := dget dkX4_product_0 23 rfl
theorem dX4_product_45 : decode cX4_product 45 = .ok (.aload 4, 2) := dget dkX4_product_0 24 rfl
theorem dX4_product_47 : decode cX4_product 47 = .ok (.aload 5, 2) := dget dkX4_product_0 25 rfl
theorem dX4_product_49 : decode cX4_product 49 = .ok (.invokevirtual 221, 3) := dget dkX4_product_0 26 rfl
theorem dX4_product_52 : decode cX4_product 52 = .ok (.aload 6, 2) := dget dkX4_product_0 27 rfl
theorem dX4_product_54 : decode cX4_product 54 = .ok (.aload_n 0, 1) := dget dkX4_product_0 28 rfl
theorem dX4_product_55 : decode cX4_product 55 = .ok (.getfield 41, 3) := dget dkX4_product_0 29 rfl
theorem dX4_product_58 : decode cX4_product 58 = .ok (.invokevirtual 214, 3) := dget dkX4_product_0 30 rfl
theorem dX4_product_61 : decode cX4_product 61 = .ok (.aload 6, 2) := dget dkX4_product_0 31 rfl
theorem dX4_product_63 : decode cX4_product 63 = .ok (.invokevirtual 204, 3) := dget dkX4_product_0 32 rfl
theorem dX4_product_66 : decode cX4_product 66 = .ok (.ireturn, 1) := dget dkX4_product_0 33 rfl
theorem ggX4_tellApart_X4_orderAt : GoodIn wsX4_tellApart wsX4_orderAt := tgCall 511 e_X4_orderAt (by decide +kernel)
theorem gX4_tellApart_X4_orderAt : GoodIn wsX4_tellApart (wsV RX4 124 RX4 yX4_orderAt wsX4_orderAt) := goodIn_app (tgIn [508, 509, 510, 421] (by decide +kernel) rfl) ggX4_tellApart_X4_orderAt
theorem ggX4_tellApart_X4_demandValue : GoodIn wsX4_tellApart wsX4_demandValue := tgCall 481 e_X4_demandValue (by decide +kernel)
theorem gX4_tellApart_X4_demandValue : GoodIn wsX4_tellApart (va_wsS RX4 59 yX4_demandValue wsX4_demandValue) := goodIn_app (tgIn [479, 480, 421] (by decide +kernel) rfl) ggX4_tellApart_X4_demandValue
theorem ggX4_tellApart_X1_compared : GoodIn wsX4_tellApart wsX1_compared := tgCall 93 e_X1_compared (by decide +kernel)
theorem gX4_tellApart_X1_compared : GoodIn wsX4_tellApart (wsV RX4 225 RX1 yX1_compared wsX1_compared) := goodIn_app (tgIn [592, 91, 92, 14] (by decide +kernel) rfl) ggX4_tellApart_X1_compared
theorem ggX4_tellApart_X1_length : GoodIn wsX4_tellApart wsX1_length := tgCall 65 e_X1_length (by decide +kernel)
theorem gX4_tellApart_X1_length : GoodIn wsX4_tellApart (wsV RX4 200 RX1 yX1_length wsX1_length) := goodIn_app (tgIn [569, 63, 64, 14] (by decide +kernel) rfl) ggX4_tellApart_X1_length
theorem ggX4_tellApart_X4_refuse : GoodIn wsX4_tellApart wsX4_refuse := tgCall 464 e_X4_refuse (by decide +kernel)
theorem gX4_tellApart_X4_refuse : GoodIn wsX4_tellApart (wsV RX4 79 RX4 yX4_refuse wsX4_refuse) := goodIn_app (tgIn [461, 462, 463, 421] (by decide +kernel) rfl) ggX4_tellApart_X4_refuse
theorem ggX4_tellApart_X4_coarsestKey : GoodIn wsX4_tellApart wsX4_coarsestKey := tgCall 596 e_X4_coarsestKey (by decide +kernel)
theorem gX4_tellApart_X4_coarsestKey : GoodIn wsX4_tellApart (wsV RX4 228 RX4 yX4_coarsestKey wsX4_coarsestKey) := goodIn_app (tgIn [593, 594, 595, 421] (by decide +kernel) rfl) ggX4_tellApart_X4_coarsestKey
theorem ggX4_tellApart_X1_append : GoodIn wsX4_tellApart wsX1_append := tgCall 573 e_X1_append (by decide +kernel)
theorem gX4_tellApart_X1_append : GoodIn wsX4_tellApart (wsV RX4 201 RX1 yX1_append wsX1_append) := goodIn_app (tgIn [570, 571, 572, 14] (by decide +kernel) rfl) ggX4_tellApart_X1_append
theorem dkX4_tellApart_0 : ([(0, (.aload_n 0, 1)), (1, (.iload_n 1, 1)), (2, (.invokevirtual 124, 3)), (5, (.astore 4, 2)), (7, (.iload_n 2, 1)), (8, (.invokestatic 59, 3)), (11, (.iload_n 3, 1)), (12, (.invokestatic 59, 3)), (15, (.iload_n 2, 1)), (16, (.iload_n 3, 1)), (17, (.if_icmp .eq 22, 3)), (20, (.aload 4, 2)), (22, (.iload_n 2, 1)), (23, (.iload_n 3, 1)), (24, (.invokevirtual 225, 3)), (27, (.ifCond .ne 12, 3)), (30, (.aload 4, 2)), (32, (.invokevirtual 200, 3)), (35, (.iconst 5, 1)), (36, (.if_icmp .lt 8, 3)), (39, (.aload_n 0, 1)), (40, (.invokevirtual 79, 3)), (43, (.ireturn, 1)), (44, (.aload_n 0, 1)), (45, (.aload 4, 2)), (47, (.iload_n 2, 1)), (48, (.iload_n 3, 1)), (49, (.invokevirtual 228, 3)), (52, (.istore 5, 2)), (54, (.aload 4, 2)), (56, (.iload 5, 2)), (58, (.iconst 0, 1)), (59, (.invokevirtual 201, 3)), (62, (.iload 5, 2)), (64, (.ireturn, 1))] : List (Nat × (Jvm.ClassFile.Instr × Nat))).all (dcB cX4_tellApart) = true := by decide +kernel
theorem dX4_tellApart_0 : decode cX4_tellApart 0 = .ok (.aload_n 0, 1) := dget dkX4_tellApart_0 0 rfl
theorem dX4_tellApart_1 : decode cX4_tellApart 1 = .ok (.iload_n 1, 1) := dget dkX4_tellApart_0 1 rfl
theorem dX4_tellApart_2 : decode cX4_tellApart 2 = .ok (.invokevirtual 124, 3) := dget dkX4_tellApart_0 2 rfl
theorem dX4_tellApart_5 : decode cX4_tellApart 5 = .ok (.astore 4, 2) := dget dkX4_tellApart_0 3 rfl
theorem dX4_tellApart_7 : decode cX4_tellApart 7 = .ok (.iload_n 2, 1) := dget dkX4_tellApart_0 4 rfl
theorem dX4_tellApart_8 : decode cX4_tellApart 8 = .ok (.invokestatic 59, 3) := dget dkX4_tellApart_0 5 rfl
theorem dX4_tellApart_11 : decode cX4_tellApart 11 = .ok (.iload_n 3, 1) := dget dkX4_tellApart_0 6 rfl
theorem dX4_tellApart_12 : decode cX4_tellApart 12 = .ok (.invokestatic 59, 3) := dget dkX4_tellApart_0 7 rfl
theorem dX4_tellApart_15 : decode cX4_tellApart 15 = .ok (.iload_n 2, 1) := dget dkX4_tellApart_0 8 rfl
theorem dX4_tellApart_16 : decode cX4_tellApart 16 = .ok (.iload_n 3, 1) := dget dkX4_tellApart_0 9 rfl
theorem dX4_tellApart_17 : decode cX4_tellApart 17 = .ok (.if_icmp .eq 22, 3) := dget dkX4_tellApart_0 10 rfl
theorem dX4_tellApart_20 : decode cX4_tellApart 20 = .ok (.aload 4, 2) := dget dkX4_tellApart_0 11 rfl
theorem dX4_tellApart_22 : decode cX4_tellApart 22 = .ok (.iload_n 2, 1) := dget dkX4_tellApart_0 12 rfl
theorem dX4_tellApart_23 : decode cX4_tellApart 23 = .ok (.iload_n 3, 1) := dget dkX4_tellApart_0 13 rfl
theorem dX4_tellApart_24 : decode cX4_tellApart 24 = .ok (.invokevirtual 225, 3) := dget dkX4_tellApart_0 14 rfl
theorem dX4_tellApart_27 : decode cX4_tellApart 27 = .ok (.ifCond .ne 12, 3) := dget dkX4_tellApart_0 15 rfl
theorem dX4_tellApart_30 : decode cX4_tellApart 30 = .ok (.aload 4, 2) := dget dkX4_tellApart_0 16 rfl
theorem dX4_tellApart_32 : decode cX4_tellApart 32 = .ok (.invokevirtual 200, 3) := dget dkX4_tellApart_0 17 rfl
theorem dX4_tellApart_35 : decode cX4_tellApart 35 = .ok (.iconst 5, 1) := dget dkX4_tellApart_0 18 rfl
theorem dX4_tellApart_36 : decode cX4_tellApart 36 = .ok (.if_icmp .lt 8, 3) := dget dkX4_tellApart_0 19 rfl
theorem dX4_tellApart_39 : decode cX4_tellApart 39 = .ok (.aload_n 0, 1) := dget dkX4_tellApart_0 20 rfl
theorem dX4_tellApart_40 : decode cX4_tellApart 40 = .ok (.invokevirtual 79, 3) := dget dkX4_tellApart_0 21 rfl
theorem dX4_tellApart_43 : decode cX4_tellApart 43 = .ok (.ireturn, 1) := dget dkX4_tellApart_0 22 rfl
theorem dX4_tellApart_44 : decode cX4_tellApart 44 = .ok (.aload_n 0, 1) := dget dkX4_tellApart_0 23 rfl
theorem dX4_tellApart_45 : decode cX4_tellApart 45 = .ok (.aload 4, 2) := dget dkX4_tellApart_0 24 rfl
theorem dX4_tellApart_47 : decode cX4_tellApart 47 = .ok (.iload_n 2, 1) := dget dkX4_tellApart_0 25 rfl
theorem dX4_tellApart_48 : decode cX4_tellApart 48 = .ok (.iload_n 3, 1) := dget dkX4_tellApart_0 26 rfl
theorem dX4_tellApart_49 : decode cX4_tellApart 49 = .ok (.invokevirtual 228, 3) := dget dkX4_tellApart_0 27 rfl
theorem dX4_tellApart_52 : decode cX4_tellApart 52 = .ok (.istore 5, 2) := dget dkX4_tellApart_0 28 rfl
theorem dX4_tellApart_54 : decode cX4_tellApart 54 = .ok (.aload 4, 2) := dget dkX4_tellApart_0 29 rfl
theorem dX4_tellApart_56 : decode cX4_tellApart 56 = .ok (.iload 5, 2) := dget dkX4_tellApart_0 30 rfl
theorem dX4_tellApart_58 : decode cX4_tellApart 58 = .ok (.iconst 0, 1) := dget dkX4_tellApart_0 31 rfl
theorem dX4_tellApart_59 : decode cX4_tellApart 59 = .ok (.invokevirtual 201, 3) := dget dkX4_tellApart_0 32 rfl
theorem dX4_tellApart_62 : decode cX4_tellApart 62 = .ok (.iload 5, 2) := dget dkX4_tellApart_0 33 rfl
theorem dX4_tellApart_64 : decode cX4_tellApart 64 = .ok (.ireturn, 1) := dget dkX4_tellApart_0 34 rfl
theorem ggX4_orderText_X4_orderAt : GoodIn wsX4_orderText wsX4_orderAt := tgCall 511 e_X4_orderAt (by decide +kernel)
theorem gX4_orderText_X4_orderAt : GoodIn wsX4_orderText (wsV RX4 124 RX4 yX4_orderAt wsX4_orderAt) := goodIn_app (tgIn [508, 509, 510, 421] (by decide +kernel) rfl) ggX4_orderText_X4_orderAt
theorem ggX4_orderText_X1_told : GoodIn wsX4_orderText wsX1_told := tgCall 600 e_X1_told (by decide +kernel)
theorem gX4_orderText_X1_told : GoodIn wsX4_orderText (wsV RX4 231 RX1 yX1_told wsX1_told) := goodIn_app (tgIn [597, 598, 599, 14] (by decide +kernel) rfl) ggX4_orderText_X1_told
theorem dkX4_orderText_0 : ([(0, (.aload_n 0, 1)), (1, (.iload_n 1, 1)), (2, (.invokevirtual 124, 3)), (5, (.invokevirtual 231, 3)), (8, (.areturn, 1))] : List (Nat × (Jvm.ClassFile.Instr × Nat))).all (dcB cX4_orderText) = true := by decide +kernel
theorem dX4_orderText_0 : decode cX4_orderText 0 = .ok (.aload_n 0, 1) := dget dkX4_orderText_0 0 rfl
theorem dX4_orderText_1 : decode cX4_orderText 1 = .ok (.iload_n 1, 1) := dget dkX4_orderText_0 1 rfl
theorem dX4_orderText_2 : decode cX4_orderText 2 = .ok (.invokevirtual 124, 3) := dget dkX4_orderText_0 2 rfl
theorem dX4_orderText_5 : decode cX4_orderText 5 = .ok (.invokevirtual 231, 3) := dget dkX4_orderText_0 3 rfl
theorem dX4_orderText_8 : decode cX4_orderText 8 = .ok (.areturn, 1) := dget dkX4_orderText_0 4 rfl
theorem ggX4_compare_X4_orderAt : GoodIn wsX4_compare wsX4_orderAt := tgCall 511 e_X4_orderAt (by decide +kernel)
theorem gX4_compare_X4_orderAt : GoodIn wsX4_compare (wsV RX4 124 RX4 yX4_orderAt wsX4_orderAt) := goodIn_app (tgIn [508, 509, 510, 421] (by decide +kernel) rfl) ggX4_compare_X4_orderAt
theorem ggX4_compare_X4_demandValue : GoodIn wsX4_compare wsX4_demandValue := tgCall 481 e_X4_demandValue (by decide +kernel)
theorem gX4_compare_X4_demandValue : GoodIn wsX4_compare (va_wsS RX4 59 yX4_demandValue wsX4_demandValue) := goodIn_app (tgIn [479, 480, 421] (by decide +kernel) rfl) ggX4_compare_X4_demandValue
theorem ggX4_compare_X1_compared : GoodIn wsX4_compare wsX1_compared := tgCall 93 e_X1_compared (by decide +kernel)
theorem gX4_compare_X1_compared : GoodIn wsX4_compare (wsV RX4 225 RX1 yX1_compared wsX1_compared) := goodIn_app (tgIn [592, 91, 92, 14] (by decide +kernel) rfl) ggX4_compare_X1_compared
theorem dkX4_compare_0 : ([(0, (.aload_n 0, 1)), (1, (.iload_n 1, 1)), (2, (.invokevirtual 124, 3)), (5, (.astore 4, 2)), (7, (.iload_n 2, 1)), (8, (.invokestatic 59, 3)), (11, (.iload_n 3, 1)), (12, (.invokestatic 59, 3)), (15, (.aload 4, 2)), (17, (.iload_n 2, 1)), (18, (.iload_n 3, 1)), (19, (.invokevirtual 225, 3)), (22, (.ireturn, 1))] : List (Nat × (Jvm.ClassFile.Instr × Nat))).all (dcB cX4_compare) = true := by decide +kernel
theorem dX4_compare_0 : decode cX4_compare 0 = .ok (.aload_n 0, 1) := dget dkX4_compare_0 0 rfl
theorem dX4_compare_1 : decode cX4_compare 1 = .ok (.iload_n 1, 1) := dget dkX4_compare_0 1 rfl
theorem dX4_compare_2 : decode cX4_compare 2 = .ok (.invokevirtual 124, 3) := dget dkX4_compare_0 2 rfl
theorem dX4_compare_5 : decode cX4_compare 5 = .ok (.astore 4, 2) := dget dkX4_compare_0 3 rfl
theorem dX4_compare_7 : decode cX4_compare 7 = .ok (.iload_n 2, 1) := dget dkX4_compare_0 4 rfl
theorem dX4_compare_8 : decode cX4_compare 8 = .ok (.invokestatic 59, 3) := dget dkX4_compare_0 5 rfl
theorem dX4_compare_11 : decode cX4_compare 11 = .ok (.iload_n 3, 1) := dget dkX4_compare_0 6 rfl
theorem dX4_compare_12 : decode cX4_compare 12 = .ok (.invokestatic 59, 3) := dget dkX4_compare_0 7 rfl
theorem dX4_compare_15 : decode cX4_compare 15 = .ok (.aload 4, 2) := dget dkX4_compare_0 8 rfl
theorem dX4_compare_17 : decode cX4_compare 17 = .ok (.iload_n 2, 1) := dget dkX4_compare_0 9 rfl
theorem dX4_compare_18 : decode cX4_compare 18 = .ok (.iload_n 3, 1) := dget dkX4_compare_0 10 rfl
theorem dX4_compare_19 : decode cX4_compare 19 = .ok (.invokevirtual 225, 3) := dget dkX4_compare_0 11 rfl
theorem dX4_compare_22 : decode cX4_compare 22 = .ok (.ireturn, 1) := dget dkX4_compare_0 12 rfl
theorem ggX4_both_X4_orderAt : GoodIn wsX4_both wsX4_orderAt := tgCall 511 e_X4_orderAt (by decide +kernel)
theorem gX4_both_X4_orderAt : GoodIn wsX4_both (wsV RX4 124 RX4 yX4_orderAt wsX4_orderAt) := goodIn_app (tgIn [508, 509, 510, 421] (by decide +kernel) rfl) ggX4_both_X4_orderAt
theorem ggX4_both_X4_demandValue : GoodIn wsX4_both wsX4_demandValue := tgCall 481 e_X4_demandValue (by decide +kernel)
theorem gX4_both_X4_demandValue : GoodIn wsX4_both (va_wsS RX4 59 yX4_demandValue wsX4_demandValue) := goodIn_app (tgIn [479, 480, 421] (by decide +kernel) rfl) ggX4_both_X4_demandValue
theorem ggX4_both_X4_comparedByBoth : GoodIn wsX4_both wsX4_comparedByBoth := tgCall 603 e_X4_comparedByBoth (by decide +kernel)
theorem gX4_both_X4_comparedByBoth : GoodIn wsX4_both (va_wsS RX4 232 yX4_comparedByBoth wsX4_comparedByBoth) := goodIn_app (tgIn [601, 602, 421] (by decide +kernel) rfl) ggX4_both_X4_comparedByBoth
theorem dkX4_both_0 : ([(0, (.aload_n 0, 1)), (1, (.iload_n 1, 1)), (2, (.invokevirtual 124, 3)), (5, (.astore 5, 2)), (7, (.aload_n 0, 1)), (8, (.iload_n 2, 1)), (9, (.invokevirtual 124, 3)), (12, (.astore 6, 2)), (14, (.iload_n 3, 1)), (15, (.invokestatic 59, 3)), (18, (.iload 4, 2)), (20, (.invokestatic 59, 3)), (23, (.aload 5, 2)), (25, (.aload 6, 2)), (27, (.iload_n 3, 1)), (28, (.iload 4, 2)), (30, (.invokestatic 232, 3)), (33, (.ireturn, 1))] : List (Nat × (Jvm.ClassFile.Instr × Nat))).all (dcB cX4_both) = true := by decide +kernel
theorem dX4_both_0 : decode cX4_both 0 = .ok (.aload_n 0, 1) := dget dkX4_both_0 0 rfl
theorem dX4_both_1 : decode cX4_both 1 = .ok (.iload_n 1, 1) := dget dkX4_both_0 1 rfl
theorem dX4_both_2 : decode cX4_both 2 = .ok (.invokevirtual 124, 3) := dget dkX4_both_0 2 rfl
theorem dX4_both_5 : decode cX4_both 5 = .ok (.astore 5, 2) := dget dkX4_both_0 3 rfl
theorem dX4_both_7 : decode cX4_both 7 = .ok (.aload_n 0, 1) := dget dkX4_both_0 4 rfl
theorem dX4_both_8 : decode cX4_both 8 = .ok (.iload_n 2, 1) := dget dkX4_both_0 5 rfl
theorem dX4_both_9 : decode cX4_both 9 = .ok (.invokevirtual 124, 3) := dget dkX4_both_0 6 rfl
theorem dX4_both_12 : decode cX4_both 12 = .ok (.astore 6, 2) := dget dkX4_both_0 7 rfl
theorem dX4_both_14 : decode cX4_both 14 = .ok (.iload_n 3, 1) := dget dkX4_both_0 8 rfl
theorem dX4_both_15 : decode cX4_both 15 = .ok (.invokestatic 59, 3) := dget dkX4_both_0 9 rfl
theorem dX4_both_18 : decode cX4_both 18 = .ok (.iload 4, 2) := dget dkX4_both_0 10 rfl
theorem dX4_both_20 : decode cX4_both 20 = .ok (.invokestatic 59, 3) := dget dkX4_both_0 11 rfl
theorem dX4_both_23 : decode cX4_both 23 = .ok (.aload 5, 2) := dget dkX4_both_0 12 rfl
theorem dX4_both_25 : decode cX4_both 25 = .ok (.aload 6, 2) := dget dkX4_both_0 13 rfl
theorem dX4_both_27 : decode cX4_both 27 = .ok (.iload_n 3, 1) := dget dkX4_both_0 14 rfl
theorem dX4_both_28 : decode cX4_both 28 = .ok (.iload 4, 2) := dget dkX4_both_0 15 rfl
theorem dX4_both_30 : decode cX4_both 30 = .ok (.invokestatic 232, 3) := dget dkX4_both_0 16 rfl
theorem dX4_both_33 : decode cX4_both 33 = .ok (.ireturn, 1) := dget dkX4_both_0 17 rfl
theorem ggX4_refines_X4_orderAt : GoodIn wsX4_refines wsX4_orderAt := tgCall 511 e_X4_orderAt (by decide +kernel)
theorem gX4_refines_X4_orderAt : GoodIn wsX4_refines (wsV RX4 124 RX4 yX4_orderAt wsX4_orderAt) := goodIn_app (tgIn [508, 509, 510, 421] (by decide +kernel) rfl) ggX4_refines_X4_orderAt
theorem ggX4_refines_X1_isFinerThan : GoodIn wsX4_refines wsX1_isFinerThan := tgCall 136 e_X1_isFinerThan (by decide +kernel)
theorem gX4_refines_X1_isFinerThan : GoodIn wsX4_refines (wsV RX4 236 RX1 yX1_isFinerThan wsX1_isFinerThan) := goodIn_app (tgIn [659, 134, 135, 14] (by decide +kernel) rfl) ggX4_refines_X1_isFinerThan
theorem dkX4_refines_0 : ([(0, (.aload_n 0, 1)), (1, (.iload_n 1, 1)), (2, (.invokevirtual 124, 3)), (5, (.astore_n 3, 1)), (6, (.aload_n 3, 1)), (7, (.aload_n 0, 1)), (8, (.iload_n 2, 1)), (9, (.invokevirtual 124, 3)), (12, (.invokevirtual 236, 3)), (15, (.ireturn, 1))] : List (Nat × (Jvm.ClassFile.Instr × Nat))).all (dcB cX4_refines) = true := by decide +kernel
theorem dX4_refines_0 : decode cX4_refines 0 = .ok (.aload_n 0, 1) := dget dkX4_refines_0 0 rfl
theorem dX4_refines_1 : decode cX4_refines 1 = .ok (.iload_n 1, 1) := dget dkX4_refines_0 1 rfl
theorem dX4_refines_2 : decode cX4_refines 2 = .ok (.invokevirtual 124, 3) := dget dkX4_refines_0 2 rfl
theorem dX4_refines_5 : decode cX4_refines 5 = .ok (.astore_n 3, 1) := dget dkX4_refines_0 3 rfl
theorem dX4_refines_6 : decode cX4_refines 6 = .ok (.aload_n 3, 1) := dget dkX4_refines_0 4 rfl
theorem dX4_refines_7 : decode cX4_refines 7 = .ok (.aload_n 0, 1) := dget dkX4_refines_0 5 rfl
theorem dX4_refines_8 : decode cX4_refines 8 = .ok (.iload_n 2, 1) := dget dkX4_refines_0 6 rfl
theorem dX4_refines_9 : decode cX4_refines 9 = .ok (.invokevirtual 124, 3) := dget dkX4_refines_0 7 rfl
theorem dX4_refines_12 : decode cX4_refines 12 = .ok (.invokevirtual 236, 3) := dget dkX4_refines_0 8 rfl
theorem dX4_refines_15 : decode cX4_refines 15 = .ok (.ireturn, 1) := dget dkX4_refines_0 9 rfl
theorem ggX4_areSame_X4_orderAt : GoodIn wsX4_areSame wsX4_orderAt := tgCall 511 e_X4_orderAt (by decide +kernel)
theorem gX4_areSame_X4_orderAt : GoodIn wsX4_areSame (wsV RX4 124 RX4 yX4_orderAt wsX4_orderAt) := goodIn_app (tgIn [508, 509, 510, 421] (by decide +kernel) rfl) ggX4_areSame_X4_orderAt
theorem ggX4_areSame_X1_comparesLike : GoodIn wsX4_areSame wsX1_comparesLike := tgCall 1253 e_X1_comparesLike (by decide +kernel)
theorem gX4_areSame_X1_comparesLike : GoodIn wsX4_areSame (wsV RX4 239 RX1 yX1_comparesLike wsX1_comparesLike) := goodIn_app (tgIn [1250, 1251, 1252, 14] (by decide +kernel) rfl) ggX4_areSame_X1_comparesLike
theorem dkX4_areSame_0 : ([(0, (.aload_n 0, 1)), (1, (.iload_n 1, 1)), (2, (.invokevirtual 124, 3)), (5, (.astore_n 3, 1)), (6, (.aload_n 3, 1)), (7, (.aload_n 0, 1)), (8, (.iload_n 2, 1)), (9, (.invokevirtual 124, 3)), (12, (.invokevirtual 239, 3)), (15, (.ireturn, 1))] : List (Nat × (Jvm.ClassFile.Instr × Nat))).all (dcB cX4_areSame) = true := by decide +kernel
theorem dX4_areSame_0 : decode cX4_areSame 0 = .ok (.aload_n 0, 1) := dget dkX4_areSame_0 0 rfl
theorem dX4_areSame_1 : decode cX4_areSame 1 = .ok (.iload_n 1, 1) := dget dkX4_areSame_0 1 rfl
theorem dX4_areSame_2 : decode cX4_areSame 2 = .ok (.invokevirtual 124, 3) := dget dkX4_areSame_0 2 rfl
theorem dX4_areSame_5 : decode cX4_areSame 5 = .ok (.astore_n 3, 1) := dget dkX4_areSame_0 3 rfl
theorem dX4_areSame_6 : decode cX4_areSame 6 = .ok (.aload_n 3, 1) := dget dkX4_areSame_0 4 rfl
theorem dX4_areSame_7 : decode cX4_areSame 7 = .ok (.aload_n 0, 1) := dget dkX4_areSame_0 5 rfl
theorem dX4_areSame_8 : decode cX4_areSame 8 = .ok (.iload_n 2, 1) := dget dkX4_areSame_0 6 rfl
theorem dX4_areSame_9 : decode cX4_areSame 9 = .ok (.invokevirtual 124, 3) := dget dkX4_areSame_0 7 rfl
theorem dX4_areSame_12 : decode cX4_areSame 12 = .ok (.invokevirtual 239, 3) := dget dkX4_areSame_0 8 rfl
theorem dX4_areSame_15 : decode cX4_areSame 15 = .ok (.ireturn, 1) := dget dkX4_areSame_0 9 rfl
theorem ggX4_apart_X4_orderAt : GoodIn wsX4_apart wsX4_orderAt := tgCall 511 e_X4_orderAt (by decide +kernel)
theorem gX4_apart_X4_orderAt : GoodIn wsX4_apart (wsV RX4 124 RX4 yX4_orderAt wsX4_orderAt) := goodIn_app (tgIn [508, 509, 510, 421] (by decide +kernel) rfl) ggX4_apart_X4_orderAt
theorem ggX4_apart_X4_pairsApart : GoodIn wsX4_apart wsX4_pairsApart := tgCall 658 e_X4_pairsApart (by decide +kernel)
theorem gX4_apart_X4_pairsApart : GoodIn wsX4_apart (va_wsS RX4 242 yX4_pairsApart wsX4_pairsApart) := goodIn_app (tgIn [656, 657, 421] (by decide +kernel) rfl) ggX4_apart_X4_pairsApart
theorem dkX4_apart_0 : ([(0, (.aload_n 0, 1)), (1, (.iload_n 1, 1)), (2, (.invokevirtual 124, 3)), (5, (.astore_n 3, 1)), (6, (.aload_n 3, 1)), (7, (.aload_n 0, 1)), (8, (.iload_n 2, 1)), (9, (.invokevirtual 124, 3)), (12, (.invokestatic 242, 3)), (15, (.ireturn, 1))] : List (Nat × (Jvm.ClassFile.Instr × Nat))).all (dcB cX4_apart) = true := by decide +kernel
theorem dX4_apart_0 : decode cX4_apart 0 = .ok (.aload_n 0, 1) := dget dkX4_apart_0 0 rfl
theorem dX4_apart_1 : decode cX4_apart 1 = .ok (.iload_n 1, 1) := dget dkX4_apart_0 1 rfl
theorem dX4_apart_2 : decode cX4_apart 2 = .ok (.invokevirtual 124, 3) := dget dkX4_apart_0 2 rfl
theorem dX4_apart_5 : decode cX4_apart 5 = .ok (.astore_n 3, 1) := dget dkX4_apart_0 3 rfl
theorem dX4_apart_6 : decode cX4_apart 6 = .ok (.aload_n 3, 1) := dget dkX4_apart_0 4 rfl
theorem dX4_apart_7 : decode cX4_apart 7 = .ok (.aload_n 0, 1) := dget dkX4_apart_0 5 rfl
theorem dX4_apart_8 : decode cX4_apart 8 = .ok (.iload_n 2, 1) := dget dkX4_apart_0 6 rfl
theorem dX4_apart_9 : decode cX4_apart 9 = .ok (.invokevirtual 124, 3) := dget dkX4_apart_0 7 rfl
theorem dX4_apart_12 : decode cX4_apart 12 = .ok (.invokestatic 242, 3) := dget dkX4_apart_0 8 rfl
theorem dX4_apart_15 : decode cX4_apart 15 = .ok (.ireturn, 1) := dget dkX4_apart_0 9 rfl
theorem ggX4_classes_X4_orderAt : GoodIn wsX4_classes wsX4_orderAt := tgCall 511 e_X4_orderAt (by decide +kernel)
theorem gX4_classes_X4_orderAt : GoodIn wsX4_classes (wsV RX4 124 RX4 yX4_orderAt wsX4_orderAt) := goodIn_app (tgIn [508, 509, 510, 421] (by decide +kernel) rfl) ggX4_classes_X4_orderAt
theorem ggX4_classes_X1_classCount : GoodIn wsX4_classes wsX1_classCount := tgCall 149 e_X1_classCount (by decide +kernel)
theorem gX4_classes_X1_classCount : GoodIn wsX4_classes (wsV RX4 204 RX1 yX1_classCount wsX1_classCount) := goodIn_app (tgIn [574, 147, 148, 14] (by decide +kernel) rfl) ggX4_classes_X1_classCount
theorem dkX4_classes_0 : ([(0, (.aload_n 0, 1)), (1, (.iload_n 1, 1)), (2, (.invokevirtual 124, 3)), (5, (.invokevirtual 204, 3)), (8, (.ireturn, 1))] : List (Nat × (Jvm.ClassFile.Instr × Nat))).all (dcB cX4_classes) = true := by decide +kernel
theorem dX4_classes_0 : decode cX4_classes 0 = .ok (.aload_n 0, 1) := dget dkX4_classes_0 0 rfl
theorem dX4_classes_1 : decode cX4_classes 1 = .ok (.iload_n 1, 1) := dget dkX4_classes_0 1 rfl
theorem dX4_classes_2 : decode cX4_classes 2 = .ok (.invokevirtual 124, 3) := dget dkX4_classes_0 2 rfl
theorem dX4_classes_5 : decode cX4_classes 5 = .ok (.invokevirtual 204, 3) := dget dkX4_classes_0 3 rfl
theorem dX4_classes_8 : decode cX4_classes 8 = .ok (.ireturn, 1) := dget dkX4_classes_0 4 rfl
theorem ggX4_rank_X4_orderAt : GoodIn wsX4_rank wsX4_orderAt := tgCall 511 e_X4_orderAt (by decide +kernel)
theorem gX4_rank_X4_orderAt : GoodIn wsX4_rank (wsV RX4 124 RX4 yX4_orderAt wsX4_orderAt) := goodIn_app (tgIn [508, 509, 510, 421] (by decide +kernel) rfl) ggX4_rank_X4_orderAt
theorem ggX4_rank_X4_demandValue : GoodIn wsX4_rank wsX4_demandValue := tgCall 481 e_X4_demandValue (by decide +kernel)
theorem gX4_rank_X4_demandValue : GoodIn wsX4_rank (va_wsS RX4 59 yX4_demandValue wsX4_demandValue) := goodIn_app (tgIn [479, 480, 421] (by decide +kernel) rfl) ggX4_rank_X4_demandValue
theorem ggX4_rank_X1_rankOf : GoodIn wsX4_rank wsX1_rankOf := tgCall 174 e_X1_rankOf (by decide +kernel)
theorem gX4_rank_X1_rankOf : GoodIn wsX4_rank (wsV RX4 162 RX1 yX1_rankOf wsX1_rankOf) := goodIn_app (tgIn [528, 172, 173, 14] (by decide +kernel) rfl) ggX4_rank_X1_rankOf
theorem dkX4_rank_0 : ([(0, (.aload_n 0, 1)), (1, (.iload_n 1, 1)), (2, (.invokevirtual 124, 3)), (5, (.astore_n 3, 1)), (6, (.iload_n 2, 1)), (7, (.invokestatic 59, 3)), (10, (.aload_n 3, 1)), (11, (.iload_n 2, 1)), (12, (.invokevirtual 162, 3)), (15, (.ireturn, 1))] : List (Nat × (Jvm.ClassFile.Instr × Nat))).all (dcB cX4_rank) = true := by decide +kernel
theorem dX4_rank_0 : decode cX4_rank 0 = .ok (.aload_n 0, 1) := dget dkX4_rank_0 0 rfl
theorem dX4_rank_1 : decode cX4_rank 1 = .ok (.iload_n 1, 1) := dget dkX4_rank_0 1 rfl
theorem dX4_rank_2 : decode cX4_rank 2 = .ok (.invokevirtual 124, 3) := dget dkX4_rank_0 2 rfl
theorem dX4_rank_5 : decode cX4_rank 5 = .ok (.astore_n 3, 1) := dget dkX4_rank_0 3 rfl
theorem dX4_rank_6 : decode cX4_rank 6 = .ok (.iload_n 2, 1) := dget dkX4_rank_0 4 rfl
theorem dX4_rank_7 : decode cX4_rank 7 = .ok (.invokestatic 59, 3) := dget dkX4_rank_0 5 rfl
theorem dX4_rank_10 : decode cX4_rank 10 = .ok (.aload_n 3, 1) := dget dkX4_rank_0 6 rfl
theorem dX4_rank_11 : decode cX4_rank 11 = .ok (.iload_n 2, 1) := dget dkX4_rank_0 7 rfl
theorem dX4_rank_12 : decode cX4_rank 12 = .ok (.invokevirtual 162, 3) := dget dkX4_rank_0 8 rfl
theorem dX4_rank_15 : decode cX4_rank 15 = .ok (.ireturn, 1) := dget dkX4_rank_0 9 rfl
theorem ggX4_keyOf_X4_demandWithin : GoodIn wsX4_keyOf wsX4_demandWithin := tgCall 484 e_X4_demandWithin (by decide +kernel)
theorem gX4_keyOf_X4_demandWithin : GoodIn wsX4_keyOf (va_wsS RX4 75 yX4_demandWithin wsX4_demandWithin) := goodIn_app (tgIn [482, 483, 421] (by decide +kernel) rfl) ggX4_keyOf_X4_demandWithin
theorem ggX4_keyOf_X4_demandValue : GoodIn wsX4_keyOf wsX4_demandValue := tgCall 481 e_X4_demandValue (by decide +kernel)
theorem gX4_keyOf_X4_demandValue : GoodIn wsX4_keyOf (va_wsS RX4 59 yX4_demandValue wsX4_demandValue) := goodIn_app (tgIn [479, 480, 421] (by decide +kernel) rfl) ggX4_keyOf_X4_demandValue
theorem ggX4_keyOf_X1_numberBy : GoodIn wsX4_keyOf wsX1_numberBy := tgCall 42 e_X1_numberBy (by decide +kernel)
theorem gX4_keyOf_X1_numberBy : GoodIn wsX4_keyOf (va_wsS RX4 246 yX1_numberBy wsX1_numberBy) := goodIn_app (tgIn [591, 41, 14] (by decide +kernel) rfl) ggX4_keyOf_X1_numberBy
theorem dkX4_keyOf_0 : ([(0, (.iload_n 1, 1)), (1, (.bipush 7, 2)), (3, (.invokestatic 75, 3)), (6, (.iload_n 2, 1)), (7, (.invokestatic 59, 3)), (10, (.iload_n 1, 1)), (11, (.iload_n 2, 1)), (12, (.invokestatic 246, 3)), (15, (.ireturn, 1))] : List (Nat × (Jvm.ClassFile.Instr × Nat))).all (dcB cX4_keyOf) = true := by decide +kernel
theorem dX4_keyOf_0 : decode cX4_keyOf 0 = .ok (.iload_n 1, 1) := dget dkX4_keyOf_0 0 rfl
theorem dX4_keyOf_1 : decode cX4_keyOf 1 = .ok (.bipush 7, 2) := dget dkX4_keyOf_0 1 rfl
theorem dX4_keyOf_3 : decode cX4_keyOf 3 = .ok (.invokestatic 75, 3) := dget dkX4_keyOf_0 2 rfl
theorem dX4_keyOf_6 : decode cX4_keyOf 6 = .ok (.iload_n 2, 1) := dget dkX4_keyOf_0 3 rfl
theorem dX4_keyOf_7 : decode cX4_keyOf 7 = .ok (.invokestatic 59, 3) := dget dkX4_keyOf_0 4 rfl
theorem dX4_keyOf_10 : decode cX4_keyOf 10 = .ok (.iload_n 1, 1) := dget dkX4_keyOf_0 5 rfl
theorem dX4_keyOf_11 : decode cX4_keyOf 11 = .ok (.iload_n 2, 1) := dget dkX4_keyOf_0 6 rfl
theorem dX4_keyOf_12 : decode cX4_keyOf 12 = .ok (.invokestatic 246, 3) := dget dkX4_keyOf_0 7 rfl
theorem dX4_keyOf_15 : decode cX4_keyOf 15 = .ok (.ireturn, 1) := dget dkX4_keyOf_0 8 rfl
theorem dkX4_knock_0 : ([(0, (.aload_n 0, 1)), (1, (.dup, 1)), (2, (.getfield 52, 3)), (5, (.iconst 1, 1)), (6, (.iadd, 1)), (7, (.putfield 52, 3)), (10, (.aload_n 0, 1)), (11, (.getfield 52, 3)), (14, (.ireturn, 1))] : List (Nat × (Jvm.ClassFile.Instr × Nat))).all (dcB cX4_knock) = true := by decide +kernel
theorem dX4_knock_0 : decode cX4_knock 0 = .ok (.aload_n 0, 1) := dget dkX4_knock_0 0 rfl
theorem dX4_knock_1 : decode cX4_knock 1 = .ok (.dup, 1) := dget dkX4_knock_0 1 rfl
theorem dX4_knock_2 : decode cX4_knock 2 = .ok (.getfield 52, 3) := dget dkX4_knock_0 2 rfl
theorem dX4_knock_5 : decode cX4_knock 5 = .ok (.iconst 1, 1) := dget dkX4_knock_0 3 rfl
theorem dX4_knock_6 : decode cX4_knock 6 = .ok (.iadd, 1) := dget dkX4_knock_0 4 rfl
theorem dX4_knock_7 : decode cX4_knock 7 = .ok (.putfield 52, 3) := dget dkX4_knock_0 5 rfl
theorem dX4_knock_10 : decode cX4_knock 10 = .ok (.aload_n 0, 1) := dget dkX4_knock_0 6 rfl
theorem dX4_knock_11 : decode cX4_knock 11 = .ok (.getfield 52, 3) := dget dkX4_knock_0 7 rfl
theorem dX4_knock_14 : decode cX4_knock 14 = .ok (.ireturn, 1) := dget dkX4_knock_0 8 rfl
theorem ggX4_house_X4_demandWithin : GoodIn wsX4_house wsX4_demandWithin := tgCall 484 e_X4_demandWithin (by decide +kernel)
theorem gX4_house_X4_demandWithin : GoodIn wsX4_house (va_wsS RX4 75 yX4_demandWithin wsX4_demandWithin) := goodIn_app (tgIn [482, 483, 421] (by decide +kernel) rfl) ggX4_house_X4_demandWithin
theorem ggX4_house_X4_count : GoodIn wsX4_house wsX4_count := tgCall 615 e_X4_count (by decide +kernel)
theorem gX4_house_X4_count : GoodIn wsX4_house (wsV RX4 249 RX4 yX4_count wsX4_count) := goodIn_app (tgIn [612, 613, 614, 421] (by decide +kernel) rfl) ggX4_house_X4_count
theorem dkX4_house_0 : ([(0, (.iload_n 1, 1)), (1, (.iconst 4, 1)), (2, (.invokestatic 75, 3)), (5, (.aload_n 0, 1)), (6, (.iload_n 1, 1)), (7, (.invokevirtual 249, 3)), (10, (.ireturn, 1))] : List (Nat × (Jvm.ClassFile.Instr × Nat))).all (dcB cX4_house) = true := by decide +kernel
theorem dX4_house_0 : decode cX4_house 0 = .ok (.iload_n 1, 1) := dget dkX4_house_0 0 rfl
theorem dX4_house_1 : decode cX4_house 1 = .ok (.iconst 4, 1) := dget dkX4_house_0 1 rfl
theorem dX4_house_2 : decode cX4_house 2 = .ok (.invokestatic 75, 3) := dget dkX4_house_0 2 rfl
theorem dX4_house_5 : decode cX4_house 5 = .ok (.aload_n 0, 1) := dget dkX4_house_0 3 rfl
theorem dX4_house_6 : decode cX4_house 6 = .ok (.iload_n 1, 1) := dget dkX4_house_0 4 rfl
theorem dX4_house_7 : decode cX4_house 7 = .ok (.invokevirtual 249, 3) := dget dkX4_house_0 5 rfl
theorem dX4_house_10 : decode cX4_house 10 = .ok (.ireturn, 1) := dget dkX4_house_0 6 rfl
theorem ggX4_isSound_X4_orderAt : GoodIn wsX4_isSound wsX4_orderAt := tgCall 511 e_X4_orderAt (by decide +kernel)
theorem gX4_isSound_X4_orderAt : GoodIn wsX4_isSound (wsV RX4 124 RX4 yX4_orderAt wsX4_orderAt) := goodIn_app (tgIn [508, 509, 510, 421] (by decide +kernel) rfl) ggX4_isSound_X4_orderAt
theorem ggX4_isSound_X0_areSignsTurned : GoodIn wsX4_isSound wsX0_areSignsTurned := tgCall 619 e_X0_areSignsTurned (by decide +kernel)
theorem gX4_isSound_X0_areSignsTurned : GoodIn wsX4_isSound (wsV RX4 252 RX0 yX0_areSignsTurned wsX0_areSignsTurned) := goodIn_app (tgIn [616, 617, 618, 130] (by decide +kernel) rfl) ggX4_isSound_X0_areSignsTurned
theorem ggX4_isSound_X0_areRanksAsClasses : GoodIn wsX4_isSound wsX0_areRanksAsClasses := tgCall 623 e_X0_areRanksAsClasses (by decide +kernel)
theorem gX4_isSound_X0_areRanksAsClasses : GoodIn wsX4_isSound (wsV RX4 255 RX0 yX0_areRanksAsClasses wsX0_areRanksAsClasses) := goodIn_app (tgIn [620, 621, 622, 130] (by decide +kernel) rfl) ggX4_isSound_X0_areRanksAsClasses
theorem ggX4_isSound_X4_rowAt : GoodIn wsX4_isSound wsX4_rowAt := tgCall 476 e_X4_rowAt (by decide +kernel)
theorem gX4_isSound_X4_rowAt : GoodIn wsX4_isSound (wsV RX4 55 RX4 yX4_rowAt wsX4_rowAt) := goodIn_app (tgIn [473, 474, 475, 421] (by decide +kernel) rfl) ggX4_isSound_X4_rowAt
theorem ggX4_isSound_X0_areWaysAgreed : GoodIn wsX4_isSound wsX0_areWaysAgreed := tgCall 630 e_X0_areWaysAgreed (by decide +kernel)
theorem gX4_isSound_X0_areWaysAgreed : GoodIn wsX4_isSound (wsV RX4 258 RX0 yX0_areWaysAgreed wsX0_areWaysAgreed) := goodIn_app (tgIn [627, 628, 629, 130] (by decide +kernel) rfl) ggX4_isSound_X0_areWaysAgreed
theorem ggX4_isSound_X0_staysSorted : GoodIn wsX4_isSound wsX0_staysSorted := tgCall 634 e_X0_staysSorted (by decide +kernel)
theorem gX4_isSound_X0_staysSorted : GoodIn wsX4_isSound (wsV RX4 262 RX0 yX0_staysSorted wsX0_staysSorted) := goodIn_app (tgIn [631, 632, 633, 130] (by decide +kernel) rfl) ggX4_isSound_X0_staysSorted
theorem ggX4_isSound_X0_isTurnedAlike : GoodIn wsX4_isSound wsX0_isTurnedAlike := tgCall 638 e_X0_isTurnedAlike (by decide +kernel)
theorem gX4_isSound_X0_isTurnedAlike : GoodIn wsX4_isSound (wsV RX4 265 RX0 yX0_isTurnedAlike wsX0_isTurnedAlike) := goodIn_app (tgIn [635, 636, 637, 130] (by decide +kernel) rfl) ggX4_isSound_X0_isTurnedAlike
theorem ggX4_isSound_X0_isQueuedAlike : GoodIn wsX4_isSound wsX0_isQueuedAlike := tgCall 642 e_X0_isQueuedAlike (by decide +kernel)
theorem gX4_isSound_X0_isQueuedAlike : GoodIn wsX4_isSound (wsV RX4 268 RX0 yX0_isQueuedAlike wsX0_isQueuedAlike) := goodIn_app (tgIn [639, 640, 641, 130] (by decide +kernel) rfl) ggX4_isSound_X0_isQueuedAlike
theorem ggX4_isSound_X0_isRefiningSound : GoodIn wsX4_isSound wsX0_isRefiningSound := tgCall 646 e_X0_isRefiningSound (by decide +kernel)
theorem gX4_isSound_X0_isRefiningSound : GoodIn wsX4_isSound (wsV RX4 271 RX0 yX0_isRefiningSound wsX0_isRefiningSound) := goodIn_app (tgIn [643, 644, 645, 130] (by decide +kernel) rfl) ggX4_isSound_X0_isRefiningSound
theorem ggX4_isSound_X0_isProductAlike : GoodIn wsX4_isSound wsX0_isProductAlike := tgCall 650 e_X0_isProductAlike (by decide +kernel)
theorem gX4_isSound_X0_isProductAlike : GoodIn wsX4_isSound (wsV RX4 275 RX0 yX0_isProductAlike wsX0_isProductAlike) := goodIn_app (tgIn [647, 648, 649, 130] (by decide +kernel) rfl) ggX4_isSound_X0_isProductAlike
def dvX4_isSound_0 : List UInt8 := [4, 60, 3, 61, 27, 153, 0, 207, 28, 7, 162, 0, 202, 42, 28, 182, 0, 124, 78, 42, 180, 0, 31, 45, 182, 0, 252, 153, 0, 18, 42, 180, 0, 31, 45, 182, 0, 255, 153, 0, 7, 4, 167, 0, 4, 3, 60, 3, 54, 4, 27, 153, 0, 81, 21, 4]
theorem dwX4_isSound_0 : (cX4_isSound.data.toList.drop 0).take dvX4_isSound_0.length = dvX4_isSound_0 := by decide +kernel
theorem dkX4_isSound_0 : ([(0, (.iconst 1, 1)), (1, (.istore_n 1, 1)), (2, (.iconst 0, 1)), (3, (.istore_n 2, 1)), (4, (.iload_n 1, 1)), (5, (.ifCond .eq 207, 3)), (8, (.iload_n 2, 1)), (9, (.iconst 4, 1)), (10, (.if_icmp .ge 202, 3)), (13, (.aload_n 0, 1)), (14, (.iload_n 2, 1)), (15, (.invokevirtual 124, 3)), (18, (.astore_n 3, 1)), (19, (.aload_n 0, 1)), (20, (.getfield 31, 3)), (23, (.aload_n 3, 1)), (24, (.invokevirtual 252, 3)), (27, (.ifCond .eq 18, 3)), (30, (.aload_n 0, 1)), (31, (.getfield 31, 3)), (34, (.aload_n 3, 1)), (35, (.invokevirtual 255, 3)), (38, (.ifCond .eq 7, 3)), (41, (.iconst 1, 1)), (42, (.goto 4, 3)), (45, (.iconst 0, 1)), (46, (.istore_n 1, 1)), (47, (.iconst 0, 1)), (48, (.istore 4, 2)), (50, (.iload_n 1, 1)), (51, (.ifCond .eq 81, 3)), (54, (.iload 4, 2))] : List (Nat × (Jvm.ClassFile.Instr × Nat))).all (wnL dvX4_isSound_0 0) = true := by decide +kernel
theorem dX4_isSound_0 : decode cX4_isSound 0 = .ok (.iconst 1, 1) := wnGet dwX4_isSound_0 dkX4_isSound_0 0 rfl
theorem dX4_isSound_1 : decode cX4_isSound 1 = .ok (.istore_n 1, 1) := wnGet dwX4_isSound_0 dkX4_isSound_0 1 rfl
theorem dX4_isSound_2 : decode cX4_isSound 2 = .ok (.iconst 0, 1) := wnGet dwX4_isSound_0 dkX4_isSound_0 2 rfl
theorem dX4_isSound_3 : decode cX4_isSound 3 = .ok (.istore_n 2, 1) := wnGet dwX4_isSound_0 dkX4_isSound_0 3 rfl
theorem dX4_isSound_4 : decode cX4_isSound 4 = .ok (.iload_n 1, 1) := wnGet dwX4_isSound_0 dkX4_isSound_0 4 rfl
theorem dX4_isSound_5 : decode cX4_isSound 5 = .ok (.ifCond .eq 207, 3) := wnGet dwX4_isSound_0 dkX4_isSound_0 5 rfl
theorem dX4_isSound_8 : decode cX4_isSound 8 = .ok (.iload_n 2, 1) := wnGet dwX4_isSound_0 dkX4_isSound_0 6 rfl
theorem dX4_isSound_9 : decode cX4_isSound 9 = .ok (.iconst 4, 1) := wnGet dwX4_isSound_0 dkX4_isSound_0 7 rfl
theorem dX4_isSound_10 : decode cX4_isSound 10 = .ok (.if_icmp .ge 202, 3) := wnGet dwX4_isSound_0 dkX4_isSound_0 8 rfl
theorem dX4_isSound_13 : decode cX4_isSound 13 = .ok (.aload_n 0, 1) := wnGet dwX4_isSound_0 dkX4_isSound_0 9 rfl
theorem dX4_isSound_14 : decode cX4_isSound 14 = .ok (.iload_n 2, 1) := wnGet dwX4_isSound_0 dkX4_isSound_0 10 rfl
theorem dX4_isSound_15 : decode cX4_isSound 15 = .ok (.invokevirtual 124, 3) := wnGet dwX4_isSound_0 dkX4_isSound_0 11 rfl
theorem dX4_isSound_18 : decode cX4_isSound 18 = .ok (.astore_n 3, 1) := wnGet dwX4_isSound_0 dkX4_isSound_0 12 rfl
theorem dX4_isSound_19 : decode cX4_isSound 19 = .ok (.aload_n 0, 1) := wnGet dwX4_isSound_0 dkX4_isSound_0 13 rfl
theorem dX4_isSound_20 : decode cX4_isSound 20 = .ok (.getfield 31, 3) := wnGet dwX4_isSound_0 dkX4_isSound_0 14 rfl
theorem dX4_isSound_23 : decode cX4_isSound 23 = .ok (.aload_n 3, 1) := wnGet dwX4_isSound_0 dkX4_isSound_0 15 rfl
theorem dX4_isSound_24 : decode cX4_isSound 24 = .ok (.invokevirtual 252, 3) := wnGet dwX4_isSound_0 dkX4_isSound_0 16 rfl
theorem dX4_isSound_27 : decode cX4_isSound 27 = .ok (.ifCond .eq 18, 3) := wnGet dwX4_isSound_0 dkX4_isSound_0 17 rfl
theorem dX4_isSound_30 : decode cX4_isSound 30 = .ok (.aload_n 0, 1) := wnGet dwX4_isSound_0 dkX4_isSound_0 18 rfl
theorem dX4_isSound_31 : decode cX4_isSound 31 = .ok (.getfield 31, 3) := wnGet dwX4_isSound_0 dkX4_isSound_0 19 rfl
theorem dX4_isSound_34 : decode cX4_isSound 34 = .ok (.aload_n 3, 1) := wnGet dwX4_isSound_0 dkX4_isSound_0 20 rfl
theorem dX4_isSound_35 : decode cX4_isSound 35 = .ok (.invokevirtual 255, 3) := wnGet dwX4_isSound_0 dkX4_isSound_0 21 rfl
theorem dX4_isSound_38 : decode cX4_isSound 38 = .ok (.ifCond .eq 7, 3) := wnGet dwX4_isSound_0 dkX4_isSound_0 22 rfl
theorem dX4_isSound_41 : decode cX4_isSound 41 = .ok (.iconst 1, 1) := wnGet dwX4_isSound_0 dkX4_isSound_0 23 rfl
theorem dX4_isSound_42 : decode cX4_isSound 42 = .ok (.goto 4, 3) := wnGet dwX4_isSound_0 dkX4_isSound_0 24 rfl
theorem dX4_isSound_46 : decode cX4_isSound 46 = .ok (.istore_n 1, 1) := wnGet dwX4_isSound_0 dkX4_isSound_0 26 rfl
theorem dX4_isSound_47 : decode cX4_isSound 47 = .ok (.iconst 0, 1) := wnGet dwX4_isSound_0 dkX4_isSound_0 27 rfl
theorem dX4_isSound_48 : decode cX4_isSound 48 = .ok (.istore 4, 2) := wnGet dwX4_isSound_0 dkX4_isSound_0 28 rfl
theorem dX4_isSound_50 : decode cX4_isSound 50 = .ok (.iload_n 1, 1) := wnGet dwX4_isSound_0 dkX4_isSound_0 29 rfl
theorem dX4_isSound_51 : decode cX4_isSound 51 = .ok (.ifCond .eq 81, 3) := wnGet dwX4_isSound_0 dkX4_isSound_0 30 rfl
theorem dX4_isSound_54 : decode cX4_isSound 54 = .ok (.iload 4, 2) := wnGet dwX4_isSound_0 dkX4_isSound_0 31 rfl
def dvX4_isSound_1 : List UInt8 := [6, 162, 0, 75, 42, 21, 4, 182, 0, 55, 58, 5, 42, 180, 0, 31, 25, 5, 45, 182, 1, 2, 153, 0, 46, 42, 180, 0, 31, 25, 5, 45, 182, 1, 6, 153, 0, 33, 42, 180, 0, 31, 25, 5, 45, 182, 1, 9, 153, 0, 20, 42, 180, 0, 31, 25, 5, 45, 182, 1, 12, 153, 0, 7, 4, 167, 0, 4]
theorem dwX4_isSound_1 : (cX4_isSound.data.toList.drop 56).take dvX4_isSound_1.length = dvX4_isSound_1 := by decide +kernel
theorem dkX4_isSound_1 : ([(56, (.iconst 3, 1)), (57, (.if_icmp .ge 75, 3)), (60, (.aload_n 0, 1)), (61, (.iload 4, 2)), (63, (.invokevirtual 55, 3)), (66, (.astore 5, 2)), (68, (.aload_n 0, 1)), (69, (.getfield 31, 3)), (72, (.aload 5, 2)), (74, (.aload_n 3, 1)), (75, (.invokevirtual 258, 3)), (78, (.ifCond .eq 46, 3)), (81, (.aload_n 0, 1)), (82, (.getfield 31, 3)), (85, (.aload 5, 2)), (87, (.aload_n 3, 1)), (88, (.invokevirtual 262, 3)), (91, (.ifCond .eq 33, 3)), (94, (.aload_n 0, 1)), (95, (.getfield 31, 3)), (98, (.aload 5, 2)), (100, (.aload_n 3, 1)), (101, (.invokevirtual 265, 3)), (104, (.ifCond .eq 20, 3)), (107, (.aload_n 0, 1)), (108, (.getfield 31, 3)), (111, (.aload 5, 2)), (113, (.aload_n 3, 1)), (114, (.invokevirtual 268, 3)), (117, (.ifCond .eq 7, 3)), (120, (.iconst 1, 1)), (121, (.goto 4, 3))] : List (Nat × (Jvm.ClassFile.Instr × Nat))).all (wnL dvX4_isSound_1 56) = true := by decide +kernel
theorem dX4_isSound_56 : decode cX4_isSound 56 = .ok (.iconst 3, 1) := wnGet dwX4_isSound_1 dkX4_isSound_1 0 rfl
theorem dX4_isSound_57 : decode cX4_isSound 57 = .ok (.if_icmp .ge 75, 3) := wnGet dwX4_isSound_1 dkX4_isSound_1 1 rfl
theorem dX4_isSound_60 : decode cX4_isSound 60 = .ok (.aload_n 0, 1) := wnGet dwX4_isSound_1 dkX4_isSound_1 2 rfl
theorem dX4_isSound_61 : decode cX4_isSound 61 = .ok (.iload 4, 2) := wnGet dwX4_isSound_1 dkX4_isSound_1 3 rfl
theorem dX4_isSound_63 : decode cX4_isSound 63 = .ok (.invokevirtual 55, 3) := wnGet dwX4_isSound_1 dkX4_isSound_1 4 rfl
theorem dX4_isSound_66 : decode cX4_isSound 66 = .ok (.astore 5, 2) := wnGet dwX4_isSound_1 dkX4_isSound_1 5 rfl
theorem dX4_isSound_68 : decode cX4_isSound 68 = .ok (.aload_n 0, 1) := wnGet dwX4_isSound_1 dkX4_isSound_1 6 rfl
theorem dX4_isSound_69 : decode cX4_isSound 69 = .ok (.getfield 31, 3) := wnGet dwX4_isSound_1 dkX4_isSound_1 7 rfl
theorem dX4_isSound_72 : decode cX4_isSound 72 = .ok (.aload 5, 2) := wnGet dwX4_isSound_1 dkX4_isSound_1 8 rfl
theorem dX4_isSound_74 : decode cX4_isSound 74 = .ok (.aload_n 3, 1) := wnGet dwX4_isSound_1 dkX4_isSound_1 9 rfl
theorem dX4_isSound_75 : decode cX4_isSound 75 = .ok (.invokevirtual 258, 3) := wnGet dwX4_isSound_1 dkX4_isSound_1 10 rfl
theorem dX4_isSound_78 : decode cX4_isSound 78 = .ok (.ifCond .eq 46, 3) := wnGet dwX4_isSound_1 dkX4_isSound_1 11 rfl
theorem dX4_isSound_81 : decode cX4_isSound 81 = .ok (.aload_n 0, 1) := wnGet dwX4_isSound_1 dkX4_isSound_1 12 rfl
theorem dX4_isSound_82 : decode cX4_isSound 82 = .ok (.getfield 31, 3) := wnGet dwX4_isSound_1 dkX4_isSound_1 13 rfl
theorem dX4_isSound_85 : decode cX4_isSound 85 = .ok (.aload 5, 2) := wnGet dwX4_isSound_1 dkX4_isSound_1 14 rfl
theorem dX4_isSound_87 : decode cX4_isSound 87 = .ok (.aload_n 3, 1) := wnGet dwX4_isSound_1 dkX4_isSound_1 15 rfl
theorem dX4_isSound_88 : decode cX4_isSound 88 = .ok (.invokevirtual 262, 3) := wnGet dwX4_isSound_1 dkX4_isSound_1 16 rfl
theorem dX4_isSound_91 : decode cX4_isSound 91 = .ok (.ifCond .eq 33, 3) := wnGet dwX4_isSound_1 dkX4_isSound_1 17 rfl
theorem dX4_isSound_94 : decode cX4_isSound 94 = .ok (.aload_n 0, 1) := wnGet dwX4_isSound_1 dkX4_isSound_1 18 rfl
theorem dX4_isSound_95 : decode cX4_isSound 95 = .ok (.getfield 31, 3) := wnGet dwX4_isSound_1 dkX4_isSound_1 19 rfl
theorem dX4_isSound_98 : decode cX4_isSound 98 = .ok (.aload 5, 2) := wnGet dwX4_isSound_1 dkX4_isSound_1 20 rfl
theorem dX4_isSound_100 : decode cX4_isSound 100 = .ok (.aload_n 3, 1) := wnGet dwX4_isSound_1 dkX4_isSound_1 21 rfl
theorem dX4_isSound_101 : decode cX4_isSound 101 = .ok (.invokevirtual 265, 3) := wnGet dwX4_isSound_1 dkX4_isSound_1 22 rfl
theorem dX4_isSound_104 : decode cX4_isSound 104 = .ok (.ifCond .eq 20, 3) := wnGet dwX4_isSound_1 dkX4_isSound_1 23 rfl
theorem dX4_isSound_107 : decode cX4_isSound 107 = .ok (.aload_n 0, 1) := wnGet dwX4_isSound_1 dkX4_isSound_1 24 rfl
theorem dX4_isSound_108 : decode cX4_isSound 108 = .ok (.getfield 31, 3) := wnGet dwX4_isSound_1 dkX4_isSound_1 25 rfl
theorem dX4_isSound_111 : decode cX4_isSound 111 = .ok (.aload 5, 2) := wnGet dwX4_isSound_1 dkX4_isSound_1 26 rfl
theorem dX4_isSound_113 : decode cX4_isSound 113 = .ok (.aload_n 3, 1) := wnGet dwX4_isSound_1 dkX4_isSound_1 27 rfl
theorem dX4_isSound_114 : decode cX4_isSound 114 = .ok (.invokevirtual 268, 3) := wnGet dwX4_isSound_1 dkX4_isSound_1 28 rfl
theorem dX4_isSound_117 : decode cX4_isSound 117 = .ok (.ifCond .eq 7, 3) := wnGet dwX4_isSound_1 dkX4_isSound_1 29 rfl
theorem dX4_isSound_120 : decode cX4_isSound 120 = .ok (.iconst 1, 1) := wnGet dwX4_isSound_1 dkX4_isSound_1 30 rfl
theorem dX4_isSound_121 : decode cX4_isSound 121 = .ok (.goto 4, 3) := wnGet dwX4_isSound_1 dkX4_isSound_1 31 rfl
def dvX4_isSound_2 : List UInt8 := [3, 60, 132, 4, 1, 167, 255, 177, 3, 54, 4, 27, 153, 0, 70, 21, 4, 7, 162, 0, 64, 42, 21, 4, 182, 0, 124, 58, 5, 42, 180, 0, 31, 45, 25, 5, 182, 1, 15, 60, 3, 54, 6, 27, 153, 0, 32, 21, 6, 6, 162, 0, 26, 42, 180, 0, 31, 42, 21, 6]
theorem dwX4_isSound_2 : (cX4_isSound.data.toList.drop 124).take dvX4_isSound_2.length = dvX4_isSound_2 := by decide +kernel
theorem dkX4_isSound_2 : ([(124, (.iconst 0, 1)), (125, (.istore_n 1, 1)), (126, (.iinc 4 1, 3)), (129, (.goto (-79), 3)), (132, (.iconst 0, 1)), (133, (.istore 4, 2)), (135, (.iload_n 1, 1)), (136, (.ifCond .eq 70, 3)), (139, (.iload 4, 2)), (141, (.iconst 4, 1)), (142, (.if_icmp .ge 64, 3)), (145, (.aload_n 0, 1)), (146, (.iload 4, 2)), (148, (.invokevirtual 124, 3)), (151, (.astore 5, 2)), (153, (.aload_n 0, 1)), (154, (.getfield 31, 3)), (157, (.aload_n 3, 1)), (158, (.aload 5, 2)), (160, (.invokevirtual 271, 3)), (163, (.istore_n 1, 1)), (164, (.iconst 0, 1)), (165, (.istore 6, 2)), (167, (.iload_n 1, 1)), (168, (.ifCond .eq 32, 3)), (171, (.iload 6, 2)), (173, (.iconst 3, 1)), (174, (.if_icmp .ge 26, 3)), (177, (.aload_n 0, 1)), (178, (.getfield 31, 3)), (181, (.aload_n 0, 1)), (182, (.iload 6, 2))] : List (Nat × (Jvm.ClassFile.Instr × Nat))).all (wnL dvX4_isSound_2 124) = true := by decide +kernel
theorem dX4_isSound_125 : decode cX4_isSound 125 = .ok (.istore_n 1, 1) := wnGet dwX4_isSound_2 dkX4_isSound_2 1 rfl
theorem dX4_isSound_126 : decode cX4_isSound 126 = .ok (.iinc 4 1, 3) := wnGet dwX4_isSound_2 dkX4_isSound_2 2 rfl
theorem dX4_isSound_129 : decode cX4_isSound 129 = .ok (.goto (-79), 3) := wnGet dwX4_isSound_2 dkX4_isSound_2 3 rfl
theorem dX4_isSound_132 : decode cX4_isSound 132 = .ok (.iconst 0, 1) := wnGet dwX4_isSound_2 dkX4_isSound_2 4 rfl
theorem dX4_isSound_133 : decode cX4_isSound 133 = .ok (.istore 4, 2) := wnGet dwX4_isSound_2 dkX4_isSound_2 5 rfl
theorem dX4_isSound_135 : decode cX4_isSound 135 = .ok (.iload_n 1, 1) := wnGet dwX4_isSound_2 dkX4_isSound_2 6 rfl
theorem dX4_isSound_136 : decode cX4_isSound 136 = .ok (.ifCond .eq 70, 3) := wnGet dwX4_isSound_2 dkX4_isSound_2 7 rfl
theorem dX4_isSound_139 : decode cX4_isSound 139 = .ok (.iload 4, 2) := wnGet dwX4_isSound_2 dkX4_isSound_2 8 rfl
theorem dX4_isSound_141 : decode cX4_isSound 141 = .ok (.iconst 4, 1) := wnGet dwX4_isSound_2 dkX4_isSound_2 9 rfl
theorem dX4_isSound_142 : decode cX4_isSound 142 = .ok (.if_icmp .ge 64, 3) := wnGet dwX4_isSound_2 dkX4_isSound_2 10 rfl
theorem dX4_isSound_145 : decode cX4_isSound 145 = .ok (.aload_n 0, 1) := wnGet dwX4_isSound_2 dkX4_isSound_2 11 rfl
theorem dX4_isSound_146 : decode cX4_isSound 146 = .ok (.iload 4, 2) := wnGet dwX4_isSound_2 dkX4_isSound_2 12 rfl
theorem dX4_isSound_148 : decode cX4_isSound 148 = .ok (.invokevirtual 124, 3) := wnGet dwX4_isSound_2 dkX4_isSound_2 13 rfl
theorem dX4_isSound_151 : decode cX4_isSound 151 = .ok (.astore 5, 2) := wnGet dwX4_isSound_2 dkX4_isSound_2 14 rfl
theorem dX4_isSound_153 : decode cX4_isSound 153 = .ok (.aload_n 0, 1) := wnGet dwX4_isSound_2 dkX4_isSound_2 15 rfl
theorem dX4_isSound_154 : decode cX4_isSound 154 = .ok (.getfield 31, 3) := wnGet dwX4_isSound_2 dkX4_isSound_2 16 rfl
theorem dX4_isSound_157 : decode cX4_isSound 157 = .ok (.aload_n 3, 1) := wnGet dwX4_isSound_2 dkX4_isSound_2 17 rfl
theorem dX4_isSound_158 : decode cX4_isSound 158 = .ok (.aload 5, 2) := wnGet dwX4_isSound_2 dkX4_isSound_2 18 rfl
theorem dX4_isSound_160 : decode cX4_isSound 160 = .ok (.invokevirtual 271, 3) := wnGet dwX4_isSound_2 dkX4_isSound_2 19 rfl
theorem dX4_isSound_163 : decode cX4_isSound 163 = .ok (.istore_n 1, 1) := wnGet dwX4_isSound_2 dkX4_isSound_2 20 rfl
theorem dX4_isSound_164 : decode cX4_isSound 164 = .ok (.iconst 0, 1) := wnGet dwX4_isSound_2 dkX4_isSound_2 21 rfl
theorem dX4_isSound_165 : decode cX4_isSound 165 = .ok (.istore 6, 2) := wnGet dwX4_isSound_2 dkX4_isSound_2 22 rfl
theorem dX4_isSound_167 : decode cX4_isSound 167 = .ok (.iload_n 1, 1) := wnGet dwX4_isSound_2 dkX4_isSound_2 23 rfl
theorem dX4_isSound_168 : decode cX4_isSound 168 = .ok (.ifCond .eq 32, 3) := wnGet dwX4_isSound_2 dkX4_isSound_2 24 rfl
theorem dX4_isSound_171 : decode cX4_isSound 171 = .ok (.iload 6, 2) := wnGet dwX4_isSound_2 dkX4_isSound_2 25 rfl
theorem dX4_isSound_173 : decode cX4_isSound 173 = .ok (.iconst 3, 1) := wnGet dwX4_isSound_2 dkX4_isSound_2 26 rfl
theorem dX4_isSound_174 : decode cX4_isSound 174 = .ok (.if_icmp .ge 26, 3) := wnGet dwX4_isSound_2 dkX4_isSound_2 27 rfl
theorem dX4_isSound_177 : decode cX4_isSound 177 = .ok (.aload_n 0, 1) := wnGet dwX4_isSound_2 dkX4_isSound_2 28 rfl
theorem dX4_isSound_178 : decode cX4_isSound 178 = .ok (.getfield 31, 3) := wnGet dwX4_isSound_2 dkX4_isSound_2 29 rfl
theorem dX4_isSound_181 : decode cX4_isSound 181 = .ok (.aload_n 0, 1) := wnGet dwX4_isSound_2 dkX4_isSound_2 30 rfl
theorem dX4_isSound_182 : decode cX4_isSound 182 = .ok (.iload 6, 2) := wnGet dwX4_isSound_2 dkX4_isSound_2 31 rfl
def dvX4_isSound_3 : List UInt8 := [182, 0, 55, 45, 25, 5, 182, 1, 19, 60, 132, 6, 1, 167, 255, 226, 132, 4, 1, 167, 255, 188, 132, 2, 1, 167, 255, 51, 27, 172]
theorem dwX4_isSound_3 : (cX4_isSound.data.toList.drop 184).take dvX4_isSound_3.length = dvX4_isSound_3 := by decide +kernel
theorem dkX4_isSound_3 : ([(184, (.invokevirtual 55, 3)), (187, (.aload_n 3, 1)), (188, (.aload 5, 2)), (190, (.invokevirtual 275, 3)), (193, (.istore_n 1, 1)), (194, (.iinc 6 1, 3)), (197, (.goto (-30), 3)), (200, (.iinc 4 1, 3)), (203, (.goto (-68), 3)), (206, (.iinc 2 1, 3)), (209, (.goto (-205), 3)), (212, (.iload_n 1, 1)), (213, (.ireturn, 1))] : List (Nat × (Jvm.ClassFile.Instr × Nat))).all (wnL dvX4_isSound_3 184) = true := by decide +kernel
theorem dX4_isSound_184 : decode cX4_isSound 184 = .ok (.invokevirtual 55, 3) := wnGet dwX4_isSound_3 dkX4_isSound_3 0 rfl
theorem dX4_isSound_187 : decode cX4_isSound 187 = .ok (.aload_n 3, 1) := wnGet dwX4_isSound_3 dkX4_isSound_3 1 rfl
theorem dX4_isSound_188 : decode cX4_isSound 188 = .ok (.aload 5, 2) := wnGet dwX4_isSound_3 dkX4_isSound_3 2 rfl
theorem dX4_isSound_190 : decode cX4_isSound 190 = .ok (.invokevirtual 275, 3) := wnGet dwX4_isSound_3 dkX4_isSound_3 3 rfl
theorem dX4_isSound_193 : decode cX4_isSound 193 = .ok (.istore_n 1, 1) := wnGet dwX4_isSound_3 dkX4_isSound_3 4 rfl
theorem dX4_isSound_194 : decode cX4_isSound 194 = .ok (.iinc 6 1, 3) := wnGet dwX4_isSound_3 dkX4_isSound_3 5 rfl
theorem dX4_isSound_197 : decode cX4_isSound 197 = .ok (.goto (-30), 3) := wnGet dwX4_isSound_3 dkX4_isSound_3 6 rfl
theorem dX4_isSound_200 : decode cX4_isSound 200 = .ok (.iinc 4 1, 3) := wnGet dwX4_isSound_3 dkX4_isSound_3 7 rfl
theorem dX4_isSound_203 : decode cX4_isSound 203 = .ok (.goto (-68), 3) := wnGet dwX4_isSound_3 dkX4_isSound_3 8 rfl
theorem dX4_isSound_206 : decode cX4_isSound 206 = .ok (.iinc 2 1, 3) := wnGet dwX4_isSound_3 dkX4_isSound_3 9 rfl
theorem dX4_isSound_209 : decode cX4_isSound 209 = .ok (.goto (-205), 3) := wnGet dwX4_isSound_3 dkX4_isSound_3 10 rfl
theorem dX4_isSound_212 : decode cX4_isSound 212 = .ok (.iload_n 1, 1) := wnGet dwX4_isSound_3 dkX4_isSound_3 11 rfl
theorem dX4_isSound_213 : decode cX4_isSound 213 = .ok (.ireturn, 1) := wnGet dwX4_isSound_3 dkX4_isSound_3 12 rfl
theorem ggX4_digest_X4_count : GoodIn wsX4_digest wsX4_count := tgCall 615 e_X4_count (by decide +kernel)
theorem gX4_digest_X4_count : GoodIn wsX4_digest (wsV RX4 249 RX4 yX4_count wsX4_count) := goodIn_app (tgIn [612, 613, 614, 421] (by decide +kernel) rfl) ggX4_digest_X4_count
theorem ggX4_digest_X4_mixed : GoodIn wsX4_digest wsX4_mixed := tgCall 653 e_X4_mixed (by decide +kernel)
theorem gX4_digest_X4_mixed : GoodIn wsX4_digest (va_wsS RX4 281 yX4_mixed wsX4_mixed) := goodIn_app (tgIn [651, 652, 421] (by decide +kernel) rfl) ggX4_digest_X4_mixed
theorem ggX4_digest_X4_mixedWithRows : GoodIn wsX4_digest wsX4_mixedWithRows := tgCall 664 e_X4_mixedWithRows (by decide +kernel)
theorem gX4_digest_X4_mixedWithRows : GoodIn wsX4_digest (wsV RX4 285 RX4 yX4_mixedWithRows wsX4_mixedWithRows) := goodIn_app (tgIn [661, 662, 663, 421] (by decide +kernel) rfl) ggX4_digest_X4_mixedWithRows
theorem ggX4_digest_X4_mixedWithOrders : GoodIn wsX4_digest wsX4_mixedWithOrders := tgCall 668 e_X4_mixedWithOrders (by decide +kernel)
theorem gX4_digest_X4_mixedWithOrders : GoodIn wsX4_digest (wsV RX4 289 RX4 yX4_mixedWithOrders wsX4_mixedWithOrders) := goodIn_app (tgIn [665, 666, 667, 421] (by decide +kernel) rfl) ggX4_digest_X4_mixedWithOrders
theorem ggX4_digest_X4_mixedWithPairs : GoodIn wsX4_digest wsX4_mixedWithPairs := tgCall 672 e_X4_mixedWithPairs (by decide +kernel)
theorem gX4_digest_X4_mixedWithPairs : GoodIn wsX4_digest (wsV RX4 292 RX4 yX4_mixedWithPairs wsX4_mixedWithPairs) := goodIn_app (tgIn [669, 670, 671, 421] (by decide +kernel) rfl) ggX4_digest_X4_mixedWithPairs
theorem ggX4_digest_X4_mixedWithSequences : GoodIn wsX4_digest wsX4_mixedWithSequences := tgCall 676 e_X4_mixedWithSequences (by decide +kernel)
theorem gX4_digest_X4_mixedWithSequences : GoodIn wsX4_digest (wsV RX4 295 RX4 yX4_mixedWithSequences wsX4_mixedWithSequences) := goodIn_app (tgIn [673, 674, 675, 421] (by decide +kernel) rfl) ggX4_digest_X4_mixedWithSequences
theorem ggX4_digest_X4_isSound : GoodIn wsX4_digest wsX4_isSound := tgCall 680 e_X4_isSound (by decide +kernel)
theorem gX4_digest_X4_isSound : GoodIn wsX4_digest (wsV RX4 298 RX4 yX4_isSound wsX4_isSound) := goodIn_app (tgIn [677, 678, 679, 421] (by decide +kernel) rfl) ggX4_digest_X4_isSound
theorem dkX4_digest_0 : ([(0, (.ldc2_w 279, 3)), (3, (.lstore_n 1, 1)), (4, (.iconst 0, 1)), (5, (.istore_n 3, 1)), (6, (.iload_n 3, 1)), (7, (.iconst 5, 1)), (8, (.if_icmp .ge 19, 3)), (11, (.lload_n 1, 1)), (12, (.aload_n 0, 1)), (13, (.iload_n 3, 1)), (14, (.invokevirtual 249, 3)), (17, (.invokestatic 281, 3)), (20, (.lstore_n 1, 1)), (21, (.iinc 3 1, 3)), (24, (.goto (-18), 3)), (27, (.aload_n 0, 1)), (28, (.lload_n 1, 1)), (29, (.invokevirtual 285, 3)), (32, (.lstore_n 1, 1)), (33, (.aload_n 0, 1)), (34, (.lload_n 1, 1)), (35, (.invokevirtual 289, 3)), (38, (.lstore_n 1, 1)), (39, (.aload_n 0, 1)), (40, (.lload_n 1, 1)), (41, (.invokevirtual 292, 3)), (44, (.lstore_n 1, 1)), (45, (.aload_n 0, 1)), (46, (.lload_n 1, 1)), (47, (.invokevirtual 295, 3)), (50, (.lstore_n 1, 1)), (51, (.lload_n 1, 1)), (52, (.aload_n 0, 1)), (53, (.invokevirtual 298, 3)), (56, (.ifCond .eq 7, 3)), (59, (.iconst 1, 1)), (60, (.goto 4, 3)), (63, (.iconst 0, 1)), (64, (.invokestatic 281, 3)), (67, (.lreturn, 1))] : List (Nat × (Jvm.ClassFile.Instr × Nat))).all (dcB cX4_digest) = true := by decide +kernel
theorem dX4_digest_0 : decode cX4_digest 0 = .ok (.ldc2_w 279, 3) := dget dkX4_digest_0 0 rfl
theorem dX4_digest_3 : decode cX4_digest 3 = .ok (.lstore_n 1, 1) := dget dkX4_digest_0 1 rfl
theorem dX4_digest_4 : decode cX4_digest 4 = .ok (.iconst 0, 1) := dget dkX4_digest_0 2 rfl
theorem dX4_digest_5 : decode cX4_digest 5 = .ok (.istore_n 3, 1) := dget dkX4_digest_0 3 rfl
theorem dX4_digest_6 : decode cX4_digest 6 = .ok (.iload_n 3, 1) := dget dkX4_digest_0 4 rfl
theorem dX4_digest_7 : decode cX4_digest 7 = .ok (.iconst 5, 1) := dget dkX4_digest_0 5 rfl
theorem dX4_digest_8 : decode cX4_digest 8 = .ok (.if_icmp .ge 19, 3) := dget dkX4_digest_0 6 rfl
theorem dX4_digest_11 : decode cX4_digest 11 = .ok (.lload_n 1, 1) := dget dkX4_digest_0 7 rfl
theorem dX4_digest_12 : decode cX4_digest 12 = .ok (.aload_n 0, 1) := dget dkX4_digest_0 8 rfl
theorem dX4_digest_13 : decode cX4_digest 13 = .ok (.iload_n 3, 1) := dget dkX4_digest_0 9 rfl
theorem dX4_digest_14 : decode cX4_digest 14 = .ok (.invokevirtual 249, 3) := dget dkX4_digest_0 10 rfl
theorem dX4_digest_17 : decode cX4_digest 17 = .ok (.invokestatic 281, 3) := dget dkX4_digest_0 11 rfl
theorem dX4_digest_20 : decode cX4_digest 20 = .ok (.lstore_n 1, 1) := dget dkX4_digest_0 12 rfl
theorem dX4_digest_21 : decode cX4_digest 21 = .ok (.iinc 3 1, 3) := dget dkX4_digest_0 13 rfl
theorem dX4_digest_24 : decode cX4_digest 24 = .ok (.goto (-18), 3) := dget dkX4_digest_0 14 rfl
theorem dX4_digest_27 : decode cX4_digest 27 = .ok (.aload_n 0, 1) := dget dkX4_digest_0 15 rfl
theorem dX4_digest_28 : decode cX4_digest 28 = .ok (.lload_n 1, 1) := dget dkX4_digest_0 16 rfl
theorem dX4_digest_29 : decode cX4_digest 29 = .ok (.invokevirtual 285, 3) := dget dkX4_digest_0 17 rfl
theorem dX4_digest_32 : decode cX4_digest 32 = .ok (.lstore_n 1, 1) := dget dkX4_digest_0 18 rfl
theorem dX4_digest_33 : decode cX4_digest 33 = .ok (.aload_n 0, 1) := dget dkX4_digest_0 19 rfl
theorem dX4_digest_34 : decode cX4_digest 34 = .ok (.lload_n 1, 1) := dget dkX4_digest_0 20 rfl
theorem dX4_digest_35 : decode cX4_digest 35 = .ok (.invokevirtual 289, 3) := dget dkX4_digest_0 21 rfl
theorem dX4_digest_38 : decode cX4_digest 38 = .ok (.lstore_n 1, 1) := dget dkX4_digest_0 22 rfl
theorem dX4_digest_39 : decode cX4_digest 39 = .ok (.aload_n 0, 1) := dget dkX4_digest_0 23 rfl
theorem dX4_digest_40 : decode cX4_digest 40 = .ok (.lload_n 1, 1) := dget dkX4_digest_0 24 rfl
theorem dX4_digest_41 : decode cX4_digest 41 = .ok (.invokevirtual 292, 3) := dget dkX4_digest_0 25 rfl
theorem dX4_digest_44 : decode cX4_digest 44 = .ok (.lstore_n 1, 1) := dget dkX4_digest_0 26 rfl
theorem dX4_digest_45 : decode cX4_digest 45 = .ok (.aload_n 0, 1) := dget dkX4_digest_0 27 rfl
theorem dX4_digest_46 : decode cX4_digest 46 = .ok (.lload_n 1, 1) := dget dkX4_digest_0 28 rfl
theorem dX4_digest_47 : decode cX4_digest 47 = .ok (.invokevirtual 295, 3) := dget dkX4_digest_0 29 rfl
theorem dX4_digest_50 : decode cX4_digest 50 = .ok (.lstore_n 1, 1) := dget dkX4_digest_0 30 rfl
theorem dX4_digest_51 : decode cX4_digest 51 = .ok (.lload_n 1, 1) := dget dkX4_digest_0 31 rfl
theorem dX4_digest_52 : decode cX4_digest 52 = .ok (.aload_n 0, 1) := dget dkX4_digest_0 32 rfl
theorem dX4_digest_53 : decode cX4_digest 53 = .ok (.invokevirtual 298, 3) := dget dkX4_digest_0 33 rfl
theorem dX4_digest_56 : decode cX4_digest 56 = .ok (.ifCond .eq 7, 3) := dget dkX4_digest_0 34 rfl
theorem dX4_digest_59 : decode cX4_digest 59 = .ok (.iconst 1, 1) := dget dkX4_digest_0 35 rfl
theorem dX4_digest_60 : decode cX4_digest 60 = .ok (.goto 4, 3) := dget dkX4_digest_0 36 rfl
theorem dX4_digest_64 : decode cX4_digest 64 = .ok (.invokestatic 281, 3) := dget dkX4_digest_0 38 rfl
theorem dX4_digest_67 : decode cX4_digest 67 = .ok (.lreturn, 1) := dget dkX4_digest_0 39 rfl
theorem dkX4_rowAt_0 : ([(0, (.iload_n 1, 1)), (1, (.ifCond .lt 12, 3)), (4, (.iload_n 1, 1)), (5, (.aload_n 0, 1)), (6, (.getfield 11, 3)), (9, (.arraylength, 1)), (10, (.if_icmp .lt 7, 3)), (13, (.aconst_null, 1)), (14, (.goto 9, 3)), (17, (.aload_n 0, 1)), (18, (.getfield 11, 3)), (21, (.iload_n 1, 1)), (22, (.aaload, 1)), (23, (.astore_n 2, 1)), (24, (.aload_n 2, 1)), (25, (.ifnonnull 14, 3)), (28, (.new 302, 3)), (31, (.dup, 1)), (32, (.ldc_w 304, 3)), (35, (.invokespecial 306, 3)), (38, (.athrow, 1)), (39, (.aload_n 2, 1)), (40, (.areturn, 1))] : List (Nat × (Jvm.ClassFile.Instr × Nat))).all (dcB cX4_rowAt) = true := by decide +kernel
theorem dX4_rowAt_0 : decode cX4_rowAt 0 = .ok (.iload_n 1, 1) := dget dkX4_rowAt_0 0 rfl
theorem dX4_rowAt_1 : decode cX4_rowAt 1 = .ok (.ifCond .lt 12, 3) := dget dkX4_rowAt_0 1 rfl
theorem dX4_rowAt_4 : decode cX4_rowAt 4 = .ok (.iload_n 1, 1) := dget dkX4_rowAt_0 2 rfl
theorem dX4_rowAt_5 : decode cX4_rowAt 5 = .ok (.aload_n 0, 1) := dget dkX4_rowAt_0 3 rfl
theorem dX4_rowAt_6 : decode cX4_rowAt 6 = .ok (.getfield 11, 3) := dget dkX4_rowAt_0 4 rfl
theorem dX4_rowAt_9 : decode cX4_rowAt 9 = .ok (.arraylength, 1) := dget dkX4_rowAt_0 5 rfl
theorem dX4_rowAt_10 : decode cX4_rowAt 10 = .ok (.if_icmp .lt 7, 3) := dget dkX4_rowAt_0 6 rfl
theorem dX4_rowAt_13 : decode cX4_rowAt 13 = .ok (.aconst_null, 1) := dget dkX4_rowAt_0 7 rfl
theorem dX4_rowAt_14 : decode cX4_rowAt 14 = .ok (.goto 9, 3) := dget dkX4_rowAt_0 8 rfl
theorem dX4_rowAt_17 : decode cX4_rowAt 17 = .ok (.aload_n 0, 1) := dget dkX4_rowAt_0 9 rfl
theorem dX4_rowAt_18 : decode cX4_rowAt 18 = .ok (.getfield 11, 3) := dget dkX4_rowAt_0 10 rfl
theorem dX4_rowAt_21 : decode cX4_rowAt 21 = .ok (.iload_n 1, 1) := dget dkX4_rowAt_0 11 rfl
theorem dX4_rowAt_22 : decode cX4_rowAt 22 = .ok (.aaload, 1) := dget dkX4_rowAt_0 12 rfl
theorem dX4_rowAt_23 : decode cX4_rowAt 23 = .ok (.astore_n 2, 1) := dget dkX4_rowAt_0 13 rfl
theorem dX4_rowAt_24 : decode cX4_rowAt 24 = .ok (.aload_n 2, 1) := dget dkX4_rowAt_0 14 rfl
theorem dX4_rowAt_25 : decode cX4_rowAt 25 = .ok (.ifnonnull 14, 3) := dget dkX4_rowAt_0 15 rfl
theorem dX4_rowAt_28 : decode cX4_rowAt 28 = .ok (.new 302, 3) := dget dkX4_rowAt_0 16 rfl
theorem dX4_rowAt_31 : decode cX4_rowAt 31 = .ok (.dup, 1) := dget dkX4_rowAt_0 17 rfl
theorem dX4_rowAt_32 : decode cX4_rowAt 32 = .ok (.ldc_w 304, 3) := dget dkX4_rowAt_0 18 rfl
theorem dX4_rowAt_35 : decode cX4_rowAt 35 = .ok (.invokespecial 306, 3) := dget dkX4_rowAt_0 19 rfl
theorem dX4_rowAt_38 : decode cX4_rowAt 38 = .ok (.athrow, 1) := dget dkX4_rowAt_0 20 rfl
theorem dX4_rowAt_39 : decode cX4_rowAt 39 = .ok (.aload_n 2, 1) := dget dkX4_rowAt_0 21 rfl
theorem dX4_rowAt_40 : decode cX4_rowAt 40 = .ok (.areturn, 1) := dget dkX4_rowAt_0 22 rfl
theorem dkX4_orderAt_0 : ([(0, (.iload_n 1, 1)), (1, (.ifCond .lt 12, 3)), (4, (.iload_n 1, 1)), (5, (.aload_n 0, 1)), (6, (.getfield 17, 3)), (9, (.arraylength, 1)), (10, (.if_icmp .lt 7, 3)), (13, (.aconst_null, 1)), (14, (.goto 9, 3)), (17, (.aload_n 0, 1)), (18, (.getfield 17, 3)), (21, (.iload_n 1, 1)), (22, (.aaload, 1)), (23, (.astore_n 2, 1)), (24, (.aload_n 2, 1)), (25, (.ifnonnull 14, 3)), (28, (.new 302, 3)), (31, (.dup, 1)), (32, (.ldc_w 307, 3)), (35, (.invokespecial 306, 3)), (38, (.athrow, 1)), (39, (.aload_n 2, 1)), (40, (.areturn, 1))] : List (Nat × (Jvm.ClassFile.Instr × Nat))).all (dcB cX4_orderAt) = true := by decide +kernel
theorem dX4_orderAt_0 : decode cX4_orderAt 0 = .ok (.iload_n 1, 1) := dget dkX4_orderAt_0 0 rfl
theorem dX4_orderAt_1 : decode cX4_orderAt 1 = .ok (.ifCond .lt 12, 3) := dget dkX4_orderAt_0 1 rfl
theorem dX4_orderAt_4 : decode cX4_orderAt 4 = .ok (.iload_n 1, 1) := dget dkX4_orderAt_0 2 rfl
theorem dX4_orderAt_5 : decode cX4_orderAt 5 = .ok (.aload_n 0, 1) := dget dkX4_orderAt_0 3 rfl
theorem dX4_orderAt_6 : decode cX4_orderAt 6 = .ok (.getfield 17, 3) := dget dkX4_orderAt_0 4 rfl
theorem dX4_orderAt_9 : decode cX4_orderAt 9 = .ok (.arraylength, 1) := dget dkX4_orderAt_0 5 rfl
theorem dX4_orderAt_10 : decode cX4_orderAt 10 = .ok (.if_icmp .lt 7, 3) := dget dkX4_orderAt_0 6 rfl
theorem dX4_orderAt_13 : decode cX4_orderAt 13 = .ok (.aconst_null, 1) := dget dkX4_orderAt_0 7 rfl
theorem dX4_orderAt_14 : decode cX4_orderAt 14 = .ok (.goto 9, 3) := dget dkX4_orderAt_0 8 rfl
theorem dX4_orderAt_17 : decode cX4_orderAt 17 = .ok (.aload_n 0, 1) := dget dkX4_orderAt_0 9 rfl
theorem dX4_orderAt_18 : decode cX4_orderAt 18 = .ok (.getfield 17, 3) := dget dkX4_orderAt_0 10 rfl
theorem dX4_orderAt_21 : decode cX4_orderAt 21 = .ok (.iload_n 1, 1) := dget dkX4_orderAt_0 11 rfl
theorem dX4_orderAt_22 : decode cX4_orderAt 22 = .ok (.aaload, 1) := dget dkX4_orderAt_0 12 rfl
theorem dX4_orderAt_23 : decode cX4_orderAt 23 = .ok (.astore_n 2, 1) := dget dkX4_orderAt_0 13 rfl
theorem dX4_orderAt_24 : decode cX4_orderAt 24 = .ok (.aload_n 2, 1) := dget dkX4_orderAt_0 14 rfl
theorem dX4_orderAt_25 : decode cX4_orderAt 25 = .ok (.ifnonnull 14, 3) := dget dkX4_orderAt_0 15 rfl
theorem dX4_orderAt_28 : decode cX4_orderAt 28 = .ok (.new 302, 3) := dget dkX4_orderAt_0 16 rfl
theorem dX4_orderAt_31 : decode cX4_orderAt 31 = .ok (.dup, 1) := dget dkX4_orderAt_0 17 rfl
theorem dX4_orderAt_32 : decode cX4_orderAt 32 = .ok (.ldc_w 307, 3) := dget dkX4_orderAt_0 18 rfl
theorem dX4_orderAt_35 : decode cX4_orderAt 35 = .ok (.invokespecial 306, 3) := dget dkX4_orderAt_0 19 rfl
theorem dX4_orderAt_38 : decode cX4_orderAt 38 = .ok (.athrow, 1) := dget dkX4_orderAt_0 20 rfl
theorem dX4_orderAt_39 : decode cX4_orderAt 39 = .ok (.aload_n 2, 1) := dget dkX4_orderAt_0 21 rfl
theorem dX4_orderAt_40 : decode cX4_orderAt 40 = .ok (.areturn, 1) := dget dkX4_orderAt_0 22 rfl
theorem ggX4_demandPlace_X2_length : GoodIn wsX4_demandPlace wsX2_length := tgCall 118 e_X2_length (by decide +kernel)
theorem gX4_demandPlace_X2_length : GoodIn wsX4_demandPlace (wsV RX4 63 RX2 yX2_length wsX2_length) := goodIn_app (tgIn [460, 116, 117, 9] (by decide +kernel) rfl) ggX4_demandPlace_X2_length
theorem dkX4_demandPlace_0 : ([(0, (.iload_n 1, 1)), (1, (.ifCond .lt 11, 3)), (4, (.iload_n 1, 1)), (5, (.aload_n 0, 1)), (6, (.invokevirtual 63, 3)), (9, (.if_icmp .lt 14, 3)), (12, (.new 302, 3)), (15, (.dup, 1)), (16, (.ldc_w 309, 3)), (19, (.invokespecial 306, 3)), (22, (.athrow, 1)), (23, (.return_, 1))] : List (Nat × (Jvm.ClassFile.Instr × Nat))).all (dcB cX4_demandPlace) = true := by decide +kernel
theorem dX4_demandPlace_0 : decode cX4_demandPlace 0 = .ok (.iload_n 1, 1) := dget dkX4_demandPlace_0 0 rfl
theorem dX4_demandPlace_1 : decode cX4_demandPlace 1 = .ok (.ifCond .lt 11, 3) := dget dkX4_demandPlace_0 1 rfl
theorem dX4_demandPlace_4 : decode cX4_demandPlace 4 = .ok (.iload_n 1, 1) := dget dkX4_demandPlace_0 2 rfl
theorem dX4_demandPlace_5 : decode cX4_demandPlace 5 = .ok (.aload_n 0, 1) := dget dkX4_demandPlace_0 3 rfl
theorem dX4_demandPlace_6 : decode cX4_demandPlace 6 = .ok (.invokevirtual 63, 3) := dget dkX4_demandPlace_0 4 rfl
theorem dX4_demandPlace_9 : decode cX4_demandPlace 9 = .ok (.if_icmp .lt 14, 3) := dget dkX4_demandPlace_0 5 rfl
theorem dX4_demandPlace_12 : decode cX4_demandPlace 12 = .ok (.new 302, 3) := dget dkX4_demandPlace_0 6 rfl
theorem dX4_demandPlace_15 : decode cX4_demandPlace 15 = .ok (.dup, 1) := dget dkX4_demandPlace_0 7 rfl
theorem dX4_demandPlace_16 : decode cX4_demandPlace 16 = .ok (.ldc_w 309, 3) := dget dkX4_demandPlace_0 8 rfl
theorem dX4_demandPlace_19 : decode cX4_demandPlace 19 = .ok (.invokespecial 306, 3) := dget dkX4_demandPlace_0 9 rfl
theorem dX4_demandPlace_22 : decode cX4_demandPlace 22 = .ok (.athrow, 1) := dget dkX4_demandPlace_0 10 rfl
theorem dX4_demandPlace_23 : decode cX4_demandPlace 23 = .ok (.return_, 1) := dget dkX4_demandPlace_0 11 rfl
theorem ggX4_demandGap_X2_length : GoodIn wsX4_demandGap wsX2_length := tgCall 118 e_X2_length (by decide +kernel)
theorem gX4_demandGap_X2_length : GoodIn wsX4_demandGap (wsV RX4 63 RX2 yX2_length wsX2_length) := goodIn_app (tgIn [460, 116, 117, 9] (by decide +kernel) rfl) ggX4_demandGap_X2_length
theorem dkX4_demandGap_0 : ([(0, (.iload_n 1, 1)), (1, (.ifCond .lt 11, 3)), (4, (.iload_n 1, 1)), (5, (.aload_n 0, 1)), (6, (.invokevirtual 63, 3)), (9, (.if_icmp .le 14, 3)), (12, (.new 302, 3)), (15, (.dup, 1)), (16, (.ldc_w 309, 3)), (19, (.invokespecial 306, 3)), (22, (.athrow, 1)), (23, (.return_, 1))] : List (Nat × (Jvm.ClassFile.Instr × Nat))).all (dcB cX4_demandGap) = true := by decide +kernel
theorem dX4_demandGap_0 : decode cX4_demandGap 0 = .ok (.iload_n 1, 1) := dget dkX4_demandGap_0 0 rfl
theorem dX4_demandGap_1 : decode cX4_demandGap 1 = .ok (.ifCond .lt 11, 3) := dget dkX4_demandGap_0 1 rfl
theorem dX4_demandGap_4 : decode cX4_demandGap 4 = .ok (.iload_n 1, 1) := dget dkX4_demandGap_0 2 rfl
theorem dX4_demandGap_5 : decode cX4_demandGap 5 = .ok (.aload_n 0, 1) := dget dkX4_demandGap_0 3 rfl
theorem dX4_demandGap_6 : decode cX4_demandGap 6 = .ok (.invokevirtual 63, 3) := dget dkX4_demandGap_0 4 rfl
theorem dX4_demandGap_9 : decode cX4_demandGap 9 = .ok (.if_icmp .le 14, 3) := dget dkX4_demandGap_0 5 rfl
theorem dX4_demandGap_12 : decode cX4_demandGap 12 = .ok (.new 302, 3) := dget dkX4_demandGap_0 6 rfl
theorem dX4_demandGap_15 : decode cX4_demandGap 15 = .ok (.dup, 1) := dget dkX4_demandGap_0 7 rfl
theorem dX4_demandGap_16 : decode cX4_demandGap 16 = .ok (.ldc_w 309, 3) := dget dkX4_demandGap_0 8 rfl
theorem dX4_demandGap_19 : decode cX4_demandGap 19 = .ok (.invokespecial 306, 3) := dget dkX4_demandGap_0 9 rfl
theorem dX4_demandGap_22 : decode cX4_demandGap 22 = .ok (.athrow, 1) := dget dkX4_demandGap_0 10 rfl
theorem dX4_demandGap_23 : decode cX4_demandGap 23 = .ok (.return_, 1) := dget dkX4_demandGap_0 11 rfl
theorem ggX4_demandValue_X4_demandWithin : GoodIn wsX4_demandValue wsX4_demandWithin := tgCall 484 e_X4_demandWithin (by decide +kernel)
theorem gX4_demandValue_X4_demandWithin : GoodIn wsX4_demandValue (va_wsS RX4 75 yX4_demandWithin wsX4_demandWithin) := goodIn_app (tgIn [482, 483, 421] (by decide +kernel) rfl) ggX4_demandValue_X4_demandWithin
theorem dkX4_demandValue_0 : ([(0, (.iload_n 0, 1)), (1, (.bipush 15, 2)), (3, (.invokestatic 75, 3)), (6, (.return_, 1))] : List (Nat × (Jvm.ClassFile.Instr × Nat))).all (dcB cX4_demandValue) = true := by decide +kernel
theorem dX4_demandValue_0 : decode cX4_demandValue 0 = .ok (.iload_n 0, 1) := dget dkX4_demandValue_0 0 rfl
theorem dX4_demandValue_1 : decode cX4_demandValue 1 = .ok (.bipush 15, 2) := dget dkX4_demandValue_0 1 rfl
theorem dX4_demandValue_3 : decode cX4_demandValue 3 = .ok (.invokestatic 75, 3) := dget dkX4_demandValue_0 2 rfl
theorem dX4_demandValue_6 : decode cX4_demandValue 6 = .ok (.return_, 1) := dget dkX4_demandValue_0 3 rfl
theorem dkX4_demandWithin_0 : ([(0, (.iload_n 0, 1)), (1, (.ifCond .lt 8, 3)), (4, (.iload_n 0, 1)), (5, (.iload_n 1, 1)), (6, (.if_icmp .le 14, 3)), (9, (.new 136, 3)), (12, (.dup, 1)), (13, (.ldc_w 311, 3)), (16, (.invokespecial 140, 3)), (19, (.athrow, 1)), (20, (.return_, 1))] : List (Nat × (Jvm.ClassFile.Instr × Nat))).all (dcB cX4_demandWithin) = true := by decide +kernel
theorem dX4_demandWithin_0 : decode cX4_demandWithin 0 = .ok (.iload_n 0, 1) := dget dkX4_demandWithin_0 0 rfl
theorem dX4_demandWithin_1 : decode cX4_demandWithin 1 = .ok (.ifCond .lt 8, 3) := dget dkX4_demandWithin_0 1 rfl
theorem dX4_demandWithin_4 : decode cX4_demandWithin 4 = .ok (.iload_n 0, 1) := dget dkX4_demandWithin_0 2 rfl
theorem dX4_demandWithin_5 : decode cX4_demandWithin 5 = .ok (.iload_n 1, 1) := dget dkX4_demandWithin_0 3 rfl
theorem dX4_demandWithin_6 : decode cX4_demandWithin 6 = .ok (.if_icmp .le 14, 3) := dget dkX4_demandWithin_0 4 rfl
theorem dX4_demandWithin_9 : decode cX4_demandWithin 9 = .ok (.new 136, 3) := dget dkX4_demandWithin_0 5 rfl
theorem dX4_demandWithin_12 : decode cX4_demandWithin 12 = .ok (.dup, 1) := dget dkX4_demandWithin_0 6 rfl
theorem dX4_demandWithin_13 : decode cX4_demandWithin 13 = .ok (.ldc_w 311, 3) := dget dkX4_demandWithin_0 7 rfl
theorem dX4_demandWithin_16 : decode cX4_demandWithin 16 = .ok (.invokespecial 140, 3) := dget dkX4_demandWithin_0 8 rfl
theorem dX4_demandWithin_19 : decode cX4_demandWithin 19 = .ok (.athrow, 1) := dget dkX4_demandWithin_0 9 rfl
theorem dX4_demandWithin_20 : decode cX4_demandWithin 20 = .ok (.return_, 1) := dget dkX4_demandWithin_0 10 rfl
theorem dkX4_refuse_0 : ([(0, (.aload_n 0, 1)), (1, (.dup, 1)), (2, (.getfield 49, 3)), (5, (.iconst 1, 1)), (6, (.iadd, 1)), (7, (.putfield 49, 3)), (10, (.bipush (-9), 2)), (12, (.ireturn, 1))] : List (Nat × (Jvm.ClassFile.Instr × Nat))).all (dcB cX4_refuse) = true := by decide +kernel
theorem dX4_refuse_0 : decode cX4_refuse 0 = .ok (.aload_n 0, 1) := dget dkX4_refuse_0 0 rfl
theorem dX4_refuse_1 : decode cX4_refuse 1 = .ok (.dup, 1) := dget dkX4_refuse_0 1 rfl
theorem dX4_refuse_2 : decode cX4_refuse 2 = .ok (.getfield 49, 3) := dget dkX4_refuse_0 2 rfl
theorem dX4_refuse_5 : decode cX4_refuse 5 = .ok (.iconst 1, 1) := dget dkX4_refuse_0 3 rfl
theorem dX4_refuse_6 : decode cX4_refuse 6 = .ok (.iadd, 1) := dget dkX4_refuse_0 4 rfl
theorem dX4_refuse_7 : decode cX4_refuse 7 = .ok (.putfield 49, 3) := dget dkX4_refuse_0 5 rfl
theorem dX4_refuse_10 : decode cX4_refuse 10 = .ok (.bipush (-9), 2) := dget dkX4_refuse_0 6 rfl
theorem dX4_refuse_12 : decode cX4_refuse 12 = .ok (.ireturn, 1) := dget dkX4_refuse_0 7 rfl
theorem dkX4_nextMark_0 : ([(0, (.aload_n 0, 1)), (1, (.getfield 45, 3)), (4, (.istore_n 1, 1)), (5, (.aload_n 0, 1)), (6, (.dup, 1)), (7, (.getfield 45, 3)), (10, (.iconst 1, 1)), (11, (.iadd, 1)), (12, (.putfield 45, 3)), (15, (.iload_n 1, 1)), (16, (.ireturn, 1))] : List (Nat × (Jvm.ClassFile.Instr × Nat))).all (dcB cX4_nextMark) = true := by decide +kernel
theorem dX4_nextMark_0 : decode cX4_nextMark 0 = .ok (.aload_n 0, 1) := dget dkX4_nextMark_0 0 rfl
theorem dX4_nextMark_1 : decode cX4_nextMark 1 = .ok (.getfield 45, 3) := dget dkX4_nextMark_0 1 rfl
theorem dX4_nextMark_4 : decode cX4_nextMark 4 = .ok (.istore_n 1, 1) := dget dkX4_nextMark_0 2 rfl
theorem dX4_nextMark_5 : decode cX4_nextMark 5 = .ok (.aload_n 0, 1) := dget dkX4_nextMark_0 3 rfl
theorem dX4_nextMark_6 : decode cX4_nextMark 6 = .ok (.dup, 1) := dget dkX4_nextMark_0 4 rfl
theorem dX4_nextMark_7 : decode cX4_nextMark 7 = .ok (.getfield 45, 3) := dget dkX4_nextMark_0 5 rfl
theorem dX4_nextMark_10 : decode cX4_nextMark 10 = .ok (.iconst 1, 1) := dget dkX4_nextMark_0 6 rfl
theorem dX4_nextMark_11 : decode cX4_nextMark 11 = .ok (.iadd, 1) := dget dkX4_nextMark_0 7 rfl
theorem dX4_nextMark_12 : decode cX4_nextMark 12 = .ok (.putfield 45, 3) := dget dkX4_nextMark_0 8 rfl
theorem dX4_nextMark_15 : decode cX4_nextMark 15 = .ok (.iload_n 1, 1) := dget dkX4_nextMark_0 9 rfl
theorem dX4_nextMark_16 : decode cX4_nextMark 16 = .ok (.ireturn, 1) := dget dkX4_nextMark_0 10 rfl
theorem ggX4_count_X4_thingsInAll : GoodIn wsX4_count wsX4_thingsInAll := tgCall 607 e_X4_thingsInAll (by decide +kernel)
theorem gX4_count_X4_thingsInAll : GoodIn wsX4_count (wsV RX4 313 RX4 yX4_thingsInAll wsX4_thingsInAll) := goodIn_app (tgIn [604, 605, 606, 421] (by decide +kernel) rfl) ggX4_count_X4_thingsInAll
theorem ggX4_count_X4_stepsInAll : GoodIn wsX4_count wsX4_stepsInAll := tgCall 611 e_X4_stepsInAll (by decide +kernel)
theorem gX4_count_X4_stepsInAll : GoodIn wsX4_count (wsV RX4 316 RX4 yX4_stepsInAll wsX4_stepsInAll) := goodIn_app (tgIn [608, 609, 610, 421] (by decide +kernel) rfl) ggX4_count_X4_stepsInAll
theorem dkX4_count_0 : ([(0, (.iload_n 1, 1)), (1, (.tableswitch 51 0 3 #[31, 36, 41, 46], 31)), (32, (.aload_n 0, 1)), (33, (.invokevirtual 313, 3)), (36, (.ireturn, 1)), (37, (.aload_n 0, 1)), (38, (.invokevirtual 316, 3)), (41, (.ireturn, 1)), (42, (.aload_n 0, 1)), (43, (.getfield 45, 3)), (46, (.ireturn, 1)), (47, (.aload_n 0, 1)), (48, (.getfield 49, 3)), (51, (.ireturn, 1)), (52, (.aload_n 0, 1)), (53, (.getfield 52, 3)), (56, (.ireturn, 1))] : List (Nat × (Jvm.ClassFile.Instr × Nat))).all (dcB cX4_count) = true := by decide +kernel
theorem dX4_count_0 : decode cX4_count 0 = .ok (.iload_n 1, 1) := dget dkX4_count_0 0 rfl
theorem dX4_count_1 : decode cX4_count 1 = .ok (.tableswitch 51 0 3 #[31, 36, 41, 46], 31) := dget dkX4_count_0 1 rfl
theorem dX4_count_32 : decode cX4_count 32 = .ok (.aload_n 0, 1) := dget dkX4_count_0 2 rfl
theorem dX4_count_33 : decode cX4_count 33 = .ok (.invokevirtual 313, 3) := dget dkX4_count_0 3 rfl
theorem dX4_count_36 : decode cX4_count 36 = .ok (.ireturn, 1) := dget dkX4_count_0 4 rfl
theorem dX4_count_37 : decode cX4_count 37 = .ok (.aload_n 0, 1) := dget dkX4_count_0 5 rfl
theorem dX4_count_38 : decode cX4_count 38 = .ok (.invokevirtual 316, 3) := dget dkX4_count_0 6 rfl
theorem dX4_count_41 : decode cX4_count 41 = .ok (.ireturn, 1) := dget dkX4_count_0 7 rfl
theorem dX4_count_42 : decode cX4_count 42 = .ok (.aload_n 0, 1) := dget dkX4_count_0 8 rfl
theorem dX4_count_43 : decode cX4_count 43 = .ok (.getfield 45, 3) := dget dkX4_count_0 9 rfl
theorem dX4_count_46 : decode cX4_count 46 = .ok (.ireturn, 1) := dget dkX4_count_0 10 rfl
theorem dX4_count_47 : decode cX4_count 47 = .ok (.aload_n 0, 1) := dget dkX4_count_0 11 rfl
theorem dX4_count_48 : decode cX4_count 48 = .ok (.getfield 49, 3) := dget dkX4_count_0 12 rfl
theorem dX4_count_51 : decode cX4_count 51 = .ok (.ireturn, 1) := dget dkX4_count_0 13 rfl
theorem dX4_count_52 : decode cX4_count 52 = .ok (.aload_n 0, 1) := dget dkX4_count_0 14 rfl
theorem dX4_count_53 : decode cX4_count 53 = .ok (.getfield 52, 3) := dget dkX4_count_0 15 rfl
theorem dX4_count_56 : decode cX4_count 56 = .ok (.ireturn, 1) := dget dkX4_count_0 16 rfl
theorem ggX4_thingsInAll_X4_rowAt : GoodIn wsX4_thingsInAll wsX4_rowAt := tgCall 476 e_X4_rowAt (by decide +kernel)
theorem gX4_thingsInAll_X4_rowAt : GoodIn wsX4_thingsInAll (wsV RX4 55 RX4 yX4_rowAt wsX4_rowAt) := goodIn_app (tgIn [473, 474, 475, 421] (by decide +kernel) rfl) ggX4_thingsInAll_X4_rowAt
theorem ggX4_thingsInAll_X2_length : GoodIn wsX4_thingsInAll wsX2_length := tgCall 118 e_X2_length (by decide +kernel)
theorem gX4_thingsInAll_X2_length : GoodIn wsX4_thingsInAll (wsV RX4 63 RX2 yX2_length wsX2_length) := goodIn_app (tgIn [460, 116, 117, 9] (by decide +kernel) rfl) ggX4_thingsInAll_X2_length
theorem dkX4_thingsInAll_0 : ([(0, (.iconst 0, 1)), (1, (.istore_n 1, 1)), (2, (.iconst 0, 1)), (3, (.istore_n 2, 1)), (4, (.iload_n 2, 1)), (5, (.iconst 3, 1)), (6, (.if_icmp .ge 20, 3)), (9, (.iload_n 1, 1)), (10, (.aload_n 0, 1)), (11, (.iload_n 2, 1)), (12, (.invokevirtual 55, 3)), (15, (.invokevirtual 63, 3)), (18, (.iadd, 1)), (19, (.istore_n 1, 1)), (20, (.iinc 2 1, 3)), (23, (.goto (-19), 3)), (26, (.iload_n 1, 1)), (27, (.ireturn, 1))] : List (Nat × (Jvm.ClassFile.Instr × Nat))).all (dcB cX4_thingsInAll) = true := by decide +kernel
theorem dX4_thingsInAll_0 : decode cX4_thingsInAll 0 = .ok (.iconst 0, 1) := dget dkX4_thingsInAll_0 0 rfl
theorem dX4_thingsInAll_1 : decode cX4_thingsInAll 1 = .ok (.istore_n 1, 1) := dget dkX4_thingsInAll_0 1 rfl
theorem dX4_thingsInAll_2 : decode cX4_thingsInAll 2 = .ok (.iconst 0, 1) := dget dkX4_thingsInAll_0 2 rfl
theorem dX4_thingsInAll_3 : decode cX4_thingsInAll 3 = .ok (.istore_n 2, 1) := dget dkX4_thingsInAll_0 3 rfl
theorem dX4_thingsInAll_4 : decode cX4_thingsInAll 4 = .ok (.iload_n 2, 1) := dget dkX4_thingsInAll_0 4 rfl
theorem dX4_thingsInAll_5 : decode cX4_thingsInAll 5 = .ok (.iconst 3, 1) := dget dkX4_thingsInAll_0 5 rfl
theorem dX4_thingsInAll_6 : decode cX4_thingsInAll 6 = .ok (.if_icmp .ge 20, 3) := dget dkX4_thingsInAll_0 6 rfl
theorem dX4_thingsInAll_9 : decode cX4_thingsInAll 9 = .ok (.iload_n 1, 1) := dget dkX4_thingsInAll_0 7 rfl
theorem dX4_thingsInAll_10 : decode cX4_thingsInAll 10 = .ok (.aload_n 0, 1) := dget dkX4_thingsInAll_0 8 rfl
theorem dX4_thingsInAll_11 : decode cX4_thingsInAll 11 = .ok (.iload_n 2, 1) := dget dkX4_thingsInAll_0 9 rfl
theorem dX4_thingsInAll_12 : decode cX4_thingsInAll 12 = .ok (.invokevirtual 55, 3) := dget dkX4_thingsInAll_0 10 rfl
theorem dX4_thingsInAll_15 : decode cX4_thingsInAll 15 = .ok (.invokevirtual 63, 3) := dget dkX4_thingsInAll_0 11 rfl
theorem dX4_thingsInAll_18 : decode cX4_thingsInAll 18 = .ok (.iadd, 1) := dget dkX4_thingsInAll_0 12 rfl
theorem dX4_thingsInAll_19 : decode cX4_thingsInAll 19 = .ok (.istore_n 1, 1) := dget dkX4_thingsInAll_0 13 rfl
theorem dX4_thingsInAll_20 : decode cX4_thingsInAll 20 = .ok (.iinc 2 1, 3) := dget dkX4_thingsInAll_0 14 rfl
theorem dX4_thingsInAll_23 : decode cX4_thingsInAll 23 = .ok (.goto (-19), 3) := dget dkX4_thingsInAll_0 15 rfl
theorem dX4_thingsInAll_26 : decode cX4_thingsInAll 26 = .ok (.iload_n 1, 1) := dget dkX4_thingsInAll_0 16 rfl
theorem dX4_thingsInAll_27 : decode cX4_thingsInAll 27 = .ok (.ireturn, 1) := dget dkX4_thingsInAll_0 17 rfl
theorem ggX4_stepsInAll_X4_orderAt : GoodIn wsX4_stepsInAll wsX4_orderAt := tgCall 511 e_X4_orderAt (by decide +kernel)
theorem gX4_stepsInAll_X4_orderAt : GoodIn wsX4_stepsInAll (wsV RX4 124 RX4 yX4_orderAt wsX4_orderAt) := goodIn_app (tgIn [508, 509, 510, 421] (by decide +kernel) rfl) ggX4_stepsInAll_X4_orderAt
theorem ggX4_stepsInAll_X1_length : GoodIn wsX4_stepsInAll wsX1_length := tgCall 65 e_X1_length (by decide +kernel)
theorem gX4_stepsInAll_X1_length : GoodIn wsX4_stepsInAll (wsV RX4 200 RX1 yX1_length wsX1_length) := goodIn_app (tgIn [569, 63, 64, 14] (by decide +kernel) rfl) ggX4_stepsInAll_X1_length
theorem dkX4_stepsInAll_0 : ([(0, (.iconst 0, 1)), (1, (.istore_n 1, 1)), (2, (.iconst 0, 1)), (3, (.istore_n 2, 1)), (4, (.iload_n 2, 1)), (5, (.iconst 4, 1)), (6, (.if_icmp .ge 20, 3)), (9, (.iload_n 1, 1)), (10, (.aload_n 0, 1)), (11, (.iload_n 2, 1)), (12, (.invokevirtual 124, 3)), (15, (.invokevirtual 200, 3)), (18, (.iadd, 1)), (19, (.istore_n 1, 1)), (20, (.iinc 2 1, 3)), (23, (.goto (-19), 3)), (26, (.iload_n 1, 1)), (27, (.ireturn, 1))] : List (Nat × (Jvm.ClassFile.Instr × Nat))).all (dcB cX4_stepsInAll) = true := by decide +kernel
theorem dX4_stepsInAll_0 : decode cX4_stepsInAll 0 = .ok (.iconst 0, 1) := dget dkX4_stepsInAll_0 0 rfl
theorem dX4_stepsInAll_1 : decode cX4_stepsInAll 1 = .ok (.istore_n 1, 1) := dget dkX4_stepsInAll_0 1 rfl
theorem dX4_stepsInAll_2 : decode cX4_stepsInAll 2 = .ok (.iconst 0, 1) := dget dkX4_stepsInAll_0 2 rfl
theorem dX4_stepsInAll_3 : decode cX4_stepsInAll 3 = .ok (.istore_n 2, 1) := dget dkX4_stepsInAll_0 3 rfl
theorem dX4_stepsInAll_4 : decode cX4_stepsInAll 4 = .ok (.iload_n 2, 1) := dget dkX4_stepsInAll_0 4 rfl
theorem dX4_stepsInAll_5 : decode cX4_stepsInAll 5 = .ok (.iconst 4, 1) := dget dkX4_stepsInAll_0 5 rfl
theorem dX4_stepsInAll_6 : decode cX4_stepsInAll 6 = .ok (.if_icmp .ge 20, 3) := dget dkX4_stepsInAll_0 6 rfl
theorem dX4_stepsInAll_9 : decode cX4_stepsInAll 9 = .ok (.iload_n 1, 1) := dget dkX4_stepsInAll_0 7 rfl
theorem dX4_stepsInAll_10 : decode cX4_stepsInAll 10 = .ok (.aload_n 0, 1) := dget dkX4_stepsInAll_0 8 rfl
theorem dX4_stepsInAll_11 : decode cX4_stepsInAll 11 = .ok (.iload_n 2, 1) := dget dkX4_stepsInAll_0 9 rfl
theorem dX4_stepsInAll_12 : decode cX4_stepsInAll 12 = .ok (.invokevirtual 124, 3) := dget dkX4_stepsInAll_0 10 rfl
theorem dX4_stepsInAll_15 : decode cX4_stepsInAll 15 = .ok (.invokevirtual 200, 3) := dget dkX4_stepsInAll_0 11 rfl
theorem dX4_stepsInAll_18 : decode cX4_stepsInAll 18 = .ok (.iadd, 1) := dget dkX4_stepsInAll_0 12 rfl
theorem dX4_stepsInAll_19 : decode cX4_stepsInAll 19 = .ok (.istore_n 1, 1) := dget dkX4_stepsInAll_0 13 rfl
theorem dX4_stepsInAll_20 : decode cX4_stepsInAll 20 = .ok (.iinc 2 1, 3) := dget dkX4_stepsInAll_0 14 rfl
theorem dX4_stepsInAll_23 : decode cX4_stepsInAll 23 = .ok (.goto (-19), 3) := dget dkX4_stepsInAll_0 15 rfl
theorem dX4_stepsInAll_26 : decode cX4_stepsInAll 26 = .ok (.iload_n 1, 1) := dget dkX4_stepsInAll_0 16 rfl
theorem dX4_stepsInAll_27 : decode cX4_stepsInAll 27 = .ok (.ireturn, 1) := dget dkX4_stepsInAll_0 17 rfl
theorem ggX4_placeNew_X2_length : GoodIn wsX4_placeNew wsX2_length := tgCall 118 e_X2_length (by decide +kernel)
theorem gX4_placeNew_X2_length : GoodIn wsX4_placeNew (wsV RX4 63 RX2 yX2_length wsX2_length) := goodIn_app (tgIn [460, 116, 117, 9] (by decide +kernel) rfl) ggX4_placeNew_X2_length
theorem ggX4_placeNew_X4_refuse : GoodIn wsX4_placeNew wsX4_refuse := tgCall 464 e_X4_refuse (by decide +kernel)
theorem gX4_placeNew_X4_refuse : GoodIn wsX4_placeNew (wsV RX4 79 RX4 yX4_refuse wsX4_refuse) := goodIn_app (tgIn [461, 462, 463, 421] (by decide +kernel) rfl) ggX4_placeNew_X4_refuse
theorem ggX4_placeNew_X4_nextMark : GoodIn wsX4_placeNew wsX4_nextMark := tgCall 468 e_X4_nextMark (by decide +kernel)
theorem gX4_placeNew_X4_nextMark : GoodIn wsX4_placeNew (wsV RX4 82 RX4 yX4_nextMark wsX4_nextMark) := goodIn_app (tgIn [465, 466, 467, 421] (by decide +kernel) rfl) ggX4_placeNew_X4_nextMark
theorem ggX4_placeNew_X2_insert : GoodIn wsX4_placeNew wsX2_insert := tgCall 472 e_X2_insert (by decide +kernel)
theorem gX4_placeNew_X2_insert : GoodIn wsX4_placeNew (wsV RX4 319 RX2 yX2_insert wsX2_insert) := goodIn_app (tgIn [469, 470, 471, 9] (by decide +kernel) rfl) ggX4_placeNew_X2_insert
theorem dkX4_placeNew_0 : ([(0, (.aload_n 1, 1)), (1, (.invokevirtual 63, 3)), (4, (.bipush 12, 2)), (6, (.if_icmp .lt 8, 3)), (9, (.aload_n 0, 1)), (10, (.invokevirtual 79, 3)), (13, (.ireturn, 1)), (14, (.aload_n 0, 1)), (15, (.invokevirtual 82, 3)), (18, (.istore 4, 2)), (20, (.aload_n 1, 1)), (21, (.iload_n 2, 1)), (22, (.iload_n 3, 1)), (23, (.iload 4, 2)), (25, (.invokevirtual 319, 3)), (28, (.iload 4, 2)), (30, (.ireturn, 1))] : List (Nat × (Jvm.ClassFile.Instr × Nat))).all (dcB cX4_placeNew) = true := by decide +kernel
theorem dX4_placeNew_0 : decode cX4_placeNew 0 = .ok (.aload_n 1, 1) := dget dkX4_placeNew_0 0 rfl
theorem dX4_placeNew_1 : decode cX4_placeNew 1 = .ok (.invokevirtual 63, 3) := dget dkX4_placeNew_0 1 rfl
theorem dX4_placeNew_4 : decode cX4_placeNew 4 = .ok (.bipush 12, 2) := dget dkX4_placeNew_0 2 rfl
theorem dX4_placeNew_6 : decode cX4_placeNew 6 = .ok (.if_icmp .lt 8, 3) := dget dkX4_placeNew_0 3 rfl
theorem dX4_placeNew_9 : decode cX4_placeNew 9 = .ok (.aload_n 0, 1) := dget dkX4_placeNew_0 4 rfl
theorem dX4_placeNew_10 : decode cX4_placeNew 10 = .ok (.invokevirtual 79, 3) := dget dkX4_placeNew_0 5 rfl
theorem dX4_placeNew_13 : decode cX4_placeNew 13 = .ok (.ireturn, 1) := dget dkX4_placeNew_0 6 rfl
theorem dX4_placeNew_14 : decode cX4_placeNew 14 = .ok (.aload_n 0, 1) := dget dkX4_placeNew_0 7 rfl
theorem dX4_placeNew_15 : decode cX4_placeNew 15 = .ok (.invokevirtual 82, 3) := dget dkX4_placeNew_0 8 rfl
theorem dX4_placeNew_18 : decode cX4_placeNew 18 = .ok (.istore 4, 2) := dget dkX4_placeNew_0 9 rfl
theorem dX4_placeNew_20 : decode cX4_placeNew 20 = .ok (.aload_n 1, 1) := dget dkX4_placeNew_0 10 rfl
theorem dX4_placeNew_21 : decode cX4_placeNew 21 = .ok (.iload_n 2, 1) := dget dkX4_placeNew_0 11 rfl
theorem dX4_placeNew_22 : decode cX4_placeNew 22 = .ok (.iload_n 3, 1) := dget dkX4_placeNew_0 12 rfl
theorem dX4_placeNew_23 : decode cX4_placeNew 23 = .ok (.iload 4, 2) := dget dkX4_placeNew_0 13 rfl
theorem dX4_placeNew_25 : decode cX4_placeNew 25 = .ok (.invokevirtual 319, 3) := dget dkX4_placeNew_0 14 rfl
theorem dX4_placeNew_28 : decode cX4_placeNew 28 = .ok (.iload 4, 2) := dget dkX4_placeNew_0 15 rfl
theorem dX4_placeNew_30 : decode cX4_placeNew 30 = .ok (.ireturn, 1) := dget dkX4_placeNew_0 16 rfl
theorem ggX4_coarsestKey_X1_numberBy : GoodIn wsX4_coarsestKey wsX1_numberBy := tgCall 42 e_X1_numberBy (by decide +kernel)
theorem gX4_coarsestKey_X1_numberBy : GoodIn wsX4_coarsestKey (va_wsS RX4 246 yX1_numberBy wsX1_numberBy) := goodIn_app (tgIn [591, 41, 14] (by decide +kernel) rfl) ggX4_coarsestKey_X1_numberBy
theorem ggX4_coarsestKey_X1_becomeCopyOf : GoodIn wsX4_coarsestKey wsX1_becomeCopyOf := tgCall 201 e_X1_becomeCopyOf (by decide +kernel)
theorem gX4_coarsestKey_X1_becomeCopyOf : GoodIn wsX4_coarsestKey (wsV RX4 214 RX1 yX1_becomeCopyOf wsX1_becomeCopyOf) := goodIn_app (tgIn [584, 199, 200, 14] (by decide +kernel) rfl) ggX4_coarsestKey_X1_becomeCopyOf
theorem ggX4_coarsestKey_X1_append : GoodIn wsX4_coarsestKey wsX1_append := tgCall 573 e_X1_append (by decide +kernel)
theorem gX4_coarsestKey_X1_append : GoodIn wsX4_coarsestKey (wsV RX4 201 RX1 yX1_append wsX1_append) := goodIn_app (tgIn [570, 571, 572, 14] (by decide +kernel) rfl) ggX4_coarsestKey_X1_append
theorem ggX4_coarsestKey_X1_classCount : GoodIn wsX4_coarsestKey wsX1_classCount := tgCall 149 e_X1_classCount (by decide +kernel)
theorem gX4_coarsestKey_X1_classCount : GoodIn wsX4_coarsestKey (wsV RX4 204 RX1 yX1_classCount wsX1_classCount) := goodIn_app (tgIn [574, 147, 148, 14] (by decide +kernel) rfl) ggX4_coarsestKey_X1_classCount
theorem dkX4_coarsestKey_0 : ([(0, (.iconst 0, 1)), (1, (.istore 4, 2)), (3, (.bipush 17, 2)), (5, (.istore 5, 2)), (7, (.iconst 0, 1)), (8, (.istore 6, 2)), (10, (.iload 6, 2)), (12, (.bipush 8, 2)), (14, (.if_icmp .ge 67, 3)), (17, (.iload 6, 2)), (19, (.iload_n 2, 1)), (20, (.invokestatic 246, 3)), (23, (.iload 6, 2)), (25, (.iload_n 3, 1)), (26, (.invokestatic 246, 3)), (29, (.if_icmp .eq 46, 3)), (32, (.aload_n 0, 1)), (33, (.getfield 41, 3)), (36, (.aload_n 1, 1)), (37, (.invokevirtual 214, 3)), (40, (.aload_n 0, 1)), (41, (.getfield 41, 3)), (44, (.iload 6, 2)), (46, (.iconst 0, 1)), (47, (.invokevirtual 201, 3)), (50, (.aload_n 0, 1)), (51, (.getfield 41, 3)), (54, (.invokevirtual 204, 3)), (57, (.iload 5, 2)), (59, (.if_icmp .ge 16, 3)), (62, (.aload_n 0, 1)), (63, (.getfield 41, 3)), (66, (.invokevirtual 204, 3)), (69, (.istore 5, 2)), (71, (.iload 6, 2)), (73, (.istore 4, 2)), (75, (.iinc 6 1, 3)), (78, (.goto (-68), 3)), (81, (.iload 4, 2)), (83, (.ireturn, 1))] : List (Nat × (Jvm.ClassFile.Instr × Nat))).all (dcB cX4_coarsestKey) = true := by decide +kernel
theorem dX4_coarsestKey_0 : decode cX4_coarsestKey 0 = .ok (.iconst 0, 1) := dget dkX4_coarsestKey_0 0 rfl
theorem dX4_coarsestKey_1 : decode cX4_coarsestKey 1 = .ok (.istore 4, 2) := dget dkX4_coarsestKey_0 1 rfl
theorem dX4_coarsestKey_3 : decode cX4_coarsestKey 3 = .ok (.bipush 17, 2) := dget dkX4_coarsestKey_0 2 rfl
theorem dX4_coarsestKey_5 : decode cX4_coarsestKey 5 = .ok (.istore 5, 2) := dget dkX4_coarsestKey_0 3 rfl
theorem dX4_coarsestKey_7 : decode cX4_coarsestKey 7 = .ok (.iconst 0, 1) := dget dkX4_coarsestKey_0 4 rfl
theorem dX4_coarsestKey_8 : decode cX4_coarsestKey 8 = .ok (.istore 6, 2) := dget dkX4_coarsestKey_0 5 rfl
theorem dX4_coarsestKey_10 : decode cX4_coarsestKey 10 = .ok (.iload 6, 2) := dget dkX4_coarsestKey_0 6 rfl
theorem dX4_coarsestKey_12 : decode cX4_coarsestKey 12 = .ok (.bipush 8, 2) := dget dkX4_coarsestKey_0 7 rfl
theorem dX4_coarsestKey_14 : decode cX4_coarsestKey 14 = .ok (.if_icmp .ge 67, 3) := dget dkX4_coarsestKey_0 8 rfl
theorem dX4_coarsestKey_17 : decode cX4_coarsestKey 17 = .ok (.iload 6, 2) := dget dkX4_coarsestKey_0 9 rfl
theorem dX4_coarsestKey_19 : decode cX4_coarsestKey 19 = .ok (.iload_n 2, 1) := dget dkX4_coarsestKey_0 10 rfl
theorem dX4_coarsestKey_20 : decode cX4_coarsestKey 20 = .ok (.invokestatic 246, 3) := dget dkX4_coarsestKey_0 11 rfl
theorem dX4_coarsestKey_23 : decode cX4_coarsestKey 23 = .ok (.iload 6, 2) := dget dkX4_coarsestKey_0 12 rfl
theorem dX4_coarsestKey_25 : decode cX4_coarsestKey 25 = .ok (.iload_n 3, 1) := dget dkX4_coarsestKey_0 13 rfl
theorem dX4_coarsestKey_26 : decode cX4_coarsestKey 26 = .ok (.invokestatic 246, 3) := dget dkX4_coarsestKey_0 14 rfl
theorem dX4_coarsestKey_29 : decode cX4_coarsestKey 29 = .ok (.if_icmp .eq 46, 3) := dget dkX4_coarsestKey_0 15 rfl
theorem dX4_coarsestKey_32 : decode cX4_coarsestKey 32 = .ok (.aload_n 0, 1) := dget dkX4_coarsestKey_0 16 rfl
theorem dX4_coarsestKey_33 : decode cX4_coarsestKey 33 = .ok (.getfield 41, 3) := dget dkX4_coarsestKey_0 17 rfl
theorem dX4_coarsestKey_36 : decode cX4_coarsestKey 36 = .ok (.aload_n 1, 1) := dget dkX4_coarsestKey_0 18 rfl
theorem dX4_coarsestKey_37 : decode cX4_coarsestKey 37 = .ok (.invokevirtual 214, 3) := dget dkX4_coarsestKey_0 19 rfl
theorem dX4_coarsestKey_40 : decode cX4_coarsestKey 40 = .ok (.aload_n 0, 1) := dget dkX4_coarsestKey_0 20 rfl
theorem dX4_coarsestKey_41 : decode cX4_coarsestKey 41 = .ok (.getfield 41, 3) := dget dkX4_coarsestKey_0 21 rfl
theorem dX4_coarsestKey_44 : decode cX4_coarsestKey 44 = .ok (.iload 6, 2) := dget dkX4_coarsestKey_0 22 rfl
theorem dX4_coarsestKey_46 : decode cX4_coarsestKey 46 = .ok (.iconst 0, 1) := dget dkX4_coarsestKey_0 23 rfl
theorem dX4_coarsestKey_47 : decode cX4_coarsestKey 47 = .ok (.invokevirtual 201, 3) := dget dkX4_coarsestKey_0 24 rfl
theorem dX4_coarsestKey_50 : decode cX4_coarsestKey 50 = .ok (.aload_n 0, 1) := dget dkX4_coarsestKey_0 25 rfl
theorem dX4_coarsestKey_51 : decode cX4_coarsestKey 51 = .ok (.getfield 41, 3) := dget dkX4_coarsestKey_0 26 rfl
theorem dX4_coarsestKey_54 : decode cX4_coarsestKey 54 = .ok (.invokevirtual 204, 3) := dget dkX4_coarsestKey_0 27 rfl
theorem dX4_coarsestKey_57 : decode cX4_coarsestKey 57 = .ok (.iload 5, 2) := dget dkX4_coarsestKey_0 28 rfl
theorem dX4_coarsestKey_59 : decode cX4_coarsestKey 59 = .ok (.if_icmp .ge 16, 3) := dget dkX4_coarsestKey_0 29 rfl
theorem dX4_coarsestKey_62 : decode cX4_coarsestKey 62 = .ok (.aload_n 0, 1) := dget dkX4_coarsestKey_0 30 rfl
theorem dX4_coarsestKey_63 : decode cX4_coarsestKey 63 = .ok (.getfield 41, 3) := dget dkX4_coarsestKey_0 31 rfl
theorem dX4_coarsestKey_66 : decode cX4_coarsestKey 66 = .ok (.invokevirtual 204, 3) := dget dkX4_coarsestKey_0 32 rfl
theorem dX4_coarsestKey_69 : decode cX4_coarsestKey 69 = .ok (.istore 5, 2) := dget dkX4_coarsestKey_0 33 rfl
theorem dX4_coarsestKey_71 : decode cX4_coarsestKey 71 = .ok (.iload 6, 2) := dget dkX4_coarsestKey_0 34 rfl
theorem dX4_coarsestKey_73 : decode cX4_coarsestKey 73 = .ok (.istore 4, 2) := dget dkX4_coarsestKey_0 35 rfl
theorem dX4_coarsestKey_75 : decode cX4_coarsestKey 75 = .ok (.iinc 6 1, 3) := dget dkX4_coarsestKey_0 36 rfl
theorem dX4_coarsestKey_78 : decode cX4_coarsestKey 78 = .ok (.goto (-68), 3) := dget dkX4_coarsestKey_0 37 rfl
theorem dX4_coarsestKey_81 : decode cX4_coarsestKey 81 = .ok (.iload 4, 2) := dget dkX4_coarsestKey_0 38 rfl
theorem dX4_coarsestKey_83 : decode cX4_coarsestKey 83 = .ok (.ireturn, 1) := dget dkX4_coarsestKey_0 39 rfl
theorem ggX4_comparedByBoth_X1_compared : GoodIn wsX4_comparedByBoth wsX1_compared := tgCall 93 e_X1_compared (by decide +kernel)
theorem gX4_comparedByBoth_X1_compared : GoodIn wsX4_comparedByBoth (wsV RX4 225 RX1 yX1_compared wsX1_compared) := goodIn_app (tgIn [592, 91, 92, 14] (by decide +kernel) rfl) ggX4_comparedByBoth_X1_compared
theorem dkX4_comparedByBoth_0 : ([(0, (.aload_n 0, 1)), (1, (.iload_n 2, 1)), (2, (.iload_n 3, 1)), (3, (.invokevirtual 225, 3)), (6, (.istore 4, 2)), (8, (.aload_n 1, 1)), (9, (.iload_n 2, 1)), (10, (.iload_n 3, 1)), (11, (.invokevirtual 225, 3)), (14, (.istore 5, 2)), (16, (.iload 4, 2)), (18, (.ifCond .eq 13, 3)), (21, (.iload 4, 2)), (23, (.iload 5, 2)), (25, (.ineg, 1)), (26, (.if_icmp .ne 5, 3)), (29, (.iconst 2, 1)), (30, (.ireturn, 1)), (31, (.iload 4, 2)), (33, (.ifCond .eq 8, 3)), (36, (.iload 4, 2)), (38, (.goto 5, 3)), (41, (.iload 5, 2)), (43, (.ireturn, 1))] : List (Nat × (Jvm.ClassFile.Instr × Nat))).all (dcB cX4_comparedByBoth) = true := by decide +kernel
theorem dX4_comparedByBoth_0 : decode cX4_comparedByBoth 0 = .ok (.aload_n 0, 1) := dget dkX4_comparedByBoth_0 0 rfl
theorem dX4_comparedByBoth_1 : decode cX4_comparedByBoth 1 = .ok (.iload_n 2, 1) := dget dkX4_comparedByBoth_0 1 rfl
theorem dX4_comparedByBoth_2 : decode cX4_comparedByBoth 2 = .ok (.iload_n 3, 1) := dget dkX4_comparedByBoth_0 2 rfl
theorem dX4_comparedByBoth_3 : decode cX4_comparedByBoth 3 = .ok (.invokevirtual 225, 3) := dget dkX4_comparedByBoth_0 3 rfl
theorem dX4_comparedByBoth_6 : decode cX4_comparedByBoth 6 = .ok (.istore 4, 2) := dget dkX4_comparedByBoth_0 4 rfl
theorem dX4_comparedByBoth_8 : decode cX4_comparedByBoth 8 = .ok (.aload_n 1, 1) := dget dkX4_comparedByBoth_0 5 rfl
theorem dX4_comparedByBoth_9 : decode cX4_comparedByBoth 9 = .ok (.iload_n 2, 1) := dget dkX4_comparedByBoth_0 6 rfl
theorem dX4_comparedByBoth_10 : decode cX4_comparedByBoth 10 = .ok (.iload_n 3, 1) := dget dkX4_comparedByBoth_0 7 rfl
theorem dX4_comparedByBoth_11 : decode cX4_comparedByBoth 11 = .ok (.invokevirtual 225, 3) := dget dkX4_comparedByBoth_0 8 rfl
theorem dX4_comparedByBoth_14 : decode cX4_comparedByBoth 14 = .ok (.istore 5, 2) := dget dkX4_comparedByBoth_0 9 rfl
theorem dX4_comparedByBoth_16 : decode cX4_comparedByBoth 16 = .ok (.iload 4, 2) := dget dkX4_comparedByBoth_0 10 rfl
theorem dX4_comparedByBoth_18 : decode cX4_comparedByBoth 18 = .ok (.ifCond .eq 13, 3) := dget dkX4_comparedByBoth_0 11 rfl
theorem dX4_comparedByBoth_21 : decode cX4_comparedByBoth 21 = .ok (.iload 4, 2) := dget dkX4_comparedByBoth_0 12 rfl
theorem dX4_comparedByBoth_23 : decode cX4_comparedByBoth 23 = .ok (.iload 5, 2) := dget dkX4_comparedByBoth_0 13 rfl
theorem dX4_comparedByBoth_25 : decode cX4_comparedByBoth 25 = .ok (.ineg, 1) := dget dkX4_comparedByBoth_0 14 rfl
theorem dX4_comparedByBoth_26 : decode cX4_comparedByBoth 26 = .ok (.if_icmp .ne 5, 3) := dget dkX4_comparedByBoth_0 15 rfl
theorem dX4_comparedByBoth_29 : decode cX4_comparedByBoth 29 = .ok (.iconst 2, 1) := dget dkX4_comparedByBoth_0 16 rfl
theorem dX4_comparedByBoth_30 : decode cX4_comparedByBoth 30 = .ok (.ireturn, 1) := dget dkX4_comparedByBoth_0 17 rfl
theorem dX4_comparedByBoth_31 : decode cX4_comparedByBoth 31 = .ok (.iload 4, 2) := dget dkX4_comparedByBoth_0 18 rfl
theorem dX4_comparedByBoth_33 : decode cX4_comparedByBoth 33 = .ok (.ifCond .eq 8, 3) := dget dkX4_comparedByBoth_0 19 rfl
theorem dX4_comparedByBoth_36 : decode cX4_comparedByBoth 36 = .ok (.iload 4, 2) := dget dkX4_comparedByBoth_0 20 rfl
theorem dX4_comparedByBoth_38 : decode cX4_comparedByBoth 38 = .ok (.goto 5, 3) := dget dkX4_comparedByBoth_0 21 rfl
theorem dX4_comparedByBoth_41 : decode cX4_comparedByBoth 41 = .ok (.iload 5, 2) := dget dkX4_comparedByBoth_0 22 rfl
theorem dX4_comparedByBoth_43 : decode cX4_comparedByBoth 43 = .ok (.ireturn, 1) := dget dkX4_comparedByBoth_0 23 rfl
theorem ggX4_pairsApart_X4_comparedByBoth : GoodIn wsX4_pairsApart wsX4_comparedByBoth := tgCall 603 e_X4_comparedByBoth (by decide +kernel)
theorem gX4_pairsApart_X4_comparedByBoth : GoodIn wsX4_pairsApart (va_wsS RX4 232 yX4_comparedByBoth wsX4_comparedByBoth) := goodIn_app (tgIn [601, 602, 421] (by decide +kernel) rfl) ggX4_pairsApart_X4_comparedByBoth
theorem dkX4_pairsApart_0 : ([(0, (.iconst 0, 1)), (1, (.istore_n 2, 1)), (2, (.iconst 0, 1)), (3, (.istore_n 3, 1)), (4, (.iload_n 3, 1)), (5, (.bipush 16, 2)), (7, (.if_icmp .ge 42, 3)), (10, (.iload_n 3, 1)), (11, (.iconst 1, 1)), (12, (.iadd, 1)), (13, (.istore 4, 2)), (15, (.iload 4, 2)), (17, (.bipush 16, 2)), (19, (.if_icmp .ge 24, 3)), (22, (.aload_n 0, 1)), (23, (.aload_n 1, 1)), (24, (.iload_n 3, 1)), (25, (.iload 4, 2)), (27, (.invokestatic 232, 3)), (30, (.iconst 2, 1)), (31, (.if_icmp .ne 6, 3)), (34, (.iinc 2 1, 3)), (37, (.iinc 4 1, 3)), (40, (.goto (-25), 3)), (43, (.iinc 3 1, 3)), (46, (.goto (-42), 3)), (49, (.iload_n 2, 1)), (50, (.ireturn, 1))] : List (Nat × (Jvm.ClassFile.Instr × Nat))).all (dcB cX4_pairsApart) = true := by decide +kernel
theorem dX4_pairsApart_0 : decode cX4_pairsApart 0 = .ok (.iconst 0, 1) := dget dkX4_pairsApart_0 0 rfl
theorem dX4_pairsApart_1 : decode cX4_pairsApart 1 = .ok (.istore_n 2, 1) := dget dkX4_pairsApart_0 1 rfl
theorem dX4_pairsApart_2 : decode cX4_pairsApart 2 = .ok (.iconst 0, 1) := dget dkX4_pairsApart_0 2 rfl
theorem dX4_pairsApart_3 : decode cX4_pairsApart 3 = .ok (.istore_n 3, 1) := dget dkX4_pairsApart_0 3 rfl
theorem dX4_pairsApart_4 : decode cX4_pairsApart 4 = .ok (.iload_n 3, 1) := dget dkX4_pairsApart_0 4 rfl
theorem dX4_pairsApart_5 : decode cX4_pairsApart 5 = .ok (.bipush 16, 2) := dget dkX4_pairsApart_0 5 rfl
theorem dX4_pairsApart_7 : decode cX4_pairsApart 7 = .ok (.if_icmp .ge 42, 3) := dget dkX4_pairsApart_0 6 rfl
theorem dX4_pairsApart_10 : decode cX4_pairsApart 10 = .ok (.iload_n 3, 1) := dget dkX4_pairsApart_0 7 rfl
theorem dX4_pairsApart_11 : decode cX4_pairsApart 11 = .ok (.iconst 1, 1) := dget dkX4_pairsApart_0 8 rfl
theorem dX4_pairsApart_12 : decode cX4_pairsApart 12 = .ok (.iadd, 1) := dget dkX4_pairsApart_0 9 rfl
theorem dX4_pairsApart_13 : decode cX4_pairsApart 13 = .ok (.istore 4, 2) := dget dkX4_pairsApart_0 10 rfl
theorem dX4_pairsApart_15 : decode cX4_pairsApart 15 = .ok (.iload 4, 2) := dget dkX4_pairsApart_0 11 rfl
theorem dX4_pairsApart_17 : decode cX4_pairsApart 17 = .ok (.bipush 16, 2) := dget dkX4_pairsApart_0 12 rfl
theorem dX4_pairsApart_19 : decode cX4_pairsApart 19 = .ok (.if_icmp .ge 24, 3) := dget dkX4_pairsApart_0 13 rfl
theorem dX4_pairsApart_22 : decode cX4_pairsApart 22 = .ok (.aload_n 0, 1) := dget dkX4_pairsApart_0 14 rfl
theorem dX4_pairsApart_23 : decode cX4_pairsApart 23 = .ok (.aload_n 1, 1) := dget dkX4_pairsApart_0 15 rfl
theorem dX4_pairsApart_24 : decode cX4_pairsApart 24 = .ok (.iload_n 3, 1) := dget dkX4_pairsApart_0 16 rfl
theorem dX4_pairsApart_25 : decode cX4_pairsApart 25 = .ok (.iload 4, 2) := dget dkX4_pairsApart_0 17 rfl
theorem dX4_pairsApart_27 : decode cX4_pairsApart 27 = .ok (.invokestatic 232, 3) := dget dkX4_pairsApart_0 18 rfl
theorem dX4_pairsApart_30 : decode cX4_pairsApart 30 = .ok (.iconst 2, 1) := dget dkX4_pairsApart_0 19 rfl
theorem dX4_pairsApart_31 : decode cX4_pairsApart 31 = .ok (.if_icmp .ne 6, 3) := dget dkX4_pairsApart_0 20 rfl
theorem dX4_pairsApart_34 : decode cX4_pairsApart 34 = .ok (.iinc 2 1, 3) := dget dkX4_pairsApart_0 21 rfl
theorem dX4_pairsApart_37 : decode cX4_pairsApart 37 = .ok (.iinc 4 1, 3) := dget dkX4_pairsApart_0 22 rfl
theorem dX4_pairsApart_40 : decode cX4_pairsApart 40 = .ok (.goto (-25), 3) := dget dkX4_pairsApart_0 23 rfl
theorem dX4_pairsApart_43 : decode cX4_pairsApart 43 = .ok (.iinc 3 1, 3) := dget dkX4_pairsApart_0 24 rfl
theorem dX4_pairsApart_46 : decode cX4_pairsApart 46 = .ok (.goto (-42), 3) := dget dkX4_pairsApart_0 25 rfl
theorem dX4_pairsApart_49 : decode cX4_pairsApart 49 = .ok (.iload_n 2, 1) := dget dkX4_pairsApart_0 26 rfl
theorem dX4_pairsApart_50 : decode cX4_pairsApart 50 = .ok (.ireturn, 1) := dget dkX4_pairsApart_0 27 rfl
theorem ggX4_appendGap_J4_length_8abf5 : GoodIn wsX4_appendGap wsJ4_length_8abf5 := tgCall 329 e_J4_length_8abf5 (by decide +kernel)
theorem gX4_appendGap_J4_length_8abf5 : GoodIn wsX4_appendGap (wsV RX4 322 RJ4 yJ4_length_8abf5 wsJ4_length_8abf5) := goodIn_app (tgIn [325, 326, 327, 328] (by decide +kernel) rfl) ggX4_appendGap_J4_length_8abf5
theorem ggX4_appendGap_J4_append_cf468 : GoodIn wsX4_appendGap wsJ4_append_cf468 := tgCall 337 e_J4_append_cf468 (by decide +kernel)
theorem gX4_appendGap_J4_append_cf468 : GoodIn wsX4_appendGap (wsV RX4 323 RJ4 yJ4_append_cf468 wsJ4_append_cf468) := goodIn_app (tgIn [334, 335, 336, 328] (by decide +kernel) rfl) ggX4_appendGap_J4_append_cf468
theorem dkX4_appendGap_0 : ([(0, (.aload_n 0, 1)), (1, (.invokevirtual 322, 3)), (4, (.ifCond .le 10, 3)), (7, (.aload_n 0, 1)), (8, (.bipush 32, 2)), (10, (.invokevirtual 323, 3)), (13, (.pop, 1)), (14, (.return_, 1))] : List (Nat × (Jvm.ClassFile.Instr × Nat))).all (dcB cX4_appendGap) = true := by decide +kernel
theorem dX4_appendGap_0 : decode cX4_appendGap 0 = .ok (.aload_n 0, 1) := dget dkX4_appendGap_0 0 rfl
theorem dX4_appendGap_1 : decode cX4_appendGap 1 = .ok (.invokevirtual 322, 3) := dget dkX4_appendGap_0 1 rfl
theorem dX4_appendGap_4 : decode cX4_appendGap 4 = .ok (.ifCond .le 10, 3) := dget dkX4_appendGap_0 2 rfl
theorem dX4_appendGap_7 : decode cX4_appendGap 7 = .ok (.aload_n 0, 1) := dget dkX4_appendGap_0 3 rfl
theorem dX4_appendGap_8 : decode cX4_appendGap 8 = .ok (.bipush 32, 2) := dget dkX4_appendGap_0 4 rfl
theorem dX4_appendGap_10 : decode cX4_appendGap 10 = .ok (.invokevirtual 323, 3) := dget dkX4_appendGap_0 5 rfl
theorem dX4_appendGap_13 : decode cX4_appendGap 13 = .ok (.pop, 1) := dget dkX4_appendGap_0 6 rfl
theorem dX4_appendGap_14 : decode cX4_appendGap 14 = .ok (.return_, 1) := dget dkX4_appendGap_0 7 rfl
theorem dkX4_mixed_0 : ([(0, (.lload_n 0, 1)), (1, (.ldc2_w 326, 3)), (4, (.lmul, 1)), (5, (.iload_n 2, 1)), (6, (.i2l, 1)), (7, (.ladd, 1)), (8, (.lreturn, 1))] : List (Nat × (Jvm.ClassFile.Instr × Nat))).all (dcB cX4_mixed) = true := by decide +kernel
theorem dX4_mixed_0 : decode cX4_mixed 0 = .ok (.lload_n 0, 1) := dget dkX4_mixed_0 0 rfl
theorem dX4_mixed_1 : decode cX4_mixed 1 = .ok (.ldc2_w 326, 3) := dget dkX4_mixed_0 1 rfl
theorem dX4_mixed_4 : decode cX4_mixed 4 = .ok (.lmul, 1) := dget dkX4_mixed_0 2 rfl
theorem dX4_mixed_5 : decode cX4_mixed 5 = .ok (.iload_n 2, 1) := dget dkX4_mixed_0 3 rfl
theorem dX4_mixed_6 : decode cX4_mixed 6 = .ok (.i2l, 1) := dget dkX4_mixed_0 4 rfl
theorem dX4_mixed_7 : decode cX4_mixed 7 = .ok (.ladd, 1) := dget dkX4_mixed_0 5 rfl
theorem dX4_mixed_8 : decode cX4_mixed 8 = .ok (.lreturn, 1) := dget dkX4_mixed_0 6 rfl
theorem ggX4_mixedWithRows_X4_rowAt : GoodIn wsX4_mixedWithRows wsX4_rowAt := tgCall 476 e_X4_rowAt (by decide +kernel)
theorem gX4_mixedWithRows_X4_rowAt : GoodIn wsX4_mixedWithRows (wsV RX4 55 RX4 yX4_rowAt wsX4_rowAt) := goodIn_app (tgIn [473, 474, 475, 421] (by decide +kernel) rfl) ggX4_mixedWithRows_X4_rowAt
theorem ggX4_mixedWithRows_X2_length : GoodIn wsX4_mixedWithRows wsX2_length := tgCall 118 e_X2_length (by decide +kernel)
theorem gX4_mixedWithRows_X2_length : GoodIn wsX4_mixedWithRows (wsV RX4 63 RX2 yX2_length wsX2_length) := goodIn_app (tgIn [460, 116, 117, 9] (by decide +kernel) rfl) ggX4_mixedWithRows_X2_length
theorem ggX4_mixedWithRows_X4_mixed : GoodIn wsX4_mixedWithRows wsX4_mixed := tgCall 653 e_X4_mixed (by decide +kernel)
theorem gX4_mixedWithRows_X4_mixed : GoodIn wsX4_mixedWithRows (va_wsS RX4 281 yX4_mixed wsX4_mixed) := goodIn_app (tgIn [651, 652, 421] (by decide +kernel) rfl) ggX4_mixedWithRows_X4_mixed
theorem ggX4_mixedWithRows_X2_valueOn : GoodIn wsX4_mixedWithRows wsX2_valueOn := tgCall 89 e_X2_valueOn (by decide +kernel)
theorem gX4_mixedWithRows_X2_valueOn : GoodIn wsX4_mixedWithRows (wsV RX4 114 RX2 yX2_valueOn wsX2_valueOn) := goodIn_app (tgIn [505, 87, 88, 9] (by decide +kernel) rfl) ggX4_mixedWithRows_X2_valueOn
theorem ggX4_mixedWithRows_X2_markOn : GoodIn wsX4_mixedWithRows wsX2_markOn := tgCall 102 e_X2_markOn (by decide +kernel)
theorem gX4_mixedWithRows_X2_markOn : GoodIn wsX4_mixedWithRows (wsV RX4 91 RX2 yX2_markOn wsX2_markOn) := goodIn_app (tgIn [498, 100, 101, 9] (by decide +kernel) rfl) ggX4_mixedWithRows_X2_markOn
theorem dkX4_mixedWithRows_0 : ([(0, (.lload_n 1, 1)), (1, (.lstore_n 3, 1)), (2, (.iconst 0, 1)), (3, (.istore 5, 2)), (5, (.iload 5, 2)), (7, (.iconst 3, 1)), (8, (.if_icmp .ge 70, 3)), (11, (.aload_n 0, 1)), (12, (.iload 5, 2)), (14, (.invokevirtual 55, 3)), (17, (.astore 6, 2)), (19, (.lload_n 3, 1)), (20, (.aload 6, 2)), (22, (.invokevirtual 63, 3)), (25, (.invokestatic 281, 3)), (28, (.lstore_n 3, 1)), (29, (.iconst 0, 1)), (30, (.istore 7, 2)), (32, (.iload 7, 2)), (34, (.aload 6, 2)), (36, (.invokevirtual 63, 3)), (39, (.if_icmp .ge 33, 3)), (42, (.lload_n 3, 1)), (43, (.aload 6, 2)), (45, (.iload 7, 2)), (47, (.invokevirtual 114, 3)), (50, (.invokestatic 281, 3)), (53, (.lstore_n 3, 1)), (54, (.lload_n 3, 1)), (55, (.aload 6, 2)), (57, (.iload 7, 2)), (59, (.invokevirtual 91, 3)), (62, (.invokestatic 281, 3)), (65, (.lstore_n 3, 1)), (66, (.iinc 7 1, 3)), (69, (.goto (-37), 3)), (72, (.iinc 5 1, 3)), (75, (.goto (-70), 3)), (78, (.lload_n 3, 1)), (79, (.lreturn, 1))] : List (Nat × (Jvm.ClassFile.Instr × Nat))).all (dcB cX4_mixedWithRows) = true := by decide +kernel
theorem dX4_mixedWithRows_0 : decode cX4_mixedWithRows 0 = .ok (.lload_n 1, 1) := dget dkX4_mixedWithRows_0 0 rfl
theorem dX4_mixedWithRows_1 : decode cX4_mixedWithRows 1 = .ok (.lstore_n 3, 1) := dget dkX4_mixedWithRows_0 1 rfl
theorem dX4_mixedWithRows_2 : decode cX4_mixedWithRows 2 = .ok (.iconst 0, 1) := dget dkX4_mixedWithRows_0 2 rfl
theorem dX4_mixedWithRows_3 : decode cX4_mixedWithRows 3 = .ok (.istore 5, 2) := dget dkX4_mixedWithRows_0 3 rfl
theorem dX4_mixedWithRows_5 : decode cX4_mixedWithRows 5 = .ok (.iload 5, 2) := dget dkX4_mixedWithRows_0 4 rfl
theorem dX4_mixedWithRows_7 : decode cX4_mixedWithRows 7 = .ok (.iconst 3, 1) := dget dkX4_mixedWithRows_0 5 rfl
theorem dX4_mixedWithRows_8 : decode cX4_mixedWithRows 8 = .ok (.if_icmp .ge 70, 3) := dget dkX4_mixedWithRows_0 6 rfl
theorem dX4_mixedWithRows_11 : decode cX4_mixedWithRows 11 = .ok (.aload_n 0, 1) := dget dkX4_mixedWithRows_0 7 rfl
theorem dX4_mixedWithRows_12 : decode cX4_mixedWithRows 12 = .ok (.iload 5, 2) := dget dkX4_mixedWithRows_0 8 rfl
theorem dX4_mixedWithRows_14 : decode cX4_mixedWithRows 14 = .ok (.invokevirtual 55, 3) := dget dkX4_mixedWithRows_0 9 rfl
theorem dX4_mixedWithRows_17 : decode cX4_mixedWithRows 17 = .ok (.astore 6, 2) := dget dkX4_mixedWithRows_0 10 rfl
theorem dX4_mixedWithRows_19 : decode cX4_mixedWithRows 19 = .ok (.lload_n 3, 1) := dget dkX4_mixedWithRows_0 11 rfl
theorem dX4_mixedWithRows_20 : decode cX4_mixedWithRows 20 = .ok (.aload 6, 2) := dget dkX4_mixedWithRows_0 12 rfl
theorem dX4_mixedWithRows_22 : decode cX4_mixedWithRows 22 = .ok (.invokevirtual 63, 3) := dget dkX4_mixedWithRows_0 13 rfl
theorem dX4_mixedWithRows_25 : decode cX4_mixedWithRows 25 = .ok (.invokestatic 281, 3) := dget dkX4_mixedWithRows_0 14 rfl
theorem dX4_mixedWithRows_28 : decode cX4_mixedWithRows 28 = .ok (.lstore_n 3, 1) := dget dkX4_mixedWithRows_0 15 rfl
theorem dX4_mixedWithRows_29 : decode cX4_mixedWithRows 29 = .ok (.iconst 0, 1) := dget dkX4_mixedWithRows_0 16 rfl
theorem dX4_mixedWithRows_30 : decode cX4_mixedWithRows 30 = .ok (.istore 7, 2) := dget dkX4_mixedWithRows_0 17 rfl
theorem dX4_mixedWithRows_32 : decode cX4_mixedWithRows 32 = .ok (.iload 7, 2) := dget dkX4_mixedWithRows_0 18 rfl
theorem dX4_mixedWithRows_34 : decode cX4_mixedWithRows 34 = .ok (.aload 6, 2) := dget dkX4_mixedWithRows_0 19 rfl
theorem dX4_mixedWithRows_36 : decode cX4_mixedWithRows 36 = .ok (.invokevirtual 63, 3) := dget dkX4_mixedWithRows_0 20 rfl
theorem dX4_mixedWithRows_39 : decode cX4_mixedWithRows 39 = .ok (.if_icmp .ge 33, 3) := dget dkX4_mixedWithRows_0 21 rfl
theorem dX4_mixedWithRows_42 : decode cX4_mixedWithRows 42 = .ok (.lload_n 3, 1) := dget dkX4_mixedWithRows_0 22 rfl
theorem dX4_mixedWithRows_43 : decode cX4_mixedWithRows 43 = .ok (.aload 6, 2) := dget dkX4_mixedWithRows_0 23 rfl
theorem dX4_mixedWithRows_45 : decode cX4_mixedWithRows 45 = .ok (.iload 7, 2) := dget dkX4_mixedWithRows_0 24 rfl
theorem dX4_mixedWithRows_47 : decode cX4_mixedWithRows 47 = .ok (.invokevirtual 114, 3) := dget dkX4_mixedWithRows_0 25 rfl
theorem dX4_mixedWithRows_50 : decode cX4_mixedWithRows 50 = .ok (.invokestatic 281, 3) := dget dkX4_mixedWithRows_0 26 rfl
theorem dX4_mixedWithRows_53 : decode cX4_mixedWithRows 53 = .ok (.lstore_n 3, 1) := dget dkX4_mixedWithRows_0 27 rfl
theorem dX4_mixedWithRows_54 : decode cX4_mixedWithRows 54 = .ok (.lload_n 3, 1) := dget dkX4_mixedWithRows_0 28 rfl
theorem dX4_mixedWithRows_55 : decode cX4_mixedWithRows 55 = .ok (.aload 6, 2) := dget dkX4_mixedWithRows_0 29 rfl
theorem dX4_mixedWithRows_57 : decode cX4_mixedWithRows 57 = .ok (.iload 7, 2) := dget dkX4_mixedWithRows_0 30 rfl
theorem dX4_mixedWithRows_59 : decode cX4_mixedWithRows 59 = .ok (.invokevirtual 91, 3) := dget dkX4_mixedWithRows_0 31 rfl
theorem dX4_mixedWithRows_62 : decode cX4_mixedWithRows 62 = .ok (.invokestatic 281, 3) := dget dkX4_mixedWithRows_0 32 rfl
theorem dX4_mixedWithRows_65 : decode cX4_mixedWithRows 65 = .ok (.lstore_n 3, 1) := dget dkX4_mixedWithRows_0 33 rfl
theorem dX4_mixedWithRows_66 : decode cX4_mixedWithRows 66 = .ok (.iinc 7 1, 3) := dget dkX4_mixedWithRows_0 34 rfl
theorem dX4_mixedWithRows_69 : decode cX4_mixedWithRows 69 = .ok (.goto (-37), 3) := dget dkX4_mixedWithRows_0 35 rfl
theorem dX4_mixedWithRows_72 : decode cX4_mixedWithRows 72 = .ok (.iinc 5 1, 3) := dget dkX4_mixedWithRows_0 36 rfl
theorem dX4_mixedWithRows_75 : decode cX4_mixedWithRows 75 = .ok (.goto (-70), 3) := dget dkX4_mixedWithRows_0 37 rfl
theorem dX4_mixedWithRows_78 : decode cX4_mixedWithRows 78 = .ok (.lload_n 3, 1) := dget dkX4_mixedWithRows_0 38 rfl
theorem dX4_mixedWithRows_79 : decode cX4_mixedWithRows 79 = .ok (.lreturn, 1) := dget dkX4_mixedWithRows_0 39 rfl
theorem ggX4_mixedWithOrders_X4_orderAt : GoodIn wsX4_mixedWithOrders wsX4_orderAt := tgCall 511 e_X4_orderAt (by decide +kernel)
theorem gX4_mixedWithOrders_X4_orderAt : GoodIn wsX4_mixedWithOrders (wsV RX4 124 RX4 yX4_orderAt wsX4_orderAt) := goodIn_app (tgIn [508, 509, 510, 421] (by decide +kernel) rfl) ggX4_mixedWithOrders_X4_orderAt
theorem ggX4_mixedWithOrders_X1_length : GoodIn wsX4_mixedWithOrders wsX1_length := tgCall 65 e_X1_length (by decide +kernel)
theorem gX4_mixedWithOrders_X1_length : GoodIn wsX4_mixedWithOrders (wsV RX4 200 RX1 yX1_length wsX1_length) := goodIn_app (tgIn [569, 63, 64, 14] (by decide +kernel) rfl) ggX4_mixedWithOrders_X1_length
theorem ggX4_mixedWithOrders_X4_mixed : GoodIn wsX4_mixedWithOrders wsX4_mixed := tgCall 653 e_X4_mixed (by decide +kernel)
theorem gX4_mixedWithOrders_X4_mixed : GoodIn wsX4_mixedWithOrders (va_wsS RX4 281 yX4_mixed wsX4_mixed) := goodIn_app (tgIn [651, 652, 421] (by decide +kernel) rfl) ggX4_mixedWithOrders_X4_mixed
theorem ggX4_mixedWithOrders_X1_keyOn : GoodIn wsX4_mixedWithOrders wsX1_keyOn := tgCall 73 e_X1_keyOn (by decide +kernel)
theorem gX4_mixedWithOrders_X1_keyOn : GoodIn wsX4_mixedWithOrders (wsV RX4 207 RX1 yX1_keyOn wsX1_keyOn) := goodIn_app (tgIn [575, 71, 72, 14] (by decide +kernel) rfl) ggX4_mixedWithOrders_X1_keyOn
theorem ggX4_mixedWithOrders_X1_isDownOn : GoodIn wsX4_mixedWithOrders wsX1_isDownOn := tgCall 77 e_X1_isDownOn (by decide +kernel)
theorem gX4_mixedWithOrders_X1_isDownOn : GoodIn wsX4_mixedWithOrders (wsV RX4 328 RX1 yX1_isDownOn wsX1_isDownOn) := goodIn_app (tgIn [655, 75, 76, 14] (by decide +kernel) rfl) ggX4_mixedWithOrders_X1_isDownOn
theorem ggX4_mixedWithOrders_X1_classCount : GoodIn wsX4_mixedWithOrders wsX1_classCount := tgCall 149 e_X1_classCount (by decide +kernel)
theorem gX4_mixedWithOrders_X1_classCount : GoodIn wsX4_mixedWithOrders (wsV RX4 204 RX1 yX1_classCount wsX1_classCount) := goodIn_app (tgIn [574, 147, 148, 14] (by decide +kernel) rfl) ggX4_mixedWithOrders_X1_classCount
theorem ggX4_mixedWithOrders_X1_rankOf : GoodIn wsX4_mixedWithOrders wsX1_rankOf := tgCall 174 e_X1_rankOf (by decide +kernel)
theorem gX4_mixedWithOrders_X1_rankOf : GoodIn wsX4_mixedWithOrders (wsV RX4 162 RX1 yX1_rankOf wsX1_rankOf) := goodIn_app (tgIn [528, 172, 173, 14] (by decide +kernel) rfl) ggX4_mixedWithOrders_X1_rankOf
def dvX4_mixedWithOrders_0 : List UInt8 := [31, 66, 3, 54, 5, 21, 5, 7, 162, 0, 116, 42, 21, 5, 182, 0, 124, 58, 6, 33, 25, 6, 182, 0, 200, 184, 1, 25, 66, 3, 54, 7, 21, 7, 25, 6, 182, 0, 200, 162, 0, 41, 33, 25, 6, 21, 7, 182, 0, 207, 184, 1, 25, 66, 33, 25, 6, 21, 7, 182, 1, 72]
theorem dwX4_mixedWithOrders_0 : (cX4_mixedWithOrders.data.toList.drop 0).take dvX4_mixedWithOrders_0.length = dvX4_mixedWithOrders_0 := by decide +kernel
theorem dkX4_mixedWithOrders_0 : ([(0, (.lload_n 1, 1)), (1, (.lstore_n 3, 1)), (2, (.iconst 0, 1)), (3, (.istore 5, 2)), (5, (.iload 5, 2)), (7, (.iconst 4, 1)), (8, (.if_icmp .ge 116, 3)), (11, (.aload_n 0, 1)), (12, (.iload 5, 2)), (14, (.invokevirtual 124, 3)), (17, (.astore 6, 2)), (19, (.lload_n 3, 1)), (20, (.aload 6, 2)), (22, (.invokevirtual 200, 3)), (25, (.invokestatic 281, 3)), (28, (.lstore_n 3, 1)), (29, (.iconst 0, 1)), (30, (.istore 7, 2)), (32, (.iload 7, 2)), (34, (.aload 6, 2)), (36, (.invokevirtual 200, 3)), (39, (.if_icmp .ge 41, 3)), (42, (.lload_n 3, 1)), (43, (.aload 6, 2)), (45, (.iload 7, 2)), (47, (.invokevirtual 207, 3)), (50, (.invokestatic 281, 3)), (53, (.lstore_n 3, 1)), (54, (.lload_n 3, 1)), (55, (.aload 6, 2)), (57, (.iload 7, 2)), (59, (.invokevirtual 328, 3))] : List (Nat × (Jvm.ClassFile.Instr × Nat))).all (wnL dvX4_mixedWithOrders_0 0) = true := by decide +kernel
theorem dX4_mixedWithOrders_0 : decode cX4_mixedWithOrders 0 = .ok (.lload_n 1, 1) := wnGet dwX4_mixedWithOrders_0 dkX4_mixedWithOrders_0 0 rfl
theorem dX4_mixedWithOrders_1 : decode cX4_mixedWithOrders 1 = .ok (.lstore_n 3, 1) := wnGet dwX4_mixedWithOrders_0 dkX4_mixedWithOrders_0 1 rfl
theorem dX4_mixedWithOrders_2 : decode cX4_mixedWithOrders 2 = .ok (.iconst 0, 1) := wnGet dwX4_mixedWithOrders_0 dkX4_mixedWithOrders_0 2 rfl
theorem dX4_mixedWithOrders_3 : decode cX4_mixedWithOrders 3 = .ok (.istore 5, 2) := wnGet dwX4_mixedWithOrders_0 dkX4_mixedWithOrders_0 3 rfl
theorem dX4_mixedWithOrders_5 : decode cX4_mixedWithOrders 5 = .ok (.iload 5, 2) := wnGet dwX4_mixedWithOrders_0 dkX4_mixedWithOrders_0 4 rfl
theorem dX4_mixedWithOrders_7 : decode cX4_mixedWithOrders 7 = .ok (.iconst 4, 1) := wnGet dwX4_mixedWithOrders_0 dkX4_mixedWithOrders_0 5 rfl
theorem dX4_mixedWithOrders_8 : decode cX4_mixedWithOrders 8 = .ok (.if_icmp .ge 116, 3) := wnGet dwX4_mixedWithOrders_0 dkX4_mixedWithOrders_0 6 rfl
theorem dX4_mixedWithOrders_11 : decode cX4_mixedWithOrders 11 = .ok (.aload_n 0, 1) := wnGet dwX4_mixedWithOrders_0 dkX4_mixedWithOrders_0 7 rfl
theorem dX4_mixedWithOrders_12 : decode cX4_mixedWithOrders 12 = .ok (.iload 5, 2) := wnGet dwX4_mixedWithOrders_0 dkX4_mixedWithOrders_0 8 rfl
theorem dX4_mixedWithOrders_14 : decode cX4_mixedWithOrders 14 = .ok (.invokevirtual 124, 3) := wnGet dwX4_mixedWithOrders_0 dkX4_mixedWithOrders_0 9 rfl
theorem dX4_mixedWithOrders_17 : decode cX4_mixedWithOrders 17 = .ok (.astore 6, 2) := wnGet dwX4_mixedWithOrders_0 dkX4_mixedWithOrders_0 10 rfl
theorem dX4_mixedWithOrders_19 : decode cX4_mixedWithOrders 19 = .ok (.lload_n 3, 1) := wnGet dwX4_mixedWithOrders_0 dkX4_mixedWithOrders_0 11 rfl
theorem dX4_mixedWithOrders_20 : decode cX4_mixedWithOrders 20 = .ok (.aload 6, 2) := wnGet dwX4_mixedWithOrders_0 dkX4_mixedWithOrders_0 12 rfl
theorem dX4_mixedWithOrders_22 : decode cX4_mixedWithOrders 22 = .ok (.invokevirtual 200, 3) := wnGet dwX4_mixedWithOrders_0 dkX4_mixedWithOrders_0 13 rfl
theorem dX4_mixedWithOrders_25 : decode cX4_mixedWithOrders 25 = .ok (.invokestatic 281, 3) := wnGet dwX4_mixedWithOrders_0 dkX4_mixedWithOrders_0 14 rfl
theorem dX4_mixedWithOrders_28 : decode cX4_mixedWithOrders 28 = .ok (.lstore_n 3, 1) := wnGet dwX4_mixedWithOrders_0 dkX4_mixedWithOrders_0 15 rfl
theorem dX4_mixedWithOrders_29 : decode cX4_mixedWithOrders 29 = .ok (.iconst 0, 1) := wnGet dwX4_mixedWithOrders_0 dkX4_mixedWithOrders_0 16 rfl
theorem dX4_mixedWithOrders_30 : decode cX4_mixedWithOrders 30 = .ok (.istore 7, 2) := wnGet dwX4_mixedWithOrders_0 dkX4_mixedWithOrders_0 17 rfl
theorem dX4_mixedWithOrders_32 : decode cX4_mixedWithOrders 32 = .ok (.iload 7, 2) := wnGet dwX4_mixedWithOrders_0 dkX4_mixedWithOrders_0 18 rfl
theorem dX4_mixedWithOrders_34 : decode cX4_mixedWithOrders 34 = .ok (.aload 6, 2) := wnGet dwX4_mixedWithOrders_0 dkX4_mixedWithOrders_0 19 rfl
theorem dX4_mixedWithOrders_36 : decode cX4_mixedWithOrders 36 = .ok (.invokevirtual 200, 3) := wnGet dwX4_mixedWithOrders_0 dkX4_mixedWithOrders_0 20 rfl
theorem dX4_mixedWithOrders_39 : decode cX4_mixedWithOrders 39 = .ok (.if_icmp .ge 41, 3) := wnGet dwX4_mixedWithOrders_0 dkX4_mixedWithOrders_0 21 rfl
theorem dX4_mixedWithOrders_42 : decode cX4_mixedWithOrders 42 = .ok (.lload_n 3, 1) := wnGet dwX4_mixedWithOrders_0 dkX4_mixedWithOrders_0 22 rfl
theorem dX4_mixedWithOrders_43 : decode cX4_mixedWithOrders 43 = .ok (.aload 6, 2) := wnGet dwX4_mixedWithOrders_0 dkX4_mixedWithOrders_0 23 rfl
theorem dX4_mixedWithOrders_45 : decode cX4_mixedWithOrders 45 = .ok (.iload 7, 2) := wnGet dwX4_mixedWithOrders_0 dkX4_mixedWithOrders_0 24 rfl
theorem dX4_mixedWithOrders_47 : decode cX4_mixedWithOrders 47 = .ok (.invokevirtual 207, 3) := wnGet dwX4_mixedWithOrders_0 dkX4_mixedWithOrders_0 25 rfl
theorem dX4_mixedWithOrders_50 : decode cX4_mixedWithOrders 50 = .ok (.invokestatic 281, 3) := wnGet dwX4_mixedWithOrders_0 dkX4_mixedWithOrders_0 26 rfl
theorem dX4_mixedWithOrders_53 : decode cX4_mixedWithOrders 53 = .ok (.lstore_n 3, 1) := wnGet dwX4_mixedWithOrders_0 dkX4_mixedWithOrders_0 27 rfl
theorem dX4_mixedWithOrders_54 : decode cX4_mixedWithOrders 54 = .ok (.lload_n 3, 1) := wnGet dwX4_mixedWithOrders_0 dkX4_mixedWithOrders_0 28 rfl
theorem dX4_mixedWithOrders_55 : decode cX4_mixedWithOrders 55 = .ok (.aload 6, 2) := wnGet dwX4_mixedWithOrders_0 dkX4_mixedWithOrders_0 29 rfl
theorem dX4_mixedWithOrders_57 : decode cX4_mixedWithOrders 57 = .ok (.iload 7, 2) := wnGet dwX4_mixedWithOrders_0 dkX4_mixedWithOrders_0 30 rfl
theorem dX4_mixedWithOrders_59 : decode cX4_mixedWithOrders 59 = .ok (.invokevirtual 328, 3) := wnGet dwX4_mixedWithOrders_0 dkX4_mixedWithOrders_0 31 rfl
def dvX4_mixedWithOrders_1 : List UInt8 := [153, 0, 7, 4, 167, 0, 4, 3, 184, 1, 25, 66, 132, 7, 1, 167, 255, 211, 33, 25, 6, 182, 0, 204, 184, 1, 25, 66, 3, 54, 7, 21, 7, 16, 16, 162, 0, 21, 33, 25, 6, 21, 7, 182, 0, 162, 184, 1, 25, 66, 132, 7, 1, 167, 255, 234, 132, 5, 1, 167, 255, 140, 33, 173]
theorem dwX4_mixedWithOrders_1 : (cX4_mixedWithOrders.data.toList.drop 62).take dvX4_mixedWithOrders_1.length = dvX4_mixedWithOrders_1 := by decide +kernel
theorem dkX4_mixedWithOrders_1 : ([(62, (.ifCond .eq 7, 3)), (65, (.iconst 1, 1)), (66, (.goto 4, 3)), (69, (.iconst 0, 1)), (70, (.invokestatic 281, 3)), (73, (.lstore_n 3, 1)), (74, (.iinc 7 1, 3)), (77, (.goto (-45), 3)), (80, (.lload_n 3, 1)), (81, (.aload 6, 2)), (83, (.invokevirtual 204, 3)), (86, (.invokestatic 281, 3)), (89, (.lstore_n 3, 1)), (90, (.iconst 0, 1)), (91, (.istore 7, 2)), (93, (.iload 7, 2)), (95, (.bipush 16, 2)), (97, (.if_icmp .ge 21, 3)), (100, (.lload_n 3, 1)), (101, (.aload 6, 2)), (103, (.iload 7, 2)), (105, (.invokevirtual 162, 3)), (108, (.invokestatic 281, 3)), (111, (.lstore_n 3, 1)), (112, (.iinc 7 1, 3)), (115, (.goto (-22), 3)), (118, (.iinc 5 1, 3)), (121, (.goto (-116), 3)), (124, (.lload_n 3, 1)), (125, (.lreturn, 1))] : List (Nat × (Jvm.ClassFile.Instr × Nat))).all (wnL dvX4_mixedWithOrders_1 62) = true := by decide +kernel
theorem dX4_mixedWithOrders_62 : decode cX4_mixedWithOrders 62 = .ok (.ifCond .eq 7, 3) := wnGet dwX4_mixedWithOrders_1 dkX4_mixedWithOrders_1 0 rfl
theorem dX4_mixedWithOrders_65 : decode cX4_mixedWithOrders 65 = .ok (.iconst 1, 1) := wnGet dwX4_mixedWithOrders_1 dkX4_mixedWithOrders_1 1 rfl
theorem dX4_mixedWithOrders_66 : decode cX4_mixedWithOrders 66 = .ok (.goto 4, 3) := wnGet dwX4_mixedWithOrders_1 dkX4_mixedWithOrders_1 2 rfl
theorem dX4_mixedWithOrders_69 : decode cX4_mixedWithOrders 69 = .ok (.iconst 0, 1) := wnGet dwX4_mixedWithOrders_1 dkX4_mixedWithOrders_1 3 rfl
theorem dX4_mixedWithOrders_70 : decode cX4_mixedWithOrders 70 = .ok (.invokestatic 281, 3) := wnGet dwX4_mixedWithOrders_1 dkX4_mixedWithOrders_1 4 rfl
theorem dX4_mixedWithOrders_73 : decode cX4_mixedWithOrders 73 = .ok (.lstore_n 3, 1) := wnGet dwX4_mixedWithOrders_1 dkX4_mixedWithOrders_1 5 rfl
theorem dX4_mixedWithOrders_74 : decode cX4_mixedWithOrders 74 = .ok (.iinc 7 1, 3) := wnGet dwX4_mixedWithOrders_1 dkX4_mixedWithOrders_1 6 rfl
theorem dX4_mixedWithOrders_77 : decode cX4_mixedWithOrders 77 = .ok (.goto (-45), 3) := wnGet dwX4_mixedWithOrders_1 dkX4_mixedWithOrders_1 7 rfl
theorem dX4_mixedWithOrders_80 : decode cX4_mixedWithOrders 80 = .ok (.lload_n 3, 1) := wnGet dwX4_mixedWithOrders_1 dkX4_mixedWithOrders_1 8 rfl
theorem dX4_mixedWithOrders_81 : decode cX4_mixedWithOrders 81 = .ok (.aload 6, 2) := wnGet dwX4_mixedWithOrders_1 dkX4_mixedWithOrders_1 9 rfl
theorem dX4_mixedWithOrders_83 : decode cX4_mixedWithOrders 83 = .ok (.invokevirtual 204, 3) := wnGet dwX4_mixedWithOrders_1 dkX4_mixedWithOrders_1 10 rfl
theorem dX4_mixedWithOrders_86 : decode cX4_mixedWithOrders 86 = .ok (.invokestatic 281, 3) := wnGet dwX4_mixedWithOrders_1 dkX4_mixedWithOrders_1 11 rfl
theorem dX4_mixedWithOrders_89 : decode cX4_mixedWithOrders 89 = .ok (.lstore_n 3, 1) := wnGet dwX4_mixedWithOrders_1 dkX4_mixedWithOrders_1 12 rfl
theorem dX4_mixedWithOrders_90 : decode cX4_mixedWithOrders 90 = .ok (.iconst 0, 1) := wnGet dwX4_mixedWithOrders_1 dkX4_mixedWithOrders_1 13 rfl
theorem dX4_mixedWithOrders_91 : decode cX4_mixedWithOrders 91 = .ok (.istore 7, 2) := wnGet dwX4_mixedWithOrders_1 dkX4_mixedWithOrders_1 14 rfl
theorem dX4_mixedWithOrders_93 : decode cX4_mixedWithOrders 93 = .ok (.iload 7, 2) := wnGet dwX4_mixedWithOrders_1 dkX4_mixedWithOrders_1 15 rfl
theorem dX4_mixedWithOrders_95 : decode cX4_mixedWithOrders 95 = .ok (.bipush 16, 2) := wnGet dwX4_mixedWithOrders_1 dkX4_mixedWithOrders_1 16 rfl
theorem dX4_mixedWithOrders_97 : decode cX4_mixedWithOrders 97 = .ok (.if_icmp .ge 21, 3) := wnGet dwX4_mixedWithOrders_1 dkX4_mixedWithOrders_1 17 rfl
theorem dX4_mixedWithOrders_100 : decode cX4_mixedWithOrders 100 = .ok (.lload_n 3, 1) := wnGet dwX4_mixedWithOrders_1 dkX4_mixedWithOrders_1 18 rfl
theorem dX4_mixedWithOrders_101 : decode cX4_mixedWithOrders 101 = .ok (.aload 6, 2) := wnGet dwX4_mixedWithOrders_1 dkX4_mixedWithOrders_1 19 rfl
theorem dX4_mixedWithOrders_103 : decode cX4_mixedWithOrders 103 = .ok (.iload 7, 2) := wnGet dwX4_mixedWithOrders_1 dkX4_mixedWithOrders_1 20 rfl
theorem dX4_mixedWithOrders_105 : decode cX4_mixedWithOrders 105 = .ok (.invokevirtual 162, 3) := wnGet dwX4_mixedWithOrders_1 dkX4_mixedWithOrders_1 21 rfl
theorem dX4_mixedWithOrders_108 : decode cX4_mixedWithOrders 108 = .ok (.invokestatic 281, 3) := wnGet dwX4_mixedWithOrders_1 dkX4_mixedWithOrders_1 22 rfl
theorem dX4_mixedWithOrders_111 : decode cX4_mixedWithOrders 111 = .ok (.lstore_n 3, 1) := wnGet dwX4_mixedWithOrders_1 dkX4_mixedWithOrders_1 23 rfl
theorem dX4_mixedWithOrders_112 : decode cX4_mixedWithOrders 112 = .ok (.iinc 7 1, 3) := wnGet dwX4_mixedWithOrders_1 dkX4_mixedWithOrders_1 24 rfl
theorem dX4_mixedWithOrders_115 : decode cX4_mixedWithOrders 115 = .ok (.goto (-22), 3) := wnGet dwX4_mixedWithOrders_1 dkX4_mixedWithOrders_1 25 rfl
theorem dX4_mixedWithOrders_118 : decode cX4_mixedWithOrders 118 = .ok (.iinc 5 1, 3) := wnGet dwX4_mixedWithOrders_1 dkX4_mixedWithOrders_1 26 rfl
theorem dX4_mixedWithOrders_121 : decode cX4_mixedWithOrders 121 = .ok (.goto (-116), 3) := wnGet dwX4_mixedWithOrders_1 dkX4_mixedWithOrders_1 27 rfl
theorem dX4_mixedWithOrders_124 : decode cX4_mixedWithOrders 124 = .ok (.lload_n 3, 1) := wnGet dwX4_mixedWithOrders_1 dkX4_mixedWithOrders_1 28 rfl
theorem dX4_mixedWithOrders_125 : decode cX4_mixedWithOrders 125 = .ok (.lreturn, 1) := wnGet dwX4_mixedWithOrders_1 dkX4_mixedWithOrders_1 29 rfl
theorem ggX4_mixedWithPairs_X4_orderAt : GoodIn wsX4_mixedWithPairs wsX4_orderAt := tgCall 511 e_X4_orderAt (by decide +kernel)
theorem gX4_mixedWithPairs_X4_orderAt : GoodIn wsX4_mixedWithPairs (wsV RX4 124 RX4 yX4_orderAt wsX4_orderAt) := goodIn_app (tgIn [508, 509, 510, 421] (by decide +kernel) rfl) ggX4_mixedWithPairs_X4_orderAt
theorem ggX4_mixedWithPairs_X4_pairsApart : GoodIn wsX4_mixedWithPairs wsX4_pairsApart := tgCall 658 e_X4_pairsApart (by decide +kernel)
theorem gX4_mixedWithPairs_X4_pairsApart : GoodIn wsX4_mixedWithPairs (va_wsS RX4 242 yX4_pairsApart wsX4_pairsApart) := goodIn_app (tgIn [656, 657, 421] (by decide +kernel) rfl) ggX4_mixedWithPairs_X4_pairsApart
theorem ggX4_mixedWithPairs_X4_mixed : GoodIn wsX4_mixedWithPairs wsX4_mixed := tgCall 653 e_X4_mixed (by decide +kernel)
theorem gX4_mixedWithPairs_X4_mixed : GoodIn wsX4_mixedWithPairs (va_wsS RX4 281 yX4_mixed wsX4_mixed) := goodIn_app (tgIn [651, 652, 421] (by decide +kernel) rfl) ggX4_mixedWithPairs_X4_mixed
theorem ggX4_mixedWithPairs_X1_isFinerThan : GoodIn wsX4_mixedWithPairs wsX1_isFinerThan := tgCall 136 e_X1_isFinerThan (by decide +kernel)
theorem gX4_mixedWithPairs_X1_isFinerThan : GoodIn wsX4_mixedWithPairs (wsV RX4 236 RX1 yX1_isFinerThan wsX1_isFinerThan) := goodIn_app (tgIn [659, 134, 135, 14] (by decide +kernel) rfl) ggX4_mixedWithPairs_X1_isFinerThan
theorem dkX4_mixedWithPairs_0 : ([(0, (.lload_n 1, 1)), (1, (.lstore_n 3, 1)), (2, (.iconst 0, 1)), (3, (.istore 5, 2)), (5, (.iload 5, 2)), (7, (.iconst 4, 1)), (8, (.if_icmp .ge 72, 3)), (11, (.iconst 0, 1)), (12, (.istore 6, 2)), (14, (.iload 6, 2)), (16, (.iconst 4, 1)), (17, (.if_icmp .ge 57, 3)), (20, (.lload_n 3, 1)), (21, (.aload_n 0, 1)), (22, (.iload 5, 2)), (24, (.invokevirtual 124, 3)), (27, (.aload_n 0, 1)), (28, (.iload 6, 2)), (30, (.invokevirtual 124, 3)), (33, (.invokestatic 242, 3)), (36, (.invokestatic 281, 3)), (39, (.lstore_n 3, 1)), (40, (.lload_n 3, 1)), (41, (.aload_n 0, 1)), (42, (.iload 5, 2)), (44, (.invokevirtual 124, 3)), (47, (.aload_n 0, 1)), (48, (.iload 6, 2)), (50, (.invokevirtual 124, 3)), (53, (.invokevirtual 236, 3)), (56, (.ifCond .eq 7, 3)), (59, (.iconst 1, 1)), (60, (.goto 4, 3)), (63, (.iconst 0, 1)), (64, (.invokestatic 281, 3)), (67, (.lstore_n 3, 1)), (68, (.iinc 6 1, 3)), (71, (.goto (-57), 3)), (74, (.iinc 5 1, 3)), (77, (.goto (-72), 3))] : List (Nat × (Jvm.ClassFile.Instr × Nat))).all (dcB cX4_mixedWithPairs) = true := by decide +kernel
theorem dX4_mixedWithPairs_0 : decode cX4_mixedWithPairs 0 = .ok (.lload_n 1, 1) := dget dkX4_mixedWithPairs_0 0 rfl
theorem dX4_mixedWithPairs_1 : decode cX4_mixedWithPairs 1 = .ok (.lstore_n 3, 1) := dget dkX4_mixedWithPairs_0 1 rfl
theorem dX4_mixedWithPairs_2 : decode cX4_mixedWithPairs 2 = .ok (.iconst 0, 1) := dget dkX4_mixedWithPairs_0 2 rfl
theorem dX4_mixedWithPairs_3 : decode cX4_mixedWithPairs 3 = .ok (.istore 5, 2) := dget dkX4_mixedWithPairs_0 3 rfl
theorem dX4_mixedWithPairs_5 : decode cX4_mixedWithPairs 5 = .ok (.iload 5, 2) := dget dkX4_mixedWithPairs_0 4 rfl
theorem dX4_mixedWithPairs_7 : decode cX4_mixedWithPairs 7 = .ok (.iconst 4, 1) := dget dkX4_mixedWithPairs_0 5 rfl
theorem dX4_mixedWithPairs_8 : decode cX4_mixedWithPairs 8 = .ok (.if_icmp .ge 72, 3) := dget dkX4_mixedWithPairs_0 6 rfl
theorem dX4_mixedWithPairs_11 : decode cX4_mixedWithPairs 11 = .ok (.iconst 0, 1) := dget dkX4_mixedWithPairs_0 7 rfl
theorem dX4_mixedWithPairs_12 : decode cX4_mixedWithPairs 12 = .ok (.istore 6, 2) := dget dkX4_mixedWithPairs_0 8 rfl
theorem dX4_mixedWithPairs_14 : decode cX4_mixedWithPairs 14 = .ok (.iload 6, 2) := dget dkX4_mixedWithPairs_0 9 rfl
theorem dX4_mixedWithPairs_16 : decode cX4_mixedWithPairs 16 = .ok (.iconst 4, 1) := dget dkX4_mixedWithPairs_0 10 rfl
theorem dX4_mixedWithPairs_17 : decode cX4_mixedWithPairs 17 = .ok (.if_icmp .ge 57, 3) := dget dkX4_mixedWithPairs_0 11 rfl
theorem dX4_mixedWithPairs_20 : decode cX4_mixedWithPairs 20 = .ok (.lload_n 3, 1) := dget dkX4_mixedWithPairs_0 12 rfl
theorem dX4_mixedWithPairs_21 : decode cX4_mixedWithPairs 21 = .ok (.aload_n 0, 1) := dget dkX4_mixedWithPairs_0 13 rfl
theorem dX4_mixedWithPairs_22 : decode cX4_mixedWithPairs 22 = .ok (.iload 5, 2) := dget dkX4_mixedWithPairs_0 14 rfl
theorem dX4_mixedWithPairs_24 : decode cX4_mixedWithPairs 24 = .ok (.invokevirtual 124, 3) := dget dkX4_mixedWithPairs_0 15 rfl
theorem dX4_mixedWithPairs_27 : decode cX4_mixedWithPairs 27 = .ok (.aload_n 0, 1) := dget dkX4_mixedWithPairs_0 16 rfl
theorem dX4_mixedWithPairs_28 : decode cX4_mixedWithPairs 28 = .ok (.iload 6, 2) := dget dkX4_mixedWithPairs_0 17 rfl
theorem dX4_mixedWithPairs_30 : decode cX4_mixedWithPairs 30 = .ok (.invokevirtual 124, 3) := dget dkX4_mixedWithPairs_0 18 rfl
theorem dX4_mixedWithPairs_33 : decode cX4_mixedWithPairs 33 = .ok (.invokestatic 242, 3) := dget dkX4_mixedWithPairs_0 19 rfl
theorem dX4_mixedWithPairs_36 : decode cX4_mixedWithPairs 36 = .ok (.invokestatic 281, 3) := dget dkX4_mixedWithPairs_0 20 rfl
theorem dX4_mixedWithPairs_39 : decode cX4_mixedWithPairs 39 = .ok (.lstore_n 3, 1) := dget dkX4_mixedWithPairs_0 21 rfl
theorem dX4_mixedWithPairs_40 : decode cX4_mixedWithPairs 40 = .ok (.lload_n 3, 1) := dget dkX4_mixedWithPairs_0 22 rfl
theorem dX4_mixedWithPairs_41 : decode cX4_mixedWithPairs 41 = .ok (.aload_n 0, 1) := dget dkX4_mixedWithPairs_0 23 rfl
theorem dX4_mixedWithPairs_42 : decode cX4_mixedWithPairs 42 = .ok (.iload 5, 2) := dget dkX4_mixedWithPairs_0 24 rfl
theorem dX4_mixedWithPairs_44 : decode cX4_mixedWithPairs 44 = .ok (.invokevirtual 124, 3) := dget dkX4_mixedWithPairs_0 25 rfl
theorem dX4_mixedWithPairs_47 : decode cX4_mixedWithPairs 47 = .ok (.aload_n 0, 1) := dget dkX4_mixedWithPairs_0 26 rfl
theorem dX4_mixedWithPairs_48 : decode cX4_mixedWithPairs 48 = .ok (.iload 6, 2) := dget dkX4_mixedWithPairs_0 27 rfl
theorem dX4_mixedWithPairs_50 : decode cX4_mixedWithPairs 50 = .ok (.invokevirtual 124, 3) := dget dkX4_mixedWithPairs_0 28 rfl
theorem dX4_mixedWithPairs_53 : decode cX4_mixedWithPairs 53 = .ok (.invokevirtual 236, 3) := dget dkX4_mixedWithPairs_0 29 rfl
theorem dX4_mixedWithPairs_56 : decode cX4_mixedWithPairs 56 = .ok (.ifCond .eq 7, 3) := dget dkX4_mixedWithPairs_0 30 rfl
theorem dX4_mixedWithPairs_59 : decode cX4_mixedWithPairs 59 = .ok (.iconst 1, 1) := dget dkX4_mixedWithPairs_0 31 rfl
theorem dX4_mixedWithPairs_60 : decode cX4_mixedWithPairs 60 = .ok (.goto 4, 3) := dget dkX4_mixedWithPairs_0 32 rfl
theorem dX4_mixedWithPairs_63 : decode cX4_mixedWithPairs 63 = .ok (.iconst 0, 1) := dget dkX4_mixedWithPairs_0 33 rfl
theorem dX4_mixedWithPairs_64 : decode cX4_mixedWithPairs 64 = .ok (.invokestatic 281, 3) := dget dkX4_mixedWithPairs_0 34 rfl
theorem dX4_mixedWithPairs_67 : decode cX4_mixedWithPairs 67 = .ok (.lstore_n 3, 1) := dget dkX4_mixedWithPairs_0 35 rfl
theorem dX4_mixedWithPairs_68 : decode cX4_mixedWithPairs 68 = .ok (.iinc 6 1, 3) := dget dkX4_mixedWithPairs_0 36 rfl
theorem dX4_mixedWithPairs_71 : decode cX4_mixedWithPairs 71 = .ok (.goto (-57), 3) := dget dkX4_mixedWithPairs_0 37 rfl
theorem dX4_mixedWithPairs_74 : decode cX4_mixedWithPairs 74 = .ok (.iinc 5 1, 3) := dget dkX4_mixedWithPairs_0 38 rfl
theorem dX4_mixedWithPairs_77 : decode cX4_mixedWithPairs 77 = .ok (.goto (-72), 3) := dget dkX4_mixedWithPairs_0 39 rfl
theorem dkX4_mixedWithPairs_1 : ([(80, (.lload_n 3, 1)), (81, (.lreturn, 1))] : List (Nat × (Jvm.ClassFile.Instr × Nat))).all (dcB cX4_mixedWithPairs) = true := by decide +kernel
theorem dX4_mixedWithPairs_80 : decode cX4_mixedWithPairs 80 = .ok (.lload_n 3, 1) := dget dkX4_mixedWithPairs_1 0 rfl
theorem dX4_mixedWithPairs_81 : decode cX4_mixedWithPairs 81 = .ok (.lreturn, 1) := dget dkX4_mixedWithPairs_1 1 rfl
theorem ggX4_mixedWithSequences_X4_rowAt : GoodIn wsX4_mixedWithSequences wsX4_rowAt := tgCall 476 e_X4_rowAt (by decide +kernel)
theorem gX4_mixedWithSequences_X4_rowAt : GoodIn wsX4_mixedWithSequences (wsV RX4 55 RX4 yX4_rowAt wsX4_rowAt) := goodIn_app (tgIn [473, 474, 475, 421] (by decide +kernel) rfl) ggX4_mixedWithSequences_X4_rowAt
theorem ggX4_mixedWithSequences_X4_orderAt : GoodIn wsX4_mixedWithSequences wsX4_orderAt := tgCall 511 e_X4_orderAt (by decide +kernel)
theorem gX4_mixedWithSequences_X4_orderAt : GoodIn wsX4_mixedWithSequences (wsV RX4 124 RX4 yX4_orderAt wsX4_orderAt) := goodIn_app (tgIn [508, 509, 510, 421] (by decide +kernel) rfl) ggX4_mixedWithSequences_X4_orderAt
theorem ggX4_mixedWithSequences_X2_lots : GoodIn wsX4_mixedWithSequences wsX2_lots := tgCall 551 e_X2_lots (by decide +kernel)
theorem gX4_mixedWithSequences_X2_lots : GoodIn wsX4_mixedWithSequences (wsV RX4 177 RX2 yX2_lots wsX2_lots) := goodIn_app (tgIn [548, 549, 550, 9] (by decide +kernel) rfl) ggX4_mixedWithSequences_X2_lots
theorem ggX4_mixedWithSequences_X4_mixed : GoodIn wsX4_mixedWithSequences wsX4_mixed := tgCall 653 e_X4_mixed (by decide +kernel)
theorem gX4_mixedWithSequences_X4_mixed : GoodIn wsX4_mixedWithSequences (va_wsS RX4 281 yX4_mixed wsX4_mixed) := goodIn_app (tgIn [651, 652, 421] (by decide +kernel) rfl) ggX4_mixedWithSequences_X4_mixed
theorem ggX4_mixedWithSequences_X2_isInSequenceBy : GoodIn wsX4_mixedWithSequences wsX2_isInSequenceBy := tgCall 126 e_X2_isInSequenceBy (by decide +kernel)
theorem gX4_mixedWithSequences_X2_isInSequenceBy : GoodIn wsX4_mixedWithSequences (wsV RX4 147 RX2 yX2_isInSequenceBy wsX2_isInSequenceBy) := goodIn_app (tgIn [518, 124, 125, 9] (by decide +kernel) rfl) ggX4_mixedWithSequences_X2_isInSequenceBy
theorem dkX4_mixedWithSequences_0 : ([(0, (.lload_n 1, 1)), (1, (.lstore_n 3, 1)), (2, (.iconst 0, 1)), (3, (.istore 5, 2)), (5, (.iload 5, 2)), (7, (.iconst 3, 1)), (8, (.if_icmp .ge 72, 3)), (11, (.iconst 0, 1)), (12, (.istore 6, 2)), (14, (.iload 6, 2)), (16, (.iconst 4, 1)), (17, (.if_icmp .ge 57, 3)), (20, (.lload_n 3, 1)), (21, (.aload_n 0, 1)), (22, (.iload 5, 2)), (24, (.invokevirtual 55, 3)), (27, (.aload_n 0, 1)), (28, (.iload 6, 2)), (30, (.invokevirtual 124, 3)), (33, (.invokevirtual 177, 3)), (36, (.invokestatic 281, 3)), (39, (.lstore_n 3, 1)), (40, (.lload_n 3, 1)), (41, (.aload_n 0, 1)), (42, (.iload 5, 2)), (44, (.invokevirtual 55, 3)), (47, (.aload_n 0, 1)), (48, (.iload 6, 2)), (50, (.invokevirtual 124, 3)), (53, (.invokevirtual 147, 3)), (56, (.ifCond .eq 7, 3)), (59, (.iconst 1, 1)), (60, (.goto 4, 3)), (63, (.iconst 0, 1)), (64, (.invokestatic 281, 3)), (67, (.lstore_n 3, 1)), (68, (.iinc 6 1, 3)), (71, (.goto (-57), 3)), (74, (.iinc 5 1, 3)), (77, (.goto (-72), 3))] : List (Nat × (Jvm.ClassFile.Instr × Nat))).all (dcB cX4_mixedWithSequences) = true := by decide +kernel
theorem dX4_mixedWithSequences_0 : decode cX4_mixedWithSequences 0 = .ok (.lload_n 1, 1) := dget dkX4_mixedWithSequences_0 0 rfl
theorem dX4_mixedWithSequences_1 : decode cX4_mixedWithSequences 1 = .ok (.lstore_n 3, 1) := dget dkX4_mixedWithSequences_0 1 rfl
theorem dX4_mixedWithSequences_2 : decode cX4_mixedWithSequences 2 = .ok (.iconst 0, 1) := dget dkX4_mixedWithSequences_0 2 rfl
theorem dX4_mixedWithSequences_3 : decode cX4_mixedWithSequences 3 = .ok (.istore 5, 2) := dget dkX4_mixedWithSequences_0 3 rfl
theorem dX4_mixedWithSequences_5 : decode cX4_mixedWithSequences 5 = .ok (.iload 5, 2) := dget dkX4_mixedWithSequences_0 4 rfl
theorem dX4_mixedWithSequences_7 : decode cX4_mixedWithSequences 7 = .ok (.iconst 3, 1) := dget dkX4_mixedWithSequences_0 5 rfl
theorem dX4_mixedWithSequences_8 : decode cX4_mixedWithSequences 8 = .ok (.if_icmp .ge 72, 3) := dget dkX4_mixedWithSequences_0 6 rfl
theorem dX4_mixedWithSequences_11 : decode cX4_mixedWithSequences 11 = .ok (.iconst 0, 1) := dget dkX4_mixedWithSequences_0 7 rfl
theorem dX4_mixedWithSequences_12 : decode cX4_mixedWithSequences 12 = .ok (.istore 6, 2) := dget dkX4_mixedWithSequences_0 8 rfl
theorem dX4_mixedWithSequences_14 : decode cX4_mixedWithSequences 14 = .ok (.iload 6, 2) := dget dkX4_mixedWithSequences_0 9 rfl
theorem dX4_mixedWithSequences_16 : decode cX4_mixedWithSequences 16 = .ok (.iconst 4, 1) := dget dkX4_mixedWithSequences_0 10 rfl
theorem dX4_mixedWithSequences_17 : decode cX4_mixedWithSequences 17 = .ok (.if_icmp .ge 57, 3) := dget dkX4_mixedWithSequences_0 11 rfl
theorem dX4_mixedWithSequences_20 : decode cX4_mixedWithSequences 20 = .ok (.lload_n 3, 1) := dget dkX4_mixedWithSequences_0 12 rfl
theorem dX4_mixedWithSequences_21 : decode cX4_mixedWithSequences 21 = .ok (.aload_n 0, 1) := dget dkX4_mixedWithSequences_0 13 rfl
theorem dX4_mixedWithSequences_22 : decode cX4_mixedWithSequences 22 = .ok (.iload 5, 2) := dget dkX4_mixedWithSequences_0 14 rfl
theorem dX4_mixedWithSequences_24 : decode cX4_mixedWithSequences 24 = .ok (.invokevirtual 55, 3) := dget dkX4_mixedWithSequences_0 15 rfl
theorem dX4_mixedWithSequences_27 : decode cX4_mixedWithSequences 27 = .ok (.aload_n 0, 1) := dget dkX4_mixedWithSequences_0 16 rfl
theorem dX4_mixedWithSequences_28 : decode cX4_mixedWithSequences 28 = .ok (.iload 6, 2) := dget dkX4_mixedWithSequences_0 17 rfl
theorem dX4_mixedWithSequences_30 : decode cX4_mixedWithSequences 30 = .ok (.invokevirtual 124, 3) := dget dkX4_mixedWithSequences_0 18 rfl
theorem dX4_mixedWithSequences_33 : decode cX4_mixedWithSequences 33 = .ok (.invokevirtual 177, 3) := dget dkX4_mixedWithSequences_0 19 rfl
theorem dX4_mixedWithSequences_36 : decode cX4_mixedWithSequences 36 = .ok (.invokestatic 281, 3) := dget dkX4_mixedWithSequences_0 20 rfl
theorem dX4_mixedWithSequences_39 : decode cX4_mixedWithSequences 39 = .ok (.lstore_n 3, 1) := dget dkX4_mixedWithSequences_0 21 rfl
theorem dX4_mixedWithSequences_40 : decode cX4_mixedWithSequences 40 = .ok (.lload_n 3, 1) := dget dkX4_mixedWithSequences_0 22 rfl
theorem dX4_mixedWithSequences_41 : decode cX4_mixedWithSequences 41 = .ok (.aload_n 0, 1) := dget dkX4_mixedWithSequences_0 23 rfl
theorem dX4_mixedWithSequences_42 : decode cX4_mixedWithSequences 42 = .ok (.iload 5, 2) := dget dkX4_mixedWithSequences_0 24 rfl
theorem dX4_mixedWithSequences_44 : decode cX4_mixedWithSequences 44 = .ok (.invokevirtual 55, 3) := dget dkX4_mixedWithSequences_0 25 rfl
theorem dX4_mixedWithSequences_47 : decode cX4_mixedWithSequences 47 = .ok (.aload_n 0, 1) := dget dkX4_mixedWithSequences_0 26 rfl
theorem dX4_mixedWithSequences_48 : decode cX4_mixedWithSequences 48 = .ok (.iload 6, 2) := dget dkX4_mixedWithSequences_0 27 rfl
theorem dX4_mixedWithSequences_50 : decode cX4_mixedWithSequences 50 = .ok (.invokevirtual 124, 3) := dget dkX4_mixedWithSequences_0 28 rfl
theorem dX4_mixedWithSequences_53 : decode cX4_mixedWithSequences 53 = .ok (.invokevirtual 147, 3) := dget dkX4_mixedWithSequences_0 29 rfl
theorem dX4_mixedWithSequences_56 : decode cX4_mixedWithSequences 56 = .ok (.ifCond .eq 7, 3) := dget dkX4_mixedWithSequences_0 30 rfl
theorem dX4_mixedWithSequences_59 : decode cX4_mixedWithSequences 59 = .ok (.iconst 1, 1) := dget dkX4_mixedWithSequences_0 31 rfl
theorem dX4_mixedWithSequences_60 : decode cX4_mixedWithSequences 60 = .ok (.goto 4, 3) := dget dkX4_mixedWithSequences_0 32 rfl
theorem dX4_mixedWithSequences_63 : decode cX4_mixedWithSequences 63 = .ok (.iconst 0, 1) := dget dkX4_mixedWithSequences_0 33 rfl
theorem dX4_mixedWithSequences_64 : decode cX4_mixedWithSequences 64 = .ok (.invokestatic 281, 3) := dget dkX4_mixedWithSequences_0 34 rfl
theorem dX4_mixedWithSequences_67 : decode cX4_mixedWithSequences 67 = .ok (.lstore_n 3, 1) := dget dkX4_mixedWithSequences_0 35 rfl
theorem dX4_mixedWithSequences_68 : decode cX4_mixedWithSequences 68 = .ok (.iinc 6 1, 3) := dget dkX4_mixedWithSequences_0 36 rfl
theorem dX4_mixedWithSequences_71 : decode cX4_mixedWithSequences 71 = .ok (.goto (-57), 3) := dget dkX4_mixedWithSequences_0 37 rfl
theorem dX4_mixedWithSequences_74 : decode cX4_mixedWithSequences 74 = .ok (.iinc 5 1, 3) := dget dkX4_mixedWithSequences_0 38 rfl
theorem dX4_mixedWithSequences_77 : decode cX4_mixedWithSequences 77 = .ok (.goto (-72), 3) := dget dkX4_mixedWithSequences_0 39 rfl
theorem dkX4_mixedWithSequences_1 : ([(80, (.lload_n 3, 1)), (81, (.lreturn, 1))] : List (Nat × (Jvm.ClassFile.Instr × Nat))).all (dcB cX4_mixedWithSequences) = true := by decide +kernel
theorem dX4_mixedWithSequences_80 : decode cX4_mixedWithSequences 80 = .ok (.lload_n 3, 1) := dget dkX4_mixedWithSequences_1 0 rfl
theorem dX4_mixedWithSequences_81 : decode cX4_mixedWithSequences 81 = .ok (.lreturn, 1) := dget dkX4_mixedWithSequences_1 1 rfl
theorem dkX5_init_0 : ([(0, (.aload_n 0, 1)), (1, (.invokespecial 1, 3)), (4, (.return_, 1))] : List (Nat × (Jvm.ClassFile.Instr × Nat))).all (dcB cX5_init) = true := by decide +kernel
theorem dX5_init_0 : decode cX5_init 0 = .ok (.aload_n 0, 1) := dget dkX5_init_0 0 rfl
theorem dX5_init_1 : decode cX5_init 1 = .ok (.invokespecial 1, 3) := dget dkX5_init_0 1 rfl
theorem dX5_init_4 : decode cX5_init 4 = .ok (.return_, 1) := dget dkX5_init_0 2 rfl
theorem dkX6_init_0 : ([(0, (.aload_n 0, 1)), (1, (.invokespecial 1, 3)), (4, (.aload_n 0, 1)), (5, (.iconst 3, 1)), (6, (.bipush 12, 2)), (8, (.multianewarray 9 2, 4)), (12, (.putfield 11, 3)), (15, (.aload_n 0, 1)), (16, (.iconst 3, 1)), (17, (.bipush 12, 2)), (19, (.multianewarray 9 2, 4)), (23, (.putfield 14, 3)), (26, (.aload_n 0, 1)), (27, (.iconst 3, 1)), (28, (.newarray .int, 2)), (30, (.putfield 17, 3)), (33, (.aload_n 0, 1)), (34, (.iconst 4, 1)), (35, (.iconst 5, 1)), (36, (.multianewarray 9 2, 4)), (40, (.putfield 21, 3)), (43, (.aload_n 0, 1)), (44, (.iconst 4, 1)), (45, (.iconst 5, 1)), (46, (.multianewarray 24 2, 4)), (50, (.putfield 26, 3)), (53, (.aload_n 0, 1)), (54, (.iconst 4, 1)), (55, (.newarray .int, 2)), (57, (.putfield 29, 3)), (60, (.return_, 1))] : List (Nat × (Jvm.ClassFile.Instr × Nat))).all (dcB cX6_init) = true := by decide +kernel
theorem dX6_init_0 : decode cX6_init 0 = .ok (.aload_n 0, 1) := dget dkX6_init_0 0 rfl
theorem dX6_init_1 : decode cX6_init 1 = .ok (.invokespecial 1, 3) := dget dkX6_init_0 1 rfl
theorem dX6_init_4 : decode cX6_init 4 = .ok (.aload_n 0, 1) := dget dkX6_init_0 2 rfl
theorem dX6_init_5 : decode cX6_init 5 = .ok (.iconst 3, 1) := dget dkX6_init_0 3 rfl
theorem dX6_init_6 : decode cX6_init 6 = .ok (.bipush 12, 2) := dget dkX6_init_0 4 rfl
theorem dX6_init_8 : decode cX6_init 8 = .ok (.multianewarray 9 2, 4) := dget dkX6_init_0 5 rfl
theorem dX6_init_12 : decode cX6_init 12 = .ok (.putfield 11, 3) := dget dkX6_init_0 6 rfl
theorem dX6_init_15 : decode cX6_init 15 = .ok (.aload_n 0, 1) := dget dkX6_init_0 7 rfl
theorem dX6_init_16 : decode cX6_init 16 = .ok (.iconst 3, 1) := dget dkX6_init_0 8 rfl
theorem dX6_init_17 : decode cX6_init 17 = .ok (.bipush 12, 2) := dget dkX6_init_0 9 rfl
theorem dX6_init_19 : decode cX6_init 19 = .ok (.multianewarray 9 2, 4) := dget dkX6_init_0 10 rfl
theorem dX6_init_23 : decode cX6_init 23 = .ok (.putfield 14, 3) := dget dkX6_init_0 11 rfl
theorem dX6_init_26 : decode cX6_init 26 = .ok (.aload_n 0, 1) := dget dkX6_init_0 12 rfl
theorem dX6_init_27 : decode cX6_init 27 = .ok (.iconst 3, 1) := dget dkX6_init_0 13 rfl
theorem dX6_init_28 : decode cX6_init 28 = .ok (.newarray .int, 2) := dget dkX6_init_0 14 rfl
theorem dX6_init_30 : decode cX6_init 30 = .ok (.putfield 17, 3) := dget dkX6_init_0 15 rfl
theorem dX6_init_33 : decode cX6_init 33 = .ok (.aload_n 0, 1) := dget dkX6_init_0 16 rfl
theorem dX6_init_34 : decode cX6_init 34 = .ok (.iconst 4, 1) := dget dkX6_init_0 17 rfl
theorem dX6_init_35 : decode cX6_init 35 = .ok (.iconst 5, 1) := dget dkX6_init_0 18 rfl
theorem dX6_init_36 : decode cX6_init 36 = .ok (.multianewarray 9 2, 4) := dget dkX6_init_0 19 rfl
theorem dX6_init_40 : decode cX6_init 40 = .ok (.putfield 21, 3) := dget dkX6_init_0 20 rfl
theorem dX6_init_43 : decode cX6_init 43 = .ok (.aload_n 0, 1) := dget dkX6_init_0 21 rfl
theorem dX6_init_44 : decode cX6_init 44 = .ok (.iconst 4, 1) := dget dkX6_init_0 22 rfl
theorem dX6_init_45 : decode cX6_init 45 = .ok (.iconst 5, 1) := dget dkX6_init_0 23 rfl
theorem dX6_init_46 : decode cX6_init 46 = .ok (.multianewarray 24 2, 4) := dget dkX6_init_0 24 rfl
theorem dX6_init_50 : decode cX6_init 50 = .ok (.putfield 26, 3) := dget dkX6_init_0 25 rfl
theorem dX6_init_53 : decode cX6_init 53 = .ok (.aload_n 0, 1) := dget dkX6_init_0 26 rfl
theorem dX6_init_54 : decode cX6_init 54 = .ok (.iconst 4, 1) := dget dkX6_init_0 27 rfl
theorem dX6_init_55 : decode cX6_init 55 = .ok (.newarray .int, 2) := dget dkX6_init_0 28 rfl
theorem dX6_init_57 : decode cX6_init 57 = .ok (.putfield 29, 3) := dget dkX6_init_0 29 rfl
theorem dX6_init_60 : decode cX6_init 60 = .ok (.return_, 1) := dget dkX6_init_0 30 rfl
theorem dkX6_thrown_0 : ([(0, (.aload_n 0, 1)), (1, (.getfield 32, 3)), (4, (.ireturn, 1))] : List (Nat × (Jvm.ClassFile.Instr × Nat))).all (dcB cX6_thrown) = true := by decide +kernel
theorem dX6_thrown_0 : decode cX6_thrown 0 = .ok (.aload_n 0, 1) := dget dkX6_thrown_0 0 rfl
theorem dX6_thrown_1 : decode cX6_thrown 1 = .ok (.getfield 32, 3) := dget dkX6_thrown_0 1 rfl
theorem dX6_thrown_4 : decode cX6_thrown 4 = .ok (.ireturn, 1) := dget dkX6_thrown_0 2 rfl
theorem dkX6_refuse_0 : ([(0, (.iload_n 1, 1)), (1, (.ifCond .eq 15, 3)), (4, (.aload_n 0, 1)), (5, (.getfield 32, 3)), (8, (.ifCond .ne 8, 3)), (11, (.aload_n 0, 1)), (12, (.iload_n 2, 1)), (13, (.putfield 32, 3)), (16, (.aload_n 0, 1)), (17, (.getfield 32, 3)), (20, (.ifCond .le 7, 3)), (23, (.iconst 1, 1)), (24, (.goto 4, 3)), (27, (.iconst 0, 1)), (28, (.ireturn, 1))] : List (Nat × (Jvm.ClassFile.Instr × Nat))).all (dcB cX6_refuse) = true := by decide +kernel
theorem dX6_refuse_0 : decode cX6_refuse 0 = .ok (.iload_n 1, 1) := dget dkX6_refuse_0 0 rfl
theorem dX6_refuse_1 : decode cX6_refuse 1 = .ok (.ifCond .eq 15, 3) := dget dkX6_refuse_0 1 rfl
theorem dX6_refuse_4 : decode cX6_refuse 4 = .ok (.aload_n 0, 1) := dget dkX6_refuse_0 2 rfl
theorem dX6_refuse_5 : decode cX6_refuse 5 = .ok (.getfield 32, 3) := dget dkX6_refuse_0 3 rfl
theorem dX6_refuse_8 : decode cX6_refuse 8 = .ok (.ifCond .ne 8, 3) := dget dkX6_refuse_0 4 rfl
theorem dX6_refuse_11 : decode cX6_refuse 11 = .ok (.aload_n 0, 1) := dget dkX6_refuse_0 5 rfl
theorem dX6_refuse_12 : decode cX6_refuse 12 = .ok (.iload_n 2, 1) := dget dkX6_refuse_0 6 rfl
theorem dX6_refuse_13 : decode cX6_refuse 13 = .ok (.putfield 32, 3) := dget dkX6_refuse_0 7 rfl
theorem dX6_refuse_16 : decode cX6_refuse 16 = .ok (.aload_n 0, 1) := dget dkX6_refuse_0 8 rfl
theorem dX6_refuse_17 : decode cX6_refuse 17 = .ok (.getfield 32, 3) := dget dkX6_refuse_0 9 rfl
theorem dX6_refuse_20 : decode cX6_refuse 20 = .ok (.ifCond .le 7, 3) := dget dkX6_refuse_0 10 rfl
theorem dX6_refuse_23 : decode cX6_refuse 23 = .ok (.iconst 1, 1) := dget dkX6_refuse_0 11 rfl
theorem dX6_refuse_24 : decode cX6_refuse 24 = .ok (.goto 4, 3) := dget dkX6_refuse_0 12 rfl
theorem dX6_refuse_27 : decode cX6_refuse 27 = .ok (.iconst 0, 1) := dget dkX6_refuse_0 13 rfl
theorem dX6_refuse_28 : decode cX6_refuse 28 = .ok (.ireturn, 1) := dget dkX6_refuse_0 14 rfl
theorem ggX6_start_X6_refuse : GoodIn wsX6_start wsX6_refuse := tgCall 697 e_X6_refuse (by decide +kernel)
theorem gX6_start_X6_refuse : GoodIn wsX6_start (wsV RX6 36 RX6 yX6_refuse wsX6_refuse) := goodIn_app (tgIn [694, 695, 696, 684] (by decide +kernel) rfl) ggX6_start_X6_refuse
theorem dkX6_start_0 : ([(0, (.aload_n 0, 1)), (1, (.iconst 0, 1)), (2, (.putfield 32, 3)), (5, (.aload_n 0, 1)), (6, (.iload_n 1, 1)), (7, (.iload_n 2, 1)), (8, (.invokevirtual 36, 3)), (11, (.ireturn, 1))] : List (Nat × (Jvm.ClassFile.Instr × Nat))).all (dcB cX6_start) = true := by decide +kernel
theorem dX6_start_0 : decode cX6_start 0 = .ok (.aload_n 0, 1) := dget dkX6_start_0 0 rfl
theorem dX6_start_1 : decode cX6_start 1 = .ok (.iconst 0, 1) := dget dkX6_start_0 1 rfl
theorem dX6_start_2 : decode cX6_start 2 = .ok (.putfield 32, 3) := dget dkX6_start_0 2 rfl
theorem dX6_start_5 : decode cX6_start 5 = .ok (.aload_n 0, 1) := dget dkX6_start_0 3 rfl
theorem dX6_start_6 : decode cX6_start 6 = .ok (.iload_n 1, 1) := dget dkX6_start_0 4 rfl
theorem dX6_start_7 : decode cX6_start 7 = .ok (.iload_n 2, 1) := dget dkX6_start_0 5 rfl
theorem dX6_start_8 : decode cX6_start 8 = .ok (.invokevirtual 36, 3) := dget dkX6_start_0 6 rfl
theorem dX6_start_11 : decode cX6_start 11 = .ok (.ireturn, 1) := dget dkX6_start_0 7 rfl
theorem dkX6_isNo_0 : ([(0, (.iload_n 0, 1)), (1, (.ifCond .lt 8, 3)), (4, (.iload_n 0, 1)), (5, (.iload_n 1, 1)), (6, (.if_icmp .le 7, 3)), (9, (.iconst 1, 1)), (10, (.goto 4, 3)), (13, (.iconst 0, 1)), (14, (.ireturn, 1))] : List (Nat × (Jvm.ClassFile.Instr × Nat))).all (dcB cX6_isNo) = true := by decide +kernel
theorem dX6_isNo_0 : decode cX6_isNo 0 = .ok (.iload_n 0, 1) := dget dkX6_isNo_0 0 rfl
theorem dX6_isNo_1 : decode cX6_isNo 1 = .ok (.ifCond .lt 8, 3) := dget dkX6_isNo_0 1 rfl
theorem dX6_isNo_4 : decode cX6_isNo 4 = .ok (.iload_n 0, 1) := dget dkX6_isNo_0 2 rfl
theorem dX6_isNo_5 : decode cX6_isNo 5 = .ok (.iload_n 1, 1) := dget dkX6_isNo_0 3 rfl
theorem dX6_isNo_6 : decode cX6_isNo 6 = .ok (.if_icmp .le 7, 3) := dget dkX6_isNo_0 4 rfl
theorem dX6_isNo_9 : decode cX6_isNo 9 = .ok (.iconst 1, 1) := dget dkX6_isNo_0 5 rfl
theorem dX6_isNo_10 : decode cX6_isNo 10 = .ok (.goto 4, 3) := dget dkX6_isNo_0 6 rfl
theorem dX6_isNo_13 : decode cX6_isNo 13 = .ok (.iconst 0, 1) := dget dkX6_isNo_0 7 rfl
theorem dX6_isNo_14 : decode cX6_isNo 14 = .ok (.ireturn, 1) := dget dkX6_isNo_0 8 rfl
theorem ggX6_isNoRow_X6_isNo : GoodIn wsX6_isNoRow wsX6_isNo := tgCall 688 e_X6_isNo (by decide +kernel)
theorem gX6_isNoRow_X6_isNo : GoodIn wsX6_isNoRow (va_wsS RX6 40 yX6_isNo wsX6_isNo) := goodIn_app (tgIn [686, 687, 684] (by decide +kernel) rfl) ggX6_isNoRow_X6_isNo
theorem dkX6_isNoRow_0 : ([(0, (.iload_n 0, 1)), (1, (.iconst 2, 1)), (2, (.invokestatic 40, 3)), (5, (.ireturn, 1))] : List (Nat × (Jvm.ClassFile.Instr × Nat))).all (dcB cX6_isNoRow) = true := by decide +kernel
theorem dX6_isNoRow_0 : decode cX6_isNoRow 0 = .ok (.iload_n 0, 1) := dget dkX6_isNoRow_0 0 rfl
theorem dX6_isNoRow_1 : decode cX6_isNoRow 1 = .ok (.iconst 2, 1) := dget dkX6_isNoRow_0 1 rfl
theorem dX6_isNoRow_2 : decode cX6_isNoRow 2 = .ok (.invokestatic 40, 3) := dget dkX6_isNoRow_0 2 rfl
theorem dX6_isNoRow_5 : decode cX6_isNoRow 5 = .ok (.ireturn, 1) := dget dkX6_isNoRow_0 3 rfl
theorem ggX6_isNoOrder_X6_isNo : GoodIn wsX6_isNoOrder wsX6_isNo := tgCall 688 e_X6_isNo (by decide +kernel)
theorem gX6_isNoOrder_X6_isNo : GoodIn wsX6_isNoOrder (va_wsS RX6 40 yX6_isNo wsX6_isNo) := goodIn_app (tgIn [686, 687, 684] (by decide +kernel) rfl) ggX6_isNoOrder_X6_isNo
theorem dkX6_isNoOrder_0 : ([(0, (.iload_n 0, 1)), (1, (.iconst 3, 1)), (2, (.invokestatic 40, 3)), (5, (.ireturn, 1))] : List (Nat × (Jvm.ClassFile.Instr × Nat))).all (dcB cX6_isNoOrder) = true := by decide +kernel
theorem dX6_isNoOrder_0 : decode cX6_isNoOrder 0 = .ok (.iload_n 0, 1) := dget dkX6_isNoOrder_0 0 rfl
theorem dX6_isNoOrder_1 : decode cX6_isNoOrder 1 = .ok (.iconst 3, 1) := dget dkX6_isNoOrder_0 1 rfl
theorem dX6_isNoOrder_2 : decode cX6_isNoOrder 2 = .ok (.invokestatic 40, 3) := dget dkX6_isNoOrder_0 2 rfl
theorem dX6_isNoOrder_5 : decode cX6_isNoOrder 5 = .ok (.ireturn, 1) := dget dkX6_isNoOrder_0 3 rfl
theorem ggX6_isNoValue_X6_isNo : GoodIn wsX6_isNoValue wsX6_isNo := tgCall 688 e_X6_isNo (by decide +kernel)
theorem gX6_isNoValue_X6_isNo : GoodIn wsX6_isNoValue (va_wsS RX6 40 yX6_isNo wsX6_isNo) := goodIn_app (tgIn [686, 687, 684] (by decide +kernel) rfl) ggX6_isNoValue_X6_isNo
theorem dkX6_isNoValue_0 : ([(0, (.iload_n 0, 1)), (1, (.bipush 15, 2)), (3, (.invokestatic 40, 3)), (6, (.ireturn, 1))] : List (Nat × (Jvm.ClassFile.Instr × Nat))).all (dcB cX6_isNoValue) = true := by decide +kernel
theorem dX6_isNoValue_0 : decode cX6_isNoValue 0 = .ok (.iload_n 0, 1) := dget dkX6_isNoValue_0 0 rfl
theorem dX6_isNoValue_1 : decode cX6_isNoValue 1 = .ok (.bipush 15, 2) := dget dkX6_isNoValue_0 1 rfl
theorem dX6_isNoValue_3 : decode cX6_isNoValue 3 = .ok (.invokestatic 40, 3) := dget dkX6_isNoValue_0 2 rfl
theorem dX6_isNoValue_6 : decode cX6_isNoValue 6 = .ok (.ireturn, 1) := dget dkX6_isNoValue_0 3 rfl
theorem dkX6_no_0 : ([(0, (.aload_n 0, 1)), (1, (.dup, 1)), (2, (.getfield 44, 3)), (5, (.iconst 1, 1)), (6, (.iadd, 1)), (7, (.putfield 44, 3)), (10, (.bipush (-9), 2)), (12, (.ireturn, 1))] : List (Nat × (Jvm.ClassFile.Instr × Nat))).all (dcB cX6_no) = true := by decide +kernel
theorem dX6_no_0 : decode cX6_no 0 = .ok (.aload_n 0, 1) := dget dkX6_no_0 0 rfl
theorem dX6_no_1 : decode cX6_no 1 = .ok (.dup, 1) := dget dkX6_no_0 1 rfl
theorem dX6_no_2 : decode cX6_no 2 = .ok (.getfield 44, 3) := dget dkX6_no_0 2 rfl
theorem dX6_no_5 : decode cX6_no 5 = .ok (.iconst 1, 1) := dget dkX6_no_0 3 rfl
theorem dX6_no_6 : decode cX6_no 6 = .ok (.iadd, 1) := dget dkX6_no_0 4 rfl
theorem dX6_no_7 : decode cX6_no 7 = .ok (.putfield 44, 3) := dget dkX6_no_0 5 rfl
theorem dX6_no_10 : decode cX6_no 10 = .ok (.bipush (-9), 2) := dget dkX6_no_0 6 rfl
theorem dX6_no_12 : decode cX6_no 12 = .ok (.ireturn, 1) := dget dkX6_no_0 7 rfl
theorem dkX6_keyNow_0 : ([(0, (.iload_n 0, 1)), (1, (.tableswitch 100 0 6 #[43, 45, 49, 53, 57, 61, 79], 43)), (44, (.iload_n 1, 1)), (45, (.ireturn, 1)), (46, (.iload_n 1, 1)), (47, (.iconst 4, 1)), (48, (.idiv, 1)), (49, (.ireturn, 1)), (50, (.iload_n 1, 1)), (51, (.iconst 4, 1)), (52, (.irem, 1)), (53, (.ireturn, 1)), (54, (.iload_n 1, 1)), (55, (.iconst 2, 1)), (56, (.irem, 1)), (57, (.ireturn, 1)), (58, (.iload_n 1, 1)), (59, (.iconst 3, 1)), (60, (.irem, 1)), (61, (.ireturn, 1)), (62, (.iload_n 1, 1)), (63, (.bipush 8, 2)), (65, (.if_icmp .ge 10, 3)), (68, (.bipush 7, 2)), (70, (.iload_n 1, 1)), (71, (.isub, 1)), (72, (.goto 7, 3)), (75, (.iload_n 1, 1)), (76, (.bipush 8, 2)), (78, (.isub, 1)), (79, (.ireturn, 1)), (80, (.iload_n 1, 1)), (81, (.bipush 8, 2)), (83, (.idiv, 1)), (84, (.iload_n 1, 1)), (85, (.iconst 4, 1)), (86, (.idiv, 1)), (87, (.iconst 2, 1)), (88, (.irem, 1)), (89, (.iadd, 1))] : List (Nat × (Jvm.ClassFile.Instr × Nat))).all (dcB cX6_keyNow) = true := by decide +kernel
theorem dX6_keyNow_0 : decode cX6_keyNow 0 = .ok (.iload_n 0, 1) := dget dkX6_keyNow_0 0 rfl
theorem dX6_keyNow_1 : decode cX6_keyNow 1 = .ok (.tableswitch 100 0 6 #[43, 45, 49, 53, 57, 61, 79], 43) := dget dkX6_keyNow_0 1 rfl
theorem dX6_keyNow_44 : decode cX6_keyNow 44 = .ok (.iload_n 1, 1) := dget dkX6_keyNow_0 2 rfl
theorem dX6_keyNow_45 : decode cX6_keyNow 45 = .ok (.ireturn, 1) := dget dkX6_keyNow_0 3 rfl
theorem dX6_keyNow_46 : decode cX6_keyNow 46 = .ok (.iload_n 1, 1) := dget dkX6_keyNow_0 4 rfl
theorem dX6_keyNow_47 : decode cX6_keyNow 47 = .ok (.iconst 4, 1) := dget dkX6_keyNow_0 5 rfl
theorem dX6_keyNow_48 : decode cX6_keyNow 48 = .ok (.idiv, 1) := dget dkX6_keyNow_0 6 rfl
theorem dX6_keyNow_49 : decode cX6_keyNow 49 = .ok (.ireturn, 1) := dget dkX6_keyNow_0 7 rfl
theorem dX6_keyNow_50 : decode cX6_keyNow 50 = .ok (.iload_n 1, 1) := dget dkX6_keyNow_0 8 rfl
theorem dX6_keyNow_51 : decode cX6_keyNow 51 = .ok (.iconst 4, 1) := dget dkX6_keyNow_0 9 rfl
theorem dX6_keyNow_52 : decode cX6_keyNow 52 = .ok (.irem, 1) := dget dkX6_keyNow_0 10 rfl
theorem dX6_keyNow_53 : decode cX6_keyNow 53 = .ok (.ireturn, 1) := dget dkX6_keyNow_0 11 rfl
theorem dX6_keyNow_54 : decode cX6_keyNow 54 = .ok (.iload_n 1, 1) := dget dkX6_keyNow_0 12 rfl
theorem dX6_keyNow_55 : decode cX6_keyNow 55 = .ok (.iconst 2, 1) := dget dkX6_keyNow_0 13 rfl
theorem dX6_keyNow_56 : decode cX6_keyNow 56 = .ok (.irem, 1) := dget dkX6_keyNow_0 14 rfl
theorem dX6_keyNow_57 : decode cX6_keyNow 57 = .ok (.ireturn, 1) := dget dkX6_keyNow_0 15 rfl
theorem dX6_keyNow_58 : decode cX6_keyNow 58 = .ok (.iload_n 1, 1) := dget dkX6_keyNow_0 16 rfl
theorem dX6_keyNow_59 : decode cX6_keyNow 59 = .ok (.iconst 3, 1) := dget dkX6_keyNow_0 17 rfl
theorem dX6_keyNow_60 : decode cX6_keyNow 60 = .ok (.irem, 1) := dget dkX6_keyNow_0 18 rfl
theorem dX6_keyNow_61 : decode cX6_keyNow 61 = .ok (.ireturn, 1) := dget dkX6_keyNow_0 19 rfl
theorem dX6_keyNow_62 : decode cX6_keyNow 62 = .ok (.iload_n 1, 1) := dget dkX6_keyNow_0 20 rfl
theorem dX6_keyNow_63 : decode cX6_keyNow 63 = .ok (.bipush 8, 2) := dget dkX6_keyNow_0 21 rfl
theorem dX6_keyNow_65 : decode cX6_keyNow 65 = .ok (.if_icmp .ge 10, 3) := dget dkX6_keyNow_0 22 rfl
theorem dX6_keyNow_68 : decode cX6_keyNow 68 = .ok (.bipush 7, 2) := dget dkX6_keyNow_0 23 rfl
theorem dX6_keyNow_70 : decode cX6_keyNow 70 = .ok (.iload_n 1, 1) := dget dkX6_keyNow_0 24 rfl
theorem dX6_keyNow_71 : decode cX6_keyNow 71 = .ok (.isub, 1) := dget dkX6_keyNow_0 25 rfl
theorem dX6_keyNow_72 : decode cX6_keyNow 72 = .ok (.goto 7, 3) := dget dkX6_keyNow_0 26 rfl
theorem dX6_keyNow_75 : decode cX6_keyNow 75 = .ok (.iload_n 1, 1) := dget dkX6_keyNow_0 27 rfl
theorem dX6_keyNow_76 : decode cX6_keyNow 76 = .ok (.bipush 8, 2) := dget dkX6_keyNow_0 28 rfl
theorem dX6_keyNow_78 : decode cX6_keyNow 78 = .ok (.isub, 1) := dget dkX6_keyNow_0 29 rfl
theorem dX6_keyNow_79 : decode cX6_keyNow 79 = .ok (.ireturn, 1) := dget dkX6_keyNow_0 30 rfl
theorem dX6_keyNow_80 : decode cX6_keyNow 80 = .ok (.iload_n 1, 1) := dget dkX6_keyNow_0 31 rfl
theorem dX6_keyNow_81 : decode cX6_keyNow 81 = .ok (.bipush 8, 2) := dget dkX6_keyNow_0 32 rfl
theorem dX6_keyNow_83 : decode cX6_keyNow 83 = .ok (.idiv, 1) := dget dkX6_keyNow_0 33 rfl
theorem dX6_keyNow_84 : decode cX6_keyNow 84 = .ok (.iload_n 1, 1) := dget dkX6_keyNow_0 34 rfl
theorem dX6_keyNow_85 : decode cX6_keyNow 85 = .ok (.iconst 4, 1) := dget dkX6_keyNow_0 35 rfl
theorem dX6_keyNow_86 : decode cX6_keyNow 86 = .ok (.idiv, 1) := dget dkX6_keyNow_0 36 rfl
theorem dX6_keyNow_87 : decode cX6_keyNow 87 = .ok (.iconst 2, 1) := dget dkX6_keyNow_0 37 rfl
theorem dX6_keyNow_88 : decode cX6_keyNow 88 = .ok (.irem, 1) := dget dkX6_keyNow_0 38 rfl
theorem dX6_keyNow_89 : decode cX6_keyNow 89 = .ok (.iadd, 1) := dget dkX6_keyNow_0 39 rfl
theorem dkX6_keyNow_1 : ([(90, (.iload_n 1, 1)), (91, (.iconst 2, 1)), (92, (.idiv, 1)), (93, (.iconst 2, 1)), (94, (.irem, 1)), (95, (.iadd, 1)), (96, (.iload_n 1, 1)), (97, (.iconst 2, 1)), (98, (.irem, 1)), (99, (.iadd, 1)), (100, (.ireturn, 1)), (101, (.iconst 0, 1)), (102, (.ireturn, 1))] : List (Nat × (Jvm.ClassFile.Instr × Nat))).all (dcB cX6_keyNow) = true := by decide +kernel
theorem dX6_keyNow_90 : decode cX6_keyNow 90 = .ok (.iload_n 1, 1) := dget dkX6_keyNow_1 0 rfl
theorem dX6_keyNow_91 : decode cX6_keyNow 91 = .ok (.iconst 2, 1) := dget dkX6_keyNow_1 1 rfl
theorem dX6_keyNow_92 : decode cX6_keyNow 92 = .ok (.idiv, 1) := dget dkX6_keyNow_1 2 rfl
theorem dX6_keyNow_93 : decode cX6_keyNow 93 = .ok (.iconst 2, 1) := dget dkX6_keyNow_1 3 rfl
theorem dX6_keyNow_94 : decode cX6_keyNow 94 = .ok (.irem, 1) := dget dkX6_keyNow_1 4 rfl
theorem dX6_keyNow_95 : decode cX6_keyNow 95 = .ok (.iadd, 1) := dget dkX6_keyNow_1 5 rfl
theorem dX6_keyNow_96 : decode cX6_keyNow 96 = .ok (.iload_n 1, 1) := dget dkX6_keyNow_1 6 rfl
theorem dX6_keyNow_97 : decode cX6_keyNow 97 = .ok (.iconst 2, 1) := dget dkX6_keyNow_1 7 rfl
theorem dX6_keyNow_98 : decode cX6_keyNow 98 = .ok (.irem, 1) := dget dkX6_keyNow_1 8 rfl
theorem dX6_keyNow_99 : decode cX6_keyNow 99 = .ok (.iadd, 1) := dget dkX6_keyNow_1 9 rfl
theorem dX6_keyNow_100 : decode cX6_keyNow 100 = .ok (.ireturn, 1) := dget dkX6_keyNow_1 10 rfl
theorem dX6_keyNow_101 : decode cX6_keyNow 101 = .ok (.iconst 0, 1) := dget dkX6_keyNow_1 11 rfl
theorem dX6_keyNow_102 : decode cX6_keyNow 102 = .ok (.ireturn, 1) := dget dkX6_keyNow_1 12 rfl
theorem ggX6_compareNow_X6_keyNow : GoodIn wsX6_compareNow wsX6_keyNow := tgCall 729 e_X6_keyNow (by decide +kernel)
theorem gX6_compareNow_X6_keyNow : GoodIn wsX6_compareNow (va_wsS RX6 47 yX6_keyNow wsX6_keyNow) := goodIn_app (tgIn [727, 728, 684] (by decide +kernel) rfl) ggX6_compareNow_X6_keyNow
theorem dkX6_compareNow_0 : ([(0, (.iconst 0, 1)), (1, (.istore 4, 2)), (3, (.iload 4, 2)), (5, (.aload_n 0, 1)), (6, (.getfield 29, 3)), (9, (.iload_n 1, 1)), (10, (.iaload, 1)), (11, (.if_icmp .ge 76, 3)), (14, (.aload_n 0, 1)), (15, (.getfield 21, 3)), (18, (.iload_n 1, 1)), (19, (.aaload, 1)), (20, (.iload 4, 2)), (22, (.iaload, 1)), (23, (.iload_n 2, 1)), (24, (.invokestatic 47, 3)), (27, (.istore 5, 2)), (29, (.aload_n 0, 1)), (30, (.getfield 21, 3)), (33, (.iload_n 1, 1)), (34, (.aaload, 1)), (35, (.iload 4, 2)), (37, (.iaload, 1)), (38, (.iload_n 3, 1)), (39, (.invokestatic 47, 3)), (42, (.istore 6, 2)), (44, (.iload 5, 2)), (46, (.iload 6, 2)), (48, (.if_icmp .eq 33, 3)), (51, (.iload 5, 2)), (53, (.iload 6, 2)), (55, (.if_icmp .ge 7, 3)), (58, (.iconst 1, 1)), (59, (.goto 4, 3)), (62, (.iconst 0, 1)), (63, (.aload_n 0, 1)), (64, (.getfield 26, 3)), (67, (.iload_n 1, 1)), (68, (.aaload, 1)), (69, (.iload 4, 2))] : List (Nat × (Jvm.ClassFile.Instr × Nat))).all (dcB cX6_compareNow) = true := by decide +kernel
theorem dX6_compareNow_0 : decode cX6_compareNow 0 = .ok (.iconst 0, 1) := dget dkX6_compareNow_0 0 rfl
theorem dX6_compareNow_1 : decode cX6_compareNow 1 = .ok (.istore 4, 2) := dget dkX6_compareNow_0 1 rfl
theorem dX6_compareNow_3 : decode cX6_compareNow 3 = .ok (.iload 4, 2) := dget dkX6_compareNow_0 2 rfl
theorem dX6_compareNow_5 : decode cX6_compareNow 5 = .ok (.aload_n 0, 1) := dget dkX6_compareNow_0 3 rfl
theorem dX6_compareNow_6 : decode cX6_compareNow 6 = .ok (.getfield 29, 3) := dget dkX6_compareNow_0 4 rfl
theorem dX6_compareNow_9 : decode cX6_compareNow 9 = .ok (.iload_n 1, 1) := dget dkX6_compareNow_0 5 rfl
theorem dX6_compareNow_10 : decode cX6_compareNow 10 = .ok (.iaload, 1) := dget dkX6_compareNow_0 6 rfl
theorem dX6_compareNow_11 : decode cX6_compareNow 11 = .ok (.if_icmp .ge 76, 3) := dget dkX6_compareNow_0 7 rfl
theorem dX6_compareNow_14 : decode cX6_compareNow 14 = .ok (.aload_n 0, 1) := dget dkX6_compareNow_0 8 rfl
theorem dX6_compareNow_15 : decode cX6_compareNow 15 = .ok (.getfield 21, 3) := dget dkX6_compareNow_0 9 rfl
theorem dX6_compareNow_18 : decode cX6_compareNow 18 = .ok (.iload_n 1, 1) := dget dkX6_compareNow_0 10 rfl
theorem dX6_compareNow_19 : decode cX6_compareNow 19 = .ok (.aaload, 1) := dget dkX6_compareNow_0 11 rfl
theorem dX6_compareNow_20 : decode cX6_compareNow 20 = .ok (.iload 4, 2) := dget dkX6_compareNow_0 12 rfl
theorem dX6_compareNow_22 : decode cX6_compareNow 22 = .ok (.iaload, 1) := dget dkX6_compareNow_0 13 rfl
theorem dX6_compareNow_23 : decode cX6_compareNow 23 = .ok (.iload_n 2, 1) := dget dkX6_compareNow_0 14 rfl
theorem dX6_compareNow_24 : decode cX6_compareNow 24 = .ok (.invokestatic 47, 3) := dget dkX6_compareNow_0 15 rfl
theorem dX6_compareNow_27 : decode cX6_compareNow 27 = .ok (.istore 5, 2) := dget dkX6_compareNow_0 16 rfl
theorem dX6_compareNow_29 : decode cX6_compareNow 29 = .ok (.aload_n 0, 1) := dget dkX6_compareNow_0 17 rfl
theorem dX6_compareNow_30 : decode cX6_compareNow 30 = .ok (.getfield 21, 3) := dget dkX6_compareNow_0 18 rfl
theorem dX6_compareNow_33 : decode cX6_compareNow 33 = .ok (.iload_n 1, 1) := dget dkX6_compareNow_0 19 rfl
theorem dX6_compareNow_34 : decode cX6_compareNow 34 = .ok (.aaload, 1) := dget dkX6_compareNow_0 20 rfl
theorem dX6_compareNow_35 : decode cX6_compareNow 35 = .ok (.iload 4, 2) := dget dkX6_compareNow_0 21 rfl
theorem dX6_compareNow_37 : decode cX6_compareNow 37 = .ok (.iaload, 1) := dget dkX6_compareNow_0 22 rfl
theorem dX6_compareNow_38 : decode cX6_compareNow 38 = .ok (.iload_n 3, 1) := dget dkX6_compareNow_0 23 rfl
theorem dX6_compareNow_39 : decode cX6_compareNow 39 = .ok (.invokestatic 47, 3) := dget dkX6_compareNow_0 24 rfl
theorem dX6_compareNow_42 : decode cX6_compareNow 42 = .ok (.istore 6, 2) := dget dkX6_compareNow_0 25 rfl
theorem dX6_compareNow_44 : decode cX6_compareNow 44 = .ok (.iload 5, 2) := dget dkX6_compareNow_0 26 rfl
theorem dX6_compareNow_46 : decode cX6_compareNow 46 = .ok (.iload 6, 2) := dget dkX6_compareNow_0 27 rfl
theorem dX6_compareNow_48 : decode cX6_compareNow 48 = .ok (.if_icmp .eq 33, 3) := dget dkX6_compareNow_0 28 rfl
theorem dX6_compareNow_51 : decode cX6_compareNow 51 = .ok (.iload 5, 2) := dget dkX6_compareNow_0 29 rfl
theorem dX6_compareNow_53 : decode cX6_compareNow 53 = .ok (.iload 6, 2) := dget dkX6_compareNow_0 30 rfl
theorem dX6_compareNow_55 : decode cX6_compareNow 55 = .ok (.if_icmp .ge 7, 3) := dget dkX6_compareNow_0 31 rfl
theorem dX6_compareNow_58 : decode cX6_compareNow 58 = .ok (.iconst 1, 1) := dget dkX6_compareNow_0 32 rfl
theorem dX6_compareNow_59 : decode cX6_compareNow 59 = .ok (.goto 4, 3) := dget dkX6_compareNow_0 33 rfl
theorem dX6_compareNow_62 : decode cX6_compareNow 62 = .ok (.iconst 0, 1) := dget dkX6_compareNow_0 34 rfl
theorem dX6_compareNow_63 : decode cX6_compareNow 63 = .ok (.aload_n 0, 1) := dget dkX6_compareNow_0 35 rfl
theorem dX6_compareNow_64 : decode cX6_compareNow 64 = .ok (.getfield 26, 3) := dget dkX6_compareNow_0 36 rfl
theorem dX6_compareNow_67 : decode cX6_compareNow 67 = .ok (.iload_n 1, 1) := dget dkX6_compareNow_0 37 rfl
theorem dX6_compareNow_68 : decode cX6_compareNow 68 = .ok (.aaload, 1) := dget dkX6_compareNow_0 38 rfl
theorem dX6_compareNow_69 : decode cX6_compareNow 69 = .ok (.iload 4, 2) := dget dkX6_compareNow_0 39 rfl
theorem dkX6_compareNow_1 : ([(71, (.baload, 1)), (72, (.if_icmp .ne 7, 3)), (75, (.iconst 1, 1)), (76, (.goto 4, 3)), (79, (.iconst (-1), 1)), (80, (.ireturn, 1)), (81, (.iinc 4 1, 3)), (84, (.goto (-81), 3)), (87, (.iconst 0, 1)), (88, (.ireturn, 1))] : List (Nat × (Jvm.ClassFile.Instr × Nat))).all (dcB cX6_compareNow) = true := by decide +kernel
theorem dX6_compareNow_71 : decode cX6_compareNow 71 = .ok (.baload, 1) := dget dkX6_compareNow_1 0 rfl
theorem dX6_compareNow_72 : decode cX6_compareNow 72 = .ok (.if_icmp .ne 7, 3) := dget dkX6_compareNow_1 1 rfl
theorem dX6_compareNow_75 : decode cX6_compareNow 75 = .ok (.iconst 1, 1) := dget dkX6_compareNow_1 2 rfl
theorem dX6_compareNow_76 : decode cX6_compareNow 76 = .ok (.goto 4, 3) := dget dkX6_compareNow_1 3 rfl
theorem dX6_compareNow_79 : decode cX6_compareNow 79 = .ok (.iconst (-1), 1) := dget dkX6_compareNow_1 4 rfl
theorem dX6_compareNow_80 : decode cX6_compareNow 80 = .ok (.ireturn, 1) := dget dkX6_compareNow_1 5 rfl
theorem dX6_compareNow_81 : decode cX6_compareNow 81 = .ok (.iinc 4 1, 3) := dget dkX6_compareNow_1 6 rfl
theorem dX6_compareNow_84 : decode cX6_compareNow 84 = .ok (.goto (-81), 3) := dget dkX6_compareNow_1 7 rfl
theorem dX6_compareNow_87 : decode cX6_compareNow 87 = .ok (.iconst 0, 1) := dget dkX6_compareNow_1 8 rfl
theorem dX6_compareNow_88 : decode cX6_compareNow 88 = .ok (.ireturn, 1) := dget dkX6_compareNow_1 9 rfl
theorem ggX6_isFirst_X6_compareNow : GoodIn wsX6_isFirst wsX6_compareNow := tgCall 723 e_X6_compareNow (by decide +kernel)
theorem gX6_isFirst_X6_compareNow : GoodIn wsX6_isFirst (wsV RX6 51 RX6 yX6_compareNow wsX6_compareNow) := goodIn_app (tgIn [720, 721, 722, 684] (by decide +kernel) rfl) ggX6_isFirst_X6_compareNow
theorem dkX6_isFirst_0 : ([(0, (.iconst 0, 1)), (1, (.istore_n 3, 1)), (2, (.iload_n 3, 1)), (3, (.iload_n 2, 1)), (4, (.if_icmp .ge 21, 3)), (7, (.aload_n 0, 1)), (8, (.iload_n 1, 1)), (9, (.iload_n 3, 1)), (10, (.iload_n 2, 1)), (11, (.invokevirtual 51, 3)), (14, (.ifCond .ne 5, 3)), (17, (.iconst 0, 1)), (18, (.ireturn, 1)), (19, (.iinc 3 1, 3)), (22, (.goto (-20), 3)), (25, (.iconst 1, 1)), (26, (.ireturn, 1))] : List (Nat × (Jvm.ClassFile.Instr × Nat))).all (dcB cX6_isFirst) = true := by decide +kernel
theorem dX6_isFirst_0 : decode cX6_isFirst 0 = .ok (.iconst 0, 1) := dget dkX6_isFirst_0 0 rfl
theorem dX6_isFirst_1 : decode cX6_isFirst 1 = .ok (.istore_n 3, 1) := dget dkX6_isFirst_0 1 rfl
theorem dX6_isFirst_2 : decode cX6_isFirst 2 = .ok (.iload_n 3, 1) := dget dkX6_isFirst_0 2 rfl
theorem dX6_isFirst_3 : decode cX6_isFirst 3 = .ok (.iload_n 2, 1) := dget dkX6_isFirst_0 3 rfl
theorem dX6_isFirst_4 : decode cX6_isFirst 4 = .ok (.if_icmp .ge 21, 3) := dget dkX6_isFirst_0 4 rfl
theorem dX6_isFirst_7 : decode cX6_isFirst 7 = .ok (.aload_n 0, 1) := dget dkX6_isFirst_0 5 rfl
theorem dX6_isFirst_8 : decode cX6_isFirst 8 = .ok (.iload_n 1, 1) := dget dkX6_isFirst_0 6 rfl
theorem dX6_isFirst_9 : decode cX6_isFirst 9 = .ok (.iload_n 3, 1) := dget dkX6_isFirst_0 7 rfl
theorem dX6_isFirst_10 : decode cX6_isFirst 10 = .ok (.iload_n 2, 1) := dget dkX6_isFirst_0 8 rfl
theorem dX6_isFirst_11 : decode cX6_isFirst 11 = .ok (.invokevirtual 51, 3) := dget dkX6_isFirst_0 9 rfl
theorem dX6_isFirst_14 : decode cX6_isFirst 14 = .ok (.ifCond .ne 5, 3) := dget dkX6_isFirst_0 10 rfl
theorem dX6_isFirst_17 : decode cX6_isFirst 17 = .ok (.iconst 0, 1) := dget dkX6_isFirst_0 11 rfl
theorem dX6_isFirst_18 : decode cX6_isFirst 18 = .ok (.ireturn, 1) := dget dkX6_isFirst_0 12 rfl
theorem dX6_isFirst_19 : decode cX6_isFirst 19 = .ok (.iinc 3 1, 3) := dget dkX6_isFirst_0 13 rfl
theorem dX6_isFirst_22 : decode cX6_isFirst 22 = .ok (.goto (-20), 3) := dget dkX6_isFirst_0 14 rfl
theorem dX6_isFirst_25 : decode cX6_isFirst 25 = .ok (.iconst 1, 1) := dget dkX6_isFirst_0 15 rfl
theorem dX6_isFirst_26 : decode cX6_isFirst 26 = .ok (.ireturn, 1) := dget dkX6_isFirst_0 16 rfl
theorem ggX6_classesNow_X6_isFirst : GoodIn wsX6_classesNow wsX6_isFirst := tgCall 790 e_X6_isFirst (by decide +kernel)
theorem gX6_classesNow_X6_isFirst : GoodIn wsX6_classesNow (wsV RX6 55 RX6 yX6_isFirst wsX6_isFirst) := goodIn_app (tgIn [787, 788, 789, 684] (by decide +kernel) rfl) ggX6_classesNow_X6_isFirst
theorem dkX6_classesNow_0 : ([(0, (.iconst 0, 1)), (1, (.istore_n 2, 1)), (2, (.iconst 0, 1)), (3, (.istore_n 3, 1)), (4, (.iload_n 3, 1)), (5, (.bipush 16, 2)), (7, (.if_icmp .ge 26, 3)), (10, (.iload_n 2, 1)), (11, (.aload_n 0, 1)), (12, (.iload_n 1, 1)), (13, (.iload_n 3, 1)), (14, (.invokevirtual 55, 3)), (17, (.ifCond .eq 7, 3)), (20, (.iconst 1, 1)), (21, (.goto 4, 3)), (24, (.iconst 0, 1)), (25, (.iadd, 1)), (26, (.istore_n 2, 1)), (27, (.iinc 3 1, 3)), (30, (.goto (-26), 3)), (33, (.iload_n 2, 1)), (34, (.ireturn, 1))] : List (Nat × (Jvm.ClassFile.Instr × Nat))).all (dcB cX6_classesNow) = true := by decide +kernel
theorem dX6_classesNow_0 : decode cX6_classesNow 0 = .ok (.iconst 0, 1) := dget dkX6_classesNow_0 0 rfl
theorem dX6_classesNow_1 : decode cX6_classesNow 1 = .ok (.istore_n 2, 1) := dget dkX6_classesNow_0 1 rfl
theorem dX6_classesNow_2 : decode cX6_classesNow 2 = .ok (.iconst 0, 1) := dget dkX6_classesNow_0 2 rfl
theorem dX6_classesNow_3 : decode cX6_classesNow 3 = .ok (.istore_n 3, 1) := dget dkX6_classesNow_0 3 rfl
theorem dX6_classesNow_4 : decode cX6_classesNow 4 = .ok (.iload_n 3, 1) := dget dkX6_classesNow_0 4 rfl
theorem dX6_classesNow_5 : decode cX6_classesNow 5 = .ok (.bipush 16, 2) := dget dkX6_classesNow_0 5 rfl
theorem dX6_classesNow_7 : decode cX6_classesNow 7 = .ok (.if_icmp .ge 26, 3) := dget dkX6_classesNow_0 6 rfl
theorem dX6_classesNow_10 : decode cX6_classesNow 10 = .ok (.iload_n 2, 1) := dget dkX6_classesNow_0 7 rfl
theorem dX6_classesNow_11 : decode cX6_classesNow 11 = .ok (.aload_n 0, 1) := dget dkX6_classesNow_0 8 rfl
theorem dX6_classesNow_12 : decode cX6_classesNow 12 = .ok (.iload_n 1, 1) := dget dkX6_classesNow_0 9 rfl
theorem dX6_classesNow_13 : decode cX6_classesNow 13 = .ok (.iload_n 3, 1) := dget dkX6_classesNow_0 10 rfl
theorem dX6_classesNow_14 : decode cX6_classesNow 14 = .ok (.invokevirtual 55, 3) := dget dkX6_classesNow_0 11 rfl
theorem dX6_classesNow_17 : decode cX6_classesNow 17 = .ok (.ifCond .eq 7, 3) := dget dkX6_classesNow_0 12 rfl
theorem dX6_classesNow_20 : decode cX6_classesNow 20 = .ok (.iconst 1, 1) := dget dkX6_classesNow_0 13 rfl
theorem dX6_classesNow_21 : decode cX6_classesNow 21 = .ok (.goto 4, 3) := dget dkX6_classesNow_0 14 rfl
theorem dX6_classesNow_24 : decode cX6_classesNow 24 = .ok (.iconst 0, 1) := dget dkX6_classesNow_0 15 rfl
theorem dX6_classesNow_25 : decode cX6_classesNow 25 = .ok (.iadd, 1) := dget dkX6_classesNow_0 16 rfl
theorem dX6_classesNow_26 : decode cX6_classesNow 26 = .ok (.istore_n 2, 1) := dget dkX6_classesNow_0 17 rfl
theorem dX6_classesNow_27 : decode cX6_classesNow 27 = .ok (.iinc 3 1, 3) := dget dkX6_classesNow_0 18 rfl
theorem dX6_classesNow_30 : decode cX6_classesNow 30 = .ok (.goto (-26), 3) := dget dkX6_classesNow_0 19 rfl
theorem dX6_classesNow_33 : decode cX6_classesNow 33 = .ok (.iload_n 2, 1) := dget dkX6_classesNow_0 20 rfl
theorem dX6_classesNow_34 : decode cX6_classesNow 34 = .ok (.ireturn, 1) := dget dkX6_classesNow_0 21 rfl
theorem ggX6_rankNow_X6_isFirst : GoodIn wsX6_rankNow wsX6_isFirst := tgCall 790 e_X6_isFirst (by decide +kernel)
theorem gX6_rankNow_X6_isFirst : GoodIn wsX6_rankNow (wsV RX6 55 RX6 yX6_isFirst wsX6_isFirst) := goodIn_app (tgIn [787, 788, 789, 684] (by decide +kernel) rfl) ggX6_rankNow_X6_isFirst
theorem ggX6_rankNow_X6_compareNow : GoodIn wsX6_rankNow wsX6_compareNow := tgCall 723 e_X6_compareNow (by decide +kernel)
theorem gX6_rankNow_X6_compareNow : GoodIn wsX6_rankNow (wsV RX6 51 RX6 yX6_compareNow wsX6_compareNow) := goodIn_app (tgIn [720, 721, 722, 684] (by decide +kernel) rfl) ggX6_rankNow_X6_compareNow
theorem dkX6_rankNow_0 : ([(0, (.iconst 0, 1)), (1, (.istore_n 3, 1)), (2, (.iconst 0, 1)), (3, (.istore 4, 2)), (5, (.iload 4, 2)), (7, (.bipush 16, 2)), (9, (.if_icmp .ge 38, 3)), (12, (.iload_n 3, 1)), (13, (.aload_n 0, 1)), (14, (.iload_n 1, 1)), (15, (.iload 4, 2)), (17, (.invokevirtual 55, 3)), (20, (.ifCond .eq 18, 3)), (23, (.aload_n 0, 1)), (24, (.iload_n 1, 1)), (25, (.iload 4, 2)), (27, (.iload_n 2, 1)), (28, (.invokevirtual 51, 3)), (31, (.ifCond .ge 7, 3)), (34, (.iconst 1, 1)), (35, (.goto 4, 3)), (38, (.iconst 0, 1)), (39, (.iadd, 1)), (40, (.istore_n 3, 1)), (41, (.iinc 4 1, 3)), (44, (.goto (-39), 3)), (47, (.iload_n 3, 1)), (48, (.ireturn, 1))] : List (Nat × (Jvm.ClassFile.Instr × Nat))).all (dcB cX6_rankNow) = true := by decide +kernel
theorem dX6_rankNow_0 : decode cX6_rankNow 0 = .ok (.iconst 0, 1) := dget dkX6_rankNow_0 0 rfl
theorem dX6_rankNow_1 : decode cX6_rankNow 1 = .ok (.istore_n 3, 1) := dget dkX6_rankNow_0 1 rfl
theorem dX6_rankNow_2 : decode cX6_rankNow 2 = .ok (.iconst 0, 1) := dget dkX6_rankNow_0 2 rfl
theorem dX6_rankNow_3 : decode cX6_rankNow 3 = .ok (.istore 4, 2) := dget dkX6_rankNow_0 3 rfl
theorem dX6_rankNow_5 : decode cX6_rankNow 5 = .ok (.iload 4, 2) := dget dkX6_rankNow_0 4 rfl
theorem dX6_rankNow_7 : decode cX6_rankNow 7 = .ok (.bipush 16, 2) := dget dkX6_rankNow_0 5 rfl
theorem dX6_rankNow_9 : decode cX6_rankNow 9 = .ok (.if_icmp .ge 38, 3) := dget dkX6_rankNow_0 6 rfl
theorem dX6_rankNow_12 : decode cX6_rankNow 12 = .ok (.iload_n 3, 1) := dget dkX6_rankNow_0 7 rfl
theorem dX6_rankNow_13 : decode cX6_rankNow 13 = .ok (.aload_n 0, 1) := dget dkX6_rankNow_0 8 rfl
theorem dX6_rankNow_14 : decode cX6_rankNow 14 = .ok (.iload_n 1, 1) := dget dkX6_rankNow_0 9 rfl
theorem dX6_rankNow_15 : decode cX6_rankNow 15 = .ok (.iload 4, 2) := dget dkX6_rankNow_0 10 rfl
theorem dX6_rankNow_17 : decode cX6_rankNow 17 = .ok (.invokevirtual 55, 3) := dget dkX6_rankNow_0 11 rfl
theorem dX6_rankNow_20 : decode cX6_rankNow 20 = .ok (.ifCond .eq 18, 3) := dget dkX6_rankNow_0 12 rfl
theorem dX6_rankNow_23 : decode cX6_rankNow 23 = .ok (.aload_n 0, 1) := dget dkX6_rankNow_0 13 rfl
theorem dX6_rankNow_24 : decode cX6_rankNow 24 = .ok (.iload_n 1, 1) := dget dkX6_rankNow_0 14 rfl
theorem dX6_rankNow_25 : decode cX6_rankNow 25 = .ok (.iload 4, 2) := dget dkX6_rankNow_0 15 rfl
theorem dX6_rankNow_27 : decode cX6_rankNow 27 = .ok (.iload_n 2, 1) := dget dkX6_rankNow_0 16 rfl
theorem dX6_rankNow_28 : decode cX6_rankNow 28 = .ok (.invokevirtual 51, 3) := dget dkX6_rankNow_0 17 rfl
theorem dX6_rankNow_31 : decode cX6_rankNow 31 = .ok (.ifCond .ge 7, 3) := dget dkX6_rankNow_0 18 rfl
theorem dX6_rankNow_34 : decode cX6_rankNow 34 = .ok (.iconst 1, 1) := dget dkX6_rankNow_0 19 rfl
theorem dX6_rankNow_35 : decode cX6_rankNow 35 = .ok (.goto 4, 3) := dget dkX6_rankNow_0 20 rfl
theorem dX6_rankNow_38 : decode cX6_rankNow 38 = .ok (.iconst 0, 1) := dget dkX6_rankNow_0 21 rfl
theorem dX6_rankNow_39 : decode cX6_rankNow 39 = .ok (.iadd, 1) := dget dkX6_rankNow_0 22 rfl
theorem dX6_rankNow_40 : decode cX6_rankNow 40 = .ok (.istore_n 3, 1) := dget dkX6_rankNow_0 23 rfl
theorem dX6_rankNow_41 : decode cX6_rankNow 41 = .ok (.iinc 4 1, 3) := dget dkX6_rankNow_0 24 rfl
theorem dX6_rankNow_44 : decode cX6_rankNow 44 = .ok (.goto (-39), 3) := dget dkX6_rankNow_0 25 rfl
theorem dX6_rankNow_47 : decode cX6_rankNow 47 = .ok (.iload_n 3, 1) := dget dkX6_rankNow_0 26 rfl
theorem dX6_rankNow_48 : decode cX6_rankNow 48 = .ok (.ireturn, 1) := dget dkX6_rankNow_0 27 rfl
theorem ggX6_isRefined_X6_compareNow : GoodIn wsX6_isRefined wsX6_compareNow := tgCall 723 e_X6_compareNow (by decide +kernel)
theorem gX6_isRefined_X6_compareNow : GoodIn wsX6_isRefined (wsV RX6 51 RX6 yX6_compareNow wsX6_compareNow) := goodIn_app (tgIn [720, 721, 722, 684] (by decide +kernel) rfl) ggX6_isRefined_X6_compareNow
theorem dkX6_isRefined_0 : ([(0, (.iconst 0, 1)), (1, (.istore_n 3, 1)), (2, (.iload_n 3, 1)), (3, (.bipush 16, 2)), (5, (.if_icmp .ge 49, 3)), (8, (.iconst 0, 1)), (9, (.istore 4, 2)), (11, (.iload 4, 2)), (13, (.bipush 16, 2)), (15, (.if_icmp .ge 33, 3)), (18, (.aload_n 0, 1)), (19, (.iload_n 2, 1)), (20, (.iload_n 3, 1)), (21, (.iload 4, 2)), (23, (.invokevirtual 51, 3)), (26, (.ifCond .ge 16, 3)), (29, (.aload_n 0, 1)), (30, (.iload_n 1, 1)), (31, (.iload_n 3, 1)), (32, (.iload 4, 2)), (34, (.invokevirtual 51, 3)), (37, (.ifCond .lt 5, 3)), (40, (.iconst 0, 1)), (41, (.ireturn, 1)), (42, (.iinc 4 1, 3)), (45, (.goto (-34), 3)), (48, (.iinc 3 1, 3)), (51, (.goto (-49), 3)), (54, (.iconst 1, 1)), (55, (.ireturn, 1))] : List (Nat × (Jvm.ClassFile.Instr × Nat))).all (dcB cX6_isRefined) = true := by decide +kernel
theorem dX6_isRefined_0 : decode cX6_isRefined 0 = .ok (.iconst 0, 1) := dget dkX6_isRefined_0 0 rfl
theorem dX6_isRefined_1 : decode cX6_isRefined 1 = .ok (.istore_n 3, 1) := dget dkX6_isRefined_0 1 rfl
theorem dX6_isRefined_2 : decode cX6_isRefined 2 = .ok (.iload_n 3, 1) := dget dkX6_isRefined_0 2 rfl
theorem dX6_isRefined_3 : decode cX6_isRefined 3 = .ok (.bipush 16, 2) := dget dkX6_isRefined_0 3 rfl
theorem dX6_isRefined_5 : decode cX6_isRefined 5 = .ok (.if_icmp .ge 49, 3) := dget dkX6_isRefined_0 4 rfl
theorem dX6_isRefined_8 : decode cX6_isRefined 8 = .ok (.iconst 0, 1) := dget dkX6_isRefined_0 5 rfl
theorem dX6_isRefined_9 : decode cX6_isRefined 9 = .ok (.istore 4, 2) := dget dkX6_isRefined_0 6 rfl
theorem dX6_isRefined_11 : decode cX6_isRefined 11 = .ok (.iload 4, 2) := dget dkX6_isRefined_0 7 rfl
theorem dX6_isRefined_13 : decode cX6_isRefined 13 = .ok (.bipush 16, 2) := dget dkX6_isRefined_0 8 rfl
theorem dX6_isRefined_15 : decode cX6_isRefined 15 = .ok (.if_icmp .ge 33, 3) := dget dkX6_isRefined_0 9 rfl
theorem dX6_isRefined_18 : decode cX6_isRefined 18 = .ok (.aload_n 0, 1) := dget dkX6_isRefined_0 10 rfl
theorem dX6_isRefined_19 : decode cX6_isRefined 19 = .ok (.iload_n 2, 1) := dget dkX6_isRefined_0 11 rfl
theorem dX6_isRefined_20 : decode cX6_isRefined 20 = .ok (.iload_n 3, 1) := dget dkX6_isRefined_0 12 rfl
theorem dX6_isRefined_21 : decode cX6_isRefined 21 = .ok (.iload 4, 2) := dget dkX6_isRefined_0 13 rfl
theorem dX6_isRefined_23 : decode cX6_isRefined 23 = .ok (.invokevirtual 51, 3) := dget dkX6_isRefined_0 14 rfl
theorem dX6_isRefined_26 : decode cX6_isRefined 26 = .ok (.ifCond .ge 16, 3) := dget dkX6_isRefined_0 15 rfl
theorem dX6_isRefined_29 : decode cX6_isRefined 29 = .ok (.aload_n 0, 1) := dget dkX6_isRefined_0 16 rfl
theorem dX6_isRefined_30 : decode cX6_isRefined 30 = .ok (.iload_n 1, 1) := dget dkX6_isRefined_0 17 rfl
theorem dX6_isRefined_31 : decode cX6_isRefined 31 = .ok (.iload_n 3, 1) := dget dkX6_isRefined_0 18 rfl
theorem dX6_isRefined_32 : decode cX6_isRefined 32 = .ok (.iload 4, 2) := dget dkX6_isRefined_0 19 rfl
theorem dX6_isRefined_34 : decode cX6_isRefined 34 = .ok (.invokevirtual 51, 3) := dget dkX6_isRefined_0 20 rfl
theorem dX6_isRefined_37 : decode cX6_isRefined 37 = .ok (.ifCond .lt 5, 3) := dget dkX6_isRefined_0 21 rfl
theorem dX6_isRefined_40 : decode cX6_isRefined 40 = .ok (.iconst 0, 1) := dget dkX6_isRefined_0 22 rfl
theorem dX6_isRefined_41 : decode cX6_isRefined 41 = .ok (.ireturn, 1) := dget dkX6_isRefined_0 23 rfl
theorem dX6_isRefined_42 : decode cX6_isRefined 42 = .ok (.iinc 4 1, 3) := dget dkX6_isRefined_0 24 rfl
theorem dX6_isRefined_45 : decode cX6_isRefined 45 = .ok (.goto (-34), 3) := dget dkX6_isRefined_0 25 rfl
theorem dX6_isRefined_48 : decode cX6_isRefined 48 = .ok (.iinc 3 1, 3) := dget dkX6_isRefined_0 26 rfl
theorem dX6_isRefined_51 : decode cX6_isRefined 51 = .ok (.goto (-49), 3) := dget dkX6_isRefined_0 27 rfl
theorem dX6_isRefined_54 : decode cX6_isRefined 54 = .ok (.iconst 1, 1) := dget dkX6_isRefined_0 28 rfl
theorem dX6_isRefined_55 : decode cX6_isRefined 55 = .ok (.ireturn, 1) := dget dkX6_isRefined_0 29 rfl
theorem ggX6_bothNow_X6_compareNow : GoodIn wsX6_bothNow wsX6_compareNow := tgCall 723 e_X6_compareNow (by decide +kernel)
theorem gX6_bothNow_X6_compareNow : GoodIn wsX6_bothNow (wsV RX6 51 RX6 yX6_compareNow wsX6_compareNow) := goodIn_app (tgIn [720, 721, 722, 684] (by decide +kernel) rfl) ggX6_bothNow_X6_compareNow
theorem dkX6_bothNow_0 : ([(0, (.aload_n 0, 1)), (1, (.iload_n 1, 1)), (2, (.iload_n 3, 1)), (3, (.iload 4, 2)), (5, (.invokevirtual 51, 3)), (8, (.istore 5, 2)), (10, (.aload_n 0, 1)), (11, (.iload_n 2, 1)), (12, (.iload_n 3, 1)), (13, (.iload 4, 2)), (15, (.invokevirtual 51, 3)), (18, (.istore 6, 2)), (20, (.iload 5, 2)), (22, (.iload 6, 2)), (24, (.imul, 1)), (25, (.ifCond .ge 7, 3)), (28, (.iconst 2, 1)), (29, (.goto 15, 3)), (32, (.iload 5, 2)), (34, (.ifCond .eq 8, 3)), (37, (.iload 5, 2)), (39, (.goto 5, 3)), (42, (.iload 6, 2)), (44, (.ireturn, 1))] : List (Nat × (Jvm.ClassFile.Instr × Nat))).all (dcB cX6_bothNow) = true := by decide +kernel
theorem dX6_bothNow_0 : decode cX6_bothNow 0 = .ok (.aload_n 0, 1) := dget dkX6_bothNow_0 0 rfl
theorem dX6_bothNow_1 : decode cX6_bothNow 1 = .ok (.iload_n 1, 1) := dget dkX6_bothNow_0 1 rfl
theorem dX6_bothNow_2 : decode cX6_bothNow 2 = .ok (.iload_n 3, 1) := dget dkX6_bothNow_0 2 rfl
theorem dX6_bothNow_3 : decode cX6_bothNow 3 = .ok (.iload 4, 2) := dget dkX6_bothNow_0 3 rfl
theorem dX6_bothNow_5 : decode cX6_bothNow 5 = .ok (.invokevirtual 51, 3) := dget dkX6_bothNow_0 4 rfl
theorem dX6_bothNow_8 : decode cX6_bothNow 8 = .ok (.istore 5, 2) := dget dkX6_bothNow_0 5 rfl
theorem dX6_bothNow_10 : decode cX6_bothNow 10 = .ok (.aload_n 0, 1) := dget dkX6_bothNow_0 6 rfl
theorem dX6_bothNow_11 : decode cX6_bothNow 11 = .ok (.iload_n 2, 1) := dget dkX6_bothNow_0 7 rfl
theorem dX6_bothNow_12 : decode cX6_bothNow 12 = .ok (.iload_n 3, 1) := dget dkX6_bothNow_0 8 rfl
theorem dX6_bothNow_13 : decode cX6_bothNow 13 = .ok (.iload 4, 2) := dget dkX6_bothNow_0 9 rfl
theorem dX6_bothNow_15 : decode cX6_bothNow 15 = .ok (.invokevirtual 51, 3) := dget dkX6_bothNow_0 10 rfl
theorem dX6_bothNow_18 : decode cX6_bothNow 18 = .ok (.istore 6, 2) := dget dkX6_bothNow_0 11 rfl
theorem dX6_bothNow_20 : decode cX6_bothNow 20 = .ok (.iload 5, 2) := dget dkX6_bothNow_0 12 rfl
theorem dX6_bothNow_22 : decode cX6_bothNow 22 = .ok (.iload 6, 2) := dget dkX6_bothNow_0 13 rfl
theorem dX6_bothNow_24 : decode cX6_bothNow 24 = .ok (.imul, 1) := dget dkX6_bothNow_0 14 rfl
theorem dX6_bothNow_25 : decode cX6_bothNow 25 = .ok (.ifCond .ge 7, 3) := dget dkX6_bothNow_0 15 rfl
theorem dX6_bothNow_28 : decode cX6_bothNow 28 = .ok (.iconst 2, 1) := dget dkX6_bothNow_0 16 rfl
theorem dX6_bothNow_29 : decode cX6_bothNow 29 = .ok (.goto 15, 3) := dget dkX6_bothNow_0 17 rfl
theorem dX6_bothNow_32 : decode cX6_bothNow 32 = .ok (.iload 5, 2) := dget dkX6_bothNow_0 18 rfl
theorem dX6_bothNow_34 : decode cX6_bothNow 34 = .ok (.ifCond .eq 8, 3) := dget dkX6_bothNow_0 19 rfl
theorem dX6_bothNow_37 : decode cX6_bothNow 37 = .ok (.iload 5, 2) := dget dkX6_bothNow_0 20 rfl
theorem dX6_bothNow_39 : decode cX6_bothNow 39 = .ok (.goto 5, 3) := dget dkX6_bothNow_0 21 rfl
theorem dX6_bothNow_42 : decode cX6_bothNow 42 = .ok (.iload 6, 2) := dget dkX6_bothNow_0 22 rfl
theorem dX6_bothNow_44 : decode cX6_bothNow 44 = .ok (.ireturn, 1) := dget dkX6_bothNow_0 23 rfl
theorem ggX6_apartNow_X6_bothNow : GoodIn wsX6_apartNow wsX6_bothNow := tgCall 814 e_X6_bothNow (by decide +kernel)
theorem gX6_apartNow_X6_bothNow : GoodIn wsX6_apartNow (wsV RX6 58 RX6 yX6_bothNow wsX6_bothNow) := goodIn_app (tgIn [811, 812, 813, 684] (by decide +kernel) rfl) ggX6_apartNow_X6_bothNow
theorem dkX6_apartNow_0 : ([(0, (.iconst 0, 1)), (1, (.istore_n 3, 1)), (2, (.iconst 0, 1)), (3, (.istore 4, 2)), (5, (.iload 4, 2)), (7, (.bipush 16, 2)), (9, (.if_icmp .ge 47, 3)), (12, (.iconst 0, 1)), (13, (.istore 5, 2)), (15, (.iload 5, 2)), (17, (.iload 4, 2)), (19, (.if_icmp .ge 31, 3)), (22, (.iload_n 3, 1)), (23, (.aload_n 0, 1)), (24, (.iload_n 1, 1)), (25, (.iload_n 2, 1)), (26, (.iload 4, 2)), (28, (.iload 5, 2)), (30, (.invokevirtual 58, 3)), (33, (.iconst 2, 1)), (34, (.if_icmp .ne 7, 3)), (37, (.iconst 1, 1)), (38, (.goto 4, 3)), (41, (.iconst 0, 1)), (42, (.iadd, 1)), (43, (.istore_n 3, 1)), (44, (.iinc 5 1, 3)), (47, (.goto (-32), 3)), (50, (.iinc 4 1, 3)), (53, (.goto (-48), 3)), (56, (.iload_n 3, 1)), (57, (.ireturn, 1))] : List (Nat × (Jvm.ClassFile.Instr × Nat))).all (dcB cX6_apartNow) = true := by decide +kernel
theorem dX6_apartNow_0 : decode cX6_apartNow 0 = .ok (.iconst 0, 1) := dget dkX6_apartNow_0 0 rfl
theorem dX6_apartNow_1 : decode cX6_apartNow 1 = .ok (.istore_n 3, 1) := dget dkX6_apartNow_0 1 rfl
theorem dX6_apartNow_2 : decode cX6_apartNow 2 = .ok (.iconst 0, 1) := dget dkX6_apartNow_0 2 rfl
theorem dX6_apartNow_3 : decode cX6_apartNow 3 = .ok (.istore 4, 2) := dget dkX6_apartNow_0 3 rfl
theorem dX6_apartNow_5 : decode cX6_apartNow 5 = .ok (.iload 4, 2) := dget dkX6_apartNow_0 4 rfl
theorem dX6_apartNow_7 : decode cX6_apartNow 7 = .ok (.bipush 16, 2) := dget dkX6_apartNow_0 5 rfl
theorem dX6_apartNow_9 : decode cX6_apartNow 9 = .ok (.if_icmp .ge 47, 3) := dget dkX6_apartNow_0 6 rfl
theorem dX6_apartNow_12 : decode cX6_apartNow 12 = .ok (.iconst 0, 1) := dget dkX6_apartNow_0 7 rfl
theorem dX6_apartNow_13 : decode cX6_apartNow 13 = .ok (.istore 5, 2) := dget dkX6_apartNow_0 8 rfl
theorem dX6_apartNow_15 : decode cX6_apartNow 15 = .ok (.iload 5, 2) := dget dkX6_apartNow_0 9 rfl
theorem dX6_apartNow_17 : decode cX6_apartNow 17 = .ok (.iload 4, 2) := dget dkX6_apartNow_0 10 rfl
theorem dX6_apartNow_19 : decode cX6_apartNow 19 = .ok (.if_icmp .ge 31, 3) := dget dkX6_apartNow_0 11 rfl
theorem dX6_apartNow_22 : decode cX6_apartNow 22 = .ok (.iload_n 3, 1) := dget dkX6_apartNow_0 12 rfl
theorem dX6_apartNow_23 : decode cX6_apartNow 23 = .ok (.aload_n 0, 1) := dget dkX6_apartNow_0 13 rfl
theorem dX6_apartNow_24 : decode cX6_apartNow 24 = .ok (.iload_n 1, 1) := dget dkX6_apartNow_0 14 rfl
theorem dX6_apartNow_25 : decode cX6_apartNow 25 = .ok (.iload_n 2, 1) := dget dkX6_apartNow_0 15 rfl
theorem dX6_apartNow_26 : decode cX6_apartNow 26 = .ok (.iload 4, 2) := dget dkX6_apartNow_0 16 rfl
theorem dX6_apartNow_28 : decode cX6_apartNow 28 = .ok (.iload 5, 2) := dget dkX6_apartNow_0 17 rfl
theorem dX6_apartNow_30 : decode cX6_apartNow 30 = .ok (.invokevirtual 58, 3) := dget dkX6_apartNow_0 18 rfl
theorem dX6_apartNow_33 : decode cX6_apartNow 33 = .ok (.iconst 2, 1) := dget dkX6_apartNow_0 19 rfl
theorem dX6_apartNow_34 : decode cX6_apartNow 34 = .ok (.if_icmp .ne 7, 3) := dget dkX6_apartNow_0 20 rfl
theorem dX6_apartNow_37 : decode cX6_apartNow 37 = .ok (.iconst 1, 1) := dget dkX6_apartNow_0 21 rfl
theorem dX6_apartNow_38 : decode cX6_apartNow 38 = .ok (.goto 4, 3) := dget dkX6_apartNow_0 22 rfl
theorem dX6_apartNow_41 : decode cX6_apartNow 41 = .ok (.iconst 0, 1) := dget dkX6_apartNow_0 23 rfl
theorem dX6_apartNow_42 : decode cX6_apartNow 42 = .ok (.iadd, 1) := dget dkX6_apartNow_0 24 rfl
theorem dX6_apartNow_43 : decode cX6_apartNow 43 = .ok (.istore_n 3, 1) := dget dkX6_apartNow_0 25 rfl
theorem dX6_apartNow_44 : decode cX6_apartNow 44 = .ok (.iinc 5 1, 3) := dget dkX6_apartNow_0 26 rfl
theorem dX6_apartNow_47 : decode cX6_apartNow 47 = .ok (.goto (-32), 3) := dget dkX6_apartNow_0 27 rfl
theorem dX6_apartNow_50 : decode cX6_apartNow 50 = .ok (.iinc 4 1, 3) := dget dkX6_apartNow_0 28 rfl
theorem dX6_apartNow_53 : decode cX6_apartNow 53 = .ok (.goto (-48), 3) := dget dkX6_apartNow_0 29 rfl
theorem dX6_apartNow_56 : decode cX6_apartNow 56 = .ok (.iload_n 3, 1) := dget dkX6_apartNow_0 30 rfl
theorem dX6_apartNow_57 : decode cX6_apartNow 57 = .ok (.ireturn, 1) := dget dkX6_apartNow_0 31 rfl
theorem dkX6_at_0 : ([(0, (.aload_n 0, 1)), (1, (.getfield 17, 3)), (4, (.iload_n 1, 1)), (5, (.iaload, 1)), (6, (.istore 4, 2)), (8, (.iload 4, 2)), (10, (.iload_n 2, 1)), (11, (.if_icmp .le 49, 3)), (14, (.aload_n 0, 1)), (15, (.getfield 11, 3)), (18, (.iload_n 1, 1)), (19, (.aaload, 1)), (20, (.iload 4, 2)), (22, (.aload_n 0, 1)), (23, (.getfield 11, 3)), (26, (.iload_n 1, 1)), (27, (.aaload, 1)), (28, (.iload 4, 2)), (30, (.iconst 1, 1)), (31, (.isub, 1)), (32, (.iaload, 1)), (33, (.iastore, 1)), (34, (.aload_n 0, 1)), (35, (.getfield 14, 3)), (38, (.iload_n 1, 1)), (39, (.aaload, 1)), (40, (.iload 4, 2)), (42, (.aload_n 0, 1)), (43, (.getfield 14, 3)), (46, (.iload_n 1, 1)), (47, (.aaload, 1)), (48, (.iload 4, 2)), (50, (.iconst 1, 1)), (51, (.isub, 1)), (52, (.iaload, 1)), (53, (.iastore, 1)), (54, (.iinc 4 (-1), 3)), (57, (.goto (-49), 3)), (60, (.aload_n 0, 1)), (61, (.getfield 11, 3))] : List (Nat × (Jvm.ClassFile.Instr × Nat))).all (dcB cX6_at) = true := by decide +kernel
theorem dX6_at_0 : decode cX6_at 0 = .ok (.aload_n 0, 1) := dget dkX6_at_0 0 rfl
theorem dX6_at_1 : decode cX6_at 1 = .ok (.getfield 17, 3) := dget dkX6_at_0 1 rfl
theorem dX6_at_4 : decode cX6_at 4 = .ok (.iload_n 1, 1) := dget dkX6_at_0 2 rfl
theorem dX6_at_5 : decode cX6_at 5 = .ok (.iaload, 1) := dget dkX6_at_0 3 rfl
theorem dX6_at_6 : decode cX6_at 6 = .ok (.istore 4, 2) := dget dkX6_at_0 4 rfl
theorem dX6_at_8 : decode cX6_at 8 = .ok (.iload 4, 2) := dget dkX6_at_0 5 rfl
theorem dX6_at_10 : decode cX6_at 10 = .ok (.iload_n 2, 1) := dget dkX6_at_0 6 rfl
theorem dX6_at_11 : decode cX6_at 11 = .ok (.if_icmp .le 49, 3) := dget dkX6_at_0 7 rfl
theorem dX6_at_14 : decode cX6_at 14 = .ok (.aload_n 0, 1) := dget dkX6_at_0 8 rfl
theorem dX6_at_15 : decode cX6_at 15 = .ok (.getfield 11, 3) := dget dkX6_at_0 9 rfl
theorem dX6_at_18 : decode cX6_at 18 = .ok (.iload_n 1, 1) := dget dkX6_at_0 10 rfl
theorem dX6_at_19 : decode cX6_at 19 = .ok (.aaload, 1) := dget dkX6_at_0 11 rfl
theorem dX6_at_20 : decode cX6_at 20 = .ok (.iload 4, 2) := dget dkX6_at_0 12 rfl
theorem dX6_at_22 : decode cX6_at 22 = .ok (.aload_n 0, 1) := dget dkX6_at_0 13 rfl
theorem dX6_at_23 : decode cX6_at 23 = .ok (.getfield 11, 3) := dget dkX6_at_0 14 rfl
theorem dX6_at_26 : decode cX6_at 26 = .ok (.iload_n 1, 1) := dget dkX6_at_0 15 rfl
theorem dX6_at_27 : decode cX6_at 27 = .ok (.aaload, 1) := dget dkX6_at_0 16 rfl
theorem dX6_at_28 : decode cX6_at 28 = .ok (.iload 4, 2) := dget dkX6_at_0 17 rfl
theorem dX6_at_30 : decode cX6_at 30 = .ok (.iconst 1, 1) := dget dkX6_at_0 18 rfl
theorem dX6_at_31 : decode cX6_at 31 = .ok (.isub, 1) := dget dkX6_at_0 19 rfl
theorem dX6_at_32 : decode cX6_at 32 = .ok (.iaload, 1) := dget dkX6_at_0 20 rfl
theorem dX6_at_33 : decode cX6_at 33 = .ok (.iastore, 1) := dget dkX6_at_0 21 rfl
theorem dX6_at_34 : decode cX6_at 34 = .ok (.aload_n 0, 1) := dget dkX6_at_0 22 rfl
theorem dX6_at_35 : decode cX6_at 35 = .ok (.getfield 14, 3) := dget dkX6_at_0 23 rfl
theorem dX6_at_38 : decode cX6_at 38 = .ok (.iload_n 1, 1) := dget dkX6_at_0 24 rfl
theorem dX6_at_39 : decode cX6_at 39 = .ok (.aaload, 1) := dget dkX6_at_0 25 rfl
theorem dX6_at_40 : decode cX6_at 40 = .ok (.iload 4, 2) := dget dkX6_at_0 26 rfl
theorem dX6_at_42 : decode cX6_at 42 = .ok (.aload_n 0, 1) := dget dkX6_at_0 27 rfl
theorem dX6_at_43 : decode cX6_at 43 = .ok (.getfield 14, 3) := dget dkX6_at_0 28 rfl
theorem dX6_at_46 : decode cX6_at 46 = .ok (.iload_n 1, 1) := dget dkX6_at_0 29 rfl
theorem dX6_at_47 : decode cX6_at 47 = .ok (.aaload, 1) := dget dkX6_at_0 30 rfl
theorem dX6_at_48 : decode cX6_at 48 = .ok (.iload 4, 2) := dget dkX6_at_0 31 rfl
theorem dX6_at_50 : decode cX6_at 50 = .ok (.iconst 1, 1) := dget dkX6_at_0 32 rfl
theorem dX6_at_51 : decode cX6_at 51 = .ok (.isub, 1) := dget dkX6_at_0 33 rfl
theorem dX6_at_52 : decode cX6_at 52 = .ok (.iaload, 1) := dget dkX6_at_0 34 rfl
theorem dX6_at_53 : decode cX6_at 53 = .ok (.iastore, 1) := dget dkX6_at_0 35 rfl
theorem dX6_at_54 : decode cX6_at 54 = .ok (.iinc 4 (-1), 3) := dget dkX6_at_0 36 rfl
theorem dX6_at_57 : decode cX6_at 57 = .ok (.goto (-49), 3) := dget dkX6_at_0 37 rfl
theorem dX6_at_60 : decode cX6_at 60 = .ok (.aload_n 0, 1) := dget dkX6_at_0 38 rfl
theorem dX6_at_61 : decode cX6_at 61 = .ok (.getfield 11, 3) := dget dkX6_at_0 39 rfl
theorem dkX6_at_1 : ([(64, (.iload_n 1, 1)), (65, (.aaload, 1)), (66, (.iload_n 2, 1)), (67, (.iload_n 3, 1)), (68, (.iastore, 1)), (69, (.aload_n 0, 1)), (70, (.getfield 14, 3)), (73, (.iload_n 1, 1)), (74, (.aaload, 1)), (75, (.iload_n 2, 1)), (76, (.aload_n 0, 1)), (77, (.getfield 62, 3)), (80, (.iastore, 1)), (81, (.aload_n 0, 1)), (82, (.getfield 17, 3)), (85, (.iload_n 1, 1)), (86, (.dup2, 1)), (87, (.iaload, 1)), (88, (.iconst 1, 1)), (89, (.iadd, 1)), (90, (.iastore, 1)), (91, (.aload_n 0, 1)), (92, (.dup, 1)), (93, (.getfield 62, 3)), (96, (.iconst 1, 1)), (97, (.iadd, 1)), (98, (.putfield 62, 3)), (101, (.aload_n 0, 1)), (102, (.getfield 62, 3)), (105, (.iconst 1, 1)), (106, (.isub, 1)), (107, (.ireturn, 1))] : List (Nat × (Jvm.ClassFile.Instr × Nat))).all (dcB cX6_at) = true := by decide +kernel
theorem dX6_at_64 : decode cX6_at 64 = .ok (.iload_n 1, 1) := dget dkX6_at_1 0 rfl
theorem dX6_at_65 : decode cX6_at 65 = .ok (.aaload, 1) := dget dkX6_at_1 1 rfl
theorem dX6_at_66 : decode cX6_at 66 = .ok (.iload_n 2, 1) := dget dkX6_at_1 2 rfl
theorem dX6_at_67 : decode cX6_at 67 = .ok (.iload_n 3, 1) := dget dkX6_at_1 3 rfl
theorem dX6_at_68 : decode cX6_at 68 = .ok (.iastore, 1) := dget dkX6_at_1 4 rfl
theorem dX6_at_69 : decode cX6_at 69 = .ok (.aload_n 0, 1) := dget dkX6_at_1 5 rfl
theorem dX6_at_70 : decode cX6_at 70 = .ok (.getfield 14, 3) := dget dkX6_at_1 6 rfl
theorem dX6_at_73 : decode cX6_at 73 = .ok (.iload_n 1, 1) := dget dkX6_at_1 7 rfl
theorem dX6_at_74 : decode cX6_at 74 = .ok (.aaload, 1) := dget dkX6_at_1 8 rfl
theorem dX6_at_75 : decode cX6_at 75 = .ok (.iload_n 2, 1) := dget dkX6_at_1 9 rfl
theorem dX6_at_76 : decode cX6_at 76 = .ok (.aload_n 0, 1) := dget dkX6_at_1 10 rfl
theorem dX6_at_77 : decode cX6_at 77 = .ok (.getfield 62, 3) := dget dkX6_at_1 11 rfl
theorem dX6_at_80 : decode cX6_at 80 = .ok (.iastore, 1) := dget dkX6_at_1 12 rfl
theorem dX6_at_81 : decode cX6_at 81 = .ok (.aload_n 0, 1) := dget dkX6_at_1 13 rfl
theorem dX6_at_82 : decode cX6_at 82 = .ok (.getfield 17, 3) := dget dkX6_at_1 14 rfl
theorem dX6_at_85 : decode cX6_at 85 = .ok (.iload_n 1, 1) := dget dkX6_at_1 15 rfl
theorem dX6_at_86 : decode cX6_at 86 = .ok (.dup2, 1) := dget dkX6_at_1 16 rfl
theorem dX6_at_87 : decode cX6_at 87 = .ok (.iaload, 1) := dget dkX6_at_1 17 rfl
theorem dX6_at_88 : decode cX6_at 88 = .ok (.iconst 1, 1) := dget dkX6_at_1 18 rfl
theorem dX6_at_89 : decode cX6_at 89 = .ok (.iadd, 1) := dget dkX6_at_1 19 rfl
theorem dX6_at_90 : decode cX6_at 90 = .ok (.iastore, 1) := dget dkX6_at_1 20 rfl
theorem dX6_at_91 : decode cX6_at 91 = .ok (.aload_n 0, 1) := dget dkX6_at_1 21 rfl
theorem dX6_at_92 : decode cX6_at 92 = .ok (.dup, 1) := dget dkX6_at_1 22 rfl
theorem dX6_at_93 : decode cX6_at 93 = .ok (.getfield 62, 3) := dget dkX6_at_1 23 rfl
theorem dX6_at_96 : decode cX6_at 96 = .ok (.iconst 1, 1) := dget dkX6_at_1 24 rfl
theorem dX6_at_97 : decode cX6_at 97 = .ok (.iadd, 1) := dget dkX6_at_1 25 rfl
theorem dX6_at_98 : decode cX6_at 98 = .ok (.putfield 62, 3) := dget dkX6_at_1 26 rfl
theorem dX6_at_101 : decode cX6_at 101 = .ok (.aload_n 0, 1) := dget dkX6_at_1 27 rfl
theorem dX6_at_102 : decode cX6_at 102 = .ok (.getfield 62, 3) := dget dkX6_at_1 28 rfl
theorem dX6_at_105 : decode cX6_at 105 = .ok (.iconst 1, 1) := dget dkX6_at_1 29 rfl
theorem dX6_at_106 : decode cX6_at 106 = .ok (.isub, 1) := dget dkX6_at_1 30 rfl
theorem dX6_at_107 : decode cX6_at 107 = .ok (.ireturn, 1) := dget dkX6_at_1 31 rfl
theorem ggX6_put_X6_isNoRow : GoodIn wsX6_put wsX6_isNoRow := tgCall 685 e_X6_isNoRow (by decide +kernel)
theorem gX6_put_X6_isNoRow : GoodIn wsX6_put (va_wsS RX6 65 yX6_isNoRow wsX6_isNoRow) := goodIn_app (tgIn [682, 683, 684] (by decide +kernel) rfl) ggX6_put_X6_isNoRow
theorem ggX6_put_X6_start : GoodIn wsX6_put wsX6_start := tgCall 692 e_X6_start (by decide +kernel)
theorem gX6_put_X6_start : GoodIn wsX6_put (wsV RX6 69 RX6 yX6_start wsX6_start) := goodIn_app (tgIn [689, 690, 691, 684] (by decide +kernel) rfl) ggX6_put_X6_start
theorem ggX6_put_X6_isNoValue : GoodIn wsX6_put wsX6_isNoValue := tgCall 700 e_X6_isNoValue (by decide +kernel)
theorem gX6_put_X6_isNoValue : GoodIn wsX6_put (va_wsS RX6 72 yX6_isNoValue wsX6_isNoValue) := goodIn_app (tgIn [698, 699, 684] (by decide +kernel) rfl) ggX6_put_X6_isNoValue
theorem ggX6_put_X6_refuse : GoodIn wsX6_put wsX6_refuse := tgCall 697 e_X6_refuse (by decide +kernel)
theorem gX6_put_X6_refuse : GoodIn wsX6_put (wsV RX6 36 RX6 yX6_refuse wsX6_refuse) := goodIn_app (tgIn [694, 695, 696, 684] (by decide +kernel) rfl) ggX6_put_X6_refuse
theorem ggX6_put_X6_no : GoodIn wsX6_put wsX6_no := tgCall 704 e_X6_no (by decide +kernel)
theorem gX6_put_X6_no : GoodIn wsX6_put (wsV RX6 75 RX6 yX6_no wsX6_no) := goodIn_app (tgIn [701, 702, 703, 684] (by decide +kernel) rfl) ggX6_put_X6_no
theorem ggX6_put_X6_at : GoodIn wsX6_put wsX6_at := tgCall 709 e_X6_at (by decide +kernel)
theorem gX6_put_X6_at : GoodIn wsX6_put (wsV RX6 79 RX6 yX6_at wsX6_at) := goodIn_app (tgIn [706, 707, 708, 684] (by decide +kernel) rfl) ggX6_put_X6_at
theorem dkX6_put_0 : ([(0, (.aload_n 0, 1)), (1, (.iload_n 1, 1)), (2, (.invokestatic 65, 3)), (5, (.iconst 1, 1)), (6, (.invokevirtual 69, 3)), (9, (.ifCond .ne 15, 3)), (12, (.aload_n 0, 1)), (13, (.iload_n 2, 1)), (14, (.invokestatic 72, 3)), (17, (.iconst 2, 1)), (18, (.invokevirtual 36, 3)), (21, (.ifCond .eq 5, 3)), (24, (.iconst 0, 1)), (25, (.ireturn, 1)), (26, (.aload_n 0, 1)), (27, (.getfield 17, 3)), (30, (.iload_n 1, 1)), (31, (.iaload, 1)), (32, (.bipush 12, 2)), (34, (.if_icmp .ne 10, 3)), (37, (.aload_n 0, 1)), (38, (.invokevirtual 75, 3)), (41, (.goto 15, 3)), (44, (.aload_n 0, 1)), (45, (.iload_n 1, 1)), (46, (.aload_n 0, 1)), (47, (.getfield 17, 3)), (50, (.iload_n 1, 1)), (51, (.iaload, 1)), (52, (.iload_n 2, 1)), (53, (.invokevirtual 79, 3)), (56, (.ireturn, 1))] : List (Nat × (Jvm.ClassFile.Instr × Nat))).all (dcB cX6_put) = true := by decide +kernel
theorem dX6_put_0 : decode cX6_put 0 = .ok (.aload_n 0, 1) := dget dkX6_put_0 0 rfl
theorem dX6_put_1 : decode cX6_put 1 = .ok (.iload_n 1, 1) := dget dkX6_put_0 1 rfl
theorem dX6_put_2 : decode cX6_put 2 = .ok (.invokestatic 65, 3) := dget dkX6_put_0 2 rfl
theorem dX6_put_5 : decode cX6_put 5 = .ok (.iconst 1, 1) := dget dkX6_put_0 3 rfl
theorem dX6_put_6 : decode cX6_put 6 = .ok (.invokevirtual 69, 3) := dget dkX6_put_0 4 rfl
theorem dX6_put_9 : decode cX6_put 9 = .ok (.ifCond .ne 15, 3) := dget dkX6_put_0 5 rfl
theorem dX6_put_12 : decode cX6_put 12 = .ok (.aload_n 0, 1) := dget dkX6_put_0 6 rfl
theorem dX6_put_13 : decode cX6_put 13 = .ok (.iload_n 2, 1) := dget dkX6_put_0 7 rfl
theorem dX6_put_14 : decode cX6_put 14 = .ok (.invokestatic 72, 3) := dget dkX6_put_0 8 rfl
theorem dX6_put_17 : decode cX6_put 17 = .ok (.iconst 2, 1) := dget dkX6_put_0 9 rfl
theorem dX6_put_18 : decode cX6_put 18 = .ok (.invokevirtual 36, 3) := dget dkX6_put_0 10 rfl
theorem dX6_put_21 : decode cX6_put 21 = .ok (.ifCond .eq 5, 3) := dget dkX6_put_0 11 rfl
theorem dX6_put_24 : decode cX6_put 24 = .ok (.iconst 0, 1) := dget dkX6_put_0 12 rfl
theorem dX6_put_25 : decode cX6_put 25 = .ok (.ireturn, 1) := dget dkX6_put_0 13 rfl
theorem dX6_put_26 : decode cX6_put 26 = .ok (.aload_n 0, 1) := dget dkX6_put_0 14 rfl
theorem dX6_put_27 : decode cX6_put 27 = .ok (.getfield 17, 3) := dget dkX6_put_0 15 rfl
theorem dX6_put_30 : decode cX6_put 30 = .ok (.iload_n 1, 1) := dget dkX6_put_0 16 rfl
theorem dX6_put_31 : decode cX6_put 31 = .ok (.iaload, 1) := dget dkX6_put_0 17 rfl
theorem dX6_put_32 : decode cX6_put 32 = .ok (.bipush 12, 2) := dget dkX6_put_0 18 rfl
theorem dX6_put_34 : decode cX6_put 34 = .ok (.if_icmp .ne 10, 3) := dget dkX6_put_0 19 rfl
theorem dX6_put_37 : decode cX6_put 37 = .ok (.aload_n 0, 1) := dget dkX6_put_0 20 rfl
theorem dX6_put_38 : decode cX6_put 38 = .ok (.invokevirtual 75, 3) := dget dkX6_put_0 21 rfl
theorem dX6_put_41 : decode cX6_put 41 = .ok (.goto 15, 3) := dget dkX6_put_0 22 rfl
theorem dX6_put_44 : decode cX6_put 44 = .ok (.aload_n 0, 1) := dget dkX6_put_0 23 rfl
theorem dX6_put_45 : decode cX6_put 45 = .ok (.iload_n 1, 1) := dget dkX6_put_0 24 rfl
theorem dX6_put_46 : decode cX6_put 46 = .ok (.aload_n 0, 1) := dget dkX6_put_0 25 rfl
theorem dX6_put_47 : decode cX6_put 47 = .ok (.getfield 17, 3) := dget dkX6_put_0 26 rfl
theorem dX6_put_50 : decode cX6_put 50 = .ok (.iload_n 1, 1) := dget dkX6_put_0 27 rfl
theorem dX6_put_51 : decode cX6_put 51 = .ok (.iaload, 1) := dget dkX6_put_0 28 rfl
theorem dX6_put_52 : decode cX6_put 52 = .ok (.iload_n 2, 1) := dget dkX6_put_0 29 rfl
theorem dX6_put_53 : decode cX6_put 53 = .ok (.invokevirtual 79, 3) := dget dkX6_put_0 30 rfl
theorem dX6_put_56 : decode cX6_put 56 = .ok (.ireturn, 1) := dget dkX6_put_0 31 rfl
theorem ggX6_putAt_X6_isNoRow : GoodIn wsX6_putAt wsX6_isNoRow := tgCall 685 e_X6_isNoRow (by decide +kernel)
theorem gX6_putAt_X6_isNoRow : GoodIn wsX6_putAt (va_wsS RX6 65 yX6_isNoRow wsX6_isNoRow) := goodIn_app (tgIn [682, 683, 684] (by decide +kernel) rfl) ggX6_putAt_X6_isNoRow
theorem ggX6_putAt_X6_start : GoodIn wsX6_putAt wsX6_start := tgCall 692 e_X6_start (by decide +kernel)
theorem gX6_putAt_X6_start : GoodIn wsX6_putAt (wsV RX6 69 RX6 yX6_start wsX6_start) := goodIn_app (tgIn [689, 690, 691, 684] (by decide +kernel) rfl) ggX6_putAt_X6_start
theorem ggX6_putAt_X6_isNo : GoodIn wsX6_putAt wsX6_isNo := tgCall 688 e_X6_isNo (by decide +kernel)
theorem gX6_putAt_X6_isNo : GoodIn wsX6_putAt (va_wsS RX6 40 yX6_isNo wsX6_isNo) := goodIn_app (tgIn [686, 687, 684] (by decide +kernel) rfl) ggX6_putAt_X6_isNo
theorem ggX6_putAt_X6_refuse : GoodIn wsX6_putAt wsX6_refuse := tgCall 697 e_X6_refuse (by decide +kernel)
theorem gX6_putAt_X6_refuse : GoodIn wsX6_putAt (wsV RX6 36 RX6 yX6_refuse wsX6_refuse) := goodIn_app (tgIn [694, 695, 696, 684] (by decide +kernel) rfl) ggX6_putAt_X6_refuse
theorem ggX6_putAt_X6_isNoValue : GoodIn wsX6_putAt wsX6_isNoValue := tgCall 700 e_X6_isNoValue (by decide +kernel)
theorem gX6_putAt_X6_isNoValue : GoodIn wsX6_putAt (va_wsS RX6 72 yX6_isNoValue wsX6_isNoValue) := goodIn_app (tgIn [698, 699, 684] (by decide +kernel) rfl) ggX6_putAt_X6_isNoValue
theorem ggX6_putAt_X6_no : GoodIn wsX6_putAt wsX6_no := tgCall 704 e_X6_no (by decide +kernel)
theorem gX6_putAt_X6_no : GoodIn wsX6_putAt (wsV RX6 75 RX6 yX6_no wsX6_no) := goodIn_app (tgIn [701, 702, 703, 684] (by decide +kernel) rfl) ggX6_putAt_X6_no
theorem ggX6_putAt_X6_at : GoodIn wsX6_putAt wsX6_at := tgCall 709 e_X6_at (by decide +kernel)
theorem gX6_putAt_X6_at : GoodIn wsX6_putAt (wsV RX6 79 RX6 yX6_at wsX6_at) := goodIn_app (tgIn [706, 707, 708, 684] (by decide +kernel) rfl) ggX6_putAt_X6_at
theorem dkX6_putAt_0 : ([(0, (.aload_n 0, 1)), (1, (.iload_n 1, 1)), (2, (.invokestatic 65, 3)), (5, (.iconst 1, 1)), (6, (.invokevirtual 69, 3)), (9, (.ifCond .ne 33, 3)), (12, (.aload_n 0, 1)), (13, (.iload_n 2, 1)), (14, (.aload_n 0, 1)), (15, (.getfield 17, 3)), (18, (.iload_n 1, 1)), (19, (.iaload, 1)), (20, (.invokestatic 40, 3)), (23, (.iconst 1, 1)), (24, (.invokevirtual 36, 3)), (27, (.ifCond .ne 15, 3)), (30, (.aload_n 0, 1)), (31, (.iload_n 3, 1)), (32, (.invokestatic 72, 3)), (35, (.iconst 2, 1)), (36, (.invokevirtual 36, 3)), (39, (.ifCond .eq 5, 3)), (42, (.iconst 0, 1)), (43, (.ireturn, 1)), (44, (.aload_n 0, 1)), (45, (.getfield 17, 3)), (48, (.iload_n 1, 1)), (49, (.iaload, 1)), (50, (.bipush 12, 2)), (52, (.if_icmp .ne 10, 3)), (55, (.aload_n 0, 1)), (56, (.invokevirtual 75, 3)), (59, (.goto 10, 3)), (62, (.aload_n 0, 1)), (63, (.iload_n 1, 1)), (64, (.iload_n 2, 1)), (65, (.iload_n 3, 1)), (66, (.invokevirtual 79, 3)), (69, (.ireturn, 1))] : List (Nat × (Jvm.ClassFile.Instr × Nat))).all (dcB cX6_putAt) = true := by decide +kernel
theorem dX6_putAt_0 : decode cX6_putAt 0 = .ok (.aload_n 0, 1) := dget dkX6_putAt_0 0 rfl
theorem dX6_putAt_1 : decode cX6_putAt 1 = .ok (.iload_n 1, 1) := dget dkX6_putAt_0 1 rfl
theorem dX6_putAt_2 : decode cX6_putAt 2 = .ok (.invokestatic 65, 3) := dget dkX6_putAt_0 2 rfl
theorem dX6_putAt_5 : decode cX6_putAt 5 = .ok (.iconst 1, 1) := dget dkX6_putAt_0 3 rfl
theorem dX6_putAt_6 : decode cX6_putAt 6 = .ok (.invokevirtual 69, 3) := dget dkX6_putAt_0 4 rfl
theorem dX6_putAt_9 : decode cX6_putAt 9 = .ok (.ifCond .ne 33, 3) := dget dkX6_putAt_0 5 rfl
theorem dX6_putAt_12 : decode cX6_putAt 12 = .ok (.aload_n 0, 1) := dget dkX6_putAt_0 6 rfl
theorem dX6_putAt_13 : decode cX6_putAt 13 = .ok (.iload_n 2, 1) := dget dkX6_putAt_0 7 rfl
theorem dX6_putAt_14 : decode cX6_putAt 14 = .ok (.aload_n 0, 1) := dget dkX6_putAt_0 8 rfl
theorem dX6_putAt_15 : decode cX6_putAt 15 = .ok (.getfield 17, 3) := dget dkX6_putAt_0 9 rfl
theorem dX6_putAt_18 : decode cX6_putAt 18 = .ok (.iload_n 1, 1) := dget dkX6_putAt_0 10 rfl
theorem dX6_putAt_19 : decode cX6_putAt 19 = .ok (.iaload, 1) := dget dkX6_putAt_0 11 rfl
theorem dX6_putAt_20 : decode cX6_putAt 20 = .ok (.invokestatic 40, 3) := dget dkX6_putAt_0 12 rfl
theorem dX6_putAt_23 : decode cX6_putAt 23 = .ok (.iconst 1, 1) := dget dkX6_putAt_0 13 rfl
theorem dX6_putAt_24 : decode cX6_putAt 24 = .ok (.invokevirtual 36, 3) := dget dkX6_putAt_0 14 rfl
theorem dX6_putAt_27 : decode cX6_putAt 27 = .ok (.ifCond .ne 15, 3) := dget dkX6_putAt_0 15 rfl
theorem dX6_putAt_30 : decode cX6_putAt 30 = .ok (.aload_n 0, 1) := dget dkX6_putAt_0 16 rfl
theorem dX6_putAt_31 : decode cX6_putAt 31 = .ok (.iload_n 3, 1) := dget dkX6_putAt_0 17 rfl
theorem dX6_putAt_32 : decode cX6_putAt 32 = .ok (.invokestatic 72, 3) := dget dkX6_putAt_0 18 rfl
theorem dX6_putAt_35 : decode cX6_putAt 35 = .ok (.iconst 2, 1) := dget dkX6_putAt_0 19 rfl
theorem dX6_putAt_36 : decode cX6_putAt 36 = .ok (.invokevirtual 36, 3) := dget dkX6_putAt_0 20 rfl
theorem dX6_putAt_39 : decode cX6_putAt 39 = .ok (.ifCond .eq 5, 3) := dget dkX6_putAt_0 21 rfl
theorem dX6_putAt_42 : decode cX6_putAt 42 = .ok (.iconst 0, 1) := dget dkX6_putAt_0 22 rfl
theorem dX6_putAt_43 : decode cX6_putAt 43 = .ok (.ireturn, 1) := dget dkX6_putAt_0 23 rfl
theorem dX6_putAt_44 : decode cX6_putAt 44 = .ok (.aload_n 0, 1) := dget dkX6_putAt_0 24 rfl
theorem dX6_putAt_45 : decode cX6_putAt 45 = .ok (.getfield 17, 3) := dget dkX6_putAt_0 25 rfl
theorem dX6_putAt_48 : decode cX6_putAt 48 = .ok (.iload_n 1, 1) := dget dkX6_putAt_0 26 rfl
theorem dX6_putAt_49 : decode cX6_putAt 49 = .ok (.iaload, 1) := dget dkX6_putAt_0 27 rfl
theorem dX6_putAt_50 : decode cX6_putAt 50 = .ok (.bipush 12, 2) := dget dkX6_putAt_0 28 rfl
theorem dX6_putAt_52 : decode cX6_putAt 52 = .ok (.if_icmp .ne 10, 3) := dget dkX6_putAt_0 29 rfl
theorem dX6_putAt_55 : decode cX6_putAt 55 = .ok (.aload_n 0, 1) := dget dkX6_putAt_0 30 rfl
theorem dX6_putAt_56 : decode cX6_putAt 56 = .ok (.invokevirtual 75, 3) := dget dkX6_putAt_0 31 rfl
theorem dX6_putAt_59 : decode cX6_putAt 59 = .ok (.goto 10, 3) := dget dkX6_putAt_0 32 rfl
theorem dX6_putAt_62 : decode cX6_putAt 62 = .ok (.aload_n 0, 1) := dget dkX6_putAt_0 33 rfl
theorem dX6_putAt_63 : decode cX6_putAt 63 = .ok (.iload_n 1, 1) := dget dkX6_putAt_0 34 rfl
theorem dX6_putAt_64 : decode cX6_putAt 64 = .ok (.iload_n 2, 1) := dget dkX6_putAt_0 35 rfl
theorem dX6_putAt_65 : decode cX6_putAt 65 = .ok (.iload_n 3, 1) := dget dkX6_putAt_0 36 rfl
theorem dX6_putAt_66 : decode cX6_putAt 66 = .ok (.invokevirtual 79, 3) := dget dkX6_putAt_0 37 rfl
theorem dX6_putAt_69 : decode cX6_putAt 69 = .ok (.ireturn, 1) := dget dkX6_putAt_0 38 rfl
theorem ggX6_fill_X6_isNoRow : GoodIn wsX6_fill wsX6_isNoRow := tgCall 685 e_X6_isNoRow (by decide +kernel)
theorem gX6_fill_X6_isNoRow : GoodIn wsX6_fill (va_wsS RX6 65 yX6_isNoRow wsX6_isNoRow) := goodIn_app (tgIn [682, 683, 684] (by decide +kernel) rfl) ggX6_fill_X6_isNoRow
theorem ggX6_fill_X6_start : GoodIn wsX6_fill wsX6_start := tgCall 692 e_X6_start (by decide +kernel)
theorem gX6_fill_X6_start : GoodIn wsX6_fill (wsV RX6 69 RX6 yX6_start wsX6_start) := goodIn_app (tgIn [689, 690, 691, 684] (by decide +kernel) rfl) ggX6_fill_X6_start
theorem ggX6_fill_X6_isNo : GoodIn wsX6_fill wsX6_isNo := tgCall 688 e_X6_isNo (by decide +kernel)
theorem gX6_fill_X6_isNo : GoodIn wsX6_fill (va_wsS RX6 40 yX6_isNo wsX6_isNo) := goodIn_app (tgIn [686, 687, 684] (by decide +kernel) rfl) ggX6_fill_X6_isNo
theorem ggX6_fill_X6_refuse : GoodIn wsX6_fill wsX6_refuse := tgCall 697 e_X6_refuse (by decide +kernel)
theorem gX6_fill_X6_refuse : GoodIn wsX6_fill (wsV RX6 36 RX6 yX6_refuse wsX6_refuse) := goodIn_app (tgIn [694, 695, 696, 684] (by decide +kernel) rfl) ggX6_fill_X6_refuse
theorem ggX6_fill_X6_no : GoodIn wsX6_fill wsX6_no := tgCall 704 e_X6_no (by decide +kernel)
theorem gX6_fill_X6_no : GoodIn wsX6_fill (wsV RX6 75 RX6 yX6_no wsX6_no) := goodIn_app (tgIn [701, 702, 703, 684] (by decide +kernel) rfl) ggX6_fill_X6_no
theorem ggX6_fill_X6_at : GoodIn wsX6_fill wsX6_at := tgCall 709 e_X6_at (by decide +kernel)
theorem gX6_fill_X6_at : GoodIn wsX6_fill (wsV RX6 79 RX6 yX6_at wsX6_at) := goodIn_app (tgIn [706, 707, 708, 684] (by decide +kernel) rfl) ggX6_fill_X6_at
theorem dkX6_fill_0 : ([(0, (.aload_n 0, 1)), (1, (.iload_n 1, 1)), (2, (.invokestatic 65, 3)), (5, (.iconst 1, 1)), (6, (.invokevirtual 69, 3)), (9, (.ifCond .ne 44, 3)), (12, (.aload_n 0, 1)), (13, (.iload_n 2, 1)), (14, (.bipush 12, 2)), (16, (.invokestatic 40, 3)), (19, (.ifCond .ne 22, 3)), (22, (.iload_n 3, 1)), (23, (.bipush 99, 2)), (25, (.invokestatic 40, 3)), (28, (.ifCond .ne 13, 3)), (31, (.iload 4, 2)), (33, (.bipush 99, 2)), (35, (.invokestatic 40, 3)), (38, (.ifCond .eq 7, 3)), (41, (.iconst 1, 1)), (42, (.goto 4, 3)), (45, (.iconst 0, 1)), (46, (.iconst 2, 1)), (47, (.invokevirtual 36, 3)), (50, (.ifCond .eq 5, 3)), (53, (.iconst 0, 1)), (54, (.ireturn, 1)), (55, (.aload_n 0, 1)), (56, (.getfield 17, 3)), (59, (.iload_n 1, 1)), (60, (.iaload, 1)), (61, (.iload_n 2, 1)), (62, (.iadd, 1)), (63, (.bipush 12, 2)), (65, (.if_icmp .le 8, 3)), (68, (.aload_n 0, 1)), (69, (.invokevirtual 75, 3)), (72, (.ireturn, 1)), (73, (.iconst 0, 1)), (74, (.istore 5, 2))] : List (Nat × (Jvm.ClassFile.Instr × Nat))).all (dcB cX6_fill) = true := by decide +kernel
theorem dX6_fill_0 : decode cX6_fill 0 = .ok (.aload_n 0, 1) := dget dkX6_fill_0 0 rfl
theorem dX6_fill_1 : decode cX6_fill 1 = .ok (.iload_n 1, 1) := dget dkX6_fill_0 1 rfl
theorem dX6_fill_2 : decode cX6_fill 2 = .ok (.invokestatic 65, 3) := dget dkX6_fill_0 2 rfl
theorem dX6_fill_5 : decode cX6_fill 5 = .ok (.iconst 1, 1) := dget dkX6_fill_0 3 rfl
theorem dX6_fill_6 : decode cX6_fill 6 = .ok (.invokevirtual 69, 3) := dget dkX6_fill_0 4 rfl
theorem dX6_fill_9 : decode cX6_fill 9 = .ok (.ifCond .ne 44, 3) := dget dkX6_fill_0 5 rfl
theorem dX6_fill_12 : decode cX6_fill 12 = .ok (.aload_n 0, 1) := dget dkX6_fill_0 6 rfl
theorem dX6_fill_13 : decode cX6_fill 13 = .ok (.iload_n 2, 1) := dget dkX6_fill_0 7 rfl
theorem dX6_fill_14 : decode cX6_fill 14 = .ok (.bipush 12, 2) := dget dkX6_fill_0 8 rfl
theorem dX6_fill_16 : decode cX6_fill 16 = .ok (.invokestatic 40, 3) := dget dkX6_fill_0 9 rfl
theorem dX6_fill_19 : decode cX6_fill 19 = .ok (.ifCond .ne 22, 3) := dget dkX6_fill_0 10 rfl
theorem dX6_fill_22 : decode cX6_fill 22 = .ok (.iload_n 3, 1) := dget dkX6_fill_0 11 rfl
theorem dX6_fill_23 : decode cX6_fill 23 = .ok (.bipush 99, 2) := dget dkX6_fill_0 12 rfl
theorem dX6_fill_25 : decode cX6_fill 25 = .ok (.invokestatic 40, 3) := dget dkX6_fill_0 13 rfl
theorem dX6_fill_28 : decode cX6_fill 28 = .ok (.ifCond .ne 13, 3) := dget dkX6_fill_0 14 rfl
theorem dX6_fill_31 : decode cX6_fill 31 = .ok (.iload 4, 2) := dget dkX6_fill_0 15 rfl
theorem dX6_fill_33 : decode cX6_fill 33 = .ok (.bipush 99, 2) := dget dkX6_fill_0 16 rfl
theorem dX6_fill_35 : decode cX6_fill 35 = .ok (.invokestatic 40, 3) := dget dkX6_fill_0 17 rfl
theorem dX6_fill_38 : decode cX6_fill 38 = .ok (.ifCond .eq 7, 3) := dget dkX6_fill_0 18 rfl
theorem dX6_fill_41 : decode cX6_fill 41 = .ok (.iconst 1, 1) := dget dkX6_fill_0 19 rfl
theorem dX6_fill_42 : decode cX6_fill 42 = .ok (.goto 4, 3) := dget dkX6_fill_0 20 rfl
theorem dX6_fill_45 : decode cX6_fill 45 = .ok (.iconst 0, 1) := dget dkX6_fill_0 21 rfl
theorem dX6_fill_46 : decode cX6_fill 46 = .ok (.iconst 2, 1) := dget dkX6_fill_0 22 rfl
theorem dX6_fill_47 : decode cX6_fill 47 = .ok (.invokevirtual 36, 3) := dget dkX6_fill_0 23 rfl
theorem dX6_fill_50 : decode cX6_fill 50 = .ok (.ifCond .eq 5, 3) := dget dkX6_fill_0 24 rfl
theorem dX6_fill_53 : decode cX6_fill 53 = .ok (.iconst 0, 1) := dget dkX6_fill_0 25 rfl
theorem dX6_fill_54 : decode cX6_fill 54 = .ok (.ireturn, 1) := dget dkX6_fill_0 26 rfl
theorem dX6_fill_55 : decode cX6_fill 55 = .ok (.aload_n 0, 1) := dget dkX6_fill_0 27 rfl
theorem dX6_fill_56 : decode cX6_fill 56 = .ok (.getfield 17, 3) := dget dkX6_fill_0 28 rfl
theorem dX6_fill_59 : decode cX6_fill 59 = .ok (.iload_n 1, 1) := dget dkX6_fill_0 29 rfl
theorem dX6_fill_60 : decode cX6_fill 60 = .ok (.iaload, 1) := dget dkX6_fill_0 30 rfl
theorem dX6_fill_61 : decode cX6_fill 61 = .ok (.iload_n 2, 1) := dget dkX6_fill_0 31 rfl
theorem dX6_fill_62 : decode cX6_fill 62 = .ok (.iadd, 1) := dget dkX6_fill_0 32 rfl
theorem dX6_fill_63 : decode cX6_fill 63 = .ok (.bipush 12, 2) := dget dkX6_fill_0 33 rfl
theorem dX6_fill_65 : decode cX6_fill 65 = .ok (.if_icmp .le 8, 3) := dget dkX6_fill_0 34 rfl
theorem dX6_fill_68 : decode cX6_fill 68 = .ok (.aload_n 0, 1) := dget dkX6_fill_0 35 rfl
theorem dX6_fill_69 : decode cX6_fill 69 = .ok (.invokevirtual 75, 3) := dget dkX6_fill_0 36 rfl
theorem dX6_fill_72 : decode cX6_fill 72 = .ok (.ireturn, 1) := dget dkX6_fill_0 37 rfl
theorem dX6_fill_73 : decode cX6_fill 73 = .ok (.iconst 0, 1) := dget dkX6_fill_0 38 rfl
theorem dX6_fill_74 : decode cX6_fill 74 = .ok (.istore 5, 2) := dget dkX6_fill_0 39 rfl
theorem dkX6_fill_1 : ([(76, (.iload 5, 2)), (78, (.iload_n 2, 1)), (79, (.if_icmp .ge 31, 3)), (82, (.aload_n 0, 1)), (83, (.iload_n 1, 1)), (84, (.aload_n 0, 1)), (85, (.getfield 17, 3)), (88, (.iload_n 1, 1)), (89, (.iaload, 1)), (90, (.iload_n 3, 1)), (91, (.iload 5, 2)), (93, (.iload 4, 2)), (95, (.imul, 1)), (96, (.iadd, 1)), (97, (.bipush 16, 2)), (99, (.irem, 1)), (100, (.invokevirtual 79, 3)), (103, (.pop, 1)), (104, (.iinc 5 1, 3)), (107, (.goto (-31), 3)), (110, (.aload_n 0, 1)), (111, (.getfield 17, 3)), (114, (.iload_n 1, 1)), (115, (.iaload, 1)), (116, (.ireturn, 1))] : List (Nat × (Jvm.ClassFile.Instr × Nat))).all (dcB cX6_fill) = true := by decide +kernel
theorem dX6_fill_76 : decode cX6_fill 76 = .ok (.iload 5, 2) := dget dkX6_fill_1 0 rfl
theorem dX6_fill_78 : decode cX6_fill 78 = .ok (.iload_n 2, 1) := dget dkX6_fill_1 1 rfl
theorem dX6_fill_79 : decode cX6_fill 79 = .ok (.if_icmp .ge 31, 3) := dget dkX6_fill_1 2 rfl
theorem dX6_fill_82 : decode cX6_fill 82 = .ok (.aload_n 0, 1) := dget dkX6_fill_1 3 rfl
theorem dX6_fill_83 : decode cX6_fill 83 = .ok (.iload_n 1, 1) := dget dkX6_fill_1 4 rfl
theorem dX6_fill_84 : decode cX6_fill 84 = .ok (.aload_n 0, 1) := dget dkX6_fill_1 5 rfl
theorem dX6_fill_85 : decode cX6_fill 85 = .ok (.getfield 17, 3) := dget dkX6_fill_1 6 rfl
theorem dX6_fill_88 : decode cX6_fill 88 = .ok (.iload_n 1, 1) := dget dkX6_fill_1 7 rfl
theorem dX6_fill_89 : decode cX6_fill 89 = .ok (.iaload, 1) := dget dkX6_fill_1 8 rfl
theorem dX6_fill_90 : decode cX6_fill 90 = .ok (.iload_n 3, 1) := dget dkX6_fill_1 9 rfl
theorem dX6_fill_91 : decode cX6_fill 91 = .ok (.iload 5, 2) := dget dkX6_fill_1 10 rfl
theorem dX6_fill_93 : decode cX6_fill 93 = .ok (.iload 4, 2) := dget dkX6_fill_1 11 rfl
theorem dX6_fill_95 : decode cX6_fill 95 = .ok (.imul, 1) := dget dkX6_fill_1 12 rfl
theorem dX6_fill_96 : decode cX6_fill 96 = .ok (.iadd, 1) := dget dkX6_fill_1 13 rfl
theorem dX6_fill_97 : decode cX6_fill 97 = .ok (.bipush 16, 2) := dget dkX6_fill_1 14 rfl
theorem dX6_fill_99 : decode cX6_fill 99 = .ok (.irem, 1) := dget dkX6_fill_1 15 rfl
theorem dX6_fill_100 : decode cX6_fill 100 = .ok (.invokevirtual 79, 3) := dget dkX6_fill_1 16 rfl
theorem dX6_fill_103 : decode cX6_fill 103 = .ok (.pop, 1) := dget dkX6_fill_1 17 rfl
theorem dX6_fill_104 : decode cX6_fill 104 = .ok (.iinc 5 1, 3) := dget dkX6_fill_1 18 rfl
theorem dX6_fill_107 : decode cX6_fill 107 = .ok (.goto (-31), 3) := dget dkX6_fill_1 19 rfl
theorem dX6_fill_110 : decode cX6_fill 110 = .ok (.aload_n 0, 1) := dget dkX6_fill_1 20 rfl
theorem dX6_fill_111 : decode cX6_fill 111 = .ok (.getfield 17, 3) := dget dkX6_fill_1 21 rfl
theorem dX6_fill_114 : decode cX6_fill 114 = .ok (.iload_n 1, 1) := dget dkX6_fill_1 22 rfl
theorem dX6_fill_115 : decode cX6_fill 115 = .ok (.iaload, 1) := dget dkX6_fill_1 23 rfl
theorem dX6_fill_116 : decode cX6_fill 116 = .ok (.ireturn, 1) := dget dkX6_fill_1 24 rfl
theorem ggX6_drop_X6_isNoRow : GoodIn wsX6_drop wsX6_isNoRow := tgCall 685 e_X6_isNoRow (by decide +kernel)
theorem gX6_drop_X6_isNoRow : GoodIn wsX6_drop (va_wsS RX6 65 yX6_isNoRow wsX6_isNoRow) := goodIn_app (tgIn [682, 683, 684] (by decide +kernel) rfl) ggX6_drop_X6_isNoRow
theorem ggX6_drop_X6_start : GoodIn wsX6_drop wsX6_start := tgCall 692 e_X6_start (by decide +kernel)
theorem gX6_drop_X6_start : GoodIn wsX6_drop (wsV RX6 69 RX6 yX6_start wsX6_start) := goodIn_app (tgIn [689, 690, 691, 684] (by decide +kernel) rfl) ggX6_drop_X6_start
theorem ggX6_drop_X6_isNo : GoodIn wsX6_drop wsX6_isNo := tgCall 688 e_X6_isNo (by decide +kernel)
theorem gX6_drop_X6_isNo : GoodIn wsX6_drop (va_wsS RX6 40 yX6_isNo wsX6_isNo) := goodIn_app (tgIn [686, 687, 684] (by decide +kernel) rfl) ggX6_drop_X6_isNo
theorem ggX6_drop_X6_refuse : GoodIn wsX6_drop wsX6_refuse := tgCall 697 e_X6_refuse (by decide +kernel)
theorem gX6_drop_X6_refuse : GoodIn wsX6_drop (wsV RX6 36 RX6 yX6_refuse wsX6_refuse) := goodIn_app (tgIn [694, 695, 696, 684] (by decide +kernel) rfl) ggX6_drop_X6_refuse
theorem dkX6_drop_0 : ([(0, (.aload_n 0, 1)), (1, (.iload_n 1, 1)), (2, (.invokestatic 65, 3)), (5, (.iconst 1, 1)), (6, (.invokevirtual 69, 3)), (9, (.ifCond .ne 23, 3)), (12, (.aload_n 0, 1)), (13, (.iload_n 2, 1)), (14, (.aload_n 0, 1)), (15, (.getfield 17, 3)), (18, (.iload_n 1, 1)), (19, (.iaload, 1)), (20, (.iconst 1, 1)), (21, (.isub, 1)), (22, (.invokestatic 40, 3)), (25, (.iconst 1, 1)), (26, (.invokevirtual 36, 3)), (29, (.ifCond .eq 5, 3)), (32, (.iconst 0, 1)), (33, (.ireturn, 1)), (34, (.aload_n 0, 1)), (35, (.getfield 14, 3)), (38, (.iload_n 1, 1)), (39, (.aaload, 1)), (40, (.iload_n 2, 1)), (41, (.iaload, 1)), (42, (.istore_n 3, 1)), (43, (.iload_n 2, 1)), (44, (.istore 4, 2)), (46, (.iload 4, 2)), (48, (.iconst 1, 1)), (49, (.iadd, 1)), (50, (.aload_n 0, 1)), (51, (.getfield 17, 3)), (54, (.iload_n 1, 1)), (55, (.iaload, 1)), (56, (.if_icmp .ge 49, 3)), (59, (.aload_n 0, 1)), (60, (.getfield 11, 3)), (63, (.iload_n 1, 1))] : List (Nat × (Jvm.ClassFile.Instr × Nat))).all (dcB cX6_drop) = true := by decide +kernel
theorem dX6_drop_0 : decode cX6_drop 0 = .ok (.aload_n 0, 1) := dget dkX6_drop_0 0 rfl
theorem dX6_drop_1 : decode cX6_drop 1 = .ok (.iload_n 1, 1) := dget dkX6_drop_0 1 rfl
theorem dX6_drop_2 : decode cX6_drop 2 = .ok (.invokestatic 65, 3) := dget dkX6_drop_0 2 rfl
theorem dX6_drop_5 : decode cX6_drop 5 = .ok (.iconst 1, 1) := dget dkX6_drop_0 3 rfl
theorem dX6_drop_6 : decode cX6_drop 6 = .ok (.invokevirtual 69, 3) := dget dkX6_drop_0 4 rfl
theorem dX6_drop_9 : decode cX6_drop 9 = .ok (.ifCond .ne 23, 3) := dget dkX6_drop_0 5 rfl
theorem dX6_drop_12 : decode cX6_drop 12 = .ok (.aload_n 0, 1) := dget dkX6_drop_0 6 rfl
theorem dX6_drop_13 : decode cX6_drop 13 = .ok (.iload_n 2, 1) := dget dkX6_drop_0 7 rfl
theorem dX6_drop_14 : decode cX6_drop 14 = .ok (.aload_n 0, 1) := dget dkX6_drop_0 8 rfl
theorem dX6_drop_15 : decode cX6_drop 15 = .ok (.getfield 17, 3) := dget dkX6_drop_0 9 rfl
theorem dX6_drop_18 : decode cX6_drop 18 = .ok (.iload_n 1, 1) := dget dkX6_drop_0 10 rfl
theorem dX6_drop_19 : decode cX6_drop 19 = .ok (.iaload, 1) := dget dkX6_drop_0 11 rfl
theorem dX6_drop_20 : decode cX6_drop 20 = .ok (.iconst 1, 1) := dget dkX6_drop_0 12 rfl
theorem dX6_drop_21 : decode cX6_drop 21 = .ok (.isub, 1) := dget dkX6_drop_0 13 rfl
theorem dX6_drop_22 : decode cX6_drop 22 = .ok (.invokestatic 40, 3) := dget dkX6_drop_0 14 rfl
theorem dX6_drop_25 : decode cX6_drop 25 = .ok (.iconst 1, 1) := dget dkX6_drop_0 15 rfl
theorem dX6_drop_26 : decode cX6_drop 26 = .ok (.invokevirtual 36, 3) := dget dkX6_drop_0 16 rfl
theorem dX6_drop_29 : decode cX6_drop 29 = .ok (.ifCond .eq 5, 3) := dget dkX6_drop_0 17 rfl
theorem dX6_drop_32 : decode cX6_drop 32 = .ok (.iconst 0, 1) := dget dkX6_drop_0 18 rfl
theorem dX6_drop_33 : decode cX6_drop 33 = .ok (.ireturn, 1) := dget dkX6_drop_0 19 rfl
theorem dX6_drop_34 : decode cX6_drop 34 = .ok (.aload_n 0, 1) := dget dkX6_drop_0 20 rfl
theorem dX6_drop_35 : decode cX6_drop 35 = .ok (.getfield 14, 3) := dget dkX6_drop_0 21 rfl
theorem dX6_drop_38 : decode cX6_drop 38 = .ok (.iload_n 1, 1) := dget dkX6_drop_0 22 rfl
theorem dX6_drop_39 : decode cX6_drop 39 = .ok (.aaload, 1) := dget dkX6_drop_0 23 rfl
theorem dX6_drop_40 : decode cX6_drop 40 = .ok (.iload_n 2, 1) := dget dkX6_drop_0 24 rfl
theorem dX6_drop_41 : decode cX6_drop 41 = .ok (.iaload, 1) := dget dkX6_drop_0 25 rfl
theorem dX6_drop_42 : decode cX6_drop 42 = .ok (.istore_n 3, 1) := dget dkX6_drop_0 26 rfl
theorem dX6_drop_43 : decode cX6_drop 43 = .ok (.iload_n 2, 1) := dget dkX6_drop_0 27 rfl
theorem dX6_drop_44 : decode cX6_drop 44 = .ok (.istore 4, 2) := dget dkX6_drop_0 28 rfl
theorem dX6_drop_46 : decode cX6_drop 46 = .ok (.iload 4, 2) := dget dkX6_drop_0 29 rfl
theorem dX6_drop_48 : decode cX6_drop 48 = .ok (.iconst 1, 1) := dget dkX6_drop_0 30 rfl
theorem dX6_drop_49 : decode cX6_drop 49 = .ok (.iadd, 1) := dget dkX6_drop_0 31 rfl
theorem dX6_drop_50 : decode cX6_drop 50 = .ok (.aload_n 0, 1) := dget dkX6_drop_0 32 rfl
theorem dX6_drop_51 : decode cX6_drop 51 = .ok (.getfield 17, 3) := dget dkX6_drop_0 33 rfl
theorem dX6_drop_54 : decode cX6_drop 54 = .ok (.iload_n 1, 1) := dget dkX6_drop_0 34 rfl
theorem dX6_drop_55 : decode cX6_drop 55 = .ok (.iaload, 1) := dget dkX6_drop_0 35 rfl
theorem dX6_drop_56 : decode cX6_drop 56 = .ok (.if_icmp .ge 49, 3) := dget dkX6_drop_0 36 rfl
theorem dX6_drop_59 : decode cX6_drop 59 = .ok (.aload_n 0, 1) := dget dkX6_drop_0 37 rfl
theorem dX6_drop_60 : decode cX6_drop 60 = .ok (.getfield 11, 3) := dget dkX6_drop_0 38 rfl
theorem dX6_drop_63 : decode cX6_drop 63 = .ok (.iload_n 1, 1) := dget dkX6_drop_0 39 rfl
theorem dkX6_drop_1 : ([(64, (.aaload, 1)), (65, (.iload 4, 2)), (67, (.aload_n 0, 1)), (68, (.getfield 11, 3)), (71, (.iload_n 1, 1)), (72, (.aaload, 1)), (73, (.iload 4, 2)), (75, (.iconst 1, 1)), (76, (.iadd, 1)), (77, (.iaload, 1)), (78, (.iastore, 1)), (79, (.aload_n 0, 1)), (80, (.getfield 14, 3)), (83, (.iload_n 1, 1)), (84, (.aaload, 1)), (85, (.iload 4, 2)), (87, (.aload_n 0, 1)), (88, (.getfield 14, 3)), (91, (.iload_n 1, 1)), (92, (.aaload, 1)), (93, (.iload 4, 2)), (95, (.iconst 1, 1)), (96, (.iadd, 1)), (97, (.iaload, 1)), (98, (.iastore, 1)), (99, (.iinc 4 1, 3)), (102, (.goto (-56), 3)), (105, (.aload_n 0, 1)), (106, (.getfield 17, 3)), (109, (.iload_n 1, 1)), (110, (.dup2, 1)), (111, (.iaload, 1)), (112, (.iconst 1, 1)), (113, (.isub, 1)), (114, (.iastore, 1)), (115, (.iload_n 3, 1)), (116, (.ireturn, 1))] : List (Nat × (Jvm.ClassFile.Instr × Nat))).all (dcB cX6_drop) = true := by decide +kernel
theorem dX6_drop_64 : decode cX6_drop 64 = .ok (.aaload, 1) := dget dkX6_drop_1 0 rfl
theorem dX6_drop_65 : decode cX6_drop 65 = .ok (.iload 4, 2) := dget dkX6_drop_1 1 rfl
theorem dX6_drop_67 : decode cX6_drop 67 = .ok (.aload_n 0, 1) := dget dkX6_drop_1 2 rfl
theorem dX6_drop_68 : decode cX6_drop 68 = .ok (.getfield 11, 3) := dget dkX6_drop_1 3 rfl
theorem dX6_drop_71 : decode cX6_drop 71 = .ok (.iload_n 1, 1) := dget dkX6_drop_1 4 rfl
theorem dX6_drop_72 : decode cX6_drop 72 = .ok (.aaload, 1) := dget dkX6_drop_1 5 rfl
theorem dX6_drop_73 : decode cX6_drop 73 = .ok (.iload 4, 2) := dget dkX6_drop_1 6 rfl
theorem dX6_drop_75 : decode cX6_drop 75 = .ok (.iconst 1, 1) := dget dkX6_drop_1 7 rfl
theorem dX6_drop_76 : decode cX6_drop 76 = .ok (.iadd, 1) := dget dkX6_drop_1 8 rfl
theorem dX6_drop_77 : decode cX6_drop 77 = .ok (.iaload, 1) := dget dkX6_drop_1 9 rfl
theorem dX6_drop_78 : decode cX6_drop 78 = .ok (.iastore, 1) := dget dkX6_drop_1 10 rfl
theorem dX6_drop_79 : decode cX6_drop 79 = .ok (.aload_n 0, 1) := dget dkX6_drop_1 11 rfl
theorem dX6_drop_80 : decode cX6_drop 80 = .ok (.getfield 14, 3) := dget dkX6_drop_1 12 rfl
theorem dX6_drop_83 : decode cX6_drop 83 = .ok (.iload_n 1, 1) := dget dkX6_drop_1 13 rfl
theorem dX6_drop_84 : decode cX6_drop 84 = .ok (.aaload, 1) := dget dkX6_drop_1 14 rfl
theorem dX6_drop_85 : decode cX6_drop 85 = .ok (.iload 4, 2) := dget dkX6_drop_1 15 rfl
theorem dX6_drop_87 : decode cX6_drop 87 = .ok (.aload_n 0, 1) := dget dkX6_drop_1 16 rfl
theorem dX6_drop_88 : decode cX6_drop 88 = .ok (.getfield 14, 3) := dget dkX6_drop_1 17 rfl
theorem dX6_drop_91 : decode cX6_drop 91 = .ok (.iload_n 1, 1) := dget dkX6_drop_1 18 rfl
theorem dX6_drop_92 : decode cX6_drop 92 = .ok (.aaload, 1) := dget dkX6_drop_1 19 rfl
theorem dX6_drop_93 : decode cX6_drop 93 = .ok (.iload 4, 2) := dget dkX6_drop_1 20 rfl
theorem dX6_drop_95 : decode cX6_drop 95 = .ok (.iconst 1, 1) := dget dkX6_drop_1 21 rfl
theorem dX6_drop_96 : decode cX6_drop 96 = .ok (.iadd, 1) := dget dkX6_drop_1 22 rfl
theorem dX6_drop_97 : decode cX6_drop 97 = .ok (.iaload, 1) := dget dkX6_drop_1 23 rfl
theorem dX6_drop_98 : decode cX6_drop 98 = .ok (.iastore, 1) := dget dkX6_drop_1 24 rfl
theorem dX6_drop_99 : decode cX6_drop 99 = .ok (.iinc 4 1, 3) := dget dkX6_drop_1 25 rfl
theorem dX6_drop_102 : decode cX6_drop 102 = .ok (.goto (-56), 3) := dget dkX6_drop_1 26 rfl
theorem dX6_drop_105 : decode cX6_drop 105 = .ok (.aload_n 0, 1) := dget dkX6_drop_1 27 rfl
theorem dX6_drop_106 : decode cX6_drop 106 = .ok (.getfield 17, 3) := dget dkX6_drop_1 28 rfl
theorem dX6_drop_109 : decode cX6_drop 109 = .ok (.iload_n 1, 1) := dget dkX6_drop_1 29 rfl
theorem dX6_drop_110 : decode cX6_drop 110 = .ok (.dup2, 1) := dget dkX6_drop_1 30 rfl
theorem dX6_drop_111 : decode cX6_drop 111 = .ok (.iaload, 1) := dget dkX6_drop_1 31 rfl
theorem dX6_drop_112 : decode cX6_drop 112 = .ok (.iconst 1, 1) := dget dkX6_drop_1 32 rfl
theorem dX6_drop_113 : decode cX6_drop 113 = .ok (.isub, 1) := dget dkX6_drop_1 33 rfl
theorem dX6_drop_114 : decode cX6_drop 114 = .ok (.iastore, 1) := dget dkX6_drop_1 34 rfl
theorem dX6_drop_115 : decode cX6_drop 115 = .ok (.iload_n 3, 1) := dget dkX6_drop_1 35 rfl
theorem dX6_drop_116 : decode cX6_drop 116 = .ok (.ireturn, 1) := dget dkX6_drop_1 36 rfl
theorem ggX6_clear_X6_isNoRow : GoodIn wsX6_clear wsX6_isNoRow := tgCall 685 e_X6_isNoRow (by decide +kernel)
theorem gX6_clear_X6_isNoRow : GoodIn wsX6_clear (va_wsS RX6 65 yX6_isNoRow wsX6_isNoRow) := goodIn_app (tgIn [682, 683, 684] (by decide +kernel) rfl) ggX6_clear_X6_isNoRow
theorem ggX6_clear_X6_start : GoodIn wsX6_clear wsX6_start := tgCall 692 e_X6_start (by decide +kernel)
theorem gX6_clear_X6_start : GoodIn wsX6_clear (wsV RX6 69 RX6 yX6_start wsX6_start) := goodIn_app (tgIn [689, 690, 691, 684] (by decide +kernel) rfl) ggX6_clear_X6_start
theorem dkX6_clear_0 : ([(0, (.aload_n 0, 1)), (1, (.iload_n 1, 1)), (2, (.invokestatic 65, 3)), (5, (.iconst 1, 1)), (6, (.invokevirtual 69, 3)), (9, (.ifCond .eq 5, 3)), (12, (.iconst 0, 1)), (13, (.ireturn, 1)), (14, (.aload_n 0, 1)), (15, (.getfield 17, 3)), (18, (.iload_n 1, 1)), (19, (.iaload, 1)), (20, (.istore_n 2, 1)), (21, (.aload_n 0, 1)), (22, (.getfield 17, 3)), (25, (.iload_n 1, 1)), (26, (.iconst 0, 1)), (27, (.iastore, 1)), (28, (.iload_n 2, 1)), (29, (.ireturn, 1))] : List (Nat × (Jvm.ClassFile.Instr × Nat))).all (dcB cX6_clear) = true := by decide +kernel
theorem dX6_clear_0 : decode cX6_clear 0 = .ok (.aload_n 0, 1) := dget dkX6_clear_0 0 rfl
theorem dX6_clear_1 : decode cX6_clear 1 = .ok (.iload_n 1, 1) := dget dkX6_clear_0 1 rfl
theorem dX6_clear_2 : decode cX6_clear 2 = .ok (.invokestatic 65, 3) := dget dkX6_clear_0 2 rfl
theorem dX6_clear_5 : decode cX6_clear 5 = .ok (.iconst 1, 1) := dget dkX6_clear_0 3 rfl
theorem dX6_clear_6 : decode cX6_clear 6 = .ok (.invokevirtual 69, 3) := dget dkX6_clear_0 4 rfl
theorem dX6_clear_9 : decode cX6_clear 9 = .ok (.ifCond .eq 5, 3) := dget dkX6_clear_0 5 rfl
theorem dX6_clear_12 : decode cX6_clear 12 = .ok (.iconst 0, 1) := dget dkX6_clear_0 6 rfl
theorem dX6_clear_13 : decode cX6_clear 13 = .ok (.ireturn, 1) := dget dkX6_clear_0 7 rfl
theorem dX6_clear_14 : decode cX6_clear 14 = .ok (.aload_n 0, 1) := dget dkX6_clear_0 8 rfl
theorem dX6_clear_15 : decode cX6_clear 15 = .ok (.getfield 17, 3) := dget dkX6_clear_0 9 rfl
theorem dX6_clear_18 : decode cX6_clear 18 = .ok (.iload_n 1, 1) := dget dkX6_clear_0 10 rfl
theorem dX6_clear_19 : decode cX6_clear 19 = .ok (.iaload, 1) := dget dkX6_clear_0 11 rfl
theorem dX6_clear_20 : decode cX6_clear 20 = .ok (.istore_n 2, 1) := dget dkX6_clear_0 12 rfl
theorem dX6_clear_21 : decode cX6_clear 21 = .ok (.aload_n 0, 1) := dget dkX6_clear_0 13 rfl
theorem dX6_clear_22 : decode cX6_clear 22 = .ok (.getfield 17, 3) := dget dkX6_clear_0 14 rfl
theorem dX6_clear_25 : decode cX6_clear 25 = .ok (.iload_n 1, 1) := dget dkX6_clear_0 15 rfl
theorem dX6_clear_26 : decode cX6_clear 26 = .ok (.iconst 0, 1) := dget dkX6_clear_0 16 rfl
theorem dX6_clear_27 : decode cX6_clear 27 = .ok (.iastore, 1) := dget dkX6_clear_0 17 rfl
theorem dX6_clear_28 : decode cX6_clear 28 = .ok (.iload_n 2, 1) := dget dkX6_clear_0 18 rfl
theorem dX6_clear_29 : decode cX6_clear 29 = .ok (.ireturn, 1) := dget dkX6_clear_0 19 rfl
theorem ggX6_copyRow_X6_isNoRow : GoodIn wsX6_copyRow wsX6_isNoRow := tgCall 685 e_X6_isNoRow (by decide +kernel)
theorem gX6_copyRow_X6_isNoRow : GoodIn wsX6_copyRow (va_wsS RX6 65 yX6_isNoRow wsX6_isNoRow) := goodIn_app (tgIn [682, 683, 684] (by decide +kernel) rfl) ggX6_copyRow_X6_isNoRow
theorem ggX6_copyRow_X6_start : GoodIn wsX6_copyRow wsX6_start := tgCall 692 e_X6_start (by decide +kernel)
theorem gX6_copyRow_X6_start : GoodIn wsX6_copyRow (wsV RX6 69 RX6 yX6_start wsX6_start) := goodIn_app (tgIn [689, 690, 691, 684] (by decide +kernel) rfl) ggX6_copyRow_X6_start
theorem dkX6_copyRow_0 : ([(0, (.aload_n 0, 1)), (1, (.iload_n 1, 1)), (2, (.invokestatic 65, 3)), (5, (.ifCond .ne 10, 3)), (8, (.iload_n 2, 1)), (9, (.invokestatic 65, 3)), (12, (.ifCond .eq 7, 3)), (15, (.iconst 1, 1)), (16, (.goto 4, 3)), (19, (.iconst 0, 1)), (20, (.iconst 1, 1)), (21, (.invokevirtual 69, 3)), (24, (.ifCond .eq 5, 3)), (27, (.iconst 0, 1)), (28, (.ireturn, 1)), (29, (.iconst 0, 1)), (30, (.istore_n 3, 1)), (31, (.iload_n 3, 1)), (32, (.aload_n 0, 1)), (33, (.getfield 17, 3)), (36, (.iload_n 1, 1)), (37, (.iaload, 1)), (38, (.if_icmp .ge 41, 3)), (41, (.aload_n 0, 1)), (42, (.getfield 11, 3)), (45, (.iload_n 2, 1)), (46, (.aaload, 1)), (47, (.iload_n 3, 1)), (48, (.aload_n 0, 1)), (49, (.getfield 11, 3)), (52, (.iload_n 1, 1)), (53, (.aaload, 1)), (54, (.iload_n 3, 1)), (55, (.iaload, 1)), (56, (.iastore, 1)), (57, (.aload_n 0, 1)), (58, (.getfield 14, 3)), (61, (.iload_n 2, 1)), (62, (.aaload, 1)), (63, (.iload_n 3, 1))] : List (Nat × (Jvm.ClassFile.Instr × Nat))).all (dcB cX6_copyRow) = true := by decide +kernel
theorem dX6_copyRow_0 : decode cX6_copyRow 0 = .ok (.aload_n 0, 1) := dget dkX6_copyRow_0 0 rfl
theorem dX6_copyRow_1 : decode cX6_copyRow 1 = .ok (.iload_n 1, 1) := dget dkX6_copyRow_0 1 rfl
theorem dX6_copyRow_2 : decode cX6_copyRow 2 = .ok (.invokestatic 65, 3) := dget dkX6_copyRow_0 2 rfl
theorem dX6_copyRow_5 : decode cX6_copyRow 5 = .ok (.ifCond .ne 10, 3) := dget dkX6_copyRow_0 3 rfl
theorem dX6_copyRow_8 : decode cX6_copyRow 8 = .ok (.iload_n 2, 1) := dget dkX6_copyRow_0 4 rfl
theorem dX6_copyRow_9 : decode cX6_copyRow 9 = .ok (.invokestatic 65, 3) := dget dkX6_copyRow_0 5 rfl
theorem dX6_copyRow_12 : decode cX6_copyRow 12 = .ok (.ifCond .eq 7, 3) := dget dkX6_copyRow_0 6 rfl
theorem dX6_copyRow_15 : decode cX6_copyRow 15 = .ok (.iconst 1, 1) := dget dkX6_copyRow_0 7 rfl
theorem dX6_copyRow_16 : decode cX6_copyRow 16 = .ok (.goto 4, 3) := dget dkX6_copyRow_0 8 rfl
theorem dX6_copyRow_19 : decode cX6_copyRow 19 = .ok (.iconst 0, 1) := dget dkX6_copyRow_0 9 rfl
theorem dX6_copyRow_20 : decode cX6_copyRow 20 = .ok (.iconst 1, 1) := dget dkX6_copyRow_0 10 rfl
theorem dX6_copyRow_21 : decode cX6_copyRow 21 = .ok (.invokevirtual 69, 3) := dget dkX6_copyRow_0 11 rfl
theorem dX6_copyRow_24 : decode cX6_copyRow 24 = .ok (.ifCond .eq 5, 3) := dget dkX6_copyRow_0 12 rfl
theorem dX6_copyRow_27 : decode cX6_copyRow 27 = .ok (.iconst 0, 1) := dget dkX6_copyRow_0 13 rfl
theorem dX6_copyRow_28 : decode cX6_copyRow 28 = .ok (.ireturn, 1) := dget dkX6_copyRow_0 14 rfl
theorem dX6_copyRow_29 : decode cX6_copyRow 29 = .ok (.iconst 0, 1) := dget dkX6_copyRow_0 15 rfl
theorem dX6_copyRow_30 : decode cX6_copyRow 30 = .ok (.istore_n 3, 1) := dget dkX6_copyRow_0 16 rfl
theorem dX6_copyRow_31 : decode cX6_copyRow 31 = .ok (.iload_n 3, 1) := dget dkX6_copyRow_0 17 rfl
theorem dX6_copyRow_32 : decode cX6_copyRow 32 = .ok (.aload_n 0, 1) := dget dkX6_copyRow_0 18 rfl
theorem dX6_copyRow_33 : decode cX6_copyRow 33 = .ok (.getfield 17, 3) := dget dkX6_copyRow_0 19 rfl
theorem dX6_copyRow_36 : decode cX6_copyRow 36 = .ok (.iload_n 1, 1) := dget dkX6_copyRow_0 20 rfl
theorem dX6_copyRow_37 : decode cX6_copyRow 37 = .ok (.iaload, 1) := dget dkX6_copyRow_0 21 rfl
theorem dX6_copyRow_38 : decode cX6_copyRow 38 = .ok (.if_icmp .ge 41, 3) := dget dkX6_copyRow_0 22 rfl
theorem dX6_copyRow_41 : decode cX6_copyRow 41 = .ok (.aload_n 0, 1) := dget dkX6_copyRow_0 23 rfl
theorem dX6_copyRow_42 : decode cX6_copyRow 42 = .ok (.getfield 11, 3) := dget dkX6_copyRow_0 24 rfl
theorem dX6_copyRow_45 : decode cX6_copyRow 45 = .ok (.iload_n 2, 1) := dget dkX6_copyRow_0 25 rfl
theorem dX6_copyRow_46 : decode cX6_copyRow 46 = .ok (.aaload, 1) := dget dkX6_copyRow_0 26 rfl
theorem dX6_copyRow_47 : decode cX6_copyRow 47 = .ok (.iload_n 3, 1) := dget dkX6_copyRow_0 27 rfl
theorem dX6_copyRow_48 : decode cX6_copyRow 48 = .ok (.aload_n 0, 1) := dget dkX6_copyRow_0 28 rfl
theorem dX6_copyRow_49 : decode cX6_copyRow 49 = .ok (.getfield 11, 3) := dget dkX6_copyRow_0 29 rfl
theorem dX6_copyRow_52 : decode cX6_copyRow 52 = .ok (.iload_n 1, 1) := dget dkX6_copyRow_0 30 rfl
theorem dX6_copyRow_53 : decode cX6_copyRow 53 = .ok (.aaload, 1) := dget dkX6_copyRow_0 31 rfl
theorem dX6_copyRow_54 : decode cX6_copyRow 54 = .ok (.iload_n 3, 1) := dget dkX6_copyRow_0 32 rfl
theorem dX6_copyRow_55 : decode cX6_copyRow 55 = .ok (.iaload, 1) := dget dkX6_copyRow_0 33 rfl
theorem dX6_copyRow_56 : decode cX6_copyRow 56 = .ok (.iastore, 1) := dget dkX6_copyRow_0 34 rfl
theorem dX6_copyRow_57 : decode cX6_copyRow 57 = .ok (.aload_n 0, 1) := dget dkX6_copyRow_0 35 rfl
theorem dX6_copyRow_58 : decode cX6_copyRow 58 = .ok (.getfield 14, 3) := dget dkX6_copyRow_0 36 rfl
theorem dX6_copyRow_61 : decode cX6_copyRow 61 = .ok (.iload_n 2, 1) := dget dkX6_copyRow_0 37 rfl
theorem dX6_copyRow_62 : decode cX6_copyRow 62 = .ok (.aaload, 1) := dget dkX6_copyRow_0 38 rfl
theorem dX6_copyRow_63 : decode cX6_copyRow 63 = .ok (.iload_n 3, 1) := dget dkX6_copyRow_0 39 rfl
theorem dkX6_copyRow_1 : ([(64, (.aload_n 0, 1)), (65, (.getfield 14, 3)), (68, (.iload_n 1, 1)), (69, (.aaload, 1)), (70, (.iload_n 3, 1)), (71, (.iaload, 1)), (72, (.iastore, 1)), (73, (.iinc 3 1, 3)), (76, (.goto (-45), 3)), (79, (.aload_n 0, 1)), (80, (.getfield 17, 3)), (83, (.iload_n 2, 1)), (84, (.aload_n 0, 1)), (85, (.getfield 17, 3)), (88, (.iload_n 1, 1)), (89, (.iaload, 1)), (90, (.iastore, 1)), (91, (.aload_n 0, 1)), (92, (.getfield 17, 3)), (95, (.iload_n 2, 1)), (96, (.iaload, 1)), (97, (.ireturn, 1))] : List (Nat × (Jvm.ClassFile.Instr × Nat))).all (dcB cX6_copyRow) = true := by decide +kernel
theorem dX6_copyRow_64 : decode cX6_copyRow 64 = .ok (.aload_n 0, 1) := dget dkX6_copyRow_1 0 rfl
theorem dX6_copyRow_65 : decode cX6_copyRow 65 = .ok (.getfield 14, 3) := dget dkX6_copyRow_1 1 rfl
theorem dX6_copyRow_68 : decode cX6_copyRow 68 = .ok (.iload_n 1, 1) := dget dkX6_copyRow_1 2 rfl
theorem dX6_copyRow_69 : decode cX6_copyRow 69 = .ok (.aaload, 1) := dget dkX6_copyRow_1 3 rfl
theorem dX6_copyRow_70 : decode cX6_copyRow 70 = .ok (.iload_n 3, 1) := dget dkX6_copyRow_1 4 rfl
theorem dX6_copyRow_71 : decode cX6_copyRow 71 = .ok (.iaload, 1) := dget dkX6_copyRow_1 5 rfl
theorem dX6_copyRow_72 : decode cX6_copyRow 72 = .ok (.iastore, 1) := dget dkX6_copyRow_1 6 rfl
theorem dX6_copyRow_73 : decode cX6_copyRow 73 = .ok (.iinc 3 1, 3) := dget dkX6_copyRow_1 7 rfl
theorem dX6_copyRow_76 : decode cX6_copyRow 76 = .ok (.goto (-45), 3) := dget dkX6_copyRow_1 8 rfl
theorem dX6_copyRow_79 : decode cX6_copyRow 79 = .ok (.aload_n 0, 1) := dget dkX6_copyRow_1 9 rfl
theorem dX6_copyRow_80 : decode cX6_copyRow 80 = .ok (.getfield 17, 3) := dget dkX6_copyRow_1 10 rfl
theorem dX6_copyRow_83 : decode cX6_copyRow 83 = .ok (.iload_n 2, 1) := dget dkX6_copyRow_1 11 rfl
theorem dX6_copyRow_84 : decode cX6_copyRow 84 = .ok (.aload_n 0, 1) := dget dkX6_copyRow_1 12 rfl
theorem dX6_copyRow_85 : decode cX6_copyRow 85 = .ok (.getfield 17, 3) := dget dkX6_copyRow_1 13 rfl
theorem dX6_copyRow_88 : decode cX6_copyRow 88 = .ok (.iload_n 1, 1) := dget dkX6_copyRow_1 14 rfl
theorem dX6_copyRow_89 : decode cX6_copyRow 89 = .ok (.iaload, 1) := dget dkX6_copyRow_1 15 rfl
theorem dX6_copyRow_90 : decode cX6_copyRow 90 = .ok (.iastore, 1) := dget dkX6_copyRow_1 16 rfl
theorem dX6_copyRow_91 : decode cX6_copyRow 91 = .ok (.aload_n 0, 1) := dget dkX6_copyRow_1 17 rfl
theorem dX6_copyRow_92 : decode cX6_copyRow 92 = .ok (.getfield 17, 3) := dget dkX6_copyRow_1 18 rfl
theorem dX6_copyRow_95 : decode cX6_copyRow 95 = .ok (.iload_n 2, 1) := dget dkX6_copyRow_1 19 rfl
theorem dX6_copyRow_96 : decode cX6_copyRow 96 = .ok (.iaload, 1) := dget dkX6_copyRow_1 20 rfl
theorem dX6_copyRow_97 : decode cX6_copyRow 97 = .ok (.ireturn, 1) := dget dkX6_copyRow_1 21 rfl
theorem dkX6_change_0 : ([(0, (.aload_n 0, 1)), (1, (.getfield 11, 3)), (4, (.iload_n 1, 1)), (5, (.aaload, 1)), (6, (.iload_n 2, 1)), (7, (.iaload, 1)), (8, (.istore 4, 2))] : List (Nat × (Jvm.ClassFile.Instr × Nat))).all (dcB cX6_change) = true := by decide +kernel
theorem dX6_change_0 : decode cX6_change 0 = .ok (.aload_n 0, 1) := dget dkX6_change_0 0 rfl
theorem dX6_change_1 : decode cX6_change 1 = .ok (.getfield 11, 3) := dget dkX6_change_0 1 rfl
theorem dX6_change_4 : decode cX6_change 4 = .ok (.iload_n 1, 1) := dget dkX6_change_0 2 rfl
theorem dX6_change_5 : decode cX6_change 5 = .ok (.aaload, 1) := dget dkX6_change_0 3 rfl
theorem dX6_change_6 : decode cX6_change 6 = .ok (.iload_n 2, 1) := dget dkX6_change_0 4 rfl
theorem dX6_change_7 : decode cX6_change 7 = .ok (.iaload, 1) := dget dkX6_change_0 5 rfl
theorem dX6_change_8 : decode cX6_change 8 = .ok (.istore 4, 2) := dget dkX6_change_0 6 rfl
