theorem dkX6_change_1 : ([(10, (.aload_n 0, 1)), (11, (.getfield 14, 3)), (14, (.iload_n 1, 1)), (15, (.aaload, 1)), (16, (.iload_n 2, 1)), (17, (.iaload, 1)), (18, (.istore 5, 2)), (20, (.aload_n 0, 1)), (21, (.getfield 11, 3)), (24, (.iload_n 1, 1)), (25, (.aaload, 1)), (26, (.iload_n 2, 1)), (27, (.aload_n 0, 1)), (28, (.getfield 11, 3)), (31, (.iload_n 1, 1)), (32, (.aaload, 1)), (33, (.iload_n 3, 1)), (34, (.iaload, 1)), (35, (.iastore, 1)), (36, (.aload_n 0, 1)), (37, (.getfield 14, 3)), (40, (.iload_n 1, 1)), (41, (.aaload, 1)), (42, (.iload_n 2, 1)), (43, (.aload_n 0, 1)), (44, (.getfield 14, 3)), (47, (.iload_n 1, 1)), (48, (.aaload, 1)), (49, (.iload_n 3, 1)), (50, (.iaload, 1)), (51, (.iastore, 1)), (52, (.aload_n 0, 1)), (53, (.getfield 11, 3)), (56, (.iload_n 1, 1)), (57, (.aaload, 1)), (58, (.iload_n 3, 1)), (59, (.iload 4, 2)), (61, (.iastore, 1)), (62, (.aload_n 0, 1)), (63, (.getfield 14, 3))] : List (Nat × (Jvm.ClassFile.Instr × Nat))).all (dcB cX6_change) = true := by decide +kernel
theorem dX6_change_10 : decode cX6_change 10 = .ok (.aload_n 0, 1) := dget dkX6_change_1 0 rfl
theorem dX6_change_11 : decode cX6_change 11 = .ok (.getfield 14, 3) := dget dkX6_change_1 1 rfl
theorem dX6_change_14 : decode cX6_change 14 = .ok (.iload_n 1, 1) := dget dkX6_change_1 2 rfl
theorem dX6_change_15 : decode cX6_change 15 = .ok (.aaload, 1) := dget dkX6_change_1 3 rfl
theorem dX6_change_16 : decode cX6_change 16 = .ok (.iload_n 2, 1) := dget dkX6_change_1 4 rfl
theorem dX6_change_17 : decode cX6_change 17 = .ok (.iaload, 1) := dget dkX6_change_1 5 rfl
theorem dX6_change_18 : decode cX6_change 18 = .ok (.istore 5, 2) := dget dkX6_change_1 6 rfl
theorem dX6_change_20 : decode cX6_change 20 = .ok (.aload_n 0, 1) := dget dkX6_change_1 7 rfl
theorem dX6_change_21 : decode cX6_change 21 = .ok (.getfield 11, 3) := dget dkX6_change_1 8 rfl
theorem dX6_change_24 : decode cX6_change 24 = .ok (.iload_n 1, 1) := dget dkX6_change_1 9 rfl
theorem dX6_change_25 : decode cX6_change 25 = .ok (.aaload, 1) := dget dkX6_change_1 10 rfl
theorem dX6_change_26 : decode cX6_change 26 = .ok (.iload_n 2, 1) := dget dkX6_change_1 11 rfl
theorem dX6_change_27 : decode cX6_change 27 = .ok (.aload_n 0, 1) := dget dkX6_change_1 12 rfl
theorem dX6_change_28 : decode cX6_change 28 = .ok (.getfield 11, 3) := dget dkX6_change_1 13 rfl
theorem dX6_change_31 : decode cX6_change 31 = .ok (.iload_n 1, 1) := dget dkX6_change_1 14 rfl
theorem dX6_change_32 : decode cX6_change 32 = .ok (.aaload, 1) := dget dkX6_change_1 15 rfl
theorem dX6_change_33 : decode cX6_change 33 = .ok (.iload_n 3, 1) := dget dkX6_change_1 16 rfl
theorem dX6_change_34 : decode cX6_change 34 = .ok (.iaload, 1) := dget dkX6_change_1 17 rfl
theorem dX6_change_35 : decode cX6_change 35 = .ok (.iastore, 1) := dget dkX6_change_1 18 rfl
theorem dX6_change_36 : decode cX6_change 36 = .ok (.aload_n 0, 1) := dget dkX6_change_1 19 rfl
theorem dX6_change_37 : decode cX6_change 37 = .ok (.getfield 14, 3) := dget dkX6_change_1 20 rfl
theorem dX6_change_40 : decode cX6_change 40 = .ok (.iload_n 1, 1) := dget dkX6_change_1 21 rfl
theorem dX6_change_41 : decode cX6_change 41 = .ok (.aaload, 1) := dget dkX6_change_1 22 rfl
theorem dX6_change_42 : decode cX6_change 42 = .ok (.iload_n 2, 1) := dget dkX6_change_1 23 rfl
theorem dX6_change_43 : decode cX6_change 43 = .ok (.aload_n 0, 1) := dget dkX6_change_1 24 rfl
theorem dX6_change_44 : decode cX6_change 44 = .ok (.getfield 14, 3) := dget dkX6_change_1 25 rfl
theorem dX6_change_47 : decode cX6_change 47 = .ok (.iload_n 1, 1) := dget dkX6_change_1 26 rfl
theorem dX6_change_48 : decode cX6_change 48 = .ok (.aaload, 1) := dget dkX6_change_1 27 rfl
theorem dX6_change_49 : decode cX6_change 49 = .ok (.iload_n 3, 1) := dget dkX6_change_1 28 rfl
theorem dX6_change_50 : decode cX6_change 50 = .ok (.iaload, 1) := dget dkX6_change_1 29 rfl
theorem dX6_change_51 : decode cX6_change 51 = .ok (.iastore, 1) := dget dkX6_change_1 30 rfl
theorem dX6_change_52 : decode cX6_change 52 = .ok (.aload_n 0, 1) := dget dkX6_change_1 31 rfl
theorem dX6_change_53 : decode cX6_change 53 = .ok (.getfield 11, 3) := dget dkX6_change_1 32 rfl
theorem dX6_change_56 : decode cX6_change 56 = .ok (.iload_n 1, 1) := dget dkX6_change_1 33 rfl
theorem dX6_change_57 : decode cX6_change 57 = .ok (.aaload, 1) := dget dkX6_change_1 34 rfl
theorem dX6_change_58 : decode cX6_change 58 = .ok (.iload_n 3, 1) := dget dkX6_change_1 35 rfl
theorem dX6_change_59 : decode cX6_change 59 = .ok (.iload 4, 2) := dget dkX6_change_1 36 rfl
theorem dX6_change_61 : decode cX6_change 61 = .ok (.iastore, 1) := dget dkX6_change_1 37 rfl
theorem dX6_change_62 : decode cX6_change 62 = .ok (.aload_n 0, 1) := dget dkX6_change_1 38 rfl
theorem dX6_change_63 : decode cX6_change 63 = .ok (.getfield 14, 3) := dget dkX6_change_1 39 rfl
theorem dkX6_change_2 : ([(66, (.iload_n 1, 1)), (67, (.aaload, 1)), (68, (.iload_n 3, 1)), (69, (.iload 5, 2)), (71, (.iastore, 1)), (72, (.return_, 1))] : List (Nat × (Jvm.ClassFile.Instr × Nat))).all (dcB cX6_change) = true := by decide +kernel
theorem dX6_change_66 : decode cX6_change 66 = .ok (.iload_n 1, 1) := dget dkX6_change_2 0 rfl
theorem dX6_change_67 : decode cX6_change 67 = .ok (.aaload, 1) := dget dkX6_change_2 1 rfl
theorem dX6_change_68 : decode cX6_change 68 = .ok (.iload_n 3, 1) := dget dkX6_change_2 2 rfl
theorem dX6_change_69 : decode cX6_change 69 = .ok (.iload 5, 2) := dget dkX6_change_2 3 rfl
theorem dX6_change_71 : decode cX6_change 71 = .ok (.iastore, 1) := dget dkX6_change_2 4 rfl
theorem dX6_change_72 : decode cX6_change 72 = .ok (.return_, 1) := dget dkX6_change_2 5 rfl
theorem ggX6_turnRow_X6_isNoRow : GoodIn wsX6_turnRow wsX6_isNoRow := tgCall 685 e_X6_isNoRow (by decide +kernel)
theorem gX6_turnRow_X6_isNoRow : GoodIn wsX6_turnRow (va_wsS RX6 65 yX6_isNoRow wsX6_isNoRow) := goodIn_app (tgIn [682, 683, 684] (by decide +kernel) rfl) ggX6_turnRow_X6_isNoRow
theorem ggX6_turnRow_X6_start : GoodIn wsX6_turnRow wsX6_start := tgCall 692 e_X6_start (by decide +kernel)
theorem gX6_turnRow_X6_start : GoodIn wsX6_turnRow (wsV RX6 69 RX6 yX6_start wsX6_start) := goodIn_app (tgIn [689, 690, 691, 684] (by decide +kernel) rfl) ggX6_turnRow_X6_start
theorem ggX6_turnRow_X6_change : GoodIn wsX6_turnRow wsX6_change := tgCall 733 e_X6_change (by decide +kernel)
theorem gX6_turnRow_X6_change : GoodIn wsX6_turnRow (wsV RX6 82 RX6 yX6_change wsX6_change) := goodIn_app (tgIn [730, 731, 732, 684] (by decide +kernel) rfl) ggX6_turnRow_X6_change
theorem dkX6_turnRow_0 : ([(0, (.aload_n 0, 1)), (1, (.iload_n 1, 1)), (2, (.invokestatic 65, 3)), (5, (.iconst 1, 1)), (6, (.invokevirtual 69, 3)), (9, (.ifCond .eq 5, 3)), (12, (.iconst 0, 1)), (13, (.ireturn, 1)), (14, (.iconst 0, 1)), (15, (.istore_n 2, 1)), (16, (.iconst 0, 1)), (17, (.istore_n 3, 1)), (18, (.iload_n 3, 1)), (19, (.aload_n 0, 1)), (20, (.getfield 17, 3)), (23, (.iload_n 1, 1)), (24, (.iaload, 1)), (25, (.iconst 2, 1)), (26, (.idiv, 1)), (27, (.if_icmp .ge 28, 3)), (30, (.aload_n 0, 1)), (31, (.iload_n 1, 1)), (32, (.iload_n 3, 1)), (33, (.aload_n 0, 1)), (34, (.getfield 17, 3)), (37, (.iload_n 1, 1)), (38, (.iaload, 1)), (39, (.iconst 1, 1)), (40, (.isub, 1)), (41, (.iload_n 3, 1)), (42, (.isub, 1)), (43, (.invokevirtual 82, 3)), (46, (.iinc 2 2, 3)), (49, (.iinc 3 1, 3)), (52, (.goto (-34), 3)), (55, (.iload_n 2, 1)), (56, (.ireturn, 1))] : List (Nat × (Jvm.ClassFile.Instr × Nat))).all (dcB cX6_turnRow) = true := by decide +kernel
theorem dX6_turnRow_0 : decode cX6_turnRow 0 = .ok (.aload_n 0, 1) := dget dkX6_turnRow_0 0 rfl
theorem dX6_turnRow_1 : decode cX6_turnRow 1 = .ok (.iload_n 1, 1) := dget dkX6_turnRow_0 1 rfl
theorem dX6_turnRow_2 : decode cX6_turnRow 2 = .ok (.invokestatic 65, 3) := dget dkX6_turnRow_0 2 rfl
theorem dX6_turnRow_5 : decode cX6_turnRow 5 = .ok (.iconst 1, 1) := dget dkX6_turnRow_0 3 rfl
theorem dX6_turnRow_6 : decode cX6_turnRow 6 = .ok (.invokevirtual 69, 3) := dget dkX6_turnRow_0 4 rfl
theorem dX6_turnRow_9 : decode cX6_turnRow 9 = .ok (.ifCond .eq 5, 3) := dget dkX6_turnRow_0 5 rfl
theorem dX6_turnRow_12 : decode cX6_turnRow 12 = .ok (.iconst 0, 1) := dget dkX6_turnRow_0 6 rfl
theorem dX6_turnRow_13 : decode cX6_turnRow 13 = .ok (.ireturn, 1) := dget dkX6_turnRow_0 7 rfl
theorem dX6_turnRow_14 : decode cX6_turnRow 14 = .ok (.iconst 0, 1) := dget dkX6_turnRow_0 8 rfl
theorem dX6_turnRow_15 : decode cX6_turnRow 15 = .ok (.istore_n 2, 1) := dget dkX6_turnRow_0 9 rfl
theorem dX6_turnRow_16 : decode cX6_turnRow 16 = .ok (.iconst 0, 1) := dget dkX6_turnRow_0 10 rfl
theorem dX6_turnRow_17 : decode cX6_turnRow 17 = .ok (.istore_n 3, 1) := dget dkX6_turnRow_0 11 rfl
theorem dX6_turnRow_18 : decode cX6_turnRow 18 = .ok (.iload_n 3, 1) := dget dkX6_turnRow_0 12 rfl
theorem dX6_turnRow_19 : decode cX6_turnRow 19 = .ok (.aload_n 0, 1) := dget dkX6_turnRow_0 13 rfl
theorem dX6_turnRow_20 : decode cX6_turnRow 20 = .ok (.getfield 17, 3) := dget dkX6_turnRow_0 14 rfl
theorem dX6_turnRow_23 : decode cX6_turnRow 23 = .ok (.iload_n 1, 1) := dget dkX6_turnRow_0 15 rfl
theorem dX6_turnRow_24 : decode cX6_turnRow 24 = .ok (.iaload, 1) := dget dkX6_turnRow_0 16 rfl
theorem dX6_turnRow_25 : decode cX6_turnRow 25 = .ok (.iconst 2, 1) := dget dkX6_turnRow_0 17 rfl
theorem dX6_turnRow_26 : decode cX6_turnRow 26 = .ok (.idiv, 1) := dget dkX6_turnRow_0 18 rfl
theorem dX6_turnRow_27 : decode cX6_turnRow 27 = .ok (.if_icmp .ge 28, 3) := dget dkX6_turnRow_0 19 rfl
theorem dX6_turnRow_30 : decode cX6_turnRow 30 = .ok (.aload_n 0, 1) := dget dkX6_turnRow_0 20 rfl
theorem dX6_turnRow_31 : decode cX6_turnRow 31 = .ok (.iload_n 1, 1) := dget dkX6_turnRow_0 21 rfl
theorem dX6_turnRow_32 : decode cX6_turnRow 32 = .ok (.iload_n 3, 1) := dget dkX6_turnRow_0 22 rfl
theorem dX6_turnRow_33 : decode cX6_turnRow 33 = .ok (.aload_n 0, 1) := dget dkX6_turnRow_0 23 rfl
theorem dX6_turnRow_34 : decode cX6_turnRow 34 = .ok (.getfield 17, 3) := dget dkX6_turnRow_0 24 rfl
theorem dX6_turnRow_37 : decode cX6_turnRow 37 = .ok (.iload_n 1, 1) := dget dkX6_turnRow_0 25 rfl
theorem dX6_turnRow_38 : decode cX6_turnRow 38 = .ok (.iaload, 1) := dget dkX6_turnRow_0 26 rfl
theorem dX6_turnRow_39 : decode cX6_turnRow 39 = .ok (.iconst 1, 1) := dget dkX6_turnRow_0 27 rfl
theorem dX6_turnRow_40 : decode cX6_turnRow 40 = .ok (.isub, 1) := dget dkX6_turnRow_0 28 rfl
theorem dX6_turnRow_41 : decode cX6_turnRow 41 = .ok (.iload_n 3, 1) := dget dkX6_turnRow_0 29 rfl
theorem dX6_turnRow_42 : decode cX6_turnRow 42 = .ok (.isub, 1) := dget dkX6_turnRow_0 30 rfl
theorem dX6_turnRow_43 : decode cX6_turnRow 43 = .ok (.invokevirtual 82, 3) := dget dkX6_turnRow_0 31 rfl
theorem dX6_turnRow_46 : decode cX6_turnRow 46 = .ok (.iinc 2 2, 3) := dget dkX6_turnRow_0 32 rfl
theorem dX6_turnRow_49 : decode cX6_turnRow 49 = .ok (.iinc 3 1, 3) := dget dkX6_turnRow_0 33 rfl
theorem dX6_turnRow_52 : decode cX6_turnRow 52 = .ok (.goto (-34), 3) := dget dkX6_turnRow_0 34 rfl
theorem dX6_turnRow_55 : decode cX6_turnRow 55 = .ok (.iload_n 2, 1) := dget dkX6_turnRow_0 35 rfl
theorem dX6_turnRow_56 : decode cX6_turnRow 56 = .ok (.ireturn, 1) := dget dkX6_turnRow_0 36 rfl
theorem ggX6_wheel_X6_isNoRow : GoodIn wsX6_wheel wsX6_isNoRow := tgCall 685 e_X6_isNoRow (by decide +kernel)
theorem gX6_wheel_X6_isNoRow : GoodIn wsX6_wheel (va_wsS RX6 65 yX6_isNoRow wsX6_isNoRow) := goodIn_app (tgIn [682, 683, 684] (by decide +kernel) rfl) ggX6_wheel_X6_isNoRow
theorem ggX6_wheel_X6_start : GoodIn wsX6_wheel wsX6_start := tgCall 692 e_X6_start (by decide +kernel)
theorem gX6_wheel_X6_start : GoodIn wsX6_wheel (wsV RX6 69 RX6 yX6_start wsX6_start) := goodIn_app (tgIn [689, 690, 691, 684] (by decide +kernel) rfl) ggX6_wheel_X6_start
theorem ggX6_wheel_X6_change : GoodIn wsX6_wheel wsX6_change := tgCall 733 e_X6_change (by decide +kernel)
theorem gX6_wheel_X6_change : GoodIn wsX6_wheel (wsV RX6 82 RX6 yX6_change wsX6_change) := goodIn_app (tgIn [730, 731, 732, 684] (by decide +kernel) rfl) ggX6_wheel_X6_change
theorem dkX6_wheel_0 : ([(0, (.aload_n 0, 1)), (1, (.iload_n 1, 1)), (2, (.invokestatic 65, 3)), (5, (.iconst 1, 1)), (6, (.invokevirtual 69, 3)), (9, (.ifCond .eq 5, 3)), (12, (.iconst 0, 1)), (13, (.ireturn, 1)), (14, (.aload_n 0, 1)), (15, (.getfield 17, 3)), (18, (.iload_n 1, 1)), (19, (.iaload, 1)), (20, (.istore_n 3, 1)), (21, (.iload_n 3, 1)), (22, (.ifCond .ne 5, 3)), (25, (.iconst (-1), 1)), (26, (.ireturn, 1)), (27, (.iload_n 2, 1)), (28, (.iload_n 3, 1)), (29, (.irem, 1)), (30, (.iload_n 3, 1)), (31, (.iadd, 1)), (32, (.iload_n 3, 1)), (33, (.irem, 1)), (34, (.istore 4, 2)), (36, (.iconst 0, 1)), (37, (.istore 5, 2)), (39, (.iload 5, 2)), (41, (.iload 4, 2)), (43, (.if_icmp .ge 36, 3)), (46, (.iload_n 3, 1)), (47, (.iconst 1, 1)), (48, (.isub, 1)), (49, (.istore 6, 2)), (51, (.iload 6, 2)), (53, (.ifCond .le 20, 3)), (56, (.aload_n 0, 1)), (57, (.iload_n 1, 1)), (58, (.iload 6, 2)), (60, (.iload 6, 2))] : List (Nat × (Jvm.ClassFile.Instr × Nat))).all (dcB cX6_wheel) = true := by decide +kernel
theorem dX6_wheel_0 : decode cX6_wheel 0 = .ok (.aload_n 0, 1) := dget dkX6_wheel_0 0 rfl
theorem dX6_wheel_1 : decode cX6_wheel 1 = .ok (.iload_n 1, 1) := dget dkX6_wheel_0 1 rfl
theorem dX6_wheel_2 : decode cX6_wheel 2 = .ok (.invokestatic 65, 3) := dget dkX6_wheel_0 2 rfl
theorem dX6_wheel_5 : decode cX6_wheel 5 = .ok (.iconst 1, 1) := dget dkX6_wheel_0 3 rfl
theorem dX6_wheel_6 : decode cX6_wheel 6 = .ok (.invokevirtual 69, 3) := dget dkX6_wheel_0 4 rfl
theorem dX6_wheel_9 : decode cX6_wheel 9 = .ok (.ifCond .eq 5, 3) := dget dkX6_wheel_0 5 rfl
theorem dX6_wheel_12 : decode cX6_wheel 12 = .ok (.iconst 0, 1) := dget dkX6_wheel_0 6 rfl
theorem dX6_wheel_13 : decode cX6_wheel 13 = .ok (.ireturn, 1) := dget dkX6_wheel_0 7 rfl
theorem dX6_wheel_14 : decode cX6_wheel 14 = .ok (.aload_n 0, 1) := dget dkX6_wheel_0 8 rfl
theorem dX6_wheel_15 : decode cX6_wheel 15 = .ok (.getfield 17, 3) := dget dkX6_wheel_0 9 rfl
theorem dX6_wheel_18 : decode cX6_wheel 18 = .ok (.iload_n 1, 1) := dget dkX6_wheel_0 10 rfl
theorem dX6_wheel_19 : decode cX6_wheel 19 = .ok (.iaload, 1) := dget dkX6_wheel_0 11 rfl
theorem dX6_wheel_20 : decode cX6_wheel 20 = .ok (.istore_n 3, 1) := dget dkX6_wheel_0 12 rfl
theorem dX6_wheel_21 : decode cX6_wheel 21 = .ok (.iload_n 3, 1) := dget dkX6_wheel_0 13 rfl
theorem dX6_wheel_22 : decode cX6_wheel 22 = .ok (.ifCond .ne 5, 3) := dget dkX6_wheel_0 14 rfl
theorem dX6_wheel_25 : decode cX6_wheel 25 = .ok (.iconst (-1), 1) := dget dkX6_wheel_0 15 rfl
theorem dX6_wheel_26 : decode cX6_wheel 26 = .ok (.ireturn, 1) := dget dkX6_wheel_0 16 rfl
theorem dX6_wheel_27 : decode cX6_wheel 27 = .ok (.iload_n 2, 1) := dget dkX6_wheel_0 17 rfl
theorem dX6_wheel_28 : decode cX6_wheel 28 = .ok (.iload_n 3, 1) := dget dkX6_wheel_0 18 rfl
theorem dX6_wheel_29 : decode cX6_wheel 29 = .ok (.irem, 1) := dget dkX6_wheel_0 19 rfl
theorem dX6_wheel_30 : decode cX6_wheel 30 = .ok (.iload_n 3, 1) := dget dkX6_wheel_0 20 rfl
theorem dX6_wheel_31 : decode cX6_wheel 31 = .ok (.iadd, 1) := dget dkX6_wheel_0 21 rfl
theorem dX6_wheel_32 : decode cX6_wheel 32 = .ok (.iload_n 3, 1) := dget dkX6_wheel_0 22 rfl
theorem dX6_wheel_33 : decode cX6_wheel 33 = .ok (.irem, 1) := dget dkX6_wheel_0 23 rfl
theorem dX6_wheel_34 : decode cX6_wheel 34 = .ok (.istore 4, 2) := dget dkX6_wheel_0 24 rfl
theorem dX6_wheel_36 : decode cX6_wheel 36 = .ok (.iconst 0, 1) := dget dkX6_wheel_0 25 rfl
theorem dX6_wheel_37 : decode cX6_wheel 37 = .ok (.istore 5, 2) := dget dkX6_wheel_0 26 rfl
theorem dX6_wheel_39 : decode cX6_wheel 39 = .ok (.iload 5, 2) := dget dkX6_wheel_0 27 rfl
theorem dX6_wheel_41 : decode cX6_wheel 41 = .ok (.iload 4, 2) := dget dkX6_wheel_0 28 rfl
theorem dX6_wheel_43 : decode cX6_wheel 43 = .ok (.if_icmp .ge 36, 3) := dget dkX6_wheel_0 29 rfl
theorem dX6_wheel_46 : decode cX6_wheel 46 = .ok (.iload_n 3, 1) := dget dkX6_wheel_0 30 rfl
theorem dX6_wheel_47 : decode cX6_wheel 47 = .ok (.iconst 1, 1) := dget dkX6_wheel_0 31 rfl
theorem dX6_wheel_48 : decode cX6_wheel 48 = .ok (.isub, 1) := dget dkX6_wheel_0 32 rfl
theorem dX6_wheel_49 : decode cX6_wheel 49 = .ok (.istore 6, 2) := dget dkX6_wheel_0 33 rfl
theorem dX6_wheel_51 : decode cX6_wheel 51 = .ok (.iload 6, 2) := dget dkX6_wheel_0 34 rfl
theorem dX6_wheel_53 : decode cX6_wheel 53 = .ok (.ifCond .le 20, 3) := dget dkX6_wheel_0 35 rfl
theorem dX6_wheel_56 : decode cX6_wheel 56 = .ok (.aload_n 0, 1) := dget dkX6_wheel_0 36 rfl
theorem dX6_wheel_57 : decode cX6_wheel 57 = .ok (.iload_n 1, 1) := dget dkX6_wheel_0 37 rfl
theorem dX6_wheel_58 : decode cX6_wheel 58 = .ok (.iload 6, 2) := dget dkX6_wheel_0 38 rfl
theorem dX6_wheel_60 : decode cX6_wheel 60 = .ok (.iload 6, 2) := dget dkX6_wheel_0 39 rfl
theorem dkX6_wheel_1 : ([(62, (.iconst 1, 1)), (63, (.isub, 1)), (64, (.invokevirtual 82, 3)), (67, (.iinc 6 (-1), 3)), (70, (.goto (-19), 3)), (73, (.iinc 5 1, 3)), (76, (.goto (-37), 3)), (79, (.aload_n 0, 1)), (80, (.getfield 14, 3)), (83, (.iload_n 1, 1)), (84, (.aaload, 1)), (85, (.iconst 0, 1)), (86, (.iaload, 1)), (87, (.ireturn, 1))] : List (Nat × (Jvm.ClassFile.Instr × Nat))).all (dcB cX6_wheel) = true := by decide +kernel
theorem dX6_wheel_62 : decode cX6_wheel 62 = .ok (.iconst 1, 1) := dget dkX6_wheel_1 0 rfl
theorem dX6_wheel_63 : decode cX6_wheel 63 = .ok (.isub, 1) := dget dkX6_wheel_1 1 rfl
theorem dX6_wheel_64 : decode cX6_wheel 64 = .ok (.invokevirtual 82, 3) := dget dkX6_wheel_1 2 rfl
theorem dX6_wheel_67 : decode cX6_wheel 67 = .ok (.iinc 6 (-1), 3) := dget dkX6_wheel_1 3 rfl
theorem dX6_wheel_70 : decode cX6_wheel 70 = .ok (.goto (-19), 3) := dget dkX6_wheel_1 4 rfl
theorem dX6_wheel_73 : decode cX6_wheel 73 = .ok (.iinc 5 1, 3) := dget dkX6_wheel_1 5 rfl
theorem dX6_wheel_76 : decode cX6_wheel 76 = .ok (.goto (-37), 3) := dget dkX6_wheel_1 6 rfl
theorem dX6_wheel_79 : decode cX6_wheel 79 = .ok (.aload_n 0, 1) := dget dkX6_wheel_1 7 rfl
theorem dX6_wheel_80 : decode cX6_wheel 80 = .ok (.getfield 14, 3) := dget dkX6_wheel_1 8 rfl
theorem dX6_wheel_83 : decode cX6_wheel 83 = .ok (.iload_n 1, 1) := dget dkX6_wheel_1 9 rfl
theorem dX6_wheel_84 : decode cX6_wheel 84 = .ok (.aaload, 1) := dget dkX6_wheel_1 10 rfl
theorem dX6_wheel_85 : decode cX6_wheel 85 = .ok (.iconst 0, 1) := dget dkX6_wheel_1 11 rfl
theorem dX6_wheel_86 : decode cX6_wheel 86 = .ok (.iaload, 1) := dget dkX6_wheel_1 12 rfl
theorem dX6_wheel_87 : decode cX6_wheel 87 = .ok (.ireturn, 1) := dget dkX6_wheel_1 13 rfl
theorem ggX6_swap_X6_isNoRow : GoodIn wsX6_swap wsX6_isNoRow := tgCall 685 e_X6_isNoRow (by decide +kernel)
theorem gX6_swap_X6_isNoRow : GoodIn wsX6_swap (va_wsS RX6 65 yX6_isNoRow wsX6_isNoRow) := goodIn_app (tgIn [682, 683, 684] (by decide +kernel) rfl) ggX6_swap_X6_isNoRow
theorem ggX6_swap_X6_start : GoodIn wsX6_swap wsX6_start := tgCall 692 e_X6_start (by decide +kernel)
theorem gX6_swap_X6_start : GoodIn wsX6_swap (wsV RX6 69 RX6 yX6_start wsX6_start) := goodIn_app (tgIn [689, 690, 691, 684] (by decide +kernel) rfl) ggX6_swap_X6_start
theorem ggX6_swap_X6_isNo : GoodIn wsX6_swap wsX6_isNo := tgCall 688 e_X6_isNo (by decide +kernel)
theorem gX6_swap_X6_isNo : GoodIn wsX6_swap (va_wsS RX6 40 yX6_isNo wsX6_isNo) := goodIn_app (tgIn [686, 687, 684] (by decide +kernel) rfl) ggX6_swap_X6_isNo
theorem ggX6_swap_X6_refuse : GoodIn wsX6_swap wsX6_refuse := tgCall 697 e_X6_refuse (by decide +kernel)
theorem gX6_swap_X6_refuse : GoodIn wsX6_swap (wsV RX6 36 RX6 yX6_refuse wsX6_refuse) := goodIn_app (tgIn [694, 695, 696, 684] (by decide +kernel) rfl) ggX6_swap_X6_refuse
theorem ggX6_swap_X6_change : GoodIn wsX6_swap wsX6_change := tgCall 733 e_X6_change (by decide +kernel)
theorem gX6_swap_X6_change : GoodIn wsX6_swap (wsV RX6 82 RX6 yX6_change wsX6_change) := goodIn_app (tgIn [730, 731, 732, 684] (by decide +kernel) rfl) ggX6_swap_X6_change
theorem dkX6_swap_0 : ([(0, (.aload_n 0, 1)), (1, (.iload_n 1, 1)), (2, (.invokestatic 65, 3)), (5, (.iconst 1, 1)), (6, (.invokevirtual 69, 3)), (9, (.ifCond .ne 46, 3)), (12, (.aload_n 0, 1)), (13, (.iload_n 2, 1)), (14, (.aload_n 0, 1)), (15, (.getfield 17, 3)), (18, (.iload_n 1, 1)), (19, (.iaload, 1)), (20, (.iconst 1, 1)), (21, (.isub, 1)), (22, (.invokestatic 40, 3)), (25, (.ifCond .ne 18, 3)), (28, (.iload_n 3, 1)), (29, (.aload_n 0, 1)), (30, (.getfield 17, 3)), (33, (.iload_n 1, 1)), (34, (.iaload, 1)), (35, (.iconst 1, 1)), (36, (.isub, 1)), (37, (.invokestatic 40, 3)), (40, (.ifCond .eq 7, 3)), (43, (.iconst 1, 1)), (44, (.goto 4, 3)), (47, (.iconst 0, 1)), (48, (.iconst 1, 1)), (49, (.invokevirtual 36, 3)), (52, (.ifCond .eq 5, 3)), (55, (.iconst 0, 1)), (56, (.ireturn, 1)), (57, (.aload_n 0, 1)), (58, (.iload_n 1, 1)), (59, (.iload_n 2, 1)), (60, (.iload_n 3, 1)), (61, (.invokevirtual 82, 3)), (64, (.aload_n 0, 1)), (65, (.getfield 11, 3))] : List (Nat × (Jvm.ClassFile.Instr × Nat))).all (dcB cX6_swap) = true := by decide +kernel
theorem dX6_swap_0 : decode cX6_swap 0 = .ok (.aload_n 0, 1) := dget dkX6_swap_0 0 rfl
theorem dX6_swap_1 : decode cX6_swap 1 = .ok (.iload_n 1, 1) := dget dkX6_swap_0 1 rfl
theorem dX6_swap_2 : decode cX6_swap 2 = .ok (.invokestatic 65, 3) := dget dkX6_swap_0 2 rfl
theorem dX6_swap_5 : decode cX6_swap 5 = .ok (.iconst 1, 1) := dget dkX6_swap_0 3 rfl
theorem dX6_swap_6 : decode cX6_swap 6 = .ok (.invokevirtual 69, 3) := dget dkX6_swap_0 4 rfl
theorem dX6_swap_9 : decode cX6_swap 9 = .ok (.ifCond .ne 46, 3) := dget dkX6_swap_0 5 rfl
theorem dX6_swap_12 : decode cX6_swap 12 = .ok (.aload_n 0, 1) := dget dkX6_swap_0 6 rfl
theorem dX6_swap_13 : decode cX6_swap 13 = .ok (.iload_n 2, 1) := dget dkX6_swap_0 7 rfl
theorem dX6_swap_14 : decode cX6_swap 14 = .ok (.aload_n 0, 1) := dget dkX6_swap_0 8 rfl
theorem dX6_swap_15 : decode cX6_swap 15 = .ok (.getfield 17, 3) := dget dkX6_swap_0 9 rfl
theorem dX6_swap_18 : decode cX6_swap 18 = .ok (.iload_n 1, 1) := dget dkX6_swap_0 10 rfl
theorem dX6_swap_19 : decode cX6_swap 19 = .ok (.iaload, 1) := dget dkX6_swap_0 11 rfl
theorem dX6_swap_20 : decode cX6_swap 20 = .ok (.iconst 1, 1) := dget dkX6_swap_0 12 rfl
theorem dX6_swap_21 : decode cX6_swap 21 = .ok (.isub, 1) := dget dkX6_swap_0 13 rfl
theorem dX6_swap_22 : decode cX6_swap 22 = .ok (.invokestatic 40, 3) := dget dkX6_swap_0 14 rfl
theorem dX6_swap_25 : decode cX6_swap 25 = .ok (.ifCond .ne 18, 3) := dget dkX6_swap_0 15 rfl
theorem dX6_swap_28 : decode cX6_swap 28 = .ok (.iload_n 3, 1) := dget dkX6_swap_0 16 rfl
theorem dX6_swap_29 : decode cX6_swap 29 = .ok (.aload_n 0, 1) := dget dkX6_swap_0 17 rfl
theorem dX6_swap_30 : decode cX6_swap 30 = .ok (.getfield 17, 3) := dget dkX6_swap_0 18 rfl
theorem dX6_swap_33 : decode cX6_swap 33 = .ok (.iload_n 1, 1) := dget dkX6_swap_0 19 rfl
theorem dX6_swap_34 : decode cX6_swap 34 = .ok (.iaload, 1) := dget dkX6_swap_0 20 rfl
theorem dX6_swap_35 : decode cX6_swap 35 = .ok (.iconst 1, 1) := dget dkX6_swap_0 21 rfl
theorem dX6_swap_36 : decode cX6_swap 36 = .ok (.isub, 1) := dget dkX6_swap_0 22 rfl
theorem dX6_swap_37 : decode cX6_swap 37 = .ok (.invokestatic 40, 3) := dget dkX6_swap_0 23 rfl
theorem dX6_swap_40 : decode cX6_swap 40 = .ok (.ifCond .eq 7, 3) := dget dkX6_swap_0 24 rfl
theorem dX6_swap_43 : decode cX6_swap 43 = .ok (.iconst 1, 1) := dget dkX6_swap_0 25 rfl
theorem dX6_swap_44 : decode cX6_swap 44 = .ok (.goto 4, 3) := dget dkX6_swap_0 26 rfl
theorem dX6_swap_47 : decode cX6_swap 47 = .ok (.iconst 0, 1) := dget dkX6_swap_0 27 rfl
theorem dX6_swap_48 : decode cX6_swap 48 = .ok (.iconst 1, 1) := dget dkX6_swap_0 28 rfl
theorem dX6_swap_49 : decode cX6_swap 49 = .ok (.invokevirtual 36, 3) := dget dkX6_swap_0 29 rfl
theorem dX6_swap_52 : decode cX6_swap 52 = .ok (.ifCond .eq 5, 3) := dget dkX6_swap_0 30 rfl
theorem dX6_swap_55 : decode cX6_swap 55 = .ok (.iconst 0, 1) := dget dkX6_swap_0 31 rfl
theorem dX6_swap_56 : decode cX6_swap 56 = .ok (.ireturn, 1) := dget dkX6_swap_0 32 rfl
theorem dX6_swap_57 : decode cX6_swap 57 = .ok (.aload_n 0, 1) := dget dkX6_swap_0 33 rfl
theorem dX6_swap_58 : decode cX6_swap 58 = .ok (.iload_n 1, 1) := dget dkX6_swap_0 34 rfl
theorem dX6_swap_59 : decode cX6_swap 59 = .ok (.iload_n 2, 1) := dget dkX6_swap_0 35 rfl
theorem dX6_swap_60 : decode cX6_swap 60 = .ok (.iload_n 3, 1) := dget dkX6_swap_0 36 rfl
theorem dX6_swap_61 : decode cX6_swap 61 = .ok (.invokevirtual 82, 3) := dget dkX6_swap_0 37 rfl
theorem dX6_swap_64 : decode cX6_swap 64 = .ok (.aload_n 0, 1) := dget dkX6_swap_0 38 rfl
theorem dX6_swap_65 : decode cX6_swap 65 = .ok (.getfield 11, 3) := dget dkX6_swap_0 39 rfl
theorem dkX6_swap_1 : ([(68, (.iload_n 1, 1)), (69, (.aaload, 1)), (70, (.iload_n 2, 1)), (71, (.iaload, 1)), (72, (.aload_n 0, 1)), (73, (.getfield 11, 3)), (76, (.iload_n 1, 1)), (77, (.aaload, 1)), (78, (.iload_n 3, 1)), (79, (.iaload, 1)), (80, (.if_icmp .eq 7, 3)), (83, (.iconst 1, 1)), (84, (.goto 4, 3)), (87, (.iconst 0, 1)), (88, (.ireturn, 1))] : List (Nat × (Jvm.ClassFile.Instr × Nat))).all (dcB cX6_swap) = true := by decide +kernel
theorem dX6_swap_68 : decode cX6_swap 68 = .ok (.iload_n 1, 1) := dget dkX6_swap_1 0 rfl
theorem dX6_swap_69 : decode cX6_swap 69 = .ok (.aaload, 1) := dget dkX6_swap_1 1 rfl
theorem dX6_swap_70 : decode cX6_swap 70 = .ok (.iload_n 2, 1) := dget dkX6_swap_1 2 rfl
theorem dX6_swap_71 : decode cX6_swap 71 = .ok (.iaload, 1) := dget dkX6_swap_1 3 rfl
theorem dX6_swap_72 : decode cX6_swap 72 = .ok (.aload_n 0, 1) := dget dkX6_swap_1 4 rfl
theorem dX6_swap_73 : decode cX6_swap 73 = .ok (.getfield 11, 3) := dget dkX6_swap_1 5 rfl
theorem dX6_swap_76 : decode cX6_swap 76 = .ok (.iload_n 1, 1) := dget dkX6_swap_1 6 rfl
theorem dX6_swap_77 : decode cX6_swap 77 = .ok (.aaload, 1) := dget dkX6_swap_1 7 rfl
theorem dX6_swap_78 : decode cX6_swap 78 = .ok (.iload_n 3, 1) := dget dkX6_swap_1 8 rfl
theorem dX6_swap_79 : decode cX6_swap 79 = .ok (.iaload, 1) := dget dkX6_swap_1 9 rfl
theorem dX6_swap_80 : decode cX6_swap 80 = .ok (.if_icmp .eq 7, 3) := dget dkX6_swap_1 10 rfl
theorem dX6_swap_83 : decode cX6_swap 83 = .ok (.iconst 1, 1) := dget dkX6_swap_1 11 rfl
theorem dX6_swap_84 : decode cX6_swap 84 = .ok (.goto 4, 3) := dget dkX6_swap_1 12 rfl
theorem dX6_swap_87 : decode cX6_swap 87 = .ok (.iconst 0, 1) := dget dkX6_swap_1 13 rfl
theorem dX6_swap_88 : decode cX6_swap 88 = .ok (.ireturn, 1) := dget dkX6_swap_1 14 rfl
theorem ggX6_sorted_X6_compareNow : GoodIn wsX6_sorted wsX6_compareNow := tgCall 723 e_X6_compareNow (by decide +kernel)
theorem gX6_sorted_X6_compareNow : GoodIn wsX6_sorted (wsV RX6 51 RX6 yX6_compareNow wsX6_compareNow) := goodIn_app (tgIn [720, 721, 722, 684] (by decide +kernel) rfl) ggX6_sorted_X6_compareNow
theorem ggX6_sorted_X6_change : GoodIn wsX6_sorted wsX6_change := tgCall 733 e_X6_change (by decide +kernel)
theorem gX6_sorted_X6_change : GoodIn wsX6_sorted (wsV RX6 82 RX6 yX6_change wsX6_change) := goodIn_app (tgIn [730, 731, 732, 684] (by decide +kernel) rfl) ggX6_sorted_X6_change
theorem dkX6_sorted_0 : ([(2, (.newarray .int, 2))] : List (Nat × (Jvm.ClassFile.Instr × Nat))).all (dcB cX6_sorted) = true := by decide +kernel
theorem dX6_sorted_2 : decode cX6_sorted 2 = .ok (.newarray .int, 2) := dget dkX6_sorted_0 0 rfl
def dvX6_sorted_1 : List UInt8 := [16, 12, 188, 10, 58, 5, 29, 54, 6, 21, 6, 21, 4, 162, 0, 23, 25, 5, 21, 6, 42, 180, 0, 14, 27, 50, 21, 6, 46, 79, 132, 6, 1, 167, 255, 232, 29, 54, 6, 21, 6, 21, 4, 162, 0, 66, 29, 54, 7, 21, 7, 4, 96, 21, 4, 162, 0, 48, 42, 28]
theorem dwX6_sorted_1 : (cX6_sorted.data.toList.drop 0).take dvX6_sorted_1.length = dvX6_sorted_1 := by decide +kernel
theorem dkX6_sorted_1 : ([(0, (.bipush 12, 2)), (4, (.astore 5, 2)), (6, (.iload_n 3, 1)), (7, (.istore 6, 2)), (9, (.iload 6, 2)), (11, (.iload 4, 2)), (13, (.if_icmp .ge 23, 3)), (16, (.aload 5, 2)), (18, (.iload 6, 2)), (20, (.aload_n 0, 1)), (21, (.getfield 14, 3)), (24, (.iload_n 1, 1)), (25, (.aaload, 1)), (26, (.iload 6, 2)), (28, (.iaload, 1)), (29, (.iastore, 1)), (30, (.iinc 6 1, 3)), (33, (.goto (-24), 3)), (36, (.iload_n 3, 1)), (37, (.istore 6, 2)), (39, (.iload 6, 2)), (41, (.iload 4, 2)), (43, (.if_icmp .ge 66, 3)), (46, (.iload_n 3, 1)), (47, (.istore 7, 2)), (49, (.iload 7, 2)), (51, (.iconst 1, 1)), (52, (.iadd, 1)), (53, (.iload 4, 2)), (55, (.if_icmp .ge 48, 3)), (58, (.aload_n 0, 1)), (59, (.iload_n 2, 1))] : List (Nat × (Jvm.ClassFile.Instr × Nat))).all (wnL dvX6_sorted_1 0) = true := by decide +kernel
theorem dX6_sorted_0 : decode cX6_sorted 0 = .ok (.bipush 12, 2) := wnGet dwX6_sorted_1 dkX6_sorted_1 0 rfl
theorem dX6_sorted_4 : decode cX6_sorted 4 = .ok (.astore 5, 2) := wnGet dwX6_sorted_1 dkX6_sorted_1 1 rfl
theorem dX6_sorted_6 : decode cX6_sorted 6 = .ok (.iload_n 3, 1) := wnGet dwX6_sorted_1 dkX6_sorted_1 2 rfl
theorem dX6_sorted_7 : decode cX6_sorted 7 = .ok (.istore 6, 2) := wnGet dwX6_sorted_1 dkX6_sorted_1 3 rfl
theorem dX6_sorted_9 : decode cX6_sorted 9 = .ok (.iload 6, 2) := wnGet dwX6_sorted_1 dkX6_sorted_1 4 rfl
theorem dX6_sorted_11 : decode cX6_sorted 11 = .ok (.iload 4, 2) := wnGet dwX6_sorted_1 dkX6_sorted_1 5 rfl
theorem dX6_sorted_13 : decode cX6_sorted 13 = .ok (.if_icmp .ge 23, 3) := wnGet dwX6_sorted_1 dkX6_sorted_1 6 rfl
theorem dX6_sorted_16 : decode cX6_sorted 16 = .ok (.aload 5, 2) := wnGet dwX6_sorted_1 dkX6_sorted_1 7 rfl
theorem dX6_sorted_18 : decode cX6_sorted 18 = .ok (.iload 6, 2) := wnGet dwX6_sorted_1 dkX6_sorted_1 8 rfl
theorem dX6_sorted_20 : decode cX6_sorted 20 = .ok (.aload_n 0, 1) := wnGet dwX6_sorted_1 dkX6_sorted_1 9 rfl
theorem dX6_sorted_21 : decode cX6_sorted 21 = .ok (.getfield 14, 3) := wnGet dwX6_sorted_1 dkX6_sorted_1 10 rfl
theorem dX6_sorted_24 : decode cX6_sorted 24 = .ok (.iload_n 1, 1) := wnGet dwX6_sorted_1 dkX6_sorted_1 11 rfl
theorem dX6_sorted_25 : decode cX6_sorted 25 = .ok (.aaload, 1) := wnGet dwX6_sorted_1 dkX6_sorted_1 12 rfl
theorem dX6_sorted_26 : decode cX6_sorted 26 = .ok (.iload 6, 2) := wnGet dwX6_sorted_1 dkX6_sorted_1 13 rfl
theorem dX6_sorted_28 : decode cX6_sorted 28 = .ok (.iaload, 1) := wnGet dwX6_sorted_1 dkX6_sorted_1 14 rfl
theorem dX6_sorted_29 : decode cX6_sorted 29 = .ok (.iastore, 1) := wnGet dwX6_sorted_1 dkX6_sorted_1 15 rfl
theorem dX6_sorted_30 : decode cX6_sorted 30 = .ok (.iinc 6 1, 3) := wnGet dwX6_sorted_1 dkX6_sorted_1 16 rfl
theorem dX6_sorted_33 : decode cX6_sorted 33 = .ok (.goto (-24), 3) := wnGet dwX6_sorted_1 dkX6_sorted_1 17 rfl
theorem dX6_sorted_36 : decode cX6_sorted 36 = .ok (.iload_n 3, 1) := wnGet dwX6_sorted_1 dkX6_sorted_1 18 rfl
theorem dX6_sorted_37 : decode cX6_sorted 37 = .ok (.istore 6, 2) := wnGet dwX6_sorted_1 dkX6_sorted_1 19 rfl
theorem dX6_sorted_39 : decode cX6_sorted 39 = .ok (.iload 6, 2) := wnGet dwX6_sorted_1 dkX6_sorted_1 20 rfl
theorem dX6_sorted_41 : decode cX6_sorted 41 = .ok (.iload 4, 2) := wnGet dwX6_sorted_1 dkX6_sorted_1 21 rfl
theorem dX6_sorted_43 : decode cX6_sorted 43 = .ok (.if_icmp .ge 66, 3) := wnGet dwX6_sorted_1 dkX6_sorted_1 22 rfl
theorem dX6_sorted_46 : decode cX6_sorted 46 = .ok (.iload_n 3, 1) := wnGet dwX6_sorted_1 dkX6_sorted_1 23 rfl
theorem dX6_sorted_47 : decode cX6_sorted 47 = .ok (.istore 7, 2) := wnGet dwX6_sorted_1 dkX6_sorted_1 24 rfl
theorem dX6_sorted_49 : decode cX6_sorted 49 = .ok (.iload 7, 2) := wnGet dwX6_sorted_1 dkX6_sorted_1 25 rfl
theorem dX6_sorted_51 : decode cX6_sorted 51 = .ok (.iconst 1, 1) := wnGet dwX6_sorted_1 dkX6_sorted_1 26 rfl
theorem dX6_sorted_52 : decode cX6_sorted 52 = .ok (.iadd, 1) := wnGet dwX6_sorted_1 dkX6_sorted_1 27 rfl
theorem dX6_sorted_53 : decode cX6_sorted 53 = .ok (.iload 4, 2) := wnGet dwX6_sorted_1 dkX6_sorted_1 28 rfl
theorem dX6_sorted_55 : decode cX6_sorted 55 = .ok (.if_icmp .ge 48, 3) := wnGet dwX6_sorted_1 dkX6_sorted_1 29 rfl
theorem dX6_sorted_58 : decode cX6_sorted 58 = .ok (.aload_n 0, 1) := wnGet dwX6_sorted_1 dkX6_sorted_1 30 rfl
theorem dX6_sorted_59 : decode cX6_sorted 59 = .ok (.iload_n 2, 1) := wnGet dwX6_sorted_1 dkX6_sorted_1 31 rfl
def dvX6_sorted_2 : List UInt8 := [42, 180, 0, 11, 27, 50, 21, 7, 4, 96, 46, 42, 180, 0, 11, 27, 50, 21, 7, 46, 182, 0, 51, 156, 0, 14, 42, 27, 21, 7, 21, 7, 4, 96, 182, 0, 82, 132, 7, 1, 167, 255, 205, 132, 6, 1, 167, 255, 189, 3, 54, 6, 29, 54, 7, 21, 7]
theorem dwX6_sorted_2 : (cX6_sorted.data.toList.drop 60).take dvX6_sorted_2.length = dvX6_sorted_2 := by decide +kernel
theorem dkX6_sorted_2 : ([(60, (.aload_n 0, 1)), (61, (.getfield 11, 3)), (64, (.iload_n 1, 1)), (65, (.aaload, 1)), (66, (.iload 7, 2)), (68, (.iconst 1, 1)), (69, (.iadd, 1)), (70, (.iaload, 1)), (71, (.aload_n 0, 1)), (72, (.getfield 11, 3)), (75, (.iload_n 1, 1)), (76, (.aaload, 1)), (77, (.iload 7, 2)), (79, (.iaload, 1)), (80, (.invokevirtual 51, 3)), (83, (.ifCond .ge 14, 3)), (86, (.aload_n 0, 1)), (87, (.iload_n 1, 1)), (88, (.iload 7, 2)), (90, (.iload 7, 2)), (92, (.iconst 1, 1)), (93, (.iadd, 1)), (94, (.invokevirtual 82, 3)), (97, (.iinc 7 1, 3)), (100, (.goto (-51), 3)), (103, (.iinc 6 1, 3)), (106, (.goto (-67), 3)), (109, (.iconst 0, 1)), (110, (.istore 6, 2)), (112, (.iload_n 3, 1)), (113, (.istore 7, 2)), (115, (.iload 7, 2))] : List (Nat × (Jvm.ClassFile.Instr × Nat))).all (wnL dvX6_sorted_2 60) = true := by decide +kernel
theorem dX6_sorted_60 : decode cX6_sorted 60 = .ok (.aload_n 0, 1) := wnGet dwX6_sorted_2 dkX6_sorted_2 0 rfl
theorem dX6_sorted_61 : decode cX6_sorted 61 = .ok (.getfield 11, 3) := wnGet dwX6_sorted_2 dkX6_sorted_2 1 rfl
theorem dX6_sorted_64 : decode cX6_sorted 64 = .ok (.iload_n 1, 1) := wnGet dwX6_sorted_2 dkX6_sorted_2 2 rfl
theorem dX6_sorted_65 : decode cX6_sorted 65 = .ok (.aaload, 1) := wnGet dwX6_sorted_2 dkX6_sorted_2 3 rfl
theorem dX6_sorted_66 : decode cX6_sorted 66 = .ok (.iload 7, 2) := wnGet dwX6_sorted_2 dkX6_sorted_2 4 rfl
theorem dX6_sorted_68 : decode cX6_sorted 68 = .ok (.iconst 1, 1) := wnGet dwX6_sorted_2 dkX6_sorted_2 5 rfl
theorem dX6_sorted_69 : decode cX6_sorted 69 = .ok (.iadd, 1) := wnGet dwX6_sorted_2 dkX6_sorted_2 6 rfl
theorem dX6_sorted_70 : decode cX6_sorted 70 = .ok (.iaload, 1) := wnGet dwX6_sorted_2 dkX6_sorted_2 7 rfl
theorem dX6_sorted_71 : decode cX6_sorted 71 = .ok (.aload_n 0, 1) := wnGet dwX6_sorted_2 dkX6_sorted_2 8 rfl
theorem dX6_sorted_72 : decode cX6_sorted 72 = .ok (.getfield 11, 3) := wnGet dwX6_sorted_2 dkX6_sorted_2 9 rfl
theorem dX6_sorted_75 : decode cX6_sorted 75 = .ok (.iload_n 1, 1) := wnGet dwX6_sorted_2 dkX6_sorted_2 10 rfl
theorem dX6_sorted_76 : decode cX6_sorted 76 = .ok (.aaload, 1) := wnGet dwX6_sorted_2 dkX6_sorted_2 11 rfl
theorem dX6_sorted_77 : decode cX6_sorted 77 = .ok (.iload 7, 2) := wnGet dwX6_sorted_2 dkX6_sorted_2 12 rfl
theorem dX6_sorted_79 : decode cX6_sorted 79 = .ok (.iaload, 1) := wnGet dwX6_sorted_2 dkX6_sorted_2 13 rfl
theorem dX6_sorted_80 : decode cX6_sorted 80 = .ok (.invokevirtual 51, 3) := wnGet dwX6_sorted_2 dkX6_sorted_2 14 rfl
theorem dX6_sorted_83 : decode cX6_sorted 83 = .ok (.ifCond .ge 14, 3) := wnGet dwX6_sorted_2 dkX6_sorted_2 15 rfl
theorem dX6_sorted_86 : decode cX6_sorted 86 = .ok (.aload_n 0, 1) := wnGet dwX6_sorted_2 dkX6_sorted_2 16 rfl
theorem dX6_sorted_87 : decode cX6_sorted 87 = .ok (.iload_n 1, 1) := wnGet dwX6_sorted_2 dkX6_sorted_2 17 rfl
theorem dX6_sorted_88 : decode cX6_sorted 88 = .ok (.iload 7, 2) := wnGet dwX6_sorted_2 dkX6_sorted_2 18 rfl
theorem dX6_sorted_90 : decode cX6_sorted 90 = .ok (.iload 7, 2) := wnGet dwX6_sorted_2 dkX6_sorted_2 19 rfl
theorem dX6_sorted_92 : decode cX6_sorted 92 = .ok (.iconst 1, 1) := wnGet dwX6_sorted_2 dkX6_sorted_2 20 rfl
theorem dX6_sorted_93 : decode cX6_sorted 93 = .ok (.iadd, 1) := wnGet dwX6_sorted_2 dkX6_sorted_2 21 rfl
theorem dX6_sorted_94 : decode cX6_sorted 94 = .ok (.invokevirtual 82, 3) := wnGet dwX6_sorted_2 dkX6_sorted_2 22 rfl
theorem dX6_sorted_97 : decode cX6_sorted 97 = .ok (.iinc 7 1, 3) := wnGet dwX6_sorted_2 dkX6_sorted_2 23 rfl
theorem dX6_sorted_100 : decode cX6_sorted 100 = .ok (.goto (-51), 3) := wnGet dwX6_sorted_2 dkX6_sorted_2 24 rfl
theorem dX6_sorted_103 : decode cX6_sorted 103 = .ok (.iinc 6 1, 3) := wnGet dwX6_sorted_2 dkX6_sorted_2 25 rfl
theorem dX6_sorted_106 : decode cX6_sorted 106 = .ok (.goto (-67), 3) := wnGet dwX6_sorted_2 dkX6_sorted_2 26 rfl
theorem dX6_sorted_109 : decode cX6_sorted 109 = .ok (.iconst 0, 1) := wnGet dwX6_sorted_2 dkX6_sorted_2 27 rfl
theorem dX6_sorted_110 : decode cX6_sorted 110 = .ok (.istore 6, 2) := wnGet dwX6_sorted_2 dkX6_sorted_2 28 rfl
theorem dX6_sorted_112 : decode cX6_sorted 112 = .ok (.iload_n 3, 1) := wnGet dwX6_sorted_2 dkX6_sorted_2 29 rfl
theorem dX6_sorted_113 : decode cX6_sorted 113 = .ok (.istore 7, 2) := wnGet dwX6_sorted_2 dkX6_sorted_2 30 rfl
theorem dX6_sorted_115 : decode cX6_sorted 115 = .ok (.iload 7, 2) := wnGet dwX6_sorted_2 dkX6_sorted_2 31 rfl
def dvX6_sorted_3 : List UInt8 := [21, 4, 162, 0, 36, 21, 6, 42, 180, 0, 14, 27, 50, 21, 7, 46, 25, 5, 21, 7, 46, 159, 0, 7, 4, 167, 0, 4, 3, 96, 54, 6, 132, 7, 1, 167, 255, 219, 21, 6, 172]
theorem dwX6_sorted_3 : (cX6_sorted.data.toList.drop 117).take dvX6_sorted_3.length = dvX6_sorted_3 := by decide +kernel
theorem dkX6_sorted_3 : ([(117, (.iload 4, 2)), (119, (.if_icmp .ge 36, 3)), (122, (.iload 6, 2)), (124, (.aload_n 0, 1)), (125, (.getfield 14, 3)), (128, (.iload_n 1, 1)), (129, (.aaload, 1)), (130, (.iload 7, 2)), (132, (.iaload, 1)), (133, (.aload 5, 2)), (135, (.iload 7, 2)), (137, (.iaload, 1)), (138, (.if_icmp .eq 7, 3)), (141, (.iconst 1, 1)), (142, (.goto 4, 3)), (145, (.iconst 0, 1)), (146, (.iadd, 1)), (147, (.istore 6, 2)), (149, (.iinc 7 1, 3)), (152, (.goto (-37), 3)), (155, (.iload 6, 2)), (157, (.ireturn, 1))] : List (Nat × (Jvm.ClassFile.Instr × Nat))).all (wnL dvX6_sorted_3 117) = true := by decide +kernel
theorem dX6_sorted_117 : decode cX6_sorted 117 = .ok (.iload 4, 2) := wnGet dwX6_sorted_3 dkX6_sorted_3 0 rfl
theorem dX6_sorted_119 : decode cX6_sorted 119 = .ok (.if_icmp .ge 36, 3) := wnGet dwX6_sorted_3 dkX6_sorted_3 1 rfl
theorem dX6_sorted_122 : decode cX6_sorted 122 = .ok (.iload 6, 2) := wnGet dwX6_sorted_3 dkX6_sorted_3 2 rfl
theorem dX6_sorted_124 : decode cX6_sorted 124 = .ok (.aload_n 0, 1) := wnGet dwX6_sorted_3 dkX6_sorted_3 3 rfl
theorem dX6_sorted_125 : decode cX6_sorted 125 = .ok (.getfield 14, 3) := wnGet dwX6_sorted_3 dkX6_sorted_3 4 rfl
theorem dX6_sorted_128 : decode cX6_sorted 128 = .ok (.iload_n 1, 1) := wnGet dwX6_sorted_3 dkX6_sorted_3 5 rfl
theorem dX6_sorted_129 : decode cX6_sorted 129 = .ok (.aaload, 1) := wnGet dwX6_sorted_3 dkX6_sorted_3 6 rfl
theorem dX6_sorted_130 : decode cX6_sorted 130 = .ok (.iload 7, 2) := wnGet dwX6_sorted_3 dkX6_sorted_3 7 rfl
theorem dX6_sorted_132 : decode cX6_sorted 132 = .ok (.iaload, 1) := wnGet dwX6_sorted_3 dkX6_sorted_3 8 rfl
theorem dX6_sorted_133 : decode cX6_sorted 133 = .ok (.aload 5, 2) := wnGet dwX6_sorted_3 dkX6_sorted_3 9 rfl
theorem dX6_sorted_135 : decode cX6_sorted 135 = .ok (.iload 7, 2) := wnGet dwX6_sorted_3 dkX6_sorted_3 10 rfl
theorem dX6_sorted_137 : decode cX6_sorted 137 = .ok (.iaload, 1) := wnGet dwX6_sorted_3 dkX6_sorted_3 11 rfl
theorem dX6_sorted_138 : decode cX6_sorted 138 = .ok (.if_icmp .eq 7, 3) := wnGet dwX6_sorted_3 dkX6_sorted_3 12 rfl
theorem dX6_sorted_141 : decode cX6_sorted 141 = .ok (.iconst 1, 1) := wnGet dwX6_sorted_3 dkX6_sorted_3 13 rfl
theorem dX6_sorted_142 : decode cX6_sorted 142 = .ok (.goto 4, 3) := wnGet dwX6_sorted_3 dkX6_sorted_3 14 rfl
theorem dX6_sorted_145 : decode cX6_sorted 145 = .ok (.iconst 0, 1) := wnGet dwX6_sorted_3 dkX6_sorted_3 15 rfl
theorem dX6_sorted_146 : decode cX6_sorted 146 = .ok (.iadd, 1) := wnGet dwX6_sorted_3 dkX6_sorted_3 16 rfl
theorem dX6_sorted_147 : decode cX6_sorted 147 = .ok (.istore 6, 2) := wnGet dwX6_sorted_3 dkX6_sorted_3 17 rfl
theorem dX6_sorted_149 : decode cX6_sorted 149 = .ok (.iinc 7 1, 3) := wnGet dwX6_sorted_3 dkX6_sorted_3 18 rfl
theorem dX6_sorted_152 : decode cX6_sorted 152 = .ok (.goto (-37), 3) := wnGet dwX6_sorted_3 dkX6_sorted_3 19 rfl
theorem dX6_sorted_155 : decode cX6_sorted 155 = .ok (.iload 6, 2) := wnGet dwX6_sorted_3 dkX6_sorted_3 20 rfl
theorem dX6_sorted_157 : decode cX6_sorted 157 = .ok (.ireturn, 1) := wnGet dwX6_sorted_3 dkX6_sorted_3 21 rfl
theorem ggX6_sort_X6_isNoRow : GoodIn wsX6_sort wsX6_isNoRow := tgCall 685 e_X6_isNoRow (by decide +kernel)
theorem gX6_sort_X6_isNoRow : GoodIn wsX6_sort (va_wsS RX6 65 yX6_isNoRow wsX6_isNoRow) := goodIn_app (tgIn [682, 683, 684] (by decide +kernel) rfl) ggX6_sort_X6_isNoRow
theorem ggX6_sort_X6_isNoOrder : GoodIn wsX6_sort wsX6_isNoOrder := tgCall 715 e_X6_isNoOrder (by decide +kernel)
theorem gX6_sort_X6_isNoOrder : GoodIn wsX6_sort (va_wsS RX6 86 yX6_isNoOrder wsX6_isNoOrder) := goodIn_app (tgIn [713, 714, 684] (by decide +kernel) rfl) ggX6_sort_X6_isNoOrder
theorem ggX6_sort_X6_start : GoodIn wsX6_sort wsX6_start := tgCall 692 e_X6_start (by decide +kernel)
theorem gX6_sort_X6_start : GoodIn wsX6_sort (wsV RX6 69 RX6 yX6_start wsX6_start) := goodIn_app (tgIn [689, 690, 691, 684] (by decide +kernel) rfl) ggX6_sort_X6_start
theorem ggX6_sort_X6_isNo : GoodIn wsX6_sort wsX6_isNo := tgCall 688 e_X6_isNo (by decide +kernel)
theorem gX6_sort_X6_isNo : GoodIn wsX6_sort (va_wsS RX6 40 yX6_isNo wsX6_isNo) := goodIn_app (tgIn [686, 687, 684] (by decide +kernel) rfl) ggX6_sort_X6_isNo
theorem ggX6_sort_X6_refuse : GoodIn wsX6_sort wsX6_refuse := tgCall 697 e_X6_refuse (by decide +kernel)
theorem gX6_sort_X6_refuse : GoodIn wsX6_sort (wsV RX6 36 RX6 yX6_refuse wsX6_refuse) := goodIn_app (tgIn [694, 695, 696, 684] (by decide +kernel) rfl) ggX6_sort_X6_refuse
theorem ggX6_sort_X6_sorted : GoodIn wsX6_sort wsX6_sorted := tgCall 719 e_X6_sorted (by decide +kernel)
theorem gX6_sort_X6_sorted : GoodIn wsX6_sort (wsV RX6 89 RX6 yX6_sorted wsX6_sorted) := goodIn_app (tgIn [716, 717, 718, 684] (by decide +kernel) rfl) ggX6_sort_X6_sorted
theorem dkX6_sort_0 : ([(0, (.aload_n 0, 1)), (1, (.iload_n 1, 1)), (2, (.invokestatic 65, 3)), (5, (.ifCond .ne 10, 3)), (8, (.iload_n 2, 1)), (9, (.invokestatic 86, 3)), (12, (.ifCond .eq 7, 3)), (15, (.iconst 1, 1)), (16, (.goto 4, 3)), (19, (.iconst 0, 1)), (20, (.iconst 1, 1)), (21, (.invokevirtual 69, 3)), (24, (.ifCond .ne 16, 3)), (27, (.aload_n 0, 1)), (28, (.iload_n 3, 1)), (29, (.iconst 2, 1)), (30, (.invokestatic 40, 3)), (33, (.iconst 2, 1)), (34, (.invokevirtual 36, 3)), (37, (.ifCond .eq 5, 3)), (40, (.iconst 0, 1)), (41, (.ireturn, 1)), (42, (.aload_n 0, 1)), (43, (.iload_n 1, 1)), (44, (.iload_n 2, 1)), (45, (.iconst 0, 1)), (46, (.aload_n 0, 1)), (47, (.getfield 17, 3)), (50, (.iload_n 1, 1)), (51, (.iaload, 1)), (52, (.invokevirtual 89, 3)), (55, (.ireturn, 1))] : List (Nat × (Jvm.ClassFile.Instr × Nat))).all (dcB cX6_sort) = true := by decide +kernel
theorem dX6_sort_0 : decode cX6_sort 0 = .ok (.aload_n 0, 1) := dget dkX6_sort_0 0 rfl
theorem dX6_sort_1 : decode cX6_sort 1 = .ok (.iload_n 1, 1) := dget dkX6_sort_0 1 rfl
theorem dX6_sort_2 : decode cX6_sort 2 = .ok (.invokestatic 65, 3) := dget dkX6_sort_0 2 rfl
theorem dX6_sort_5 : decode cX6_sort 5 = .ok (.ifCond .ne 10, 3) := dget dkX6_sort_0 3 rfl
theorem dX6_sort_8 : decode cX6_sort 8 = .ok (.iload_n 2, 1) := dget dkX6_sort_0 4 rfl
theorem dX6_sort_9 : decode cX6_sort 9 = .ok (.invokestatic 86, 3) := dget dkX6_sort_0 5 rfl
theorem dX6_sort_12 : decode cX6_sort 12 = .ok (.ifCond .eq 7, 3) := dget dkX6_sort_0 6 rfl
theorem dX6_sort_15 : decode cX6_sort 15 = .ok (.iconst 1, 1) := dget dkX6_sort_0 7 rfl
theorem dX6_sort_16 : decode cX6_sort 16 = .ok (.goto 4, 3) := dget dkX6_sort_0 8 rfl
theorem dX6_sort_19 : decode cX6_sort 19 = .ok (.iconst 0, 1) := dget dkX6_sort_0 9 rfl
theorem dX6_sort_20 : decode cX6_sort 20 = .ok (.iconst 1, 1) := dget dkX6_sort_0 10 rfl
theorem dX6_sort_21 : decode cX6_sort 21 = .ok (.invokevirtual 69, 3) := dget dkX6_sort_0 11 rfl
theorem dX6_sort_24 : decode cX6_sort 24 = .ok (.ifCond .ne 16, 3) := dget dkX6_sort_0 12 rfl
theorem dX6_sort_27 : decode cX6_sort 27 = .ok (.aload_n 0, 1) := dget dkX6_sort_0 13 rfl
theorem dX6_sort_28 : decode cX6_sort 28 = .ok (.iload_n 3, 1) := dget dkX6_sort_0 14 rfl
theorem dX6_sort_29 : decode cX6_sort 29 = .ok (.iconst 2, 1) := dget dkX6_sort_0 15 rfl
theorem dX6_sort_30 : decode cX6_sort 30 = .ok (.invokestatic 40, 3) := dget dkX6_sort_0 16 rfl
theorem dX6_sort_33 : decode cX6_sort 33 = .ok (.iconst 2, 1) := dget dkX6_sort_0 17 rfl
theorem dX6_sort_34 : decode cX6_sort 34 = .ok (.invokevirtual 36, 3) := dget dkX6_sort_0 18 rfl
theorem dX6_sort_37 : decode cX6_sort 37 = .ok (.ifCond .eq 5, 3) := dget dkX6_sort_0 19 rfl
theorem dX6_sort_40 : decode cX6_sort 40 = .ok (.iconst 0, 1) := dget dkX6_sort_0 20 rfl
theorem dX6_sort_41 : decode cX6_sort 41 = .ok (.ireturn, 1) := dget dkX6_sort_0 21 rfl
theorem dX6_sort_42 : decode cX6_sort 42 = .ok (.aload_n 0, 1) := dget dkX6_sort_0 22 rfl
theorem dX6_sort_43 : decode cX6_sort 43 = .ok (.iload_n 1, 1) := dget dkX6_sort_0 23 rfl
theorem dX6_sort_44 : decode cX6_sort 44 = .ok (.iload_n 2, 1) := dget dkX6_sort_0 24 rfl
theorem dX6_sort_45 : decode cX6_sort 45 = .ok (.iconst 0, 1) := dget dkX6_sort_0 25 rfl
theorem dX6_sort_46 : decode cX6_sort 46 = .ok (.aload_n 0, 1) := dget dkX6_sort_0 26 rfl
theorem dX6_sort_47 : decode cX6_sort 47 = .ok (.getfield 17, 3) := dget dkX6_sort_0 27 rfl
theorem dX6_sort_50 : decode cX6_sort 50 = .ok (.iload_n 1, 1) := dget dkX6_sort_0 28 rfl
theorem dX6_sort_51 : decode cX6_sort 51 = .ok (.iaload, 1) := dget dkX6_sort_0 29 rfl
theorem dX6_sort_52 : decode cX6_sort 52 = .ok (.invokevirtual 89, 3) := dget dkX6_sort_0 30 rfl
theorem dX6_sort_55 : decode cX6_sort 55 = .ok (.ireturn, 1) := dget dkX6_sort_0 31 rfl
theorem ggX6_sortPart_X6_isNoRow : GoodIn wsX6_sortPart wsX6_isNoRow := tgCall 685 e_X6_isNoRow (by decide +kernel)
theorem gX6_sortPart_X6_isNoRow : GoodIn wsX6_sortPart (va_wsS RX6 65 yX6_isNoRow wsX6_isNoRow) := goodIn_app (tgIn [682, 683, 684] (by decide +kernel) rfl) ggX6_sortPart_X6_isNoRow
theorem ggX6_sortPart_X6_isNoOrder : GoodIn wsX6_sortPart wsX6_isNoOrder := tgCall 715 e_X6_isNoOrder (by decide +kernel)
theorem gX6_sortPart_X6_isNoOrder : GoodIn wsX6_sortPart (va_wsS RX6 86 yX6_isNoOrder wsX6_isNoOrder) := goodIn_app (tgIn [713, 714, 684] (by decide +kernel) rfl) ggX6_sortPart_X6_isNoOrder
theorem ggX6_sortPart_X6_start : GoodIn wsX6_sortPart wsX6_start := tgCall 692 e_X6_start (by decide +kernel)
theorem gX6_sortPart_X6_start : GoodIn wsX6_sortPart (wsV RX6 69 RX6 yX6_start wsX6_start) := goodIn_app (tgIn [689, 690, 691, 684] (by decide +kernel) rfl) ggX6_sortPart_X6_start
theorem ggX6_sortPart_X6_isNo : GoodIn wsX6_sortPart wsX6_isNo := tgCall 688 e_X6_isNo (by decide +kernel)
theorem gX6_sortPart_X6_isNo : GoodIn wsX6_sortPart (va_wsS RX6 40 yX6_isNo wsX6_isNo) := goodIn_app (tgIn [686, 687, 684] (by decide +kernel) rfl) ggX6_sortPart_X6_isNo
theorem ggX6_sortPart_X6_refuse : GoodIn wsX6_sortPart wsX6_refuse := tgCall 697 e_X6_refuse (by decide +kernel)
theorem gX6_sortPart_X6_refuse : GoodIn wsX6_sortPart (wsV RX6 36 RX6 yX6_refuse wsX6_refuse) := goodIn_app (tgIn [694, 695, 696, 684] (by decide +kernel) rfl) ggX6_sortPart_X6_refuse
theorem ggX6_sortPart_X6_sorted : GoodIn wsX6_sortPart wsX6_sorted := tgCall 719 e_X6_sorted (by decide +kernel)
theorem gX6_sortPart_X6_sorted : GoodIn wsX6_sortPart (wsV RX6 89 RX6 yX6_sorted wsX6_sorted) := goodIn_app (tgIn [716, 717, 718, 684] (by decide +kernel) rfl) ggX6_sortPart_X6_sorted
theorem dkX6_sortPart_0 : ([(0, (.aload_n 0, 1)), (1, (.iload_n 1, 1)), (2, (.invokestatic 65, 3)), (5, (.ifCond .ne 10, 3)), (8, (.iload_n 2, 1)), (9, (.invokestatic 86, 3)), (12, (.ifCond .eq 7, 3)), (15, (.iconst 1, 1)), (16, (.goto 4, 3)), (19, (.iconst 0, 1)), (20, (.iconst 1, 1)), (21, (.invokevirtual 69, 3)), (24, (.ifCond .ne 62, 3)), (27, (.aload_n 0, 1)), (28, (.iload_n 3, 1)), (29, (.aload_n 0, 1)), (30, (.getfield 17, 3)), (33, (.iload_n 1, 1)), (34, (.iaload, 1)), (35, (.invokestatic 40, 3)), (38, (.ifCond .ne 17, 3)), (41, (.iload 4, 2)), (43, (.aload_n 0, 1)), (44, (.getfield 17, 3)), (47, (.iload_n 1, 1)), (48, (.iaload, 1)), (49, (.invokestatic 40, 3)), (52, (.ifCond .eq 7, 3)), (55, (.iconst 1, 1)), (56, (.goto 4, 3)), (59, (.iconst 0, 1)), (60, (.iconst 1, 1)), (61, (.invokevirtual 36, 3)), (64, (.ifCond .ne 22, 3)), (67, (.aload_n 0, 1)), (68, (.iload_n 3, 1)), (69, (.iload 4, 2)), (71, (.if_icmp .le 7, 3)), (74, (.iconst 1, 1)), (75, (.goto 4, 3))] : List (Nat × (Jvm.ClassFile.Instr × Nat))).all (dcB cX6_sortPart) = true := by decide +kernel
theorem dX6_sortPart_0 : decode cX6_sortPart 0 = .ok (.aload_n 0, 1) := dget dkX6_sortPart_0 0 rfl
theorem dX6_sortPart_1 : decode cX6_sortPart 1 = .ok (.iload_n 1, 1) := dget dkX6_sortPart_0 1 rfl
theorem dX6_sortPart_2 : decode cX6_sortPart 2 = .ok (.invokestatic 65, 3) := dget dkX6_sortPart_0 2 rfl
theorem dX6_sortPart_5 : decode cX6_sortPart 5 = .ok (.ifCond .ne 10, 3) := dget dkX6_sortPart_0 3 rfl
theorem dX6_sortPart_8 : decode cX6_sortPart 8 = .ok (.iload_n 2, 1) := dget dkX6_sortPart_0 4 rfl
theorem dX6_sortPart_9 : decode cX6_sortPart 9 = .ok (.invokestatic 86, 3) := dget dkX6_sortPart_0 5 rfl
theorem dX6_sortPart_12 : decode cX6_sortPart 12 = .ok (.ifCond .eq 7, 3) := dget dkX6_sortPart_0 6 rfl
theorem dX6_sortPart_15 : decode cX6_sortPart 15 = .ok (.iconst 1, 1) := dget dkX6_sortPart_0 7 rfl
theorem dX6_sortPart_16 : decode cX6_sortPart 16 = .ok (.goto 4, 3) := dget dkX6_sortPart_0 8 rfl
theorem dX6_sortPart_19 : decode cX6_sortPart 19 = .ok (.iconst 0, 1) := dget dkX6_sortPart_0 9 rfl
theorem dX6_sortPart_20 : decode cX6_sortPart 20 = .ok (.iconst 1, 1) := dget dkX6_sortPart_0 10 rfl
theorem dX6_sortPart_21 : decode cX6_sortPart 21 = .ok (.invokevirtual 69, 3) := dget dkX6_sortPart_0 11 rfl
theorem dX6_sortPart_24 : decode cX6_sortPart 24 = .ok (.ifCond .ne 62, 3) := dget dkX6_sortPart_0 12 rfl
theorem dX6_sortPart_27 : decode cX6_sortPart 27 = .ok (.aload_n 0, 1) := dget dkX6_sortPart_0 13 rfl
theorem dX6_sortPart_28 : decode cX6_sortPart 28 = .ok (.iload_n 3, 1) := dget dkX6_sortPart_0 14 rfl
theorem dX6_sortPart_29 : decode cX6_sortPart 29 = .ok (.aload_n 0, 1) := dget dkX6_sortPart_0 15 rfl
theorem dX6_sortPart_30 : decode cX6_sortPart 30 = .ok (.getfield 17, 3) := dget dkX6_sortPart_0 16 rfl
theorem dX6_sortPart_33 : decode cX6_sortPart 33 = .ok (.iload_n 1, 1) := dget dkX6_sortPart_0 17 rfl
theorem dX6_sortPart_34 : decode cX6_sortPart 34 = .ok (.iaload, 1) := dget dkX6_sortPart_0 18 rfl
theorem dX6_sortPart_35 : decode cX6_sortPart 35 = .ok (.invokestatic 40, 3) := dget dkX6_sortPart_0 19 rfl
theorem dX6_sortPart_38 : decode cX6_sortPart 38 = .ok (.ifCond .ne 17, 3) := dget dkX6_sortPart_0 20 rfl
theorem dX6_sortPart_41 : decode cX6_sortPart 41 = .ok (.iload 4, 2) := dget dkX6_sortPart_0 21 rfl
theorem dX6_sortPart_43 : decode cX6_sortPart 43 = .ok (.aload_n 0, 1) := dget dkX6_sortPart_0 22 rfl
theorem dX6_sortPart_44 : decode cX6_sortPart 44 = .ok (.getfield 17, 3) := dget dkX6_sortPart_0 23 rfl
theorem dX6_sortPart_47 : decode cX6_sortPart 47 = .ok (.iload_n 1, 1) := dget dkX6_sortPart_0 24 rfl
theorem dX6_sortPart_48 : decode cX6_sortPart 48 = .ok (.iaload, 1) := dget dkX6_sortPart_0 25 rfl
theorem dX6_sortPart_49 : decode cX6_sortPart 49 = .ok (.invokestatic 40, 3) := dget dkX6_sortPart_0 26 rfl
theorem dX6_sortPart_52 : decode cX6_sortPart 52 = .ok (.ifCond .eq 7, 3) := dget dkX6_sortPart_0 27 rfl
theorem dX6_sortPart_55 : decode cX6_sortPart 55 = .ok (.iconst 1, 1) := dget dkX6_sortPart_0 28 rfl
theorem dX6_sortPart_56 : decode cX6_sortPart 56 = .ok (.goto 4, 3) := dget dkX6_sortPart_0 29 rfl
theorem dX6_sortPart_59 : decode cX6_sortPart 59 = .ok (.iconst 0, 1) := dget dkX6_sortPart_0 30 rfl
theorem dX6_sortPart_60 : decode cX6_sortPart 60 = .ok (.iconst 1, 1) := dget dkX6_sortPart_0 31 rfl
theorem dX6_sortPart_61 : decode cX6_sortPart 61 = .ok (.invokevirtual 36, 3) := dget dkX6_sortPart_0 32 rfl
theorem dX6_sortPart_64 : decode cX6_sortPart 64 = .ok (.ifCond .ne 22, 3) := dget dkX6_sortPart_0 33 rfl
theorem dX6_sortPart_67 : decode cX6_sortPart 67 = .ok (.aload_n 0, 1) := dget dkX6_sortPart_0 34 rfl
theorem dX6_sortPart_68 : decode cX6_sortPart 68 = .ok (.iload_n 3, 1) := dget dkX6_sortPart_0 35 rfl
theorem dX6_sortPart_69 : decode cX6_sortPart 69 = .ok (.iload 4, 2) := dget dkX6_sortPart_0 36 rfl
theorem dX6_sortPart_71 : decode cX6_sortPart 71 = .ok (.if_icmp .le 7, 3) := dget dkX6_sortPart_0 37 rfl
theorem dX6_sortPart_74 : decode cX6_sortPart 74 = .ok (.iconst 1, 1) := dget dkX6_sortPart_0 38 rfl
theorem dX6_sortPart_75 : decode cX6_sortPart 75 = .ok (.goto 4, 3) := dget dkX6_sortPart_0 39 rfl
theorem dkX6_sortPart_1 : ([(78, (.iconst 0, 1)), (79, (.iconst 2, 1)), (80, (.invokevirtual 36, 3)), (83, (.ifCond .eq 5, 3)), (86, (.iconst 0, 1)), (87, (.ireturn, 1)), (88, (.aload_n 0, 1)), (89, (.iload_n 1, 1)), (90, (.iload_n 2, 1)), (91, (.iload_n 3, 1)), (92, (.iload 4, 2)), (94, (.invokevirtual 89, 3)), (97, (.ireturn, 1))] : List (Nat × (Jvm.ClassFile.Instr × Nat))).all (dcB cX6_sortPart) = true := by decide +kernel
theorem dX6_sortPart_78 : decode cX6_sortPart 78 = .ok (.iconst 0, 1) := dget dkX6_sortPart_1 0 rfl
theorem dX6_sortPart_79 : decode cX6_sortPart 79 = .ok (.iconst 2, 1) := dget dkX6_sortPart_1 1 rfl
theorem dX6_sortPart_80 : decode cX6_sortPart 80 = .ok (.invokevirtual 36, 3) := dget dkX6_sortPart_1 2 rfl
theorem dX6_sortPart_83 : decode cX6_sortPart 83 = .ok (.ifCond .eq 5, 3) := dget dkX6_sortPart_1 3 rfl
theorem dX6_sortPart_86 : decode cX6_sortPart 86 = .ok (.iconst 0, 1) := dget dkX6_sortPart_1 4 rfl
theorem dX6_sortPart_87 : decode cX6_sortPart 87 = .ok (.ireturn, 1) := dget dkX6_sortPart_1 5 rfl
theorem dX6_sortPart_88 : decode cX6_sortPart 88 = .ok (.aload_n 0, 1) := dget dkX6_sortPart_1 6 rfl
theorem dX6_sortPart_89 : decode cX6_sortPart 89 = .ok (.iload_n 1, 1) := dget dkX6_sortPart_1 7 rfl
theorem dX6_sortPart_90 : decode cX6_sortPart 90 = .ok (.iload_n 2, 1) := dget dkX6_sortPart_1 8 rfl
theorem dX6_sortPart_91 : decode cX6_sortPart 91 = .ok (.iload_n 3, 1) := dget dkX6_sortPart_1 9 rfl
theorem dX6_sortPart_92 : decode cX6_sortPart 92 = .ok (.iload 4, 2) := dget dkX6_sortPart_1 10 rfl
theorem dX6_sortPart_94 : decode cX6_sortPart 94 = .ok (.invokevirtual 89, 3) := dget dkX6_sortPart_1 11 rfl
theorem dX6_sortPart_97 : decode cX6_sortPart 97 = .ok (.ireturn, 1) := dget dkX6_sortPart_1 12 rfl
theorem ggX6_isInSequence_X6_compareNow : GoodIn wsX6_isInSequence wsX6_compareNow := tgCall 723 e_X6_compareNow (by decide +kernel)
theorem gX6_isInSequence_X6_compareNow : GoodIn wsX6_isInSequence (wsV RX6 51 RX6 yX6_compareNow wsX6_compareNow) := goodIn_app (tgIn [720, 721, 722, 684] (by decide +kernel) rfl) ggX6_isInSequence_X6_compareNow
theorem dkX6_isInSequence_0 : ([(0, (.iconst 0, 1)), (1, (.istore_n 3, 1)), (2, (.iload_n 3, 1)), (3, (.iconst 1, 1)), (4, (.iadd, 1)), (5, (.aload_n 0, 1)), (6, (.getfield 17, 3)), (9, (.iload_n 1, 1)), (10, (.iaload, 1)), (11, (.if_icmp .ge 37, 3)), (14, (.aload_n 0, 1)), (15, (.iload_n 2, 1)), (16, (.aload_n 0, 1)), (17, (.getfield 11, 3)), (20, (.iload_n 1, 1)), (21, (.aaload, 1)), (22, (.iload_n 3, 1)), (23, (.iconst 1, 1)), (24, (.iadd, 1)), (25, (.iaload, 1)), (26, (.aload_n 0, 1)), (27, (.getfield 11, 3)), (30, (.iload_n 1, 1)), (31, (.aaload, 1)), (32, (.iload_n 3, 1)), (33, (.iaload, 1)), (34, (.invokevirtual 51, 3)), (37, (.ifCond .ge 5, 3)), (40, (.iconst 0, 1)), (41, (.ireturn, 1)), (42, (.iinc 3 1, 3)), (45, (.goto (-43), 3)), (48, (.iconst 1, 1)), (49, (.ireturn, 1))] : List (Nat × (Jvm.ClassFile.Instr × Nat))).all (dcB cX6_isInSequence) = true := by decide +kernel
theorem dX6_isInSequence_0 : decode cX6_isInSequence 0 = .ok (.iconst 0, 1) := dget dkX6_isInSequence_0 0 rfl
theorem dX6_isInSequence_1 : decode cX6_isInSequence 1 = .ok (.istore_n 3, 1) := dget dkX6_isInSequence_0 1 rfl
theorem dX6_isInSequence_2 : decode cX6_isInSequence 2 = .ok (.iload_n 3, 1) := dget dkX6_isInSequence_0 2 rfl
theorem dX6_isInSequence_3 : decode cX6_isInSequence 3 = .ok (.iconst 1, 1) := dget dkX6_isInSequence_0 3 rfl
theorem dX6_isInSequence_4 : decode cX6_isInSequence 4 = .ok (.iadd, 1) := dget dkX6_isInSequence_0 4 rfl
theorem dX6_isInSequence_5 : decode cX6_isInSequence 5 = .ok (.aload_n 0, 1) := dget dkX6_isInSequence_0 5 rfl
theorem dX6_isInSequence_6 : decode cX6_isInSequence 6 = .ok (.getfield 17, 3) := dget dkX6_isInSequence_0 6 rfl
theorem dX6_isInSequence_9 : decode cX6_isInSequence 9 = .ok (.iload_n 1, 1) := dget dkX6_isInSequence_0 7 rfl
theorem dX6_isInSequence_10 : decode cX6_isInSequence 10 = .ok (.iaload, 1) := dget dkX6_isInSequence_0 8 rfl
theorem dX6_isInSequence_11 : decode cX6_isInSequence 11 = .ok (.if_icmp .ge 37, 3) := dget dkX6_isInSequence_0 9 rfl
theorem dX6_isInSequence_14 : decode cX6_isInSequence 14 = .ok (.aload_n 0, 1) := dget dkX6_isInSequence_0 10 rfl
theorem dX6_isInSequence_15 : decode cX6_isInSequence 15 = .ok (.iload_n 2, 1) := dget dkX6_isInSequence_0 11 rfl
theorem dX6_isInSequence_16 : decode cX6_isInSequence 16 = .ok (.aload_n 0, 1) := dget dkX6_isInSequence_0 12 rfl
theorem dX6_isInSequence_17 : decode cX6_isInSequence 17 = .ok (.getfield 11, 3) := dget dkX6_isInSequence_0 13 rfl
theorem dX6_isInSequence_20 : decode cX6_isInSequence 20 = .ok (.iload_n 1, 1) := dget dkX6_isInSequence_0 14 rfl
theorem dX6_isInSequence_21 : decode cX6_isInSequence 21 = .ok (.aaload, 1) := dget dkX6_isInSequence_0 15 rfl
theorem dX6_isInSequence_22 : decode cX6_isInSequence 22 = .ok (.iload_n 3, 1) := dget dkX6_isInSequence_0 16 rfl
theorem dX6_isInSequence_23 : decode cX6_isInSequence 23 = .ok (.iconst 1, 1) := dget dkX6_isInSequence_0 17 rfl
theorem dX6_isInSequence_24 : decode cX6_isInSequence 24 = .ok (.iadd, 1) := dget dkX6_isInSequence_0 18 rfl
theorem dX6_isInSequence_25 : decode cX6_isInSequence 25 = .ok (.iaload, 1) := dget dkX6_isInSequence_0 19 rfl
theorem dX6_isInSequence_26 : decode cX6_isInSequence 26 = .ok (.aload_n 0, 1) := dget dkX6_isInSequence_0 20 rfl
theorem dX6_isInSequence_27 : decode cX6_isInSequence 27 = .ok (.getfield 11, 3) := dget dkX6_isInSequence_0 21 rfl
theorem dX6_isInSequence_30 : decode cX6_isInSequence 30 = .ok (.iload_n 1, 1) := dget dkX6_isInSequence_0 22 rfl
theorem dX6_isInSequence_31 : decode cX6_isInSequence 31 = .ok (.aaload, 1) := dget dkX6_isInSequence_0 23 rfl
theorem dX6_isInSequence_32 : decode cX6_isInSequence 32 = .ok (.iload_n 3, 1) := dget dkX6_isInSequence_0 24 rfl
theorem dX6_isInSequence_33 : decode cX6_isInSequence 33 = .ok (.iaload, 1) := dget dkX6_isInSequence_0 25 rfl
theorem dX6_isInSequence_34 : decode cX6_isInSequence 34 = .ok (.invokevirtual 51, 3) := dget dkX6_isInSequence_0 26 rfl
theorem dX6_isInSequence_37 : decode cX6_isInSequence 37 = .ok (.ifCond .ge 5, 3) := dget dkX6_isInSequence_0 27 rfl
theorem dX6_isInSequence_40 : decode cX6_isInSequence 40 = .ok (.iconst 0, 1) := dget dkX6_isInSequence_0 28 rfl
theorem dX6_isInSequence_41 : decode cX6_isInSequence 41 = .ok (.ireturn, 1) := dget dkX6_isInSequence_0 29 rfl
theorem dX6_isInSequence_42 : decode cX6_isInSequence 42 = .ok (.iinc 3 1, 3) := dget dkX6_isInSequence_0 30 rfl
theorem dX6_isInSequence_45 : decode cX6_isInSequence 45 = .ok (.goto (-43), 3) := dget dkX6_isInSequence_0 31 rfl
theorem dX6_isInSequence_48 : decode cX6_isInSequence 48 = .ok (.iconst 1, 1) := dget dkX6_isInSequence_0 32 rfl
theorem dX6_isInSequence_49 : decode cX6_isInSequence 49 = .ok (.ireturn, 1) := dget dkX6_isInSequence_0 33 rfl
theorem ggX6_isSorted_X6_isNoRow : GoodIn wsX6_isSorted wsX6_isNoRow := tgCall 685 e_X6_isNoRow (by decide +kernel)
theorem gX6_isSorted_X6_isNoRow : GoodIn wsX6_isSorted (va_wsS RX6 65 yX6_isNoRow wsX6_isNoRow) := goodIn_app (tgIn [682, 683, 684] (by decide +kernel) rfl) ggX6_isSorted_X6_isNoRow
theorem ggX6_isSorted_X6_isNoOrder : GoodIn wsX6_isSorted wsX6_isNoOrder := tgCall 715 e_X6_isNoOrder (by decide +kernel)
theorem gX6_isSorted_X6_isNoOrder : GoodIn wsX6_isSorted (va_wsS RX6 86 yX6_isNoOrder wsX6_isNoOrder) := goodIn_app (tgIn [713, 714, 684] (by decide +kernel) rfl) ggX6_isSorted_X6_isNoOrder
theorem ggX6_isSorted_X6_start : GoodIn wsX6_isSorted wsX6_start := tgCall 692 e_X6_start (by decide +kernel)
theorem gX6_isSorted_X6_start : GoodIn wsX6_isSorted (wsV RX6 69 RX6 yX6_start wsX6_start) := goodIn_app (tgIn [689, 690, 691, 684] (by decide +kernel) rfl) ggX6_isSorted_X6_start
theorem ggX6_isSorted_X6_isInSequence : GoodIn wsX6_isSorted wsX6_isInSequence := tgCall 737 e_X6_isInSequence (by decide +kernel)
theorem gX6_isSorted_X6_isInSequence : GoodIn wsX6_isSorted (wsV RX6 92 RX6 yX6_isInSequence wsX6_isInSequence) := goodIn_app (tgIn [734, 735, 736, 684] (by decide +kernel) rfl) ggX6_isSorted_X6_isInSequence
theorem dkX6_isSorted_0 : ([(0, (.aload_n 0, 1)), (1, (.iload_n 1, 1)), (2, (.invokestatic 65, 3)), (5, (.ifCond .ne 10, 3)), (8, (.iload_n 2, 1)), (9, (.invokestatic 86, 3)), (12, (.ifCond .eq 7, 3)), (15, (.iconst 1, 1)), (16, (.goto 4, 3)), (19, (.iconst 0, 1)), (20, (.iconst 1, 1)), (21, (.invokevirtual 69, 3)), (24, (.ifCond .ne 16, 3)), (27, (.aload_n 0, 1)), (28, (.iload_n 1, 1)), (29, (.iload_n 2, 1)), (30, (.invokevirtual 92, 3)), (33, (.ifCond .eq 7, 3)), (36, (.iconst 1, 1)), (37, (.goto 4, 3)), (40, (.iconst 0, 1)), (41, (.ireturn, 1))] : List (Nat × (Jvm.ClassFile.Instr × Nat))).all (dcB cX6_isSorted) = true := by decide +kernel
theorem dX6_isSorted_0 : decode cX6_isSorted 0 = .ok (.aload_n 0, 1) := dget dkX6_isSorted_0 0 rfl
theorem dX6_isSorted_1 : decode cX6_isSorted 1 = .ok (.iload_n 1, 1) := dget dkX6_isSorted_0 1 rfl
theorem dX6_isSorted_2 : decode cX6_isSorted 2 = .ok (.invokestatic 65, 3) := dget dkX6_isSorted_0 2 rfl
theorem dX6_isSorted_5 : decode cX6_isSorted 5 = .ok (.ifCond .ne 10, 3) := dget dkX6_isSorted_0 3 rfl
theorem dX6_isSorted_8 : decode cX6_isSorted 8 = .ok (.iload_n 2, 1) := dget dkX6_isSorted_0 4 rfl
theorem dX6_isSorted_9 : decode cX6_isSorted 9 = .ok (.invokestatic 86, 3) := dget dkX6_isSorted_0 5 rfl
theorem dX6_isSorted_12 : decode cX6_isSorted 12 = .ok (.ifCond .eq 7, 3) := dget dkX6_isSorted_0 6 rfl
theorem dX6_isSorted_15 : decode cX6_isSorted 15 = .ok (.iconst 1, 1) := dget dkX6_isSorted_0 7 rfl
theorem dX6_isSorted_16 : decode cX6_isSorted 16 = .ok (.goto 4, 3) := dget dkX6_isSorted_0 8 rfl
theorem dX6_isSorted_19 : decode cX6_isSorted 19 = .ok (.iconst 0, 1) := dget dkX6_isSorted_0 9 rfl
theorem dX6_isSorted_20 : decode cX6_isSorted 20 = .ok (.iconst 1, 1) := dget dkX6_isSorted_0 10 rfl
theorem dX6_isSorted_21 : decode cX6_isSorted 21 = .ok (.invokevirtual 69, 3) := dget dkX6_isSorted_0 11 rfl
theorem dX6_isSorted_24 : decode cX6_isSorted 24 = .ok (.ifCond .ne 16, 3) := dget dkX6_isSorted_0 12 rfl
theorem dX6_isSorted_27 : decode cX6_isSorted 27 = .ok (.aload_n 0, 1) := dget dkX6_isSorted_0 13 rfl
theorem dX6_isSorted_28 : decode cX6_isSorted 28 = .ok (.iload_n 1, 1) := dget dkX6_isSorted_0 14 rfl
theorem dX6_isSorted_29 : decode cX6_isSorted 29 = .ok (.iload_n 2, 1) := dget dkX6_isSorted_0 15 rfl
theorem dX6_isSorted_30 : decode cX6_isSorted 30 = .ok (.invokevirtual 92, 3) := dget dkX6_isSorted_0 16 rfl
theorem dX6_isSorted_33 : decode cX6_isSorted 33 = .ok (.ifCond .eq 7, 3) := dget dkX6_isSorted_0 17 rfl
theorem dX6_isSorted_36 : decode cX6_isSorted 36 = .ok (.iconst 1, 1) := dget dkX6_isSorted_0 18 rfl
theorem dX6_isSorted_37 : decode cX6_isSorted 37 = .ok (.goto 4, 3) := dget dkX6_isSorted_0 19 rfl
theorem dX6_isSorted_40 : decode cX6_isSorted 40 = .ok (.iconst 0, 1) := dget dkX6_isSorted_0 20 rfl
theorem dX6_isSorted_41 : decode cX6_isSorted 41 = .ok (.ireturn, 1) := dget dkX6_isSorted_0 21 rfl
theorem ggX6_size_X6_isNoRow : GoodIn wsX6_size wsX6_isNoRow := tgCall 685 e_X6_isNoRow (by decide +kernel)
theorem gX6_size_X6_isNoRow : GoodIn wsX6_size (va_wsS RX6 65 yX6_isNoRow wsX6_isNoRow) := goodIn_app (tgIn [682, 683, 684] (by decide +kernel) rfl) ggX6_size_X6_isNoRow
theorem ggX6_size_X6_start : GoodIn wsX6_size wsX6_start := tgCall 692 e_X6_start (by decide +kernel)
theorem gX6_size_X6_start : GoodIn wsX6_size (wsV RX6 69 RX6 yX6_start wsX6_start) := goodIn_app (tgIn [689, 690, 691, 684] (by decide +kernel) rfl) ggX6_size_X6_start
theorem dkX6_size_0 : ([(0, (.aload_n 0, 1)), (1, (.iload_n 1, 1)), (2, (.invokestatic 65, 3)), (5, (.iconst 1, 1)), (6, (.invokevirtual 69, 3)), (9, (.ifCond .eq 7, 3)), (12, (.iconst 0, 1)), (13, (.goto 9, 3)), (16, (.aload_n 0, 1)), (17, (.getfield 17, 3)), (20, (.iload_n 1, 1)), (21, (.iaload, 1)), (22, (.ireturn, 1))] : List (Nat × (Jvm.ClassFile.Instr × Nat))).all (dcB cX6_size) = true := by decide +kernel
theorem dX6_size_0 : decode cX6_size 0 = .ok (.aload_n 0, 1) := dget dkX6_size_0 0 rfl
theorem dX6_size_1 : decode cX6_size 1 = .ok (.iload_n 1, 1) := dget dkX6_size_0 1 rfl
theorem dX6_size_2 : decode cX6_size 2 = .ok (.invokestatic 65, 3) := dget dkX6_size_0 2 rfl
theorem dX6_size_5 : decode cX6_size 5 = .ok (.iconst 1, 1) := dget dkX6_size_0 3 rfl
theorem dX6_size_6 : decode cX6_size 6 = .ok (.invokevirtual 69, 3) := dget dkX6_size_0 4 rfl
theorem dX6_size_9 : decode cX6_size 9 = .ok (.ifCond .eq 7, 3) := dget dkX6_size_0 5 rfl
theorem dX6_size_12 : decode cX6_size 12 = .ok (.iconst 0, 1) := dget dkX6_size_0 6 rfl
theorem dX6_size_13 : decode cX6_size 13 = .ok (.goto 9, 3) := dget dkX6_size_0 7 rfl
theorem dX6_size_16 : decode cX6_size 16 = .ok (.aload_n 0, 1) := dget dkX6_size_0 8 rfl
theorem dX6_size_17 : decode cX6_size 17 = .ok (.getfield 17, 3) := dget dkX6_size_0 9 rfl
theorem dX6_size_20 : decode cX6_size 20 = .ok (.iload_n 1, 1) := dget dkX6_size_0 10 rfl
theorem dX6_size_21 : decode cX6_size 21 = .ok (.iaload, 1) := dget dkX6_size_0 11 rfl
theorem dX6_size_22 : decode cX6_size 22 = .ok (.ireturn, 1) := dget dkX6_size_0 12 rfl
theorem ggX6_valueAt_X6_isNoRow : GoodIn wsX6_valueAt wsX6_isNoRow := tgCall 685 e_X6_isNoRow (by decide +kernel)
theorem gX6_valueAt_X6_isNoRow : GoodIn wsX6_valueAt (va_wsS RX6 65 yX6_isNoRow wsX6_isNoRow) := goodIn_app (tgIn [682, 683, 684] (by decide +kernel) rfl) ggX6_valueAt_X6_isNoRow
theorem ggX6_valueAt_X6_start : GoodIn wsX6_valueAt wsX6_start := tgCall 692 e_X6_start (by decide +kernel)
theorem gX6_valueAt_X6_start : GoodIn wsX6_valueAt (wsV RX6 69 RX6 yX6_start wsX6_start) := goodIn_app (tgIn [689, 690, 691, 684] (by decide +kernel) rfl) ggX6_valueAt_X6_start
theorem ggX6_valueAt_X6_isNo : GoodIn wsX6_valueAt wsX6_isNo := tgCall 688 e_X6_isNo (by decide +kernel)
theorem gX6_valueAt_X6_isNo : GoodIn wsX6_valueAt (va_wsS RX6 40 yX6_isNo wsX6_isNo) := goodIn_app (tgIn [686, 687, 684] (by decide +kernel) rfl) ggX6_valueAt_X6_isNo
theorem ggX6_valueAt_X6_refuse : GoodIn wsX6_valueAt wsX6_refuse := tgCall 697 e_X6_refuse (by decide +kernel)
theorem gX6_valueAt_X6_refuse : GoodIn wsX6_valueAt (wsV RX6 36 RX6 yX6_refuse wsX6_refuse) := goodIn_app (tgIn [694, 695, 696, 684] (by decide +kernel) rfl) ggX6_valueAt_X6_refuse
theorem dkX6_valueAt_0 : ([(0, (.aload_n 0, 1)), (1, (.iload_n 1, 1)), (2, (.invokestatic 65, 3)), (5, (.iconst 1, 1)), (6, (.invokevirtual 69, 3)), (9, (.ifCond .ne 23, 3)), (12, (.aload_n 0, 1)), (13, (.iload_n 2, 1)), (14, (.aload_n 0, 1)), (15, (.getfield 17, 3)), (18, (.iload_n 1, 1)), (19, (.iaload, 1)), (20, (.iconst 1, 1)), (21, (.isub, 1)), (22, (.invokestatic 40, 3)), (25, (.iconst 1, 1)), (26, (.invokevirtual 36, 3)), (29, (.ifCond .eq 7, 3)), (32, (.iconst 0, 1)), (33, (.goto 11, 3)), (36, (.aload_n 0, 1)), (37, (.getfield 11, 3)), (40, (.iload_n 1, 1)), (41, (.aaload, 1)), (42, (.iload_n 2, 1)), (43, (.iaload, 1)), (44, (.ireturn, 1))] : List (Nat × (Jvm.ClassFile.Instr × Nat))).all (dcB cX6_valueAt) = true := by decide +kernel
theorem dX6_valueAt_0 : decode cX6_valueAt 0 = .ok (.aload_n 0, 1) := dget dkX6_valueAt_0 0 rfl
theorem dX6_valueAt_1 : decode cX6_valueAt 1 = .ok (.iload_n 1, 1) := dget dkX6_valueAt_0 1 rfl
theorem dX6_valueAt_2 : decode cX6_valueAt 2 = .ok (.invokestatic 65, 3) := dget dkX6_valueAt_0 2 rfl
theorem dX6_valueAt_5 : decode cX6_valueAt 5 = .ok (.iconst 1, 1) := dget dkX6_valueAt_0 3 rfl
theorem dX6_valueAt_6 : decode cX6_valueAt 6 = .ok (.invokevirtual 69, 3) := dget dkX6_valueAt_0 4 rfl
theorem dX6_valueAt_9 : decode cX6_valueAt 9 = .ok (.ifCond .ne 23, 3) := dget dkX6_valueAt_0 5 rfl
theorem dX6_valueAt_12 : decode cX6_valueAt 12 = .ok (.aload_n 0, 1) := dget dkX6_valueAt_0 6 rfl
theorem dX6_valueAt_13 : decode cX6_valueAt 13 = .ok (.iload_n 2, 1) := dget dkX6_valueAt_0 7 rfl
theorem dX6_valueAt_14 : decode cX6_valueAt 14 = .ok (.aload_n 0, 1) := dget dkX6_valueAt_0 8 rfl
theorem dX6_valueAt_15 : decode cX6_valueAt 15 = .ok (.getfield 17, 3) := dget dkX6_valueAt_0 9 rfl
theorem dX6_valueAt_18 : decode cX6_valueAt 18 = .ok (.iload_n 1, 1) := dget dkX6_valueAt_0 10 rfl
theorem dX6_valueAt_19 : decode cX6_valueAt 19 = .ok (.iaload, 1) := dget dkX6_valueAt_0 11 rfl
theorem dX6_valueAt_20 : decode cX6_valueAt 20 = .ok (.iconst 1, 1) := dget dkX6_valueAt_0 12 rfl
theorem dX6_valueAt_21 : decode cX6_valueAt 21 = .ok (.isub, 1) := dget dkX6_valueAt_0 13 rfl
theorem dX6_valueAt_22 : decode cX6_valueAt 22 = .ok (.invokestatic 40, 3) := dget dkX6_valueAt_0 14 rfl
theorem dX6_valueAt_25 : decode cX6_valueAt 25 = .ok (.iconst 1, 1) := dget dkX6_valueAt_0 15 rfl
theorem dX6_valueAt_26 : decode cX6_valueAt 26 = .ok (.invokevirtual 36, 3) := dget dkX6_valueAt_0 16 rfl
theorem dX6_valueAt_29 : decode cX6_valueAt 29 = .ok (.ifCond .eq 7, 3) := dget dkX6_valueAt_0 17 rfl
theorem dX6_valueAt_32 : decode cX6_valueAt 32 = .ok (.iconst 0, 1) := dget dkX6_valueAt_0 18 rfl
theorem dX6_valueAt_33 : decode cX6_valueAt 33 = .ok (.goto 11, 3) := dget dkX6_valueAt_0 19 rfl
theorem dX6_valueAt_36 : decode cX6_valueAt 36 = .ok (.aload_n 0, 1) := dget dkX6_valueAt_0 20 rfl
theorem dX6_valueAt_37 : decode cX6_valueAt 37 = .ok (.getfield 11, 3) := dget dkX6_valueAt_0 21 rfl
theorem dX6_valueAt_40 : decode cX6_valueAt 40 = .ok (.iload_n 1, 1) := dget dkX6_valueAt_0 22 rfl
theorem dX6_valueAt_41 : decode cX6_valueAt 41 = .ok (.aaload, 1) := dget dkX6_valueAt_0 23 rfl
theorem dX6_valueAt_42 : decode cX6_valueAt 42 = .ok (.iload_n 2, 1) := dget dkX6_valueAt_0 24 rfl
theorem dX6_valueAt_43 : decode cX6_valueAt 43 = .ok (.iaload, 1) := dget dkX6_valueAt_0 25 rfl
theorem dX6_valueAt_44 : decode cX6_valueAt 44 = .ok (.ireturn, 1) := dget dkX6_valueAt_0 26 rfl
theorem ggX6_markAt_X6_isNoRow : GoodIn wsX6_markAt wsX6_isNoRow := tgCall 685 e_X6_isNoRow (by decide +kernel)
theorem gX6_markAt_X6_isNoRow : GoodIn wsX6_markAt (va_wsS RX6 65 yX6_isNoRow wsX6_isNoRow) := goodIn_app (tgIn [682, 683, 684] (by decide +kernel) rfl) ggX6_markAt_X6_isNoRow
theorem ggX6_markAt_X6_start : GoodIn wsX6_markAt wsX6_start := tgCall 692 e_X6_start (by decide +kernel)
theorem gX6_markAt_X6_start : GoodIn wsX6_markAt (wsV RX6 69 RX6 yX6_start wsX6_start) := goodIn_app (tgIn [689, 690, 691, 684] (by decide +kernel) rfl) ggX6_markAt_X6_start
theorem ggX6_markAt_X6_isNo : GoodIn wsX6_markAt wsX6_isNo := tgCall 688 e_X6_isNo (by decide +kernel)
theorem gX6_markAt_X6_isNo : GoodIn wsX6_markAt (va_wsS RX6 40 yX6_isNo wsX6_isNo) := goodIn_app (tgIn [686, 687, 684] (by decide +kernel) rfl) ggX6_markAt_X6_isNo
theorem ggX6_markAt_X6_refuse : GoodIn wsX6_markAt wsX6_refuse := tgCall 697 e_X6_refuse (by decide +kernel)
theorem gX6_markAt_X6_refuse : GoodIn wsX6_markAt (wsV RX6 36 RX6 yX6_refuse wsX6_refuse) := goodIn_app (tgIn [694, 695, 696, 684] (by decide +kernel) rfl) ggX6_markAt_X6_refuse
theorem dkX6_markAt_0 : ([(0, (.aload_n 0, 1)), (1, (.iload_n 1, 1)), (2, (.invokestatic 65, 3)), (5, (.iconst 1, 1)), (6, (.invokevirtual 69, 3)), (9, (.ifCond .ne 23, 3)), (12, (.aload_n 0, 1)), (13, (.iload_n 2, 1)), (14, (.aload_n 0, 1)), (15, (.getfield 17, 3)), (18, (.iload_n 1, 1)), (19, (.iaload, 1)), (20, (.iconst 1, 1)), (21, (.isub, 1)), (22, (.invokestatic 40, 3)), (25, (.iconst 1, 1)), (26, (.invokevirtual 36, 3)), (29, (.ifCond .eq 7, 3)), (32, (.iconst 0, 1)), (33, (.goto 11, 3)), (36, (.aload_n 0, 1)), (37, (.getfield 14, 3)), (40, (.iload_n 1, 1)), (41, (.aaload, 1)), (42, (.iload_n 2, 1)), (43, (.iaload, 1)), (44, (.ireturn, 1))] : List (Nat × (Jvm.ClassFile.Instr × Nat))).all (dcB cX6_markAt) = true := by decide +kernel
theorem dX6_markAt_0 : decode cX6_markAt 0 = .ok (.aload_n 0, 1) := dget dkX6_markAt_0 0 rfl
theorem dX6_markAt_1 : decode cX6_markAt 1 = .ok (.iload_n 1, 1) := dget dkX6_markAt_0 1 rfl
theorem dX6_markAt_2 : decode cX6_markAt 2 = .ok (.invokestatic 65, 3) := dget dkX6_markAt_0 2 rfl
theorem dX6_markAt_5 : decode cX6_markAt 5 = .ok (.iconst 1, 1) := dget dkX6_markAt_0 3 rfl
theorem dX6_markAt_6 : decode cX6_markAt 6 = .ok (.invokevirtual 69, 3) := dget dkX6_markAt_0 4 rfl
theorem dX6_markAt_9 : decode cX6_markAt 9 = .ok (.ifCond .ne 23, 3) := dget dkX6_markAt_0 5 rfl
theorem dX6_markAt_12 : decode cX6_markAt 12 = .ok (.aload_n 0, 1) := dget dkX6_markAt_0 6 rfl
theorem dX6_markAt_13 : decode cX6_markAt 13 = .ok (.iload_n 2, 1) := dget dkX6_markAt_0 7 rfl
theorem dX6_markAt_14 : decode cX6_markAt 14 = .ok (.aload_n 0, 1) := dget dkX6_markAt_0 8 rfl
theorem dX6_markAt_15 : decode cX6_markAt 15 = .ok (.getfield 17, 3) := dget dkX6_markAt_0 9 rfl
theorem dX6_markAt_18 : decode cX6_markAt 18 = .ok (.iload_n 1, 1) := dget dkX6_markAt_0 10 rfl
theorem dX6_markAt_19 : decode cX6_markAt 19 = .ok (.iaload, 1) := dget dkX6_markAt_0 11 rfl
theorem dX6_markAt_20 : decode cX6_markAt 20 = .ok (.iconst 1, 1) := dget dkX6_markAt_0 12 rfl
theorem dX6_markAt_21 : decode cX6_markAt 21 = .ok (.isub, 1) := dget dkX6_markAt_0 13 rfl
theorem dX6_markAt_22 : decode cX6_markAt 22 = .ok (.invokestatic 40, 3) := dget dkX6_markAt_0 14 rfl
theorem dX6_markAt_25 : decode cX6_markAt 25 = .ok (.iconst 1, 1) := dget dkX6_markAt_0 15 rfl
theorem dX6_markAt_26 : decode cX6_markAt 26 = .ok (.invokevirtual 36, 3) := dget dkX6_markAt_0 16 rfl
theorem dX6_markAt_29 : decode cX6_markAt 29 = .ok (.ifCond .eq 7, 3) := dget dkX6_markAt_0 17 rfl
theorem dX6_markAt_32 : decode cX6_markAt 32 = .ok (.iconst 0, 1) := dget dkX6_markAt_0 18 rfl
theorem dX6_markAt_33 : decode cX6_markAt 33 = .ok (.goto 11, 3) := dget dkX6_markAt_0 19 rfl
theorem dX6_markAt_36 : decode cX6_markAt 36 = .ok (.aload_n 0, 1) := dget dkX6_markAt_0 20 rfl
theorem dX6_markAt_37 : decode cX6_markAt 37 = .ok (.getfield 14, 3) := dget dkX6_markAt_0 21 rfl
theorem dX6_markAt_40 : decode cX6_markAt 40 = .ok (.iload_n 1, 1) := dget dkX6_markAt_0 22 rfl
theorem dX6_markAt_41 : decode cX6_markAt 41 = .ok (.aaload, 1) := dget dkX6_markAt_0 23 rfl
theorem dX6_markAt_42 : decode cX6_markAt 42 = .ok (.iload_n 2, 1) := dget dkX6_markAt_0 24 rfl
theorem dX6_markAt_43 : decode cX6_markAt 43 = .ok (.iaload, 1) := dget dkX6_markAt_0 25 rfl
theorem dX6_markAt_44 : decode cX6_markAt 44 = .ok (.ireturn, 1) := dget dkX6_markAt_0 26 rfl
theorem ggX6_text_X6_isNoRow : GoodIn wsX6_text wsX6_isNoRow := tgCall 685 e_X6_isNoRow (by decide +kernel)
theorem gX6_text_X6_isNoRow : GoodIn wsX6_text (va_wsS RX6 65 yX6_isNoRow wsX6_isNoRow) := goodIn_app (tgIn [682, 683, 684] (by decide +kernel) rfl) ggX6_text_X6_isNoRow
theorem ggX6_text_X6_start : GoodIn wsX6_text wsX6_start := tgCall 692 e_X6_start (by decide +kernel)
theorem gX6_text_X6_start : GoodIn wsX6_text (wsV RX6 69 RX6 yX6_start wsX6_start) := goodIn_app (tgIn [689, 690, 691, 684] (by decide +kernel) rfl) ggX6_text_X6_start
theorem ggX6_text_J4_init_da8c8 : GoodIn wsX6_text wsJ4_init_da8c8 := tgCall 415 e_J4_init_da8c8 (by decide +kernel)
theorem gX6_text_J4_init_da8c8 : GoodIn wsX6_text (wsJ4_init_da8c8) := ggX6_text_J4_init_da8c8
theorem ggX6_text_J4_append_15ec4 : GoodIn wsX6_text wsJ4_append_15ec4 := tgCall 780 e_J4_append_15ec4 (by decide +kernel)
theorem gX6_text_J4_append_15ec4 : GoodIn wsX6_text (wsV RX6 100 RJ4 yJ4_append_15ec4 wsJ4_append_15ec4) := goodIn_app (tgIn [777, 778, 779, 328] (by decide +kernel) rfl) ggX6_text_J4_append_15ec4
theorem ggX6_text_J4_append_bf812 : GoodIn wsX6_text wsJ4_append_bf812 := tgCall 426 e_J4_append_bf812 (by decide +kernel)
theorem gX6_text_J4_append_bf812 : GoodIn wsX6_text (wsV RX6 106 RJ4 yJ4_append_bf812 wsJ4_append_bf812) := goodIn_app (tgIn [781, 424, 425, 328] (by decide +kernel) rfl) ggX6_text_J4_append_bf812
theorem ggX6_text_J4_toString_0e30d : GoodIn wsX6_text wsJ4_toString_0e30d := tgCall 431 e_J4_toString_0e30d (by decide +kernel)
theorem gX6_text_J4_toString_0e30d : GoodIn wsX6_text (wsV RX6 111 RJ4 yJ4_toString_0e30d wsJ4_toString_0e30d) := goodIn_app (tgIn [782, 429, 430, 328] (by decide +kernel) rfl) ggX6_text_J4_toString_0e30d
theorem dkX6_text_0 : ([(0, (.aload_n 0, 1)), (1, (.iload_n 1, 1)), (2, (.invokestatic 65, 3)), (5, (.iconst 1, 1)), (6, (.invokevirtual 69, 3)), (9, (.ifCond .eq 6, 3)), (12, (.ldc 95, 2)), (14, (.areturn, 1)), (15, (.ldc 95, 2)), (17, (.astore_n 2, 1)), (18, (.iconst 0, 1)), (19, (.istore_n 3, 1)), (20, (.iload_n 3, 1)), (21, (.aload_n 0, 1)), (22, (.getfield 17, 3)), (25, (.iload_n 1, 1)), (26, (.iaload, 1)), (27, (.if_icmp .ge 65, 3)), (30, (.new 97, 3)), (33, (.dup, 1)), (34, (.invokespecial 99, 3)), (37, (.aload_n 2, 1)), (38, (.invokevirtual 100, 3)), (41, (.iload_n 3, 1)), (42, (.ifCond .ne 8, 3)), (45, (.ldc 95, 2)), (47, (.goto 5, 3)), (50, (.ldc 104, 2)), (52, (.invokevirtual 100, 3)), (55, (.aload_n 0, 1)), (56, (.getfield 11, 3)), (59, (.iload_n 1, 1)), (60, (.aaload, 1)), (61, (.iload_n 3, 1)), (62, (.iaload, 1)), (63, (.invokevirtual 106, 3)), (66, (.ldc 109, 2)), (68, (.invokevirtual 100, 3)), (71, (.aload_n 0, 1)), (72, (.getfield 14, 3))] : List (Nat × (Jvm.ClassFile.Instr × Nat))).all (dcB cX6_text) = true := by decide +kernel
theorem dX6_text_0 : decode cX6_text 0 = .ok (.aload_n 0, 1) := dget dkX6_text_0 0 rfl
theorem dX6_text_1 : decode cX6_text 1 = .ok (.iload_n 1, 1) := dget dkX6_text_0 1 rfl
theorem dX6_text_2 : decode cX6_text 2 = .ok (.invokestatic 65, 3) := dget dkX6_text_0 2 rfl
theorem dX6_text_5 : decode cX6_text 5 = .ok (.iconst 1, 1) := dget dkX6_text_0 3 rfl
theorem dX6_text_6 : decode cX6_text 6 = .ok (.invokevirtual 69, 3) := dget dkX6_text_0 4 rfl
theorem dX6_text_9 : decode cX6_text 9 = .ok (.ifCond .eq 6, 3) := dget dkX6_text_0 5 rfl
theorem dX6_text_12 : decode cX6_text 12 = .ok (.ldc 95, 2) := dget dkX6_text_0 6 rfl
theorem dX6_text_14 : decode cX6_text 14 = .ok (.areturn, 1) := dget dkX6_text_0 7 rfl
theorem dX6_text_15 : decode cX6_text 15 = .ok (.ldc 95, 2) := dget dkX6_text_0 8 rfl
theorem dX6_text_17 : decode cX6_text 17 = .ok (.astore_n 2, 1) := dget dkX6_text_0 9 rfl
theorem dX6_text_18 : decode cX6_text 18 = .ok (.iconst 0, 1) := dget dkX6_text_0 10 rfl
theorem dX6_text_19 : decode cX6_text 19 = .ok (.istore_n 3, 1) := dget dkX6_text_0 11 rfl
theorem dX6_text_20 : decode cX6_text 20 = .ok (.iload_n 3, 1) := dget dkX6_text_0 12 rfl
theorem dX6_text_21 : decode cX6_text 21 = .ok (.aload_n 0, 1) := dget dkX6_text_0 13 rfl
theorem dX6_text_22 : decode cX6_text 22 = .ok (.getfield 17, 3) := dget dkX6_text_0 14 rfl
theorem dX6_text_25 : decode cX6_text 25 = .ok (.iload_n 1, 1) := dget dkX6_text_0 15 rfl
theorem dX6_text_26 : decode cX6_text 26 = .ok (.iaload, 1) := dget dkX6_text_0 16 rfl
theorem dX6_text_27 : decode cX6_text 27 = .ok (.if_icmp .ge 65, 3) := dget dkX6_text_0 17 rfl
theorem dX6_text_30 : decode cX6_text 30 = .ok (.new 97, 3) := dget dkX6_text_0 18 rfl
theorem dX6_text_33 : decode cX6_text 33 = .ok (.dup, 1) := dget dkX6_text_0 19 rfl
theorem dX6_text_34 : decode cX6_text 34 = .ok (.invokespecial 99, 3) := dget dkX6_text_0 20 rfl
theorem dX6_text_37 : decode cX6_text 37 = .ok (.aload_n 2, 1) := dget dkX6_text_0 21 rfl
theorem dX6_text_38 : decode cX6_text 38 = .ok (.invokevirtual 100, 3) := dget dkX6_text_0 22 rfl
theorem dX6_text_41 : decode cX6_text 41 = .ok (.iload_n 3, 1) := dget dkX6_text_0 23 rfl
theorem dX6_text_42 : decode cX6_text 42 = .ok (.ifCond .ne 8, 3) := dget dkX6_text_0 24 rfl
theorem dX6_text_45 : decode cX6_text 45 = .ok (.ldc 95, 2) := dget dkX6_text_0 25 rfl
theorem dX6_text_47 : decode cX6_text 47 = .ok (.goto 5, 3) := dget dkX6_text_0 26 rfl
theorem dX6_text_50 : decode cX6_text 50 = .ok (.ldc 104, 2) := dget dkX6_text_0 27 rfl
theorem dX6_text_52 : decode cX6_text 52 = .ok (.invokevirtual 100, 3) := dget dkX6_text_0 28 rfl
theorem dX6_text_55 : decode cX6_text 55 = .ok (.aload_n 0, 1) := dget dkX6_text_0 29 rfl
theorem dX6_text_56 : decode cX6_text 56 = .ok (.getfield 11, 3) := dget dkX6_text_0 30 rfl
theorem dX6_text_59 : decode cX6_text 59 = .ok (.iload_n 1, 1) := dget dkX6_text_0 31 rfl
theorem dX6_text_60 : decode cX6_text 60 = .ok (.aaload, 1) := dget dkX6_text_0 32 rfl
theorem dX6_text_61 : decode cX6_text 61 = .ok (.iload_n 3, 1) := dget dkX6_text_0 33 rfl
theorem dX6_text_62 : decode cX6_text 62 = .ok (.iaload, 1) := dget dkX6_text_0 34 rfl
theorem dX6_text_63 : decode cX6_text 63 = .ok (.invokevirtual 106, 3) := dget dkX6_text_0 35 rfl
theorem dX6_text_66 : decode cX6_text 66 = .ok (.ldc 109, 2) := dget dkX6_text_0 36 rfl
theorem dX6_text_68 : decode cX6_text 68 = .ok (.invokevirtual 100, 3) := dget dkX6_text_0 37 rfl
theorem dX6_text_71 : decode cX6_text 71 = .ok (.aload_n 0, 1) := dget dkX6_text_0 38 rfl
theorem dX6_text_72 : decode cX6_text 72 = .ok (.getfield 14, 3) := dget dkX6_text_0 39 rfl
theorem dkX6_text_1 : ([(75, (.iload_n 1, 1)), (76, (.aaload, 1)), (77, (.iload_n 3, 1)), (78, (.iaload, 1)), (79, (.invokevirtual 106, 3)), (82, (.invokevirtual 111, 3)), (85, (.astore_n 2, 1)), (86, (.iinc 3 1, 3)), (89, (.goto (-69), 3)), (92, (.aload_n 2, 1)), (93, (.areturn, 1))] : List (Nat × (Jvm.ClassFile.Instr × Nat))).all (dcB cX6_text) = true := by decide +kernel
theorem dX6_text_75 : decode cX6_text 75 = .ok (.iload_n 1, 1) := dget dkX6_text_1 0 rfl
theorem dX6_text_76 : decode cX6_text 76 = .ok (.aaload, 1) := dget dkX6_text_1 1 rfl
theorem dX6_text_77 : decode cX6_text 77 = .ok (.iload_n 3, 1) := dget dkX6_text_1 2 rfl
theorem dX6_text_78 : decode cX6_text 78 = .ok (.iaload, 1) := dget dkX6_text_1 3 rfl
theorem dX6_text_79 : decode cX6_text 79 = .ok (.invokevirtual 106, 3) := dget dkX6_text_1 4 rfl
theorem dX6_text_82 : decode cX6_text 82 = .ok (.invokevirtual 111, 3) := dget dkX6_text_1 5 rfl
theorem dX6_text_85 : decode cX6_text 85 = .ok (.astore_n 2, 1) := dget dkX6_text_1 6 rfl
theorem dX6_text_86 : decode cX6_text 86 = .ok (.iinc 3 1, 3) := dget dkX6_text_1 7 rfl
theorem dX6_text_89 : decode cX6_text 89 = .ok (.goto (-69), 3) := dget dkX6_text_1 8 rfl
theorem dX6_text_92 : decode cX6_text 92 = .ok (.aload_n 2, 1) := dget dkX6_text_1 9 rfl
theorem dX6_text_93 : decode cX6_text 93 = .ok (.areturn, 1) := dget dkX6_text_1 10 rfl
theorem ggX6_extreme_X6_isNoRow : GoodIn wsX6_extreme wsX6_isNoRow := tgCall 685 e_X6_isNoRow (by decide +kernel)
theorem gX6_extreme_X6_isNoRow : GoodIn wsX6_extreme (va_wsS RX6 65 yX6_isNoRow wsX6_isNoRow) := goodIn_app (tgIn [682, 683, 684] (by decide +kernel) rfl) ggX6_extreme_X6_isNoRow
theorem ggX6_extreme_X6_isNoOrder : GoodIn wsX6_extreme wsX6_isNoOrder := tgCall 715 e_X6_isNoOrder (by decide +kernel)
theorem gX6_extreme_X6_isNoOrder : GoodIn wsX6_extreme (va_wsS RX6 86 yX6_isNoOrder wsX6_isNoOrder) := goodIn_app (tgIn [713, 714, 684] (by decide +kernel) rfl) ggX6_extreme_X6_isNoOrder
theorem ggX6_extreme_X6_start : GoodIn wsX6_extreme wsX6_start := tgCall 692 e_X6_start (by decide +kernel)
theorem gX6_extreme_X6_start : GoodIn wsX6_extreme (wsV RX6 69 RX6 yX6_start wsX6_start) := goodIn_app (tgIn [689, 690, 691, 684] (by decide +kernel) rfl) ggX6_extreme_X6_start
theorem ggX6_extreme_X6_rankNow : GoodIn wsX6_extreme wsX6_rankNow := tgCall 786 e_X6_rankNow (by decide +kernel)
theorem gX6_extreme_X6_rankNow : GoodIn wsX6_extreme (wsV RX6 115 RX6 yX6_rankNow wsX6_rankNow) := goodIn_app (tgIn [783, 784, 785, 684] (by decide +kernel) rfl) ggX6_extreme_X6_rankNow
theorem dkX6_extreme_0 : ([(0, (.aload_n 0, 1)), (1, (.iload_n 1, 1)), (2, (.invokestatic 65, 3)), (5, (.ifCond .ne 10, 3)), (8, (.iload_n 2, 1)), (9, (.invokestatic 86, 3)), (12, (.ifCond .eq 7, 3)), (15, (.iconst 1, 1)), (16, (.goto 4, 3)), (19, (.iconst 0, 1)), (20, (.iconst 1, 1)), (21, (.invokevirtual 69, 3)), (24, (.ifCond .eq 5, 3)), (27, (.iconst 0, 1)), (28, (.ireturn, 1)), (29, (.iconst (-1), 1)), (30, (.istore 4, 2)), (32, (.iconst 0, 1)), (33, (.istore 5, 2)), (35, (.iload 5, 2)), (37, (.aload_n 0, 1)), (38, (.getfield 17, 3)), (41, (.iload_n 1, 1)), (42, (.iaload, 1)), (43, (.if_icmp .ge 56, 3)), (46, (.aload_n 0, 1)), (47, (.iload_n 2, 1)), (48, (.aload_n 0, 1)), (49, (.getfield 11, 3)), (52, (.iload_n 1, 1)), (53, (.aaload, 1)), (54, (.iload 5, 2)), (56, (.iaload, 1)), (57, (.invokevirtual 115, 3)), (60, (.istore 6, 2)), (62, (.iload 4, 2)), (64, (.iconst (-1), 1)), (65, (.if_icmp .eq 24, 3)), (68, (.iload_n 3, 1)), (69, (.ifCond .eq 13, 3))] : List (Nat × (Jvm.ClassFile.Instr × Nat))).all (dcB cX6_extreme) = true := by decide +kernel
theorem dX6_extreme_0 : decode cX6_extreme 0 = .ok (.aload_n 0, 1) := dget dkX6_extreme_0 0 rfl
theorem dX6_extreme_1 : decode cX6_extreme 1 = .ok (.iload_n 1, 1) := dget dkX6_extreme_0 1 rfl
theorem dX6_extreme_2 : decode cX6_extreme 2 = .ok (.invokestatic 65, 3) := dget dkX6_extreme_0 2 rfl
theorem dX6_extreme_5 : decode cX6_extreme 5 = .ok (.ifCond .ne 10, 3) := dget dkX6_extreme_0 3 rfl
theorem dX6_extreme_8 : decode cX6_extreme 8 = .ok (.iload_n 2, 1) := dget dkX6_extreme_0 4 rfl
theorem dX6_extreme_9 : decode cX6_extreme 9 = .ok (.invokestatic 86, 3) := dget dkX6_extreme_0 5 rfl
theorem dX6_extreme_12 : decode cX6_extreme 12 = .ok (.ifCond .eq 7, 3) := dget dkX6_extreme_0 6 rfl
theorem dX6_extreme_15 : decode cX6_extreme 15 = .ok (.iconst 1, 1) := dget dkX6_extreme_0 7 rfl
theorem dX6_extreme_16 : decode cX6_extreme 16 = .ok (.goto 4, 3) := dget dkX6_extreme_0 8 rfl
theorem dX6_extreme_19 : decode cX6_extreme 19 = .ok (.iconst 0, 1) := dget dkX6_extreme_0 9 rfl
theorem dX6_extreme_20 : decode cX6_extreme 20 = .ok (.iconst 1, 1) := dget dkX6_extreme_0 10 rfl
theorem dX6_extreme_21 : decode cX6_extreme 21 = .ok (.invokevirtual 69, 3) := dget dkX6_extreme_0 11 rfl
theorem dX6_extreme_24 : decode cX6_extreme 24 = .ok (.ifCond .eq 5, 3) := dget dkX6_extreme_0 12 rfl
theorem dX6_extreme_27 : decode cX6_extreme 27 = .ok (.iconst 0, 1) := dget dkX6_extreme_0 13 rfl
theorem dX6_extreme_28 : decode cX6_extreme 28 = .ok (.ireturn, 1) := dget dkX6_extreme_0 14 rfl
theorem dX6_extreme_29 : decode cX6_extreme 29 = .ok (.iconst (-1), 1) := dget dkX6_extreme_0 15 rfl
theorem dX6_extreme_30 : decode cX6_extreme 30 = .ok (.istore 4, 2) := dget dkX6_extreme_0 16 rfl
theorem dX6_extreme_32 : decode cX6_extreme 32 = .ok (.iconst 0, 1) := dget dkX6_extreme_0 17 rfl
theorem dX6_extreme_33 : decode cX6_extreme 33 = .ok (.istore 5, 2) := dget dkX6_extreme_0 18 rfl
theorem dX6_extreme_35 : decode cX6_extreme 35 = .ok (.iload 5, 2) := dget dkX6_extreme_0 19 rfl
theorem dX6_extreme_37 : decode cX6_extreme 37 = .ok (.aload_n 0, 1) := dget dkX6_extreme_0 20 rfl
theorem dX6_extreme_38 : decode cX6_extreme 38 = .ok (.getfield 17, 3) := dget dkX6_extreme_0 21 rfl
theorem dX6_extreme_41 : decode cX6_extreme 41 = .ok (.iload_n 1, 1) := dget dkX6_extreme_0 22 rfl
theorem dX6_extreme_42 : decode cX6_extreme 42 = .ok (.iaload, 1) := dget dkX6_extreme_0 23 rfl
theorem dX6_extreme_43 : decode cX6_extreme 43 = .ok (.if_icmp .ge 56, 3) := dget dkX6_extreme_0 24 rfl
theorem dX6_extreme_46 : decode cX6_extreme 46 = .ok (.aload_n 0, 1) := dget dkX6_extreme_0 25 rfl
theorem dX6_extreme_47 : decode cX6_extreme 47 = .ok (.iload_n 2, 1) := dget dkX6_extreme_0 26 rfl
theorem dX6_extreme_48 : decode cX6_extreme 48 = .ok (.aload_n 0, 1) := dget dkX6_extreme_0 27 rfl
theorem dX6_extreme_49 : decode cX6_extreme 49 = .ok (.getfield 11, 3) := dget dkX6_extreme_0 28 rfl
theorem dX6_extreme_52 : decode cX6_extreme 52 = .ok (.iload_n 1, 1) := dget dkX6_extreme_0 29 rfl
theorem dX6_extreme_53 : decode cX6_extreme 53 = .ok (.aaload, 1) := dget dkX6_extreme_0 30 rfl
theorem dX6_extreme_54 : decode cX6_extreme 54 = .ok (.iload 5, 2) := dget dkX6_extreme_0 31 rfl
theorem dX6_extreme_56 : decode cX6_extreme 56 = .ok (.iaload, 1) := dget dkX6_extreme_0 32 rfl
theorem dX6_extreme_57 : decode cX6_extreme 57 = .ok (.invokevirtual 115, 3) := dget dkX6_extreme_0 33 rfl
theorem dX6_extreme_60 : decode cX6_extreme 60 = .ok (.istore 6, 2) := dget dkX6_extreme_0 34 rfl
theorem dX6_extreme_62 : decode cX6_extreme 62 = .ok (.iload 4, 2) := dget dkX6_extreme_0 35 rfl
theorem dX6_extreme_64 : decode cX6_extreme 64 = .ok (.iconst (-1), 1) := dget dkX6_extreme_0 36 rfl
theorem dX6_extreme_65 : decode cX6_extreme 65 = .ok (.if_icmp .eq 24, 3) := dget dkX6_extreme_0 37 rfl
theorem dX6_extreme_68 : decode cX6_extreme 68 = .ok (.iload_n 3, 1) := dget dkX6_extreme_0 38 rfl
theorem dX6_extreme_69 : decode cX6_extreme 69 = .ok (.ifCond .eq 13, 3) := dget dkX6_extreme_0 39 rfl
theorem dkX6_extreme_1 : ([(72, (.iload 6, 2)), (74, (.iload 4, 2)), (76, (.if_icmp .le 17, 3)), (79, (.goto 10, 3)), (82, (.iload 6, 2)), (84, (.iload 4, 2)), (86, (.if_icmp .ge 7, 3)), (89, (.iload 6, 2)), (91, (.istore 4, 2)), (93, (.iinc 5 1, 3)), (96, (.goto (-61), 3)), (99, (.iload 4, 2)), (101, (.ireturn, 1))] : List (Nat × (Jvm.ClassFile.Instr × Nat))).all (dcB cX6_extreme) = true := by decide +kernel
theorem dX6_extreme_72 : decode cX6_extreme 72 = .ok (.iload 6, 2) := dget dkX6_extreme_1 0 rfl
theorem dX6_extreme_74 : decode cX6_extreme 74 = .ok (.iload 4, 2) := dget dkX6_extreme_1 1 rfl
theorem dX6_extreme_76 : decode cX6_extreme 76 = .ok (.if_icmp .le 17, 3) := dget dkX6_extreme_1 2 rfl
theorem dX6_extreme_79 : decode cX6_extreme 79 = .ok (.goto 10, 3) := dget dkX6_extreme_1 3 rfl
theorem dX6_extreme_82 : decode cX6_extreme 82 = .ok (.iload 6, 2) := dget dkX6_extreme_1 4 rfl
theorem dX6_extreme_84 : decode cX6_extreme 84 = .ok (.iload 4, 2) := dget dkX6_extreme_1 5 rfl
theorem dX6_extreme_86 : decode cX6_extreme 86 = .ok (.if_icmp .ge 7, 3) := dget dkX6_extreme_1 6 rfl
theorem dX6_extreme_89 : decode cX6_extreme 89 = .ok (.iload 6, 2) := dget dkX6_extreme_1 7 rfl
theorem dX6_extreme_91 : decode cX6_extreme 91 = .ok (.istore 4, 2) := dget dkX6_extreme_1 8 rfl
theorem dX6_extreme_93 : decode cX6_extreme 93 = .ok (.iinc 5 1, 3) := dget dkX6_extreme_1 9 rfl
theorem dX6_extreme_96 : decode cX6_extreme 96 = .ok (.goto (-61), 3) := dget dkX6_extreme_1 10 rfl
theorem dX6_extreme_99 : decode cX6_extreme 99 = .ok (.iload 4, 2) := dget dkX6_extreme_1 11 rfl
theorem dX6_extreme_101 : decode cX6_extreme 101 = .ok (.ireturn, 1) := dget dkX6_extreme_1 12 rfl
theorem ggX6_search_X6_isNoRow : GoodIn wsX6_search wsX6_isNoRow := tgCall 685 e_X6_isNoRow (by decide +kernel)
theorem gX6_search_X6_isNoRow : GoodIn wsX6_search (va_wsS RX6 65 yX6_isNoRow wsX6_isNoRow) := goodIn_app (tgIn [682, 683, 684] (by decide +kernel) rfl) ggX6_search_X6_isNoRow
theorem ggX6_search_X6_isNoOrder : GoodIn wsX6_search wsX6_isNoOrder := tgCall 715 e_X6_isNoOrder (by decide +kernel)
theorem gX6_search_X6_isNoOrder : GoodIn wsX6_search (va_wsS RX6 86 yX6_isNoOrder wsX6_isNoOrder) := goodIn_app (tgIn [713, 714, 684] (by decide +kernel) rfl) ggX6_search_X6_isNoOrder
theorem ggX6_search_X6_start : GoodIn wsX6_search wsX6_start := tgCall 692 e_X6_start (by decide +kernel)
theorem gX6_search_X6_start : GoodIn wsX6_search (wsV RX6 69 RX6 yX6_start wsX6_start) := goodIn_app (tgIn [689, 690, 691, 684] (by decide +kernel) rfl) ggX6_search_X6_start
theorem ggX6_search_X6_isNoValue : GoodIn wsX6_search wsX6_isNoValue := tgCall 700 e_X6_isNoValue (by decide +kernel)
theorem gX6_search_X6_isNoValue : GoodIn wsX6_search (va_wsS RX6 72 yX6_isNoValue wsX6_isNoValue) := goodIn_app (tgIn [698, 699, 684] (by decide +kernel) rfl) ggX6_search_X6_isNoValue
theorem ggX6_search_X6_refuse : GoodIn wsX6_search wsX6_refuse := tgCall 697 e_X6_refuse (by decide +kernel)
theorem gX6_search_X6_refuse : GoodIn wsX6_search (wsV RX6 36 RX6 yX6_refuse wsX6_refuse) := goodIn_app (tgIn [694, 695, 696, 684] (by decide +kernel) rfl) ggX6_search_X6_refuse
theorem ggX6_search_X6_isInSequence : GoodIn wsX6_search wsX6_isInSequence := tgCall 737 e_X6_isInSequence (by decide +kernel)
theorem gX6_search_X6_isInSequence : GoodIn wsX6_search (wsV RX6 92 RX6 yX6_isInSequence wsX6_isInSequence) := goodIn_app (tgIn [734, 735, 736, 684] (by decide +kernel) rfl) ggX6_search_X6_isInSequence
theorem ggX6_search_X6_no : GoodIn wsX6_search wsX6_no := tgCall 704 e_X6_no (by decide +kernel)
theorem gX6_search_X6_no : GoodIn wsX6_search (wsV RX6 75 RX6 yX6_no wsX6_no) := goodIn_app (tgIn [701, 702, 703, 684] (by decide +kernel) rfl) ggX6_search_X6_no
theorem ggX6_search_X6_compareNow : GoodIn wsX6_search wsX6_compareNow := tgCall 723 e_X6_compareNow (by decide +kernel)
theorem gX6_search_X6_compareNow : GoodIn wsX6_search (wsV RX6 51 RX6 yX6_compareNow wsX6_compareNow) := goodIn_app (tgIn [720, 721, 722, 684] (by decide +kernel) rfl) ggX6_search_X6_compareNow
def dvX6_search_0 : List UInt8 := [42, 27, 184, 0, 65, 154, 0, 10, 28, 184, 0, 86, 153, 0, 7, 4, 167, 0, 4, 3, 4, 182, 0, 69, 154, 0, 15, 42, 29, 184, 0, 72, 5, 182, 0, 36, 153, 0, 5, 3, 172, 42, 27, 28, 182, 0, 92, 154, 0, 8, 42, 182, 0, 75, 172, 3, 54, 4, 3]
theorem dwX6_search_0 : (cX6_search.data.toList.drop 0).take dvX6_search_0.length = dvX6_search_0 := by decide +kernel
theorem dkX6_search_0 : ([(0, (.aload_n 0, 1)), (1, (.iload_n 1, 1)), (2, (.invokestatic 65, 3)), (5, (.ifCond .ne 10, 3)), (8, (.iload_n 2, 1)), (9, (.invokestatic 86, 3)), (12, (.ifCond .eq 7, 3)), (15, (.iconst 1, 1)), (16, (.goto 4, 3)), (19, (.iconst 0, 1)), (20, (.iconst 1, 1)), (21, (.invokevirtual 69, 3)), (24, (.ifCond .ne 15, 3)), (27, (.aload_n 0, 1)), (28, (.iload_n 3, 1)), (29, (.invokestatic 72, 3)), (32, (.iconst 2, 1)), (33, (.invokevirtual 36, 3)), (36, (.ifCond .eq 5, 3)), (39, (.iconst 0, 1)), (40, (.ireturn, 1)), (41, (.aload_n 0, 1)), (42, (.iload_n 1, 1)), (43, (.iload_n 2, 1)), (44, (.invokevirtual 92, 3)), (47, (.ifCond .ne 8, 3)), (50, (.aload_n 0, 1)), (51, (.invokevirtual 75, 3)), (54, (.ireturn, 1)), (55, (.iconst 0, 1)), (56, (.istore 4, 2)), (58, (.iconst 0, 1))] : List (Nat × (Jvm.ClassFile.Instr × Nat))).all (wnL dvX6_search_0 0) = true := by decide +kernel
theorem dX6_search_0 : decode cX6_search 0 = .ok (.aload_n 0, 1) := wnGet dwX6_search_0 dkX6_search_0 0 rfl
theorem dX6_search_1 : decode cX6_search 1 = .ok (.iload_n 1, 1) := wnGet dwX6_search_0 dkX6_search_0 1 rfl
theorem dX6_search_2 : decode cX6_search 2 = .ok (.invokestatic 65, 3) := wnGet dwX6_search_0 dkX6_search_0 2 rfl
theorem dX6_search_5 : decode cX6_search 5 = .ok (.ifCond .ne 10, 3) := wnGet dwX6_search_0 dkX6_search_0 3 rfl
theorem dX6_search_8 : decode cX6_search 8 = .ok (.iload_n 2, 1) := wnGet dwX6_search_0 dkX6_search_0 4 rfl
theorem dX6_search_9 : decode cX6_search 9 = .ok (.invokestatic 86, 3) := wnGet dwX6_search_0 dkX6_search_0 5 rfl
theorem dX6_search_12 : decode cX6_search 12 = .ok (.ifCond .eq 7, 3) := wnGet dwX6_search_0 dkX6_search_0 6 rfl
theorem dX6_search_15 : decode cX6_search 15 = .ok (.iconst 1, 1) := wnGet dwX6_search_0 dkX6_search_0 7 rfl
theorem dX6_search_16 : decode cX6_search 16 = .ok (.goto 4, 3) := wnGet dwX6_search_0 dkX6_search_0 8 rfl
theorem dX6_search_19 : decode cX6_search 19 = .ok (.iconst 0, 1) := wnGet dwX6_search_0 dkX6_search_0 9 rfl
theorem dX6_search_20 : decode cX6_search 20 = .ok (.iconst 1, 1) := wnGet dwX6_search_0 dkX6_search_0 10 rfl
theorem dX6_search_21 : decode cX6_search 21 = .ok (.invokevirtual 69, 3) := wnGet dwX6_search_0 dkX6_search_0 11 rfl
theorem dX6_search_24 : decode cX6_search 24 = .ok (.ifCond .ne 15, 3) := wnGet dwX6_search_0 dkX6_search_0 12 rfl
theorem dX6_search_27 : decode cX6_search 27 = .ok (.aload_n 0, 1) := wnGet dwX6_search_0 dkX6_search_0 13 rfl
theorem dX6_search_28 : decode cX6_search 28 = .ok (.iload_n 3, 1) := wnGet dwX6_search_0 dkX6_search_0 14 rfl
theorem dX6_search_29 : decode cX6_search 29 = .ok (.invokestatic 72, 3) := wnGet dwX6_search_0 dkX6_search_0 15 rfl
theorem dX6_search_32 : decode cX6_search 32 = .ok (.iconst 2, 1) := wnGet dwX6_search_0 dkX6_search_0 16 rfl
theorem dX6_search_33 : decode cX6_search 33 = .ok (.invokevirtual 36, 3) := wnGet dwX6_search_0 dkX6_search_0 17 rfl
theorem dX6_search_36 : decode cX6_search 36 = .ok (.ifCond .eq 5, 3) := wnGet dwX6_search_0 dkX6_search_0 18 rfl
theorem dX6_search_39 : decode cX6_search 39 = .ok (.iconst 0, 1) := wnGet dwX6_search_0 dkX6_search_0 19 rfl
theorem dX6_search_40 : decode cX6_search 40 = .ok (.ireturn, 1) := wnGet dwX6_search_0 dkX6_search_0 20 rfl
theorem dX6_search_41 : decode cX6_search 41 = .ok (.aload_n 0, 1) := wnGet dwX6_search_0 dkX6_search_0 21 rfl
theorem dX6_search_42 : decode cX6_search 42 = .ok (.iload_n 1, 1) := wnGet dwX6_search_0 dkX6_search_0 22 rfl
theorem dX6_search_43 : decode cX6_search 43 = .ok (.iload_n 2, 1) := wnGet dwX6_search_0 dkX6_search_0 23 rfl
theorem dX6_search_44 : decode cX6_search 44 = .ok (.invokevirtual 92, 3) := wnGet dwX6_search_0 dkX6_search_0 24 rfl
theorem dX6_search_47 : decode cX6_search 47 = .ok (.ifCond .ne 8, 3) := wnGet dwX6_search_0 dkX6_search_0 25 rfl
theorem dX6_search_50 : decode cX6_search 50 = .ok (.aload_n 0, 1) := wnGet dwX6_search_0 dkX6_search_0 26 rfl
theorem dX6_search_51 : decode cX6_search 51 = .ok (.invokevirtual 75, 3) := wnGet dwX6_search_0 dkX6_search_0 27 rfl
theorem dX6_search_54 : decode cX6_search 54 = .ok (.ireturn, 1) := wnGet dwX6_search_0 dkX6_search_0 28 rfl
theorem dX6_search_55 : decode cX6_search 55 = .ok (.iconst 0, 1) := wnGet dwX6_search_0 dkX6_search_0 29 rfl
theorem dX6_search_56 : decode cX6_search 56 = .ok (.istore 4, 2) := wnGet dwX6_search_0 dkX6_search_0 30 rfl
theorem dX6_search_58 : decode cX6_search 58 = .ok (.iconst 0, 1) := wnGet dwX6_search_0 dkX6_search_0 31 rfl
def dvX6_search_1 : List UInt8 := [54, 5, 21, 5, 42, 180, 0, 17, 27, 46, 162, 0, 49, 42, 28, 42, 180, 0, 11, 27, 50, 21, 5, 46, 29, 182, 0, 51, 54, 6, 21, 6, 154, 0, 6, 16, 16, 172, 21, 4, 21, 6, 156, 0, 7, 4, 167, 0, 4, 3, 96, 54, 4, 132, 5, 1, 167, 255, 202]
theorem dwX6_search_1 : (cX6_search.data.toList.drop 59).take dvX6_search_1.length = dvX6_search_1 := by decide +kernel
theorem dkX6_search_1 : ([(59, (.istore 5, 2)), (61, (.iload 5, 2)), (63, (.aload_n 0, 1)), (64, (.getfield 17, 3)), (67, (.iload_n 1, 1)), (68, (.iaload, 1)), (69, (.if_icmp .ge 49, 3)), (72, (.aload_n 0, 1)), (73, (.iload_n 2, 1)), (74, (.aload_n 0, 1)), (75, (.getfield 11, 3)), (78, (.iload_n 1, 1)), (79, (.aaload, 1)), (80, (.iload 5, 2)), (82, (.iaload, 1)), (83, (.iload_n 3, 1)), (84, (.invokevirtual 51, 3)), (87, (.istore 6, 2)), (89, (.iload 6, 2)), (91, (.ifCond .ne 6, 3)), (94, (.bipush 16, 2)), (96, (.ireturn, 1)), (97, (.iload 4, 2)), (99, (.iload 6, 2)), (101, (.ifCond .ge 7, 3)), (104, (.iconst 1, 1)), (105, (.goto 4, 3)), (108, (.iconst 0, 1)), (109, (.iadd, 1)), (110, (.istore 4, 2)), (112, (.iinc 5 1, 3)), (115, (.goto (-54), 3))] : List (Nat × (Jvm.ClassFile.Instr × Nat))).all (wnL dvX6_search_1 59) = true := by decide +kernel
theorem dX6_search_59 : decode cX6_search 59 = .ok (.istore 5, 2) := wnGet dwX6_search_1 dkX6_search_1 0 rfl
theorem dX6_search_61 : decode cX6_search 61 = .ok (.iload 5, 2) := wnGet dwX6_search_1 dkX6_search_1 1 rfl
theorem dX6_search_63 : decode cX6_search 63 = .ok (.aload_n 0, 1) := wnGet dwX6_search_1 dkX6_search_1 2 rfl
theorem dX6_search_64 : decode cX6_search 64 = .ok (.getfield 17, 3) := wnGet dwX6_search_1 dkX6_search_1 3 rfl
theorem dX6_search_67 : decode cX6_search 67 = .ok (.iload_n 1, 1) := wnGet dwX6_search_1 dkX6_search_1 4 rfl
theorem dX6_search_68 : decode cX6_search 68 = .ok (.iaload, 1) := wnGet dwX6_search_1 dkX6_search_1 5 rfl
theorem dX6_search_69 : decode cX6_search 69 = .ok (.if_icmp .ge 49, 3) := wnGet dwX6_search_1 dkX6_search_1 6 rfl
theorem dX6_search_72 : decode cX6_search 72 = .ok (.aload_n 0, 1) := wnGet dwX6_search_1 dkX6_search_1 7 rfl
theorem dX6_search_73 : decode cX6_search 73 = .ok (.iload_n 2, 1) := wnGet dwX6_search_1 dkX6_search_1 8 rfl
theorem dX6_search_74 : decode cX6_search 74 = .ok (.aload_n 0, 1) := wnGet dwX6_search_1 dkX6_search_1 9 rfl
theorem dX6_search_75 : decode cX6_search 75 = .ok (.getfield 11, 3) := wnGet dwX6_search_1 dkX6_search_1 10 rfl
theorem dX6_search_78 : decode cX6_search 78 = .ok (.iload_n 1, 1) := wnGet dwX6_search_1 dkX6_search_1 11 rfl
theorem dX6_search_79 : decode cX6_search 79 = .ok (.aaload, 1) := wnGet dwX6_search_1 dkX6_search_1 12 rfl
theorem dX6_search_80 : decode cX6_search 80 = .ok (.iload 5, 2) := wnGet dwX6_search_1 dkX6_search_1 13 rfl
theorem dX6_search_82 : decode cX6_search 82 = .ok (.iaload, 1) := wnGet dwX6_search_1 dkX6_search_1 14 rfl
theorem dX6_search_83 : decode cX6_search 83 = .ok (.iload_n 3, 1) := wnGet dwX6_search_1 dkX6_search_1 15 rfl
theorem dX6_search_84 : decode cX6_search 84 = .ok (.invokevirtual 51, 3) := wnGet dwX6_search_1 dkX6_search_1 16 rfl
theorem dX6_search_87 : decode cX6_search 87 = .ok (.istore 6, 2) := wnGet dwX6_search_1 dkX6_search_1 17 rfl
theorem dX6_search_89 : decode cX6_search 89 = .ok (.iload 6, 2) := wnGet dwX6_search_1 dkX6_search_1 18 rfl
theorem dX6_search_91 : decode cX6_search 91 = .ok (.ifCond .ne 6, 3) := wnGet dwX6_search_1 dkX6_search_1 19 rfl
theorem dX6_search_94 : decode cX6_search 94 = .ok (.bipush 16, 2) := wnGet dwX6_search_1 dkX6_search_1 20 rfl
theorem dX6_search_96 : decode cX6_search 96 = .ok (.ireturn, 1) := wnGet dwX6_search_1 dkX6_search_1 21 rfl
theorem dX6_search_97 : decode cX6_search 97 = .ok (.iload 4, 2) := wnGet dwX6_search_1 dkX6_search_1 22 rfl
theorem dX6_search_99 : decode cX6_search 99 = .ok (.iload 6, 2) := wnGet dwX6_search_1 dkX6_search_1 23 rfl
theorem dX6_search_101 : decode cX6_search 101 = .ok (.ifCond .ge 7, 3) := wnGet dwX6_search_1 dkX6_search_1 24 rfl
theorem dX6_search_104 : decode cX6_search 104 = .ok (.iconst 1, 1) := wnGet dwX6_search_1 dkX6_search_1 25 rfl
theorem dX6_search_105 : decode cX6_search 105 = .ok (.goto 4, 3) := wnGet dwX6_search_1 dkX6_search_1 26 rfl
theorem dX6_search_108 : decode cX6_search 108 = .ok (.iconst 0, 1) := wnGet dwX6_search_1 dkX6_search_1 27 rfl
theorem dX6_search_109 : decode cX6_search 109 = .ok (.iadd, 1) := wnGet dwX6_search_1 dkX6_search_1 28 rfl
theorem dX6_search_110 : decode cX6_search 110 = .ok (.istore 4, 2) := wnGet dwX6_search_1 dkX6_search_1 29 rfl
theorem dX6_search_112 : decode cX6_search 112 = .ok (.iinc 5 1, 3) := wnGet dwX6_search_1 dkX6_search_1 30 rfl
theorem dX6_search_115 : decode cX6_search 115 = .ok (.goto (-54), 3) := wnGet dwX6_search_1 dkX6_search_1 31 rfl
def dvX6_search_2 : List UInt8 := [21, 4, 172]
theorem dwX6_search_2 : (cX6_search.data.toList.drop 118).take dvX6_search_2.length = dvX6_search_2 := by decide +kernel
theorem dkX6_search_2 : ([(118, (.iload 4, 2)), (120, (.ireturn, 1))] : List (Nat × (Jvm.ClassFile.Instr × Nat))).all (wnL dvX6_search_2 118) = true := by decide +kernel
theorem dX6_search_118 : decode cX6_search 118 = .ok (.iload 4, 2) := wnGet dwX6_search_2 dkX6_search_2 0 rfl
theorem dX6_search_120 : decode cX6_search 120 = .ok (.ireturn, 1) := wnGet dwX6_search_2 dkX6_search_2 1 rfl
theorem ggX6_near_X6_isNoRow : GoodIn wsX6_near wsX6_isNoRow := tgCall 685 e_X6_isNoRow (by decide +kernel)
theorem gX6_near_X6_isNoRow : GoodIn wsX6_near (va_wsS RX6 65 yX6_isNoRow wsX6_isNoRow) := goodIn_app (tgIn [682, 683, 684] (by decide +kernel) rfl) ggX6_near_X6_isNoRow
theorem ggX6_near_X6_isNoOrder : GoodIn wsX6_near wsX6_isNoOrder := tgCall 715 e_X6_isNoOrder (by decide +kernel)
theorem gX6_near_X6_isNoOrder : GoodIn wsX6_near (va_wsS RX6 86 yX6_isNoOrder wsX6_isNoOrder) := goodIn_app (tgIn [713, 714, 684] (by decide +kernel) rfl) ggX6_near_X6_isNoOrder
theorem ggX6_near_X6_start : GoodIn wsX6_near wsX6_start := tgCall 692 e_X6_start (by decide +kernel)
theorem gX6_near_X6_start : GoodIn wsX6_near (wsV RX6 69 RX6 yX6_start wsX6_start) := goodIn_app (tgIn [689, 690, 691, 684] (by decide +kernel) rfl) ggX6_near_X6_start
theorem ggX6_near_X6_isNoValue : GoodIn wsX6_near wsX6_isNoValue := tgCall 700 e_X6_isNoValue (by decide +kernel)
theorem gX6_near_X6_isNoValue : GoodIn wsX6_near (va_wsS RX6 72 yX6_isNoValue wsX6_isNoValue) := goodIn_app (tgIn [698, 699, 684] (by decide +kernel) rfl) ggX6_near_X6_isNoValue
theorem ggX6_near_X6_isNo : GoodIn wsX6_near wsX6_isNo := tgCall 688 e_X6_isNo (by decide +kernel)
theorem gX6_near_X6_isNo : GoodIn wsX6_near (va_wsS RX6 40 yX6_isNo wsX6_isNo) := goodIn_app (tgIn [686, 687, 684] (by decide +kernel) rfl) ggX6_near_X6_isNo
theorem ggX6_near_X6_refuse : GoodIn wsX6_near wsX6_refuse := tgCall 697 e_X6_refuse (by decide +kernel)
theorem gX6_near_X6_refuse : GoodIn wsX6_near (wsV RX6 36 RX6 yX6_refuse wsX6_refuse) := goodIn_app (tgIn [694, 695, 696, 684] (by decide +kernel) rfl) ggX6_near_X6_refuse
theorem ggX6_near_X6_compareNow : GoodIn wsX6_near wsX6_compareNow := tgCall 723 e_X6_compareNow (by decide +kernel)
theorem gX6_near_X6_compareNow : GoodIn wsX6_near (wsV RX6 51 RX6 yX6_compareNow wsX6_compareNow) := goodIn_app (tgIn [720, 721, 722, 684] (by decide +kernel) rfl) ggX6_near_X6_compareNow
def dvX6_near_0 : List UInt8 := [42, 27, 184, 0, 65, 154, 0, 10, 28, 184, 0, 86, 153, 0, 7, 4, 167, 0, 4, 3, 4, 182, 0, 69, 154, 0, 32, 42, 29, 184, 0, 72, 154, 0, 12, 21, 4, 6, 184, 0, 40, 153, 0, 7, 4, 167, 0, 4, 3, 5, 182, 0, 36, 153, 0, 5, 3, 172, 2, 54, 5, 3]
theorem dwX6_near_0 : (cX6_near.data.toList.drop 0).take dvX6_near_0.length = dvX6_near_0 := by decide +kernel
theorem dkX6_near_0 : ([(0, (.aload_n 0, 1)), (1, (.iload_n 1, 1)), (2, (.invokestatic 65, 3)), (5, (.ifCond .ne 10, 3)), (8, (.iload_n 2, 1)), (9, (.invokestatic 86, 3)), (12, (.ifCond .eq 7, 3)), (15, (.iconst 1, 1)), (16, (.goto 4, 3)), (19, (.iconst 0, 1)), (20, (.iconst 1, 1)), (21, (.invokevirtual 69, 3)), (24, (.ifCond .ne 32, 3)), (27, (.aload_n 0, 1)), (28, (.iload_n 3, 1)), (29, (.invokestatic 72, 3)), (32, (.ifCond .ne 12, 3)), (35, (.iload 4, 2)), (37, (.iconst 3, 1)), (38, (.invokestatic 40, 3)), (41, (.ifCond .eq 7, 3)), (44, (.iconst 1, 1)), (45, (.goto 4, 3)), (48, (.iconst 0, 1)), (49, (.iconst 2, 1)), (50, (.invokevirtual 36, 3)), (53, (.ifCond .eq 5, 3)), (56, (.iconst 0, 1)), (57, (.ireturn, 1)), (58, (.iconst (-1), 1)), (59, (.istore 5, 2)), (61, (.iconst 0, 1))] : List (Nat × (Jvm.ClassFile.Instr × Nat))).all (wnL dvX6_near_0 0) = true := by decide +kernel
theorem dX6_near_0 : decode cX6_near 0 = .ok (.aload_n 0, 1) := wnGet dwX6_near_0 dkX6_near_0 0 rfl
theorem dX6_near_1 : decode cX6_near 1 = .ok (.iload_n 1, 1) := wnGet dwX6_near_0 dkX6_near_0 1 rfl
theorem dX6_near_2 : decode cX6_near 2 = .ok (.invokestatic 65, 3) := wnGet dwX6_near_0 dkX6_near_0 2 rfl
theorem dX6_near_5 : decode cX6_near 5 = .ok (.ifCond .ne 10, 3) := wnGet dwX6_near_0 dkX6_near_0 3 rfl
theorem dX6_near_8 : decode cX6_near 8 = .ok (.iload_n 2, 1) := wnGet dwX6_near_0 dkX6_near_0 4 rfl
theorem dX6_near_9 : decode cX6_near 9 = .ok (.invokestatic 86, 3) := wnGet dwX6_near_0 dkX6_near_0 5 rfl
theorem dX6_near_12 : decode cX6_near 12 = .ok (.ifCond .eq 7, 3) := wnGet dwX6_near_0 dkX6_near_0 6 rfl
theorem dX6_near_15 : decode cX6_near 15 = .ok (.iconst 1, 1) := wnGet dwX6_near_0 dkX6_near_0 7 rfl
theorem dX6_near_16 : decode cX6_near 16 = .ok (.goto 4, 3) := wnGet dwX6_near_0 dkX6_near_0 8 rfl
theorem dX6_near_19 : decode cX6_near 19 = .ok (.iconst 0, 1) := wnGet dwX6_near_0 dkX6_near_0 9 rfl
theorem dX6_near_20 : decode cX6_near 20 = .ok (.iconst 1, 1) := wnGet dwX6_near_0 dkX6_near_0 10 rfl
theorem dX6_near_21 : decode cX6_near 21 = .ok (.invokevirtual 69, 3) := wnGet dwX6_near_0 dkX6_near_0 11 rfl
theorem dX6_near_24 : decode cX6_near 24 = .ok (.ifCond .ne 32, 3) := wnGet dwX6_near_0 dkX6_near_0 12 rfl
theorem dX6_near_27 : decode cX6_near 27 = .ok (.aload_n 0, 1) := wnGet dwX6_near_0 dkX6_near_0 13 rfl
theorem dX6_near_28 : decode cX6_near 28 = .ok (.iload_n 3, 1) := wnGet dwX6_near_0 dkX6_near_0 14 rfl
theorem dX6_near_29 : decode cX6_near 29 = .ok (.invokestatic 72, 3) := wnGet dwX6_near_0 dkX6_near_0 15 rfl
theorem dX6_near_32 : decode cX6_near 32 = .ok (.ifCond .ne 12, 3) := wnGet dwX6_near_0 dkX6_near_0 16 rfl
theorem dX6_near_35 : decode cX6_near 35 = .ok (.iload 4, 2) := wnGet dwX6_near_0 dkX6_near_0 17 rfl
theorem dX6_near_37 : decode cX6_near 37 = .ok (.iconst 3, 1) := wnGet dwX6_near_0 dkX6_near_0 18 rfl
theorem dX6_near_38 : decode cX6_near 38 = .ok (.invokestatic 40, 3) := wnGet dwX6_near_0 dkX6_near_0 19 rfl
theorem dX6_near_41 : decode cX6_near 41 = .ok (.ifCond .eq 7, 3) := wnGet dwX6_near_0 dkX6_near_0 20 rfl
theorem dX6_near_44 : decode cX6_near 44 = .ok (.iconst 1, 1) := wnGet dwX6_near_0 dkX6_near_0 21 rfl
theorem dX6_near_45 : decode cX6_near 45 = .ok (.goto 4, 3) := wnGet dwX6_near_0 dkX6_near_0 22 rfl
theorem dX6_near_48 : decode cX6_near 48 = .ok (.iconst 0, 1) := wnGet dwX6_near_0 dkX6_near_0 23 rfl
theorem dX6_near_49 : decode cX6_near 49 = .ok (.iconst 2, 1) := wnGet dwX6_near_0 dkX6_near_0 24 rfl
theorem dX6_near_50 : decode cX6_near 50 = .ok (.invokevirtual 36, 3) := wnGet dwX6_near_0 dkX6_near_0 25 rfl
theorem dX6_near_53 : decode cX6_near 53 = .ok (.ifCond .eq 5, 3) := wnGet dwX6_near_0 dkX6_near_0 26 rfl
theorem dX6_near_56 : decode cX6_near 56 = .ok (.iconst 0, 1) := wnGet dwX6_near_0 dkX6_near_0 27 rfl
theorem dX6_near_57 : decode cX6_near 57 = .ok (.ireturn, 1) := wnGet dwX6_near_0 dkX6_near_0 28 rfl
theorem dX6_near_58 : decode cX6_near 58 = .ok (.iconst (-1), 1) := wnGet dwX6_near_0 dkX6_near_0 29 rfl
theorem dX6_near_59 : decode cX6_near 59 = .ok (.istore 5, 2) := wnGet dwX6_near_0 dkX6_near_0 30 rfl
theorem dX6_near_61 : decode cX6_near 61 = .ok (.iconst 0, 1) := wnGet dwX6_near_0 dkX6_near_0 31 rfl
def dvX6_near_1 : List UInt8 := [54, 6, 21, 6, 42, 180, 0, 17, 27, 46, 162, 0, 166, 42, 28, 42, 180, 0, 11, 27, 50, 21, 6, 46, 29, 182, 0, 51, 54, 7, 21, 4, 154, 0, 16, 21, 7, 156, 0, 7, 4, 167, 0, 55, 3, 167, 0, 51, 21, 4, 4, 160, 0, 16, 21, 7, 157, 0, 7, 4]
theorem dwX6_near_1 : (cX6_near.data.toList.drop 62).take dvX6_near_1.length = dvX6_near_1 := by decide +kernel
theorem dkX6_near_1 : ([(62, (.istore 6, 2)), (64, (.iload 6, 2)), (66, (.aload_n 0, 1)), (67, (.getfield 17, 3)), (70, (.iload_n 1, 1)), (71, (.iaload, 1)), (72, (.if_icmp .ge 166, 3)), (75, (.aload_n 0, 1)), (76, (.iload_n 2, 1)), (77, (.aload_n 0, 1)), (78, (.getfield 11, 3)), (81, (.iload_n 1, 1)), (82, (.aaload, 1)), (83, (.iload 6, 2)), (85, (.iaload, 1)), (86, (.iload_n 3, 1)), (87, (.invokevirtual 51, 3)), (90, (.istore 7, 2)), (92, (.iload 4, 2)), (94, (.ifCond .ne 16, 3)), (97, (.iload 7, 2)), (99, (.ifCond .ge 7, 3)), (102, (.iconst 1, 1)), (103, (.goto 55, 3)), (106, (.iconst 0, 1)), (107, (.goto 51, 3)), (110, (.iload 4, 2)), (112, (.iconst 1, 1)), (113, (.if_icmp .ne 16, 3)), (116, (.iload 7, 2)), (118, (.ifCond .gt 7, 3)), (121, (.iconst 1, 1))] : List (Nat × (Jvm.ClassFile.Instr × Nat))).all (wnL dvX6_near_1 62) = true := by decide +kernel
theorem dX6_near_62 : decode cX6_near 62 = .ok (.istore 6, 2) := wnGet dwX6_near_1 dkX6_near_1 0 rfl
theorem dX6_near_64 : decode cX6_near 64 = .ok (.iload 6, 2) := wnGet dwX6_near_1 dkX6_near_1 1 rfl
theorem dX6_near_66 : decode cX6_near 66 = .ok (.aload_n 0, 1) := wnGet dwX6_near_1 dkX6_near_1 2 rfl
theorem dX6_near_67 : decode cX6_near 67 = .ok (.getfield 17, 3) := wnGet dwX6_near_1 dkX6_near_1 3 rfl
theorem dX6_near_70 : decode cX6_near 70 = .ok (.iload_n 1, 1) := wnGet dwX6_near_1 dkX6_near_1 4 rfl
theorem dX6_near_71 : decode cX6_near 71 = .ok (.iaload, 1) := wnGet dwX6_near_1 dkX6_near_1 5 rfl
theorem dX6_near_72 : decode cX6_near 72 = .ok (.if_icmp .ge 166, 3) := wnGet dwX6_near_1 dkX6_near_1 6 rfl
theorem dX6_near_75 : decode cX6_near 75 = .ok (.aload_n 0, 1) := wnGet dwX6_near_1 dkX6_near_1 7 rfl
theorem dX6_near_76 : decode cX6_near 76 = .ok (.iload_n 2, 1) := wnGet dwX6_near_1 dkX6_near_1 8 rfl
theorem dX6_near_77 : decode cX6_near 77 = .ok (.aload_n 0, 1) := wnGet dwX6_near_1 dkX6_near_1 9 rfl
theorem dX6_near_78 : decode cX6_near 78 = .ok (.getfield 11, 3) := wnGet dwX6_near_1 dkX6_near_1 10 rfl
theorem dX6_near_81 : decode cX6_near 81 = .ok (.iload_n 1, 1) := wnGet dwX6_near_1 dkX6_near_1 11 rfl
theorem dX6_near_82 : decode cX6_near 82 = .ok (.aaload, 1) := wnGet dwX6_near_1 dkX6_near_1 12 rfl
theorem dX6_near_83 : decode cX6_near 83 = .ok (.iload 6, 2) := wnGet dwX6_near_1 dkX6_near_1 13 rfl
theorem dX6_near_85 : decode cX6_near 85 = .ok (.iaload, 1) := wnGet dwX6_near_1 dkX6_near_1 14 rfl
theorem dX6_near_86 : decode cX6_near 86 = .ok (.iload_n 3, 1) := wnGet dwX6_near_1 dkX6_near_1 15 rfl
theorem dX6_near_87 : decode cX6_near 87 = .ok (.invokevirtual 51, 3) := wnGet dwX6_near_1 dkX6_near_1 16 rfl
theorem dX6_near_90 : decode cX6_near 90 = .ok (.istore 7, 2) := wnGet dwX6_near_1 dkX6_near_1 17 rfl
theorem dX6_near_92 : decode cX6_near 92 = .ok (.iload 4, 2) := wnGet dwX6_near_1 dkX6_near_1 18 rfl
theorem dX6_near_94 : decode cX6_near 94 = .ok (.ifCond .ne 16, 3) := wnGet dwX6_near_1 dkX6_near_1 19 rfl
theorem dX6_near_97 : decode cX6_near 97 = .ok (.iload 7, 2) := wnGet dwX6_near_1 dkX6_near_1 20 rfl
theorem dX6_near_99 : decode cX6_near 99 = .ok (.ifCond .ge 7, 3) := wnGet dwX6_near_1 dkX6_near_1 21 rfl
theorem dX6_near_102 : decode cX6_near 102 = .ok (.iconst 1, 1) := wnGet dwX6_near_1 dkX6_near_1 22 rfl
theorem dX6_near_103 : decode cX6_near 103 = .ok (.goto 55, 3) := wnGet dwX6_near_1 dkX6_near_1 23 rfl
theorem dX6_near_106 : decode cX6_near 106 = .ok (.iconst 0, 1) := wnGet dwX6_near_1 dkX6_near_1 24 rfl
theorem dX6_near_107 : decode cX6_near 107 = .ok (.goto 51, 3) := wnGet dwX6_near_1 dkX6_near_1 25 rfl
theorem dX6_near_110 : decode cX6_near 110 = .ok (.iload 4, 2) := wnGet dwX6_near_1 dkX6_near_1 26 rfl
theorem dX6_near_112 : decode cX6_near 112 = .ok (.iconst 1, 1) := wnGet dwX6_near_1 dkX6_near_1 27 rfl
theorem dX6_near_113 : decode cX6_near 113 = .ok (.if_icmp .ne 16, 3) := wnGet dwX6_near_1 dkX6_near_1 28 rfl
theorem dX6_near_116 : decode cX6_near 116 = .ok (.iload 7, 2) := wnGet dwX6_near_1 dkX6_near_1 29 rfl
theorem dX6_near_118 : decode cX6_near 118 = .ok (.ifCond .gt 7, 3) := wnGet dwX6_near_1 dkX6_near_1 30 rfl
theorem dX6_near_121 : decode cX6_near 121 = .ok (.iconst 1, 1) := wnGet dwX6_near_1 dkX6_near_1 31 rfl
def dvX6_near_2 : List UInt8 := [167, 0, 36, 3, 167, 0, 32, 21, 4, 5, 160, 0, 16, 21, 7, 155, 0, 7, 4, 167, 0, 17, 3, 167, 0, 13, 21, 7, 158, 0, 7, 4, 167, 0, 4, 3, 54, 8, 21, 8, 154, 0, 6, 167, 0, 67, 21, 5, 2, 160, 0, 7, 4, 167, 0, 26, 42, 28, 42, 180, 0, 11, 27, 50]
theorem dwX6_near_2 : (cX6_near.data.toList.drop 122).take dvX6_near_2.length = dvX6_near_2 := by decide +kernel
theorem dkX6_near_2 : ([(122, (.goto 36, 3)), (125, (.iconst 0, 1)), (126, (.goto 32, 3)), (129, (.iload 4, 2)), (131, (.iconst 2, 1)), (132, (.if_icmp .ne 16, 3)), (135, (.iload 7, 2)), (137, (.ifCond .lt 7, 3)), (140, (.iconst 1, 1)), (141, (.goto 17, 3)), (144, (.iconst 0, 1)), (145, (.goto 13, 3)), (148, (.iload 7, 2)), (150, (.ifCond .le 7, 3)), (153, (.iconst 1, 1)), (154, (.goto 4, 3)), (157, (.iconst 0, 1)), (158, (.istore 8, 2)), (160, (.iload 8, 2)), (162, (.ifCond .ne 6, 3)), (165, (.goto 67, 3)), (168, (.iload 5, 2)), (170, (.iconst (-1), 1)), (171, (.if_icmp .ne 7, 3)), (174, (.iconst 1, 1)), (175, (.goto 26, 3)), (178, (.aload_n 0, 1)), (179, (.iload_n 2, 1)), (180, (.aload_n 0, 1)), (181, (.getfield 11, 3)), (184, (.iload_n 1, 1)), (185, (.aaload, 1))] : List (Nat × (Jvm.ClassFile.Instr × Nat))).all (wnL dvX6_near_2 122) = true := by decide +kernel
theorem dX6_near_122 : decode cX6_near 122 = .ok (.goto 36, 3) := wnGet dwX6_near_2 dkX6_near_2 0 rfl
theorem dX6_near_125 : decode cX6_near 125 = .ok (.iconst 0, 1) := wnGet dwX6_near_2 dkX6_near_2 1 rfl
theorem dX6_near_126 : decode cX6_near 126 = .ok (.goto 32, 3) := wnGet dwX6_near_2 dkX6_near_2 2 rfl
theorem dX6_near_129 : decode cX6_near 129 = .ok (.iload 4, 2) := wnGet dwX6_near_2 dkX6_near_2 3 rfl
theorem dX6_near_131 : decode cX6_near 131 = .ok (.iconst 2, 1) := wnGet dwX6_near_2 dkX6_near_2 4 rfl
theorem dX6_near_132 : decode cX6_near 132 = .ok (.if_icmp .ne 16, 3) := wnGet dwX6_near_2 dkX6_near_2 5 rfl
theorem dX6_near_135 : decode cX6_near 135 = .ok (.iload 7, 2) := wnGet dwX6_near_2 dkX6_near_2 6 rfl
theorem dX6_near_137 : decode cX6_near 137 = .ok (.ifCond .lt 7, 3) := wnGet dwX6_near_2 dkX6_near_2 7 rfl
theorem dX6_near_140 : decode cX6_near 140 = .ok (.iconst 1, 1) := wnGet dwX6_near_2 dkX6_near_2 8 rfl
theorem dX6_near_141 : decode cX6_near 141 = .ok (.goto 17, 3) := wnGet dwX6_near_2 dkX6_near_2 9 rfl
theorem dX6_near_144 : decode cX6_near 144 = .ok (.iconst 0, 1) := wnGet dwX6_near_2 dkX6_near_2 10 rfl
theorem dX6_near_145 : decode cX6_near 145 = .ok (.goto 13, 3) := wnGet dwX6_near_2 dkX6_near_2 11 rfl
theorem dX6_near_148 : decode cX6_near 148 = .ok (.iload 7, 2) := wnGet dwX6_near_2 dkX6_near_2 12 rfl
theorem dX6_near_150 : decode cX6_near 150 = .ok (.ifCond .le 7, 3) := wnGet dwX6_near_2 dkX6_near_2 13 rfl
theorem dX6_near_153 : decode cX6_near 153 = .ok (.iconst 1, 1) := wnGet dwX6_near_2 dkX6_near_2 14 rfl
theorem dX6_near_154 : decode cX6_near 154 = .ok (.goto 4, 3) := wnGet dwX6_near_2 dkX6_near_2 15 rfl
theorem dX6_near_157 : decode cX6_near 157 = .ok (.iconst 0, 1) := wnGet dwX6_near_2 dkX6_near_2 16 rfl
theorem dX6_near_158 : decode cX6_near 158 = .ok (.istore 8, 2) := wnGet dwX6_near_2 dkX6_near_2 17 rfl
theorem dX6_near_160 : decode cX6_near 160 = .ok (.iload 8, 2) := wnGet dwX6_near_2 dkX6_near_2 18 rfl
theorem dX6_near_162 : decode cX6_near 162 = .ok (.ifCond .ne 6, 3) := wnGet dwX6_near_2 dkX6_near_2 19 rfl
theorem dX6_near_165 : decode cX6_near 165 = .ok (.goto 67, 3) := wnGet dwX6_near_2 dkX6_near_2 20 rfl
theorem dX6_near_168 : decode cX6_near 168 = .ok (.iload 5, 2) := wnGet dwX6_near_2 dkX6_near_2 21 rfl
theorem dX6_near_170 : decode cX6_near 170 = .ok (.iconst (-1), 1) := wnGet dwX6_near_2 dkX6_near_2 22 rfl
theorem dX6_near_171 : decode cX6_near 171 = .ok (.if_icmp .ne 7, 3) := wnGet dwX6_near_2 dkX6_near_2 23 rfl
theorem dX6_near_174 : decode cX6_near 174 = .ok (.iconst 1, 1) := wnGet dwX6_near_2 dkX6_near_2 24 rfl
theorem dX6_near_175 : decode cX6_near 175 = .ok (.goto 26, 3) := wnGet dwX6_near_2 dkX6_near_2 25 rfl
theorem dX6_near_178 : decode cX6_near 178 = .ok (.aload_n 0, 1) := wnGet dwX6_near_2 dkX6_near_2 26 rfl
theorem dX6_near_179 : decode cX6_near 179 = .ok (.iload_n 2, 1) := wnGet dwX6_near_2 dkX6_near_2 27 rfl
theorem dX6_near_180 : decode cX6_near 180 = .ok (.aload_n 0, 1) := wnGet dwX6_near_2 dkX6_near_2 28 rfl
theorem dX6_near_181 : decode cX6_near 181 = .ok (.getfield 11, 3) := wnGet dwX6_near_2 dkX6_near_2 29 rfl
theorem dX6_near_184 : decode cX6_near 184 = .ok (.iload_n 1, 1) := wnGet dwX6_near_2 dkX6_near_2 30 rfl
theorem dX6_near_185 : decode cX6_near 185 = .ok (.aaload, 1) := wnGet dwX6_near_2 dkX6_near_2 31 rfl
def dvX6_near_3 : List UInt8 := [21, 6, 46, 42, 180, 0, 11, 27, 50, 21, 5, 46, 182, 0, 51, 54, 9, 21, 5, 2, 159, 0, 22, 21, 4, 5, 162, 0, 11, 21, 9, 158, 0, 15, 167, 0, 8, 21, 9, 156, 0, 7, 21, 6, 54, 5, 132, 6, 1, 167, 255, 85, 21, 5, 2, 160, 0, 7, 2, 167, 0, 12, 42, 180, 0, 14]
theorem dwX6_near_3 : (cX6_near.data.toList.drop 186).take dvX6_near_3.length = dvX6_near_3 := by decide +kernel
theorem dkX6_near_3 : ([(186, (.iload 6, 2)), (188, (.iaload, 1)), (189, (.aload_n 0, 1)), (190, (.getfield 11, 3)), (193, (.iload_n 1, 1)), (194, (.aaload, 1)), (195, (.iload 5, 2)), (197, (.iaload, 1)), (198, (.invokevirtual 51, 3)), (201, (.istore 9, 2)), (203, (.iload 5, 2)), (205, (.iconst (-1), 1)), (206, (.if_icmp .eq 22, 3)), (209, (.iload 4, 2)), (211, (.iconst 2, 1)), (212, (.if_icmp .ge 11, 3)), (215, (.iload 9, 2)), (217, (.ifCond .le 15, 3)), (220, (.goto 8, 3)), (223, (.iload 9, 2)), (225, (.ifCond .ge 7, 3)), (228, (.iload 6, 2)), (230, (.istore 5, 2)), (232, (.iinc 6 1, 3)), (235, (.goto (-171), 3)), (238, (.iload 5, 2)), (240, (.iconst (-1), 1)), (241, (.if_icmp .ne 7, 3)), (244, (.iconst (-1), 1)), (245, (.goto 12, 3)), (248, (.aload_n 0, 1)), (249, (.getfield 14, 3))] : List (Nat × (Jvm.ClassFile.Instr × Nat))).all (wnL dvX6_near_3 186) = true := by decide +kernel
theorem dX6_near_186 : decode cX6_near 186 = .ok (.iload 6, 2) := wnGet dwX6_near_3 dkX6_near_3 0 rfl
theorem dX6_near_188 : decode cX6_near 188 = .ok (.iaload, 1) := wnGet dwX6_near_3 dkX6_near_3 1 rfl
theorem dX6_near_189 : decode cX6_near 189 = .ok (.aload_n 0, 1) := wnGet dwX6_near_3 dkX6_near_3 2 rfl
theorem dX6_near_190 : decode cX6_near 190 = .ok (.getfield 11, 3) := wnGet dwX6_near_3 dkX6_near_3 3 rfl
theorem dX6_near_193 : decode cX6_near 193 = .ok (.iload_n 1, 1) := wnGet dwX6_near_3 dkX6_near_3 4 rfl
theorem dX6_near_194 : decode cX6_near 194 = .ok (.aaload, 1) := wnGet dwX6_near_3 dkX6_near_3 5 rfl
theorem dX6_near_195 : decode cX6_near 195 = .ok (.iload 5, 2) := wnGet dwX6_near_3 dkX6_near_3 6 rfl
theorem dX6_near_197 : decode cX6_near 197 = .ok (.iaload, 1) := wnGet dwX6_near_3 dkX6_near_3 7 rfl
theorem dX6_near_198 : decode cX6_near 198 = .ok (.invokevirtual 51, 3) := wnGet dwX6_near_3 dkX6_near_3 8 rfl
theorem dX6_near_201 : decode cX6_near 201 = .ok (.istore 9, 2) := wnGet dwX6_near_3 dkX6_near_3 9 rfl
theorem dX6_near_203 : decode cX6_near 203 = .ok (.iload 5, 2) := wnGet dwX6_near_3 dkX6_near_3 10 rfl
theorem dX6_near_205 : decode cX6_near 205 = .ok (.iconst (-1), 1) := wnGet dwX6_near_3 dkX6_near_3 11 rfl
theorem dX6_near_206 : decode cX6_near 206 = .ok (.if_icmp .eq 22, 3) := wnGet dwX6_near_3 dkX6_near_3 12 rfl
theorem dX6_near_209 : decode cX6_near 209 = .ok (.iload 4, 2) := wnGet dwX6_near_3 dkX6_near_3 13 rfl
theorem dX6_near_211 : decode cX6_near 211 = .ok (.iconst 2, 1) := wnGet dwX6_near_3 dkX6_near_3 14 rfl
theorem dX6_near_212 : decode cX6_near 212 = .ok (.if_icmp .ge 11, 3) := wnGet dwX6_near_3 dkX6_near_3 15 rfl
theorem dX6_near_215 : decode cX6_near 215 = .ok (.iload 9, 2) := wnGet dwX6_near_3 dkX6_near_3 16 rfl
theorem dX6_near_217 : decode cX6_near 217 = .ok (.ifCond .le 15, 3) := wnGet dwX6_near_3 dkX6_near_3 17 rfl
theorem dX6_near_220 : decode cX6_near 220 = .ok (.goto 8, 3) := wnGet dwX6_near_3 dkX6_near_3 18 rfl
theorem dX6_near_223 : decode cX6_near 223 = .ok (.iload 9, 2) := wnGet dwX6_near_3 dkX6_near_3 19 rfl
theorem dX6_near_225 : decode cX6_near 225 = .ok (.ifCond .ge 7, 3) := wnGet dwX6_near_3 dkX6_near_3 20 rfl
theorem dX6_near_228 : decode cX6_near 228 = .ok (.iload 6, 2) := wnGet dwX6_near_3 dkX6_near_3 21 rfl
theorem dX6_near_230 : decode cX6_near 230 = .ok (.istore 5, 2) := wnGet dwX6_near_3 dkX6_near_3 22 rfl
theorem dX6_near_232 : decode cX6_near 232 = .ok (.iinc 6 1, 3) := wnGet dwX6_near_3 dkX6_near_3 23 rfl
theorem dX6_near_235 : decode cX6_near 235 = .ok (.goto (-171), 3) := wnGet dwX6_near_3 dkX6_near_3 24 rfl
theorem dX6_near_238 : decode cX6_near 238 = .ok (.iload 5, 2) := wnGet dwX6_near_3 dkX6_near_3 25 rfl
theorem dX6_near_240 : decode cX6_near 240 = .ok (.iconst (-1), 1) := wnGet dwX6_near_3 dkX6_near_3 26 rfl
theorem dX6_near_241 : decode cX6_near 241 = .ok (.if_icmp .ne 7, 3) := wnGet dwX6_near_3 dkX6_near_3 27 rfl
theorem dX6_near_244 : decode cX6_near 244 = .ok (.iconst (-1), 1) := wnGet dwX6_near_3 dkX6_near_3 28 rfl
theorem dX6_near_245 : decode cX6_near 245 = .ok (.goto 12, 3) := wnGet dwX6_near_3 dkX6_near_3 29 rfl
theorem dX6_near_248 : decode cX6_near 248 = .ok (.aload_n 0, 1) := wnGet dwX6_near_3 dkX6_near_3 30 rfl
theorem dX6_near_249 : decode cX6_near 249 = .ok (.getfield 14, 3) := wnGet dwX6_near_3 dkX6_near_3 31 rfl
def dvX6_near_4 : List UInt8 := [27, 50, 21, 5, 46, 172]
theorem dwX6_near_4 : (cX6_near.data.toList.drop 252).take dvX6_near_4.length = dvX6_near_4 := by decide +kernel
theorem dkX6_near_4 : ([(252, (.iload_n 1, 1)), (253, (.aaload, 1)), (254, (.iload 5, 2)), (256, (.iaload, 1)), (257, (.ireturn, 1))] : List (Nat × (Jvm.ClassFile.Instr × Nat))).all (wnL dvX6_near_4 252) = true := by decide +kernel
theorem dX6_near_252 : decode cX6_near 252 = .ok (.iload_n 1, 1) := wnGet dwX6_near_4 dkX6_near_4 0 rfl
theorem dX6_near_253 : decode cX6_near 253 = .ok (.aaload, 1) := wnGet dwX6_near_4 dkX6_near_4 1 rfl
theorem dX6_near_254 : decode cX6_near 254 = .ok (.iload 5, 2) := wnGet dwX6_near_4 dkX6_near_4 2 rfl
theorem dX6_near_256 : decode cX6_near 256 = .ok (.iaload, 1) := wnGet dwX6_near_4 dkX6_near_4 3 rfl
theorem dX6_near_257 : decode cX6_near 257 = .ok (.ireturn, 1) := wnGet dwX6_near_4 dkX6_near_4 4 rfl
theorem ggX6_isFirstOf_X6_compareNow : GoodIn wsX6_isFirstOf wsX6_compareNow := tgCall 723 e_X6_compareNow (by decide +kernel)
theorem gX6_isFirstOf_X6_compareNow : GoodIn wsX6_isFirstOf (wsV RX6 51 RX6 yX6_compareNow wsX6_compareNow) := goodIn_app (tgIn [720, 721, 722, 684] (by decide +kernel) rfl) ggX6_isFirstOf_X6_compareNow
theorem dkX6_isFirstOf_0 : ([(0, (.iconst 0, 1)), (1, (.istore 4, 2)), (3, (.iload 4, 2)), (5, (.iload_n 3, 1)), (6, (.if_icmp .ge 36, 3)), (9, (.aload_n 0, 1)), (10, (.iload_n 2, 1)), (11, (.aload_n 0, 1)), (12, (.getfield 11, 3)), (15, (.iload_n 1, 1)), (16, (.aaload, 1)), (17, (.iload 4, 2)), (19, (.iaload, 1)), (20, (.aload_n 0, 1)), (21, (.getfield 11, 3)), (24, (.iload_n 1, 1)), (25, (.aaload, 1)), (26, (.iload_n 3, 1)), (27, (.iaload, 1)), (28, (.invokevirtual 51, 3)), (31, (.ifCond .ne 5, 3)), (34, (.iconst 0, 1)), (35, (.ireturn, 1)), (36, (.iinc 4 1, 3)), (39, (.goto (-36), 3)), (42, (.iconst 1, 1)), (43, (.ireturn, 1))] : List (Nat × (Jvm.ClassFile.Instr × Nat))).all (dcB cX6_isFirstOf) = true := by decide +kernel
theorem dX6_isFirstOf_0 : decode cX6_isFirstOf 0 = .ok (.iconst 0, 1) := dget dkX6_isFirstOf_0 0 rfl
theorem dX6_isFirstOf_1 : decode cX6_isFirstOf 1 = .ok (.istore 4, 2) := dget dkX6_isFirstOf_0 1 rfl
theorem dX6_isFirstOf_3 : decode cX6_isFirstOf 3 = .ok (.iload 4, 2) := dget dkX6_isFirstOf_0 2 rfl
theorem dX6_isFirstOf_5 : decode cX6_isFirstOf 5 = .ok (.iload_n 3, 1) := dget dkX6_isFirstOf_0 3 rfl
theorem dX6_isFirstOf_6 : decode cX6_isFirstOf 6 = .ok (.if_icmp .ge 36, 3) := dget dkX6_isFirstOf_0 4 rfl
theorem dX6_isFirstOf_9 : decode cX6_isFirstOf 9 = .ok (.aload_n 0, 1) := dget dkX6_isFirstOf_0 5 rfl
theorem dX6_isFirstOf_10 : decode cX6_isFirstOf 10 = .ok (.iload_n 2, 1) := dget dkX6_isFirstOf_0 6 rfl
theorem dX6_isFirstOf_11 : decode cX6_isFirstOf 11 = .ok (.aload_n 0, 1) := dget dkX6_isFirstOf_0 7 rfl
theorem dX6_isFirstOf_12 : decode cX6_isFirstOf 12 = .ok (.getfield 11, 3) := dget dkX6_isFirstOf_0 8 rfl
theorem dX6_isFirstOf_15 : decode cX6_isFirstOf 15 = .ok (.iload_n 1, 1) := dget dkX6_isFirstOf_0 9 rfl
theorem dX6_isFirstOf_16 : decode cX6_isFirstOf 16 = .ok (.aaload, 1) := dget dkX6_isFirstOf_0 10 rfl
theorem dX6_isFirstOf_17 : decode cX6_isFirstOf 17 = .ok (.iload 4, 2) := dget dkX6_isFirstOf_0 11 rfl
theorem dX6_isFirstOf_19 : decode cX6_isFirstOf 19 = .ok (.iaload, 1) := dget dkX6_isFirstOf_0 12 rfl
theorem dX6_isFirstOf_20 : decode cX6_isFirstOf 20 = .ok (.aload_n 0, 1) := dget dkX6_isFirstOf_0 13 rfl
theorem dX6_isFirstOf_21 : decode cX6_isFirstOf 21 = .ok (.getfield 11, 3) := dget dkX6_isFirstOf_0 14 rfl
theorem dX6_isFirstOf_24 : decode cX6_isFirstOf 24 = .ok (.iload_n 1, 1) := dget dkX6_isFirstOf_0 15 rfl
theorem dX6_isFirstOf_25 : decode cX6_isFirstOf 25 = .ok (.aaload, 1) := dget dkX6_isFirstOf_0 16 rfl
theorem dX6_isFirstOf_26 : decode cX6_isFirstOf 26 = .ok (.iload_n 3, 1) := dget dkX6_isFirstOf_0 17 rfl
theorem dX6_isFirstOf_27 : decode cX6_isFirstOf 27 = .ok (.iaload, 1) := dget dkX6_isFirstOf_0 18 rfl
theorem dX6_isFirstOf_28 : decode cX6_isFirstOf 28 = .ok (.invokevirtual 51, 3) := dget dkX6_isFirstOf_0 19 rfl
theorem dX6_isFirstOf_31 : decode cX6_isFirstOf 31 = .ok (.ifCond .ne 5, 3) := dget dkX6_isFirstOf_0 20 rfl
theorem dX6_isFirstOf_34 : decode cX6_isFirstOf 34 = .ok (.iconst 0, 1) := dget dkX6_isFirstOf_0 21 rfl
theorem dX6_isFirstOf_35 : decode cX6_isFirstOf 35 = .ok (.ireturn, 1) := dget dkX6_isFirstOf_0 22 rfl
theorem dX6_isFirstOf_36 : decode cX6_isFirstOf 36 = .ok (.iinc 4 1, 3) := dget dkX6_isFirstOf_0 23 rfl
theorem dX6_isFirstOf_39 : decode cX6_isFirstOf 39 = .ok (.goto (-36), 3) := dget dkX6_isFirstOf_0 24 rfl
theorem dX6_isFirstOf_42 : decode cX6_isFirstOf 42 = .ok (.iconst 1, 1) := dget dkX6_isFirstOf_0 25 rfl
theorem dX6_isFirstOf_43 : decode cX6_isFirstOf 43 = .ok (.ireturn, 1) := dget dkX6_isFirstOf_0 26 rfl
theorem ggX6_kindsNow_X6_isFirstOf : GoodIn wsX6_kindsNow wsX6_isFirstOf := tgCall 798 e_X6_isFirstOf (by decide +kernel)
theorem gX6_kindsNow_X6_isFirstOf : GoodIn wsX6_kindsNow (wsV RX6 118 RX6 yX6_isFirstOf wsX6_isFirstOf) := goodIn_app (tgIn [795, 796, 797, 684] (by decide +kernel) rfl) ggX6_kindsNow_X6_isFirstOf
theorem dkX6_kindsNow_0 : ([(0, (.iconst 0, 1)), (1, (.istore_n 3, 1)), (2, (.iconst 0, 1)), (3, (.istore 4, 2)), (5, (.iload 4, 2)), (7, (.aload_n 0, 1)), (8, (.getfield 17, 3)), (11, (.iload_n 1, 1)), (12, (.iaload, 1)), (13, (.if_icmp .ge 28, 3)), (16, (.iload_n 3, 1)), (17, (.aload_n 0, 1)), (18, (.iload_n 1, 1)), (19, (.iload_n 2, 1)), (20, (.iload 4, 2)), (22, (.invokevirtual 118, 3)), (25, (.ifCond .eq 7, 3)), (28, (.iconst 1, 1)), (29, (.goto 4, 3)), (32, (.iconst 0, 1)), (33, (.iadd, 1)), (34, (.istore_n 3, 1)), (35, (.iinc 4 1, 3)), (38, (.goto (-33), 3)), (41, (.iload_n 3, 1)), (42, (.ireturn, 1))] : List (Nat × (Jvm.ClassFile.Instr × Nat))).all (dcB cX6_kindsNow) = true := by decide +kernel
theorem dX6_kindsNow_0 : decode cX6_kindsNow 0 = .ok (.iconst 0, 1) := dget dkX6_kindsNow_0 0 rfl
theorem dX6_kindsNow_1 : decode cX6_kindsNow 1 = .ok (.istore_n 3, 1) := dget dkX6_kindsNow_0 1 rfl
theorem dX6_kindsNow_2 : decode cX6_kindsNow 2 = .ok (.iconst 0, 1) := dget dkX6_kindsNow_0 2 rfl
theorem dX6_kindsNow_3 : decode cX6_kindsNow 3 = .ok (.istore 4, 2) := dget dkX6_kindsNow_0 3 rfl
theorem dX6_kindsNow_5 : decode cX6_kindsNow 5 = .ok (.iload 4, 2) := dget dkX6_kindsNow_0 4 rfl
theorem dX6_kindsNow_7 : decode cX6_kindsNow 7 = .ok (.aload_n 0, 1) := dget dkX6_kindsNow_0 5 rfl
theorem dX6_kindsNow_8 : decode cX6_kindsNow 8 = .ok (.getfield 17, 3) := dget dkX6_kindsNow_0 6 rfl
theorem dX6_kindsNow_11 : decode cX6_kindsNow 11 = .ok (.iload_n 1, 1) := dget dkX6_kindsNow_0 7 rfl
theorem dX6_kindsNow_12 : decode cX6_kindsNow 12 = .ok (.iaload, 1) := dget dkX6_kindsNow_0 8 rfl
theorem dX6_kindsNow_13 : decode cX6_kindsNow 13 = .ok (.if_icmp .ge 28, 3) := dget dkX6_kindsNow_0 9 rfl
theorem dX6_kindsNow_16 : decode cX6_kindsNow 16 = .ok (.iload_n 3, 1) := dget dkX6_kindsNow_0 10 rfl
theorem dX6_kindsNow_17 : decode cX6_kindsNow 17 = .ok (.aload_n 0, 1) := dget dkX6_kindsNow_0 11 rfl
theorem dX6_kindsNow_18 : decode cX6_kindsNow 18 = .ok (.iload_n 1, 1) := dget dkX6_kindsNow_0 12 rfl
theorem dX6_kindsNow_19 : decode cX6_kindsNow 19 = .ok (.iload_n 2, 1) := dget dkX6_kindsNow_0 13 rfl
theorem dX6_kindsNow_20 : decode cX6_kindsNow 20 = .ok (.iload 4, 2) := dget dkX6_kindsNow_0 14 rfl
theorem dX6_kindsNow_22 : decode cX6_kindsNow 22 = .ok (.invokevirtual 118, 3) := dget dkX6_kindsNow_0 15 rfl
theorem dX6_kindsNow_25 : decode cX6_kindsNow 25 = .ok (.ifCond .eq 7, 3) := dget dkX6_kindsNow_0 16 rfl
theorem dX6_kindsNow_28 : decode cX6_kindsNow 28 = .ok (.iconst 1, 1) := dget dkX6_kindsNow_0 17 rfl
theorem dX6_kindsNow_29 : decode cX6_kindsNow 29 = .ok (.goto 4, 3) := dget dkX6_kindsNow_0 18 rfl
theorem dX6_kindsNow_32 : decode cX6_kindsNow 32 = .ok (.iconst 0, 1) := dget dkX6_kindsNow_0 19 rfl
theorem dX6_kindsNow_33 : decode cX6_kindsNow 33 = .ok (.iadd, 1) := dget dkX6_kindsNow_0 20 rfl
theorem dX6_kindsNow_34 : decode cX6_kindsNow 34 = .ok (.istore_n 3, 1) := dget dkX6_kindsNow_0 21 rfl
theorem dX6_kindsNow_35 : decode cX6_kindsNow 35 = .ok (.iinc 4 1, 3) := dget dkX6_kindsNow_0 22 rfl
theorem dX6_kindsNow_38 : decode cX6_kindsNow 38 = .ok (.goto (-33), 3) := dget dkX6_kindsNow_0 23 rfl
theorem dX6_kindsNow_41 : decode cX6_kindsNow 41 = .ok (.iload_n 3, 1) := dget dkX6_kindsNow_0 24 rfl
theorem dX6_kindsNow_42 : decode cX6_kindsNow 42 = .ok (.ireturn, 1) := dget dkX6_kindsNow_0 25 rfl
theorem ggX6_kinds_X6_isNoRow : GoodIn wsX6_kinds wsX6_isNoRow := tgCall 685 e_X6_isNoRow (by decide +kernel)
theorem gX6_kinds_X6_isNoRow : GoodIn wsX6_kinds (va_wsS RX6 65 yX6_isNoRow wsX6_isNoRow) := goodIn_app (tgIn [682, 683, 684] (by decide +kernel) rfl) ggX6_kinds_X6_isNoRow
theorem ggX6_kinds_X6_isNoOrder : GoodIn wsX6_kinds wsX6_isNoOrder := tgCall 715 e_X6_isNoOrder (by decide +kernel)
theorem gX6_kinds_X6_isNoOrder : GoodIn wsX6_kinds (va_wsS RX6 86 yX6_isNoOrder wsX6_isNoOrder) := goodIn_app (tgIn [713, 714, 684] (by decide +kernel) rfl) ggX6_kinds_X6_isNoOrder
theorem ggX6_kinds_X6_start : GoodIn wsX6_kinds wsX6_start := tgCall 692 e_X6_start (by decide +kernel)
theorem gX6_kinds_X6_start : GoodIn wsX6_kinds (wsV RX6 69 RX6 yX6_start wsX6_start) := goodIn_app (tgIn [689, 690, 691, 684] (by decide +kernel) rfl) ggX6_kinds_X6_start
theorem ggX6_kinds_X6_kindsNow : GoodIn wsX6_kinds wsX6_kindsNow := tgCall 794 e_X6_kindsNow (by decide +kernel)
theorem gX6_kinds_X6_kindsNow : GoodIn wsX6_kinds (wsV RX6 122 RX6 yX6_kindsNow wsX6_kindsNow) := goodIn_app (tgIn [791, 792, 793, 684] (by decide +kernel) rfl) ggX6_kinds_X6_kindsNow
theorem dkX6_kinds_0 : ([(0, (.aload_n 0, 1)), (1, (.iload_n 1, 1)), (2, (.invokestatic 65, 3)), (5, (.ifCond .ne 10, 3)), (8, (.iload_n 2, 1)), (9, (.invokestatic 86, 3)), (12, (.ifCond .eq 7, 3)), (15, (.iconst 1, 1)), (16, (.goto 4, 3)), (19, (.iconst 0, 1)), (20, (.iconst 1, 1)), (21, (.invokevirtual 69, 3)), (24, (.ifCond .eq 7, 3)), (27, (.iconst 0, 1)), (28, (.goto 9, 3)), (31, (.aload_n 0, 1)), (32, (.iload_n 1, 1)), (33, (.iload_n 2, 1)), (34, (.invokevirtual 122, 3)), (37, (.ireturn, 1))] : List (Nat × (Jvm.ClassFile.Instr × Nat))).all (dcB cX6_kinds) = true := by decide +kernel
theorem dX6_kinds_0 : decode cX6_kinds 0 = .ok (.aload_n 0, 1) := dget dkX6_kinds_0 0 rfl
theorem dX6_kinds_1 : decode cX6_kinds 1 = .ok (.iload_n 1, 1) := dget dkX6_kinds_0 1 rfl
theorem dX6_kinds_2 : decode cX6_kinds 2 = .ok (.invokestatic 65, 3) := dget dkX6_kinds_0 2 rfl
theorem dX6_kinds_5 : decode cX6_kinds 5 = .ok (.ifCond .ne 10, 3) := dget dkX6_kinds_0 3 rfl
theorem dX6_kinds_8 : decode cX6_kinds 8 = .ok (.iload_n 2, 1) := dget dkX6_kinds_0 4 rfl
theorem dX6_kinds_9 : decode cX6_kinds 9 = .ok (.invokestatic 86, 3) := dget dkX6_kinds_0 5 rfl
theorem dX6_kinds_12 : decode cX6_kinds 12 = .ok (.ifCond .eq 7, 3) := dget dkX6_kinds_0 6 rfl
theorem dX6_kinds_15 : decode cX6_kinds 15 = .ok (.iconst 1, 1) := dget dkX6_kinds_0 7 rfl
theorem dX6_kinds_16 : decode cX6_kinds 16 = .ok (.goto 4, 3) := dget dkX6_kinds_0 8 rfl
theorem dX6_kinds_19 : decode cX6_kinds 19 = .ok (.iconst 0, 1) := dget dkX6_kinds_0 9 rfl
theorem dX6_kinds_20 : decode cX6_kinds 20 = .ok (.iconst 1, 1) := dget dkX6_kinds_0 10 rfl
theorem dX6_kinds_21 : decode cX6_kinds 21 = .ok (.invokevirtual 69, 3) := dget dkX6_kinds_0 11 rfl
theorem dX6_kinds_24 : decode cX6_kinds 24 = .ok (.ifCond .eq 7, 3) := dget dkX6_kinds_0 12 rfl
theorem dX6_kinds_27 : decode cX6_kinds 27 = .ok (.iconst 0, 1) := dget dkX6_kinds_0 13 rfl
theorem dX6_kinds_28 : decode cX6_kinds 28 = .ok (.goto 9, 3) := dget dkX6_kinds_0 14 rfl
theorem dX6_kinds_31 : decode cX6_kinds 31 = .ok (.aload_n 0, 1) := dget dkX6_kinds_0 15 rfl
theorem dX6_kinds_32 : decode cX6_kinds 32 = .ok (.iload_n 1, 1) := dget dkX6_kinds_0 16 rfl
theorem dX6_kinds_33 : decode cX6_kinds 33 = .ok (.iload_n 2, 1) := dget dkX6_kinds_0 17 rfl
theorem dX6_kinds_34 : decode cX6_kinds 34 = .ok (.invokevirtual 122, 3) := dget dkX6_kinds_0 18 rfl
theorem dX6_kinds_37 : decode cX6_kinds 37 = .ok (.ireturn, 1) := dget dkX6_kinds_0 19 rfl
theorem ggX6_ahead_X6_isNoRow : GoodIn wsX6_ahead wsX6_isNoRow := tgCall 685 e_X6_isNoRow (by decide +kernel)
theorem gX6_ahead_X6_isNoRow : GoodIn wsX6_ahead (va_wsS RX6 65 yX6_isNoRow wsX6_isNoRow) := goodIn_app (tgIn [682, 683, 684] (by decide +kernel) rfl) ggX6_ahead_X6_isNoRow
theorem ggX6_ahead_X6_isNoOrder : GoodIn wsX6_ahead wsX6_isNoOrder := tgCall 715 e_X6_isNoOrder (by decide +kernel)
theorem gX6_ahead_X6_isNoOrder : GoodIn wsX6_ahead (va_wsS RX6 86 yX6_isNoOrder wsX6_isNoOrder) := goodIn_app (tgIn [713, 714, 684] (by decide +kernel) rfl) ggX6_ahead_X6_isNoOrder
theorem ggX6_ahead_X6_start : GoodIn wsX6_ahead wsX6_start := tgCall 692 e_X6_start (by decide +kernel)
theorem gX6_ahead_X6_start : GoodIn wsX6_ahead (wsV RX6 69 RX6 yX6_start wsX6_start) := goodIn_app (tgIn [689, 690, 691, 684] (by decide +kernel) rfl) ggX6_ahead_X6_start
theorem ggX6_ahead_X6_isNoValue : GoodIn wsX6_ahead wsX6_isNoValue := tgCall 700 e_X6_isNoValue (by decide +kernel)
theorem gX6_ahead_X6_isNoValue : GoodIn wsX6_ahead (va_wsS RX6 72 yX6_isNoValue wsX6_isNoValue) := goodIn_app (tgIn [698, 699, 684] (by decide +kernel) rfl) ggX6_ahead_X6_isNoValue
theorem ggX6_ahead_X6_refuse : GoodIn wsX6_ahead wsX6_refuse := tgCall 697 e_X6_refuse (by decide +kernel)
theorem gX6_ahead_X6_refuse : GoodIn wsX6_ahead (wsV RX6 36 RX6 yX6_refuse wsX6_refuse) := goodIn_app (tgIn [694, 695, 696, 684] (by decide +kernel) rfl) ggX6_ahead_X6_refuse
theorem ggX6_ahead_X6_isFirstOf : GoodIn wsX6_ahead wsX6_isFirstOf := tgCall 798 e_X6_isFirstOf (by decide +kernel)
theorem gX6_ahead_X6_isFirstOf : GoodIn wsX6_ahead (wsV RX6 118 RX6 yX6_isFirstOf wsX6_isFirstOf) := goodIn_app (tgIn [795, 796, 797, 684] (by decide +kernel) rfl) ggX6_ahead_X6_isFirstOf
theorem ggX6_ahead_X6_compareNow : GoodIn wsX6_ahead wsX6_compareNow := tgCall 723 e_X6_compareNow (by decide +kernel)
theorem gX6_ahead_X6_compareNow : GoodIn wsX6_ahead (wsV RX6 51 RX6 yX6_compareNow wsX6_compareNow) := goodIn_app (tgIn [720, 721, 722, 684] (by decide +kernel) rfl) ggX6_ahead_X6_compareNow
theorem dkX6_ahead_0 : ([(0, (.aload_n 0, 1)), (1, (.iload_n 1, 1)), (2, (.invokestatic 65, 3)), (5, (.ifCond .ne 10, 3)), (8, (.iload_n 2, 1)), (9, (.invokestatic 86, 3)), (12, (.ifCond .eq 7, 3)), (15, (.iconst 1, 1)), (16, (.goto 4, 3)), (19, (.iconst 0, 1)), (20, (.iconst 1, 1)), (21, (.invokevirtual 69, 3)), (24, (.ifCond .ne 15, 3)), (27, (.aload_n 0, 1)), (28, (.iload_n 3, 1)), (29, (.invokestatic 72, 3)), (32, (.iconst 2, 1)), (33, (.invokevirtual 36, 3)), (36, (.ifCond .eq 5, 3)), (39, (.iconst 0, 1)), (40, (.ireturn, 1)), (41, (.iconst 0, 1)), (42, (.istore 4, 2)), (44, (.iconst 0, 1)), (45, (.istore 5, 2)), (47, (.iload 5, 2)), (49, (.aload_n 0, 1)), (50, (.getfield 17, 3)), (53, (.iload_n 1, 1)), (54, (.iaload, 1)), (55, (.if_icmp .ge 48, 3)), (58, (.iload 4, 2)), (60, (.aload_n 0, 1)), (61, (.iload_n 1, 1)), (62, (.iload_n 2, 1)), (63, (.iload 5, 2)), (65, (.invokevirtual 118, 3)), (68, (.ifCond .eq 25, 3)), (71, (.aload_n 0, 1)), (72, (.iload_n 2, 1))] : List (Nat × (Jvm.ClassFile.Instr × Nat))).all (dcB cX6_ahead) = true := by decide +kernel
theorem dX6_ahead_0 : decode cX6_ahead 0 = .ok (.aload_n 0, 1) := dget dkX6_ahead_0 0 rfl
theorem dX6_ahead_1 : decode cX6_ahead 1 = .ok (.iload_n 1, 1) := dget dkX6_ahead_0 1 rfl
theorem dX6_ahead_2 : decode cX6_ahead 2 = .ok (.invokestatic 65, 3) := dget dkX6_ahead_0 2 rfl
theorem dX6_ahead_5 : decode cX6_ahead 5 = .ok (.ifCond .ne 10, 3) := dget dkX6_ahead_0 3 rfl
theorem dX6_ahead_8 : decode cX6_ahead 8 = .ok (.iload_n 2, 1) := dget dkX6_ahead_0 4 rfl
theorem dX6_ahead_9 : decode cX6_ahead 9 = .ok (.invokestatic 86, 3) := dget dkX6_ahead_0 5 rfl
theorem dX6_ahead_12 : decode cX6_ahead 12 = .ok (.ifCond .eq 7, 3) := dget dkX6_ahead_0 6 rfl
theorem dX6_ahead_15 : decode cX6_ahead 15 = .ok (.iconst 1, 1) := dget dkX6_ahead_0 7 rfl
theorem dX6_ahead_16 : decode cX6_ahead 16 = .ok (.goto 4, 3) := dget dkX6_ahead_0 8 rfl
theorem dX6_ahead_19 : decode cX6_ahead 19 = .ok (.iconst 0, 1) := dget dkX6_ahead_0 9 rfl
theorem dX6_ahead_20 : decode cX6_ahead 20 = .ok (.iconst 1, 1) := dget dkX6_ahead_0 10 rfl
theorem dX6_ahead_21 : decode cX6_ahead 21 = .ok (.invokevirtual 69, 3) := dget dkX6_ahead_0 11 rfl
theorem dX6_ahead_24 : decode cX6_ahead 24 = .ok (.ifCond .ne 15, 3) := dget dkX6_ahead_0 12 rfl
theorem dX6_ahead_27 : decode cX6_ahead 27 = .ok (.aload_n 0, 1) := dget dkX6_ahead_0 13 rfl
theorem dX6_ahead_28 : decode cX6_ahead 28 = .ok (.iload_n 3, 1) := dget dkX6_ahead_0 14 rfl
theorem dX6_ahead_29 : decode cX6_ahead 29 = .ok (.invokestatic 72, 3) := dget dkX6_ahead_0 15 rfl
theorem dX6_ahead_32 : decode cX6_ahead 32 = .ok (.iconst 2, 1) := dget dkX6_ahead_0 16 rfl
theorem dX6_ahead_33 : decode cX6_ahead 33 = .ok (.invokevirtual 36, 3) := dget dkX6_ahead_0 17 rfl
theorem dX6_ahead_36 : decode cX6_ahead 36 = .ok (.ifCond .eq 5, 3) := dget dkX6_ahead_0 18 rfl
theorem dX6_ahead_39 : decode cX6_ahead 39 = .ok (.iconst 0, 1) := dget dkX6_ahead_0 19 rfl
theorem dX6_ahead_40 : decode cX6_ahead 40 = .ok (.ireturn, 1) := dget dkX6_ahead_0 20 rfl
theorem dX6_ahead_41 : decode cX6_ahead 41 = .ok (.iconst 0, 1) := dget dkX6_ahead_0 21 rfl
theorem dX6_ahead_42 : decode cX6_ahead 42 = .ok (.istore 4, 2) := dget dkX6_ahead_0 22 rfl
theorem dX6_ahead_44 : decode cX6_ahead 44 = .ok (.iconst 0, 1) := dget dkX6_ahead_0 23 rfl
theorem dX6_ahead_45 : decode cX6_ahead 45 = .ok (.istore 5, 2) := dget dkX6_ahead_0 24 rfl
theorem dX6_ahead_47 : decode cX6_ahead 47 = .ok (.iload 5, 2) := dget dkX6_ahead_0 25 rfl
theorem dX6_ahead_49 : decode cX6_ahead 49 = .ok (.aload_n 0, 1) := dget dkX6_ahead_0 26 rfl
theorem dX6_ahead_50 : decode cX6_ahead 50 = .ok (.getfield 17, 3) := dget dkX6_ahead_0 27 rfl
theorem dX6_ahead_53 : decode cX6_ahead 53 = .ok (.iload_n 1, 1) := dget dkX6_ahead_0 28 rfl
theorem dX6_ahead_54 : decode cX6_ahead 54 = .ok (.iaload, 1) := dget dkX6_ahead_0 29 rfl
theorem dX6_ahead_55 : decode cX6_ahead 55 = .ok (.if_icmp .ge 48, 3) := dget dkX6_ahead_0 30 rfl
theorem dX6_ahead_58 : decode cX6_ahead 58 = .ok (.iload 4, 2) := dget dkX6_ahead_0 31 rfl
theorem dX6_ahead_60 : decode cX6_ahead 60 = .ok (.aload_n 0, 1) := dget dkX6_ahead_0 32 rfl
theorem dX6_ahead_61 : decode cX6_ahead 61 = .ok (.iload_n 1, 1) := dget dkX6_ahead_0 33 rfl
theorem dX6_ahead_62 : decode cX6_ahead 62 = .ok (.iload_n 2, 1) := dget dkX6_ahead_0 34 rfl
theorem dX6_ahead_63 : decode cX6_ahead 63 = .ok (.iload 5, 2) := dget dkX6_ahead_0 35 rfl
theorem dX6_ahead_65 : decode cX6_ahead 65 = .ok (.invokevirtual 118, 3) := dget dkX6_ahead_0 36 rfl
theorem dX6_ahead_68 : decode cX6_ahead 68 = .ok (.ifCond .eq 25, 3) := dget dkX6_ahead_0 37 rfl
theorem dX6_ahead_71 : decode cX6_ahead 71 = .ok (.aload_n 0, 1) := dget dkX6_ahead_0 38 rfl
theorem dX6_ahead_72 : decode cX6_ahead 72 = .ok (.iload_n 2, 1) := dget dkX6_ahead_0 39 rfl
theorem dkX6_ahead_1 : ([(73, (.aload_n 0, 1)), (74, (.getfield 11, 3)), (77, (.iload_n 1, 1)), (78, (.aaload, 1)), (79, (.iload 5, 2)), (81, (.iaload, 1)), (82, (.iload_n 3, 1)), (83, (.invokevirtual 51, 3)), (86, (.ifCond .ge 7, 3)), (89, (.iconst 1, 1)), (90, (.goto 4, 3)), (93, (.iconst 0, 1)), (94, (.iadd, 1)), (95, (.istore 4, 2)), (97, (.iinc 5 1, 3)), (100, (.goto (-53), 3)), (103, (.iload 4, 2)), (105, (.ireturn, 1))] : List (Nat × (Jvm.ClassFile.Instr × Nat))).all (dcB cX6_ahead) = true := by decide +kernel
theorem dX6_ahead_73 : decode cX6_ahead 73 = .ok (.aload_n 0, 1) := dget dkX6_ahead_1 0 rfl
theorem dX6_ahead_74 : decode cX6_ahead 74 = .ok (.getfield 11, 3) := dget dkX6_ahead_1 1 rfl
theorem dX6_ahead_77 : decode cX6_ahead 77 = .ok (.iload_n 1, 1) := dget dkX6_ahead_1 2 rfl
theorem dX6_ahead_78 : decode cX6_ahead 78 = .ok (.aaload, 1) := dget dkX6_ahead_1 3 rfl
theorem dX6_ahead_79 : decode cX6_ahead 79 = .ok (.iload 5, 2) := dget dkX6_ahead_1 4 rfl
theorem dX6_ahead_81 : decode cX6_ahead 81 = .ok (.iaload, 1) := dget dkX6_ahead_1 5 rfl
theorem dX6_ahead_82 : decode cX6_ahead 82 = .ok (.iload_n 3, 1) := dget dkX6_ahead_1 6 rfl
theorem dX6_ahead_83 : decode cX6_ahead 83 = .ok (.invokevirtual 51, 3) := dget dkX6_ahead_1 7 rfl
theorem dX6_ahead_86 : decode cX6_ahead 86 = .ok (.ifCond .ge 7, 3) := dget dkX6_ahead_1 8 rfl
theorem dX6_ahead_89 : decode cX6_ahead 89 = .ok (.iconst 1, 1) := dget dkX6_ahead_1 9 rfl
theorem dX6_ahead_90 : decode cX6_ahead 90 = .ok (.goto 4, 3) := dget dkX6_ahead_1 10 rfl
theorem dX6_ahead_93 : decode cX6_ahead 93 = .ok (.iconst 0, 1) := dget dkX6_ahead_1 11 rfl
theorem dX6_ahead_94 : decode cX6_ahead 94 = .ok (.iadd, 1) := dget dkX6_ahead_1 12 rfl
theorem dX6_ahead_95 : decode cX6_ahead 95 = .ok (.istore 4, 2) := dget dkX6_ahead_1 13 rfl
theorem dX6_ahead_97 : decode cX6_ahead 97 = .ok (.iinc 5 1, 3) := dget dkX6_ahead_1 14 rfl
theorem dX6_ahead_100 : decode cX6_ahead 100 = .ok (.goto (-53), 3) := dget dkX6_ahead_1 15 rfl
theorem dX6_ahead_103 : decode cX6_ahead 103 = .ok (.iload 4, 2) := dget dkX6_ahead_1 16 rfl
theorem dX6_ahead_105 : decode cX6_ahead 105 = .ok (.ireturn, 1) := dget dkX6_ahead_1 17 rfl
theorem ggX6_groups_X6_isNoRow : GoodIn wsX6_groups wsX6_isNoRow := tgCall 685 e_X6_isNoRow (by decide +kernel)
theorem gX6_groups_X6_isNoRow : GoodIn wsX6_groups (va_wsS RX6 65 yX6_isNoRow wsX6_isNoRow) := goodIn_app (tgIn [682, 683, 684] (by decide +kernel) rfl) ggX6_groups_X6_isNoRow
theorem ggX6_groups_X6_isNoOrder : GoodIn wsX6_groups wsX6_isNoOrder := tgCall 715 e_X6_isNoOrder (by decide +kernel)
theorem gX6_groups_X6_isNoOrder : GoodIn wsX6_groups (va_wsS RX6 86 yX6_isNoOrder wsX6_isNoOrder) := goodIn_app (tgIn [713, 714, 684] (by decide +kernel) rfl) ggX6_groups_X6_isNoOrder
theorem ggX6_groups_X6_start : GoodIn wsX6_groups wsX6_start := tgCall 692 e_X6_start (by decide +kernel)
theorem gX6_groups_X6_start : GoodIn wsX6_groups (wsV RX6 69 RX6 yX6_start wsX6_start) := goodIn_app (tgIn [689, 690, 691, 684] (by decide +kernel) rfl) ggX6_groups_X6_start
theorem ggX6_groups_X6_rankNow : GoodIn wsX6_groups wsX6_rankNow := tgCall 786 e_X6_rankNow (by decide +kernel)
theorem gX6_groups_X6_rankNow : GoodIn wsX6_groups (wsV RX6 115 RX6 yX6_rankNow wsX6_rankNow) := goodIn_app (tgIn [783, 784, 785, 684] (by decide +kernel) rfl) ggX6_groups_X6_rankNow
theorem ggX6_groups_J4_init_da8c8 : GoodIn wsX6_groups wsJ4_init_da8c8 := tgCall 415 e_J4_init_da8c8 (by decide +kernel)
theorem gX6_groups_J4_init_da8c8 : GoodIn wsX6_groups (wsJ4_init_da8c8) := ggX6_groups_J4_init_da8c8
theorem ggX6_groups_J4_append_15ec4 : GoodIn wsX6_groups wsJ4_append_15ec4 := tgCall 780 e_J4_append_15ec4 (by decide +kernel)
theorem gX6_groups_J4_append_15ec4 : GoodIn wsX6_groups (wsV RX6 100 RJ4 yJ4_append_15ec4 wsJ4_append_15ec4) := goodIn_app (tgIn [777, 778, 779, 328] (by decide +kernel) rfl) ggX6_groups_J4_append_15ec4
theorem ggX6_groups_J0_isEmpty_aae02 : GoodIn wsX6_groups wsJ0_isEmpty_aae02 := tgCall 802 e_J0_isEmpty_aae02 (by decide +kernel)
theorem gX6_groups_J0_isEmpty_aae02 : GoodIn wsX6_groups (wsV RX6 125 RJ0 yJ0_isEmpty_aae02 wsJ0_isEmpty_aae02) := goodIn_app (tgIn [799, 800, 801, 264] (by decide +kernel) rfl) ggX6_groups_J0_isEmpty_aae02
theorem ggX6_groups_J4_append_bf812 : GoodIn wsX6_groups wsJ4_append_bf812 := tgCall 426 e_J4_append_bf812 (by decide +kernel)
theorem gX6_groups_J4_append_bf812 : GoodIn wsX6_groups (wsV RX6 106 RJ4 yJ4_append_bf812 wsJ4_append_bf812) := goodIn_app (tgIn [781, 424, 425, 328] (by decide +kernel) rfl) ggX6_groups_J4_append_bf812
theorem ggX6_groups_J4_toString_0e30d : GoodIn wsX6_groups wsJ4_toString_0e30d := tgCall 431 e_J4_toString_0e30d (by decide +kernel)
theorem gX6_groups_J4_toString_0e30d : GoodIn wsX6_groups (wsV RX6 111 RJ4 yJ4_toString_0e30d wsJ4_toString_0e30d) := goodIn_app (tgIn [782, 429, 430, 328] (by decide +kernel) rfl) ggX6_groups_J4_toString_0e30d
def dvX6_groups_0 : List UInt8 := [42, 27, 184, 0, 65, 154, 0, 10, 28, 184, 0, 86, 153, 0, 7, 4, 167, 0, 4, 3, 4, 182, 0, 69, 153, 0, 6, 18, 95, 176, 18, 95, 78, 3, 54, 4, 21, 4, 16, 16, 162, 0, 133, 2, 54, 5, 3, 54, 6, 3, 54, 7, 21, 7, 42, 180, 0, 17, 27]
theorem dwX6_groups_0 : (cX6_groups.data.toList.drop 0).take dvX6_groups_0.length = dvX6_groups_0 := by decide +kernel
theorem dkX6_groups_0 : ([(0, (.aload_n 0, 1)), (1, (.iload_n 1, 1)), (2, (.invokestatic 65, 3)), (5, (.ifCond .ne 10, 3)), (8, (.iload_n 2, 1)), (9, (.invokestatic 86, 3)), (12, (.ifCond .eq 7, 3)), (15, (.iconst 1, 1)), (16, (.goto 4, 3)), (19, (.iconst 0, 1)), (20, (.iconst 1, 1)), (21, (.invokevirtual 69, 3)), (24, (.ifCond .eq 6, 3)), (27, (.ldc 95, 2)), (29, (.areturn, 1)), (30, (.ldc 95, 2)), (32, (.astore_n 3, 1)), (33, (.iconst 0, 1)), (34, (.istore 4, 2)), (36, (.iload 4, 2)), (38, (.bipush 16, 2)), (40, (.if_icmp .ge 133, 3)), (43, (.iconst (-1), 1)), (44, (.istore 5, 2)), (46, (.iconst 0, 1)), (47, (.istore 6, 2)), (49, (.iconst 0, 1)), (50, (.istore 7, 2)), (52, (.iload 7, 2)), (54, (.aload_n 0, 1)), (55, (.getfield 17, 3)), (58, (.iload_n 1, 1))] : List (Nat × (Jvm.ClassFile.Instr × Nat))).all (wnL dvX6_groups_0 0) = true := by decide +kernel
theorem dX6_groups_0 : decode cX6_groups 0 = .ok (.aload_n 0, 1) := wnGet dwX6_groups_0 dkX6_groups_0 0 rfl
theorem dX6_groups_1 : decode cX6_groups 1 = .ok (.iload_n 1, 1) := wnGet dwX6_groups_0 dkX6_groups_0 1 rfl
theorem dX6_groups_2 : decode cX6_groups 2 = .ok (.invokestatic 65, 3) := wnGet dwX6_groups_0 dkX6_groups_0 2 rfl
theorem dX6_groups_5 : decode cX6_groups 5 = .ok (.ifCond .ne 10, 3) := wnGet dwX6_groups_0 dkX6_groups_0 3 rfl
theorem dX6_groups_8 : decode cX6_groups 8 = .ok (.iload_n 2, 1) := wnGet dwX6_groups_0 dkX6_groups_0 4 rfl
theorem dX6_groups_9 : decode cX6_groups 9 = .ok (.invokestatic 86, 3) := wnGet dwX6_groups_0 dkX6_groups_0 5 rfl
theorem dX6_groups_12 : decode cX6_groups 12 = .ok (.ifCond .eq 7, 3) := wnGet dwX6_groups_0 dkX6_groups_0 6 rfl
theorem dX6_groups_15 : decode cX6_groups 15 = .ok (.iconst 1, 1) := wnGet dwX6_groups_0 dkX6_groups_0 7 rfl
theorem dX6_groups_16 : decode cX6_groups 16 = .ok (.goto 4, 3) := wnGet dwX6_groups_0 dkX6_groups_0 8 rfl
theorem dX6_groups_19 : decode cX6_groups 19 = .ok (.iconst 0, 1) := wnGet dwX6_groups_0 dkX6_groups_0 9 rfl
theorem dX6_groups_20 : decode cX6_groups 20 = .ok (.iconst 1, 1) := wnGet dwX6_groups_0 dkX6_groups_0 10 rfl
theorem dX6_groups_21 : decode cX6_groups 21 = .ok (.invokevirtual 69, 3) := wnGet dwX6_groups_0 dkX6_groups_0 11 rfl
theorem dX6_groups_24 : decode cX6_groups 24 = .ok (.ifCond .eq 6, 3) := wnGet dwX6_groups_0 dkX6_groups_0 12 rfl
theorem dX6_groups_27 : decode cX6_groups 27 = .ok (.ldc 95, 2) := wnGet dwX6_groups_0 dkX6_groups_0 13 rfl
theorem dX6_groups_29 : decode cX6_groups 29 = .ok (.areturn, 1) := wnGet dwX6_groups_0 dkX6_groups_0 14 rfl
theorem dX6_groups_30 : decode cX6_groups 30 = .ok (.ldc 95, 2) := wnGet dwX6_groups_0 dkX6_groups_0 15 rfl
theorem dX6_groups_32 : decode cX6_groups 32 = .ok (.astore_n 3, 1) := wnGet dwX6_groups_0 dkX6_groups_0 16 rfl
theorem dX6_groups_33 : decode cX6_groups 33 = .ok (.iconst 0, 1) := wnGet dwX6_groups_0 dkX6_groups_0 17 rfl
theorem dX6_groups_34 : decode cX6_groups 34 = .ok (.istore 4, 2) := wnGet dwX6_groups_0 dkX6_groups_0 18 rfl
theorem dX6_groups_36 : decode cX6_groups 36 = .ok (.iload 4, 2) := wnGet dwX6_groups_0 dkX6_groups_0 19 rfl
theorem dX6_groups_38 : decode cX6_groups 38 = .ok (.bipush 16, 2) := wnGet dwX6_groups_0 dkX6_groups_0 20 rfl
theorem dX6_groups_40 : decode cX6_groups 40 = .ok (.if_icmp .ge 133, 3) := wnGet dwX6_groups_0 dkX6_groups_0 21 rfl
theorem dX6_groups_43 : decode cX6_groups 43 = .ok (.iconst (-1), 1) := wnGet dwX6_groups_0 dkX6_groups_0 22 rfl
theorem dX6_groups_44 : decode cX6_groups 44 = .ok (.istore 5, 2) := wnGet dwX6_groups_0 dkX6_groups_0 23 rfl
theorem dX6_groups_46 : decode cX6_groups 46 = .ok (.iconst 0, 1) := wnGet dwX6_groups_0 dkX6_groups_0 24 rfl
theorem dX6_groups_47 : decode cX6_groups 47 = .ok (.istore 6, 2) := wnGet dwX6_groups_0 dkX6_groups_0 25 rfl
theorem dX6_groups_49 : decode cX6_groups 49 = .ok (.iconst 0, 1) := wnGet dwX6_groups_0 dkX6_groups_0 26 rfl
theorem dX6_groups_50 : decode cX6_groups 50 = .ok (.istore 7, 2) := wnGet dwX6_groups_0 dkX6_groups_0 27 rfl
theorem dX6_groups_52 : decode cX6_groups 52 = .ok (.iload 7, 2) := wnGet dwX6_groups_0 dkX6_groups_0 28 rfl
theorem dX6_groups_54 : decode cX6_groups 54 = .ok (.aload_n 0, 1) := wnGet dwX6_groups_0 dkX6_groups_0 29 rfl
theorem dX6_groups_55 : decode cX6_groups 55 = .ok (.getfield 17, 3) := wnGet dwX6_groups_0 dkX6_groups_0 30 rfl
theorem dX6_groups_58 : decode cX6_groups 58 = .ok (.iload_n 1, 1) := wnGet dwX6_groups_0 dkX6_groups_0 31 rfl
def dvX6_groups_1 : List UInt8 := [46, 162, 0, 55, 42, 28, 42, 180, 0, 11, 27, 50, 21, 7, 46, 182, 0, 115, 21, 4, 159, 0, 6, 167, 0, 27, 21, 6, 154, 0, 15, 42, 180, 0, 14, 27, 50, 21, 7, 46, 167, 0, 5, 21, 5, 54, 5, 132, 6, 1, 132, 7, 1, 167, 255, 196, 21, 6, 158, 0, 50, 187, 0, 97, 89]
theorem dwX6_groups_1 : (cX6_groups.data.toList.drop 59).take dvX6_groups_1.length = dvX6_groups_1 := by decide +kernel
theorem dkX6_groups_1 : ([(59, (.iaload, 1)), (60, (.if_icmp .ge 55, 3)), (63, (.aload_n 0, 1)), (64, (.iload_n 2, 1)), (65, (.aload_n 0, 1)), (66, (.getfield 11, 3)), (69, (.iload_n 1, 1)), (70, (.aaload, 1)), (71, (.iload 7, 2)), (73, (.iaload, 1)), (74, (.invokevirtual 115, 3)), (77, (.iload 4, 2)), (79, (.if_icmp .eq 6, 3)), (82, (.goto 27, 3)), (85, (.iload 6, 2)), (87, (.ifCond .ne 15, 3)), (90, (.aload_n 0, 1)), (91, (.getfield 14, 3)), (94, (.iload_n 1, 1)), (95, (.aaload, 1)), (96, (.iload 7, 2)), (98, (.iaload, 1)), (99, (.goto 5, 3)), (102, (.iload 5, 2)), (104, (.istore 5, 2)), (106, (.iinc 6 1, 3)), (109, (.iinc 7 1, 3)), (112, (.goto (-60), 3)), (115, (.iload 6, 2)), (117, (.ifCond .le 50, 3)), (120, (.new 97, 3)), (123, (.dup, 1))] : List (Nat × (Jvm.ClassFile.Instr × Nat))).all (wnL dvX6_groups_1 59) = true := by decide +kernel
theorem dX6_groups_59 : decode cX6_groups 59 = .ok (.iaload, 1) := wnGet dwX6_groups_1 dkX6_groups_1 0 rfl
theorem dX6_groups_60 : decode cX6_groups 60 = .ok (.if_icmp .ge 55, 3) := wnGet dwX6_groups_1 dkX6_groups_1 1 rfl
theorem dX6_groups_63 : decode cX6_groups 63 = .ok (.aload_n 0, 1) := wnGet dwX6_groups_1 dkX6_groups_1 2 rfl
theorem dX6_groups_64 : decode cX6_groups 64 = .ok (.iload_n 2, 1) := wnGet dwX6_groups_1 dkX6_groups_1 3 rfl
theorem dX6_groups_65 : decode cX6_groups 65 = .ok (.aload_n 0, 1) := wnGet dwX6_groups_1 dkX6_groups_1 4 rfl
theorem dX6_groups_66 : decode cX6_groups 66 = .ok (.getfield 11, 3) := wnGet dwX6_groups_1 dkX6_groups_1 5 rfl
theorem dX6_groups_69 : decode cX6_groups 69 = .ok (.iload_n 1, 1) := wnGet dwX6_groups_1 dkX6_groups_1 6 rfl
theorem dX6_groups_70 : decode cX6_groups 70 = .ok (.aaload, 1) := wnGet dwX6_groups_1 dkX6_groups_1 7 rfl
theorem dX6_groups_71 : decode cX6_groups 71 = .ok (.iload 7, 2) := wnGet dwX6_groups_1 dkX6_groups_1 8 rfl
theorem dX6_groups_73 : decode cX6_groups 73 = .ok (.iaload, 1) := wnGet dwX6_groups_1 dkX6_groups_1 9 rfl
theorem dX6_groups_74 : decode cX6_groups 74 = .ok (.invokevirtual 115, 3) := wnGet dwX6_groups_1 dkX6_groups_1 10 rfl
theorem dX6_groups_77 : decode cX6_groups 77 = .ok (.iload 4, 2) := wnGet dwX6_groups_1 dkX6_groups_1 11 rfl
theorem dX6_groups_79 : decode cX6_groups 79 = .ok (.if_icmp .eq 6, 3) := wnGet dwX6_groups_1 dkX6_groups_1 12 rfl
theorem dX6_groups_82 : decode cX6_groups 82 = .ok (.goto 27, 3) := wnGet dwX6_groups_1 dkX6_groups_1 13 rfl
theorem dX6_groups_85 : decode cX6_groups 85 = .ok (.iload 6, 2) := wnGet dwX6_groups_1 dkX6_groups_1 14 rfl
theorem dX6_groups_87 : decode cX6_groups 87 = .ok (.ifCond .ne 15, 3) := wnGet dwX6_groups_1 dkX6_groups_1 15 rfl
theorem dX6_groups_90 : decode cX6_groups 90 = .ok (.aload_n 0, 1) := wnGet dwX6_groups_1 dkX6_groups_1 16 rfl
theorem dX6_groups_91 : decode cX6_groups 91 = .ok (.getfield 14, 3) := wnGet dwX6_groups_1 dkX6_groups_1 17 rfl
theorem dX6_groups_94 : decode cX6_groups 94 = .ok (.iload_n 1, 1) := wnGet dwX6_groups_1 dkX6_groups_1 18 rfl
theorem dX6_groups_95 : decode cX6_groups 95 = .ok (.aaload, 1) := wnGet dwX6_groups_1 dkX6_groups_1 19 rfl
theorem dX6_groups_96 : decode cX6_groups 96 = .ok (.iload 7, 2) := wnGet dwX6_groups_1 dkX6_groups_1 20 rfl
theorem dX6_groups_98 : decode cX6_groups 98 = .ok (.iaload, 1) := wnGet dwX6_groups_1 dkX6_groups_1 21 rfl
theorem dX6_groups_99 : decode cX6_groups 99 = .ok (.goto 5, 3) := wnGet dwX6_groups_1 dkX6_groups_1 22 rfl
theorem dX6_groups_102 : decode cX6_groups 102 = .ok (.iload 5, 2) := wnGet dwX6_groups_1 dkX6_groups_1 23 rfl
theorem dX6_groups_104 : decode cX6_groups 104 = .ok (.istore 5, 2) := wnGet dwX6_groups_1 dkX6_groups_1 24 rfl
theorem dX6_groups_106 : decode cX6_groups 106 = .ok (.iinc 6 1, 3) := wnGet dwX6_groups_1 dkX6_groups_1 25 rfl
theorem dX6_groups_109 : decode cX6_groups 109 = .ok (.iinc 7 1, 3) := wnGet dwX6_groups_1 dkX6_groups_1 26 rfl
theorem dX6_groups_112 : decode cX6_groups 112 = .ok (.goto (-60), 3) := wnGet dwX6_groups_1 dkX6_groups_1 27 rfl
theorem dX6_groups_115 : decode cX6_groups 115 = .ok (.iload 6, 2) := wnGet dwX6_groups_1 dkX6_groups_1 28 rfl
theorem dX6_groups_117 : decode cX6_groups 117 = .ok (.ifCond .le 50, 3) := wnGet dwX6_groups_1 dkX6_groups_1 29 rfl
theorem dX6_groups_120 : decode cX6_groups 120 = .ok (.new 97, 3) := wnGet dwX6_groups_1 dkX6_groups_1 30 rfl
theorem dX6_groups_123 : decode cX6_groups 123 = .ok (.dup, 1) := wnGet dwX6_groups_1 dkX6_groups_1 31 rfl
def dvX6_groups_2 : List UInt8 := [183, 0, 99, 45, 182, 0, 100, 45, 182, 0, 125, 153, 0, 8, 18, 95, 167, 0, 5, 18, 104, 182, 0, 100, 21, 5, 182, 0, 106, 18, 131, 182, 0, 100, 21, 6, 182, 0, 106, 182, 0, 111, 78, 132, 4, 1, 167, 255, 122, 45, 176]
theorem dwX6_groups_2 : (cX6_groups.data.toList.drop 124).take dvX6_groups_2.length = dvX6_groups_2 := by decide +kernel
theorem dkX6_groups_2 : ([(124, (.invokespecial 99, 3)), (127, (.aload_n 3, 1)), (128, (.invokevirtual 100, 3)), (131, (.aload_n 3, 1)), (132, (.invokevirtual 125, 3)), (135, (.ifCond .eq 8, 3)), (138, (.ldc 95, 2)), (140, (.goto 5, 3)), (143, (.ldc 104, 2)), (145, (.invokevirtual 100, 3)), (148, (.iload 5, 2)), (150, (.invokevirtual 106, 3)), (153, (.ldc 131, 2)), (155, (.invokevirtual 100, 3)), (158, (.iload 6, 2)), (160, (.invokevirtual 106, 3)), (163, (.invokevirtual 111, 3)), (166, (.astore_n 3, 1)), (167, (.iinc 4 1, 3)), (170, (.goto (-134), 3)), (173, (.aload_n 3, 1)), (174, (.areturn, 1))] : List (Nat × (Jvm.ClassFile.Instr × Nat))).all (wnL dvX6_groups_2 124) = true := by decide +kernel
theorem dX6_groups_124 : decode cX6_groups 124 = .ok (.invokespecial 99, 3) := wnGet dwX6_groups_2 dkX6_groups_2 0 rfl
theorem dX6_groups_127 : decode cX6_groups 127 = .ok (.aload_n 3, 1) := wnGet dwX6_groups_2 dkX6_groups_2 1 rfl
theorem dX6_groups_128 : decode cX6_groups 128 = .ok (.invokevirtual 100, 3) := wnGet dwX6_groups_2 dkX6_groups_2 2 rfl
theorem dX6_groups_131 : decode cX6_groups 131 = .ok (.aload_n 3, 1) := wnGet dwX6_groups_2 dkX6_groups_2 3 rfl
theorem dX6_groups_132 : decode cX6_groups 132 = .ok (.invokevirtual 125, 3) := wnGet dwX6_groups_2 dkX6_groups_2 4 rfl
theorem dX6_groups_135 : decode cX6_groups 135 = .ok (.ifCond .eq 8, 3) := wnGet dwX6_groups_2 dkX6_groups_2 5 rfl
theorem dX6_groups_138 : decode cX6_groups 138 = .ok (.ldc 95, 2) := wnGet dwX6_groups_2 dkX6_groups_2 6 rfl
theorem dX6_groups_140 : decode cX6_groups 140 = .ok (.goto 5, 3) := wnGet dwX6_groups_2 dkX6_groups_2 7 rfl
theorem dX6_groups_143 : decode cX6_groups 143 = .ok (.ldc 104, 2) := wnGet dwX6_groups_2 dkX6_groups_2 8 rfl
theorem dX6_groups_145 : decode cX6_groups 145 = .ok (.invokevirtual 100, 3) := wnGet dwX6_groups_2 dkX6_groups_2 9 rfl
theorem dX6_groups_148 : decode cX6_groups 148 = .ok (.iload 5, 2) := wnGet dwX6_groups_2 dkX6_groups_2 10 rfl
theorem dX6_groups_150 : decode cX6_groups 150 = .ok (.invokevirtual 106, 3) := wnGet dwX6_groups_2 dkX6_groups_2 11 rfl
theorem dX6_groups_153 : decode cX6_groups 153 = .ok (.ldc 131, 2) := wnGet dwX6_groups_2 dkX6_groups_2 12 rfl
theorem dX6_groups_155 : decode cX6_groups 155 = .ok (.invokevirtual 100, 3) := wnGet dwX6_groups_2 dkX6_groups_2 13 rfl
theorem dX6_groups_158 : decode cX6_groups 158 = .ok (.iload 6, 2) := wnGet dwX6_groups_2 dkX6_groups_2 14 rfl
theorem dX6_groups_160 : decode cX6_groups 160 = .ok (.invokevirtual 106, 3) := wnGet dwX6_groups_2 dkX6_groups_2 15 rfl
theorem dX6_groups_163 : decode cX6_groups 163 = .ok (.invokevirtual 111, 3) := wnGet dwX6_groups_2 dkX6_groups_2 16 rfl
theorem dX6_groups_166 : decode cX6_groups 166 = .ok (.astore_n 3, 1) := wnGet dwX6_groups_2 dkX6_groups_2 17 rfl
theorem dX6_groups_167 : decode cX6_groups 167 = .ok (.iinc 4 1, 3) := wnGet dwX6_groups_2 dkX6_groups_2 18 rfl
theorem dX6_groups_170 : decode cX6_groups 170 = .ok (.goto (-134), 3) := wnGet dwX6_groups_2 dkX6_groups_2 19 rfl
theorem dX6_groups_173 : decode cX6_groups 173 = .ok (.aload_n 3, 1) := wnGet dwX6_groups_2 dkX6_groups_2 20 rfl
theorem dX6_groups_174 : decode cX6_groups 174 = .ok (.areturn, 1) := wnGet dwX6_groups_2 dkX6_groups_2 21 rfl
theorem ggX6_ranks_X6_isNoRow : GoodIn wsX6_ranks wsX6_isNoRow := tgCall 685 e_X6_isNoRow (by decide +kernel)
theorem gX6_ranks_X6_isNoRow : GoodIn wsX6_ranks (va_wsS RX6 65 yX6_isNoRow wsX6_isNoRow) := goodIn_app (tgIn [682, 683, 684] (by decide +kernel) rfl) ggX6_ranks_X6_isNoRow
theorem ggX6_ranks_X6_isNoOrder : GoodIn wsX6_ranks wsX6_isNoOrder := tgCall 715 e_X6_isNoOrder (by decide +kernel)
theorem gX6_ranks_X6_isNoOrder : GoodIn wsX6_ranks (va_wsS RX6 86 yX6_isNoOrder wsX6_isNoOrder) := goodIn_app (tgIn [713, 714, 684] (by decide +kernel) rfl) ggX6_ranks_X6_isNoOrder
theorem ggX6_ranks_X6_start : GoodIn wsX6_ranks wsX6_start := tgCall 692 e_X6_start (by decide +kernel)
theorem gX6_ranks_X6_start : GoodIn wsX6_ranks (wsV RX6 69 RX6 yX6_start wsX6_start) := goodIn_app (tgIn [689, 690, 691, 684] (by decide +kernel) rfl) ggX6_ranks_X6_start
theorem ggX6_ranks_X6_rankNow : GoodIn wsX6_ranks wsX6_rankNow := tgCall 786 e_X6_rankNow (by decide +kernel)
theorem gX6_ranks_X6_rankNow : GoodIn wsX6_ranks (wsV RX6 115 RX6 yX6_rankNow wsX6_rankNow) := goodIn_app (tgIn [783, 784, 785, 684] (by decide +kernel) rfl) ggX6_ranks_X6_rankNow
theorem ggX6_ranks_J4_init_da8c8 : GoodIn wsX6_ranks wsJ4_init_da8c8 := tgCall 415 e_J4_init_da8c8 (by decide +kernel)
theorem gX6_ranks_J4_init_da8c8 : GoodIn wsX6_ranks (wsJ4_init_da8c8) := ggX6_ranks_J4_init_da8c8
theorem ggX6_ranks_J4_append_15ec4 : GoodIn wsX6_ranks wsJ4_append_15ec4 := tgCall 780 e_J4_append_15ec4 (by decide +kernel)
theorem gX6_ranks_J4_append_15ec4 : GoodIn wsX6_ranks (wsV RX6 100 RJ4 yJ4_append_15ec4 wsJ4_append_15ec4) := goodIn_app (tgIn [777, 778, 779, 328] (by decide +kernel) rfl) ggX6_ranks_J4_append_15ec4
theorem ggX6_ranks_J0_isEmpty_aae02 : GoodIn wsX6_ranks wsJ0_isEmpty_aae02 := tgCall 802 e_J0_isEmpty_aae02 (by decide +kernel)
theorem gX6_ranks_J0_isEmpty_aae02 : GoodIn wsX6_ranks (wsV RX6 125 RJ0 yJ0_isEmpty_aae02 wsJ0_isEmpty_aae02) := goodIn_app (tgIn [799, 800, 801, 264] (by decide +kernel) rfl) ggX6_ranks_J0_isEmpty_aae02
theorem ggX6_ranks_J4_append_bf812 : GoodIn wsX6_ranks wsJ4_append_bf812 := tgCall 426 e_J4_append_bf812 (by decide +kernel)
theorem gX6_ranks_J4_append_bf812 : GoodIn wsX6_ranks (wsV RX6 106 RJ4 yJ4_append_bf812 wsJ4_append_bf812) := goodIn_app (tgIn [781, 424, 425, 328] (by decide +kernel) rfl) ggX6_ranks_J4_append_bf812
theorem ggX6_ranks_J4_toString_0e30d : GoodIn wsX6_ranks wsJ4_toString_0e30d := tgCall 431 e_J4_toString_0e30d (by decide +kernel)
theorem gX6_ranks_J4_toString_0e30d : GoodIn wsX6_ranks (wsV RX6 111 RJ4 yJ4_toString_0e30d wsJ4_toString_0e30d) := goodIn_app (tgIn [782, 429, 430, 328] (by decide +kernel) rfl) ggX6_ranks_J4_toString_0e30d
def dvX6_ranks_0 : List UInt8 := [42, 27, 184, 0, 65, 154, 0, 10, 28, 184, 0, 86, 153, 0, 7, 4, 167, 0, 4, 3, 4, 182, 0, 69, 153, 0, 6, 18, 95, 176, 18, 95, 58, 4, 3, 54, 5, 21, 5, 29, 153, 0, 8, 16, 16, 167, 0, 4, 4, 162, 0, 96, 3, 54, 6, 21, 6, 42, 180, 0, 17, 27]
theorem dwX6_ranks_0 : (cX6_ranks.data.toList.drop 0).take dvX6_ranks_0.length = dvX6_ranks_0 := by decide +kernel
theorem dkX6_ranks_0 : ([(0, (.aload_n 0, 1)), (1, (.iload_n 1, 1)), (2, (.invokestatic 65, 3)), (5, (.ifCond .ne 10, 3)), (8, (.iload_n 2, 1)), (9, (.invokestatic 86, 3)), (12, (.ifCond .eq 7, 3)), (15, (.iconst 1, 1)), (16, (.goto 4, 3)), (19, (.iconst 0, 1)), (20, (.iconst 1, 1)), (21, (.invokevirtual 69, 3)), (24, (.ifCond .eq 6, 3)), (27, (.ldc 95, 2)), (29, (.areturn, 1)), (30, (.ldc 95, 2)), (32, (.astore 4, 2)), (34, (.iconst 0, 1)), (35, (.istore 5, 2)), (37, (.iload 5, 2)), (39, (.iload_n 3, 1)), (40, (.ifCond .eq 8, 3)), (43, (.bipush 16, 2)), (45, (.goto 4, 3)), (48, (.iconst 1, 1)), (49, (.if_icmp .ge 96, 3)), (52, (.iconst 0, 1)), (53, (.istore 6, 2)), (55, (.iload 6, 2)), (57, (.aload_n 0, 1)), (58, (.getfield 17, 3)), (61, (.iload_n 1, 1))] : List (Nat × (Jvm.ClassFile.Instr × Nat))).all (wnL dvX6_ranks_0 0) = true := by decide +kernel
theorem dX6_ranks_0 : decode cX6_ranks 0 = .ok (.aload_n 0, 1) := wnGet dwX6_ranks_0 dkX6_ranks_0 0 rfl
theorem dX6_ranks_1 : decode cX6_ranks 1 = .ok (.iload_n 1, 1) := wnGet dwX6_ranks_0 dkX6_ranks_0 1 rfl
theorem dX6_ranks_2 : decode cX6_ranks 2 = .ok (.invokestatic 65, 3) := wnGet dwX6_ranks_0 dkX6_ranks_0 2 rfl
theorem dX6_ranks_5 : decode cX6_ranks 5 = .ok (.ifCond .ne 10, 3) := wnGet dwX6_ranks_0 dkX6_ranks_0 3 rfl
theorem dX6_ranks_8 : decode cX6_ranks 8 = .ok (.iload_n 2, 1) := wnGet dwX6_ranks_0 dkX6_ranks_0 4 rfl
theorem dX6_ranks_9 : decode cX6_ranks 9 = .ok (.invokestatic 86, 3) := wnGet dwX6_ranks_0 dkX6_ranks_0 5 rfl
theorem dX6_ranks_12 : decode cX6_ranks 12 = .ok (.ifCond .eq 7, 3) := wnGet dwX6_ranks_0 dkX6_ranks_0 6 rfl
theorem dX6_ranks_15 : decode cX6_ranks 15 = .ok (.iconst 1, 1) := wnGet dwX6_ranks_0 dkX6_ranks_0 7 rfl
theorem dX6_ranks_16 : decode cX6_ranks 16 = .ok (.goto 4, 3) := wnGet dwX6_ranks_0 dkX6_ranks_0 8 rfl
theorem dX6_ranks_19 : decode cX6_ranks 19 = .ok (.iconst 0, 1) := wnGet dwX6_ranks_0 dkX6_ranks_0 9 rfl
theorem dX6_ranks_20 : decode cX6_ranks 20 = .ok (.iconst 1, 1) := wnGet dwX6_ranks_0 dkX6_ranks_0 10 rfl
theorem dX6_ranks_21 : decode cX6_ranks 21 = .ok (.invokevirtual 69, 3) := wnGet dwX6_ranks_0 dkX6_ranks_0 11 rfl
theorem dX6_ranks_24 : decode cX6_ranks 24 = .ok (.ifCond .eq 6, 3) := wnGet dwX6_ranks_0 dkX6_ranks_0 12 rfl
theorem dX6_ranks_27 : decode cX6_ranks 27 = .ok (.ldc 95, 2) := wnGet dwX6_ranks_0 dkX6_ranks_0 13 rfl
theorem dX6_ranks_29 : decode cX6_ranks 29 = .ok (.areturn, 1) := wnGet dwX6_ranks_0 dkX6_ranks_0 14 rfl
theorem dX6_ranks_30 : decode cX6_ranks 30 = .ok (.ldc 95, 2) := wnGet dwX6_ranks_0 dkX6_ranks_0 15 rfl
theorem dX6_ranks_32 : decode cX6_ranks 32 = .ok (.astore 4, 2) := wnGet dwX6_ranks_0 dkX6_ranks_0 16 rfl
theorem dX6_ranks_34 : decode cX6_ranks 34 = .ok (.iconst 0, 1) := wnGet dwX6_ranks_0 dkX6_ranks_0 17 rfl
theorem dX6_ranks_35 : decode cX6_ranks 35 = .ok (.istore 5, 2) := wnGet dwX6_ranks_0 dkX6_ranks_0 18 rfl
theorem dX6_ranks_37 : decode cX6_ranks 37 = .ok (.iload 5, 2) := wnGet dwX6_ranks_0 dkX6_ranks_0 19 rfl
theorem dX6_ranks_39 : decode cX6_ranks 39 = .ok (.iload_n 3, 1) := wnGet dwX6_ranks_0 dkX6_ranks_0 20 rfl
theorem dX6_ranks_40 : decode cX6_ranks 40 = .ok (.ifCond .eq 8, 3) := wnGet dwX6_ranks_0 dkX6_ranks_0 21 rfl
theorem dX6_ranks_43 : decode cX6_ranks 43 = .ok (.bipush 16, 2) := wnGet dwX6_ranks_0 dkX6_ranks_0 22 rfl
theorem dX6_ranks_45 : decode cX6_ranks 45 = .ok (.goto 4, 3) := wnGet dwX6_ranks_0 dkX6_ranks_0 23 rfl
theorem dX6_ranks_48 : decode cX6_ranks 48 = .ok (.iconst 1, 1) := wnGet dwX6_ranks_0 dkX6_ranks_0 24 rfl
theorem dX6_ranks_49 : decode cX6_ranks 49 = .ok (.if_icmp .ge 96, 3) := wnGet dwX6_ranks_0 dkX6_ranks_0 25 rfl
theorem dX6_ranks_52 : decode cX6_ranks 52 = .ok (.iconst 0, 1) := wnGet dwX6_ranks_0 dkX6_ranks_0 26 rfl
theorem dX6_ranks_53 : decode cX6_ranks 53 = .ok (.istore 6, 2) := wnGet dwX6_ranks_0 dkX6_ranks_0 27 rfl
theorem dX6_ranks_55 : decode cX6_ranks 55 = .ok (.iload 6, 2) := wnGet dwX6_ranks_0 dkX6_ranks_0 28 rfl
theorem dX6_ranks_57 : decode cX6_ranks 57 = .ok (.aload_n 0, 1) := wnGet dwX6_ranks_0 dkX6_ranks_0 29 rfl
theorem dX6_ranks_58 : decode cX6_ranks 58 = .ok (.getfield 17, 3) := wnGet dwX6_ranks_0 dkX6_ranks_0 30 rfl
theorem dX6_ranks_61 : decode cX6_ranks 61 = .ok (.iload_n 1, 1) := wnGet dwX6_ranks_0 dkX6_ranks_0 31 rfl
def dvX6_ranks_1 : List UInt8 := [46, 162, 0, 76, 42, 28, 42, 180, 0, 11, 27, 50, 21, 6, 46, 182, 0, 115, 54, 7, 29, 153, 0, 10, 21, 7, 21, 5, 160, 0, 43, 187, 0, 97, 89, 183, 0, 99, 25, 4, 182, 0, 100, 25, 4, 182, 0, 125, 153, 0, 8, 18, 95, 167, 0, 5, 18, 104, 182, 0, 100, 21, 7, 182, 0, 106, 182, 0, 111]
theorem dwX6_ranks_1 : (cX6_ranks.data.toList.drop 62).take dvX6_ranks_1.length = dvX6_ranks_1 := by decide +kernel
theorem dkX6_ranks_1 : ([(62, (.iaload, 1)), (63, (.if_icmp .ge 76, 3)), (66, (.aload_n 0, 1)), (67, (.iload_n 2, 1)), (68, (.aload_n 0, 1)), (69, (.getfield 11, 3)), (72, (.iload_n 1, 1)), (73, (.aaload, 1)), (74, (.iload 6, 2)), (76, (.iaload, 1)), (77, (.invokevirtual 115, 3)), (80, (.istore 7, 2)), (82, (.iload_n 3, 1)), (83, (.ifCond .eq 10, 3)), (86, (.iload 7, 2)), (88, (.iload 5, 2)), (90, (.if_icmp .ne 43, 3)), (93, (.new 97, 3)), (96, (.dup, 1)), (97, (.invokespecial 99, 3)), (100, (.aload 4, 2)), (102, (.invokevirtual 100, 3)), (105, (.aload 4, 2)), (107, (.invokevirtual 125, 3)), (110, (.ifCond .eq 8, 3)), (113, (.ldc 95, 2)), (115, (.goto 5, 3)), (118, (.ldc 104, 2)), (120, (.invokevirtual 100, 3)), (123, (.iload 7, 2)), (125, (.invokevirtual 106, 3)), (128, (.invokevirtual 111, 3))] : List (Nat × (Jvm.ClassFile.Instr × Nat))).all (wnL dvX6_ranks_1 62) = true := by decide +kernel
theorem dX6_ranks_62 : decode cX6_ranks 62 = .ok (.iaload, 1) := wnGet dwX6_ranks_1 dkX6_ranks_1 0 rfl
theorem dX6_ranks_63 : decode cX6_ranks 63 = .ok (.if_icmp .ge 76, 3) := wnGet dwX6_ranks_1 dkX6_ranks_1 1 rfl
theorem dX6_ranks_66 : decode cX6_ranks 66 = .ok (.aload_n 0, 1) := wnGet dwX6_ranks_1 dkX6_ranks_1 2 rfl
theorem dX6_ranks_67 : decode cX6_ranks 67 = .ok (.iload_n 2, 1) := wnGet dwX6_ranks_1 dkX6_ranks_1 3 rfl
theorem dX6_ranks_68 : decode cX6_ranks 68 = .ok (.aload_n 0, 1) := wnGet dwX6_ranks_1 dkX6_ranks_1 4 rfl
theorem dX6_ranks_69 : decode cX6_ranks 69 = .ok (.getfield 11, 3) := wnGet dwX6_ranks_1 dkX6_ranks_1 5 rfl
theorem dX6_ranks_72 : decode cX6_ranks 72 = .ok (.iload_n 1, 1) := wnGet dwX6_ranks_1 dkX6_ranks_1 6 rfl
theorem dX6_ranks_73 : decode cX6_ranks 73 = .ok (.aaload, 1) := wnGet dwX6_ranks_1 dkX6_ranks_1 7 rfl
theorem dX6_ranks_74 : decode cX6_ranks 74 = .ok (.iload 6, 2) := wnGet dwX6_ranks_1 dkX6_ranks_1 8 rfl
theorem dX6_ranks_76 : decode cX6_ranks 76 = .ok (.iaload, 1) := wnGet dwX6_ranks_1 dkX6_ranks_1 9 rfl
theorem dX6_ranks_77 : decode cX6_ranks 77 = .ok (.invokevirtual 115, 3) := wnGet dwX6_ranks_1 dkX6_ranks_1 10 rfl
theorem dX6_ranks_80 : decode cX6_ranks 80 = .ok (.istore 7, 2) := wnGet dwX6_ranks_1 dkX6_ranks_1 11 rfl
theorem dX6_ranks_82 : decode cX6_ranks 82 = .ok (.iload_n 3, 1) := wnGet dwX6_ranks_1 dkX6_ranks_1 12 rfl
theorem dX6_ranks_83 : decode cX6_ranks 83 = .ok (.ifCond .eq 10, 3) := wnGet dwX6_ranks_1 dkX6_ranks_1 13 rfl
theorem dX6_ranks_86 : decode cX6_ranks 86 = .ok (.iload 7, 2) := wnGet dwX6_ranks_1 dkX6_ranks_1 14 rfl
theorem dX6_ranks_88 : decode cX6_ranks 88 = .ok (.iload 5, 2) := wnGet dwX6_ranks_1 dkX6_ranks_1 15 rfl
theorem dX6_ranks_90 : decode cX6_ranks 90 = .ok (.if_icmp .ne 43, 3) := wnGet dwX6_ranks_1 dkX6_ranks_1 16 rfl
theorem dX6_ranks_93 : decode cX6_ranks 93 = .ok (.new 97, 3) := wnGet dwX6_ranks_1 dkX6_ranks_1 17 rfl
theorem dX6_ranks_96 : decode cX6_ranks 96 = .ok (.dup, 1) := wnGet dwX6_ranks_1 dkX6_ranks_1 18 rfl
theorem dX6_ranks_97 : decode cX6_ranks 97 = .ok (.invokespecial 99, 3) := wnGet dwX6_ranks_1 dkX6_ranks_1 19 rfl
theorem dX6_ranks_100 : decode cX6_ranks 100 = .ok (.aload 4, 2) := wnGet dwX6_ranks_1 dkX6_ranks_1 20 rfl
theorem dX6_ranks_102 : decode cX6_ranks 102 = .ok (.invokevirtual 100, 3) := wnGet dwX6_ranks_1 dkX6_ranks_1 21 rfl
theorem dX6_ranks_105 : decode cX6_ranks 105 = .ok (.aload 4, 2) := wnGet dwX6_ranks_1 dkX6_ranks_1 22 rfl
theorem dX6_ranks_107 : decode cX6_ranks 107 = .ok (.invokevirtual 125, 3) := wnGet dwX6_ranks_1 dkX6_ranks_1 23 rfl
theorem dX6_ranks_110 : decode cX6_ranks 110 = .ok (.ifCond .eq 8, 3) := wnGet dwX6_ranks_1 dkX6_ranks_1 24 rfl
theorem dX6_ranks_113 : decode cX6_ranks 113 = .ok (.ldc 95, 2) := wnGet dwX6_ranks_1 dkX6_ranks_1 25 rfl
theorem dX6_ranks_115 : decode cX6_ranks 115 = .ok (.goto 5, 3) := wnGet dwX6_ranks_1 dkX6_ranks_1 26 rfl
theorem dX6_ranks_118 : decode cX6_ranks 118 = .ok (.ldc 104, 2) := wnGet dwX6_ranks_1 dkX6_ranks_1 27 rfl
theorem dX6_ranks_120 : decode cX6_ranks 120 = .ok (.invokevirtual 100, 3) := wnGet dwX6_ranks_1 dkX6_ranks_1 28 rfl
theorem dX6_ranks_123 : decode cX6_ranks 123 = .ok (.iload 7, 2) := wnGet dwX6_ranks_1 dkX6_ranks_1 29 rfl
theorem dX6_ranks_125 : decode cX6_ranks 125 = .ok (.invokevirtual 106, 3) := wnGet dwX6_ranks_1 dkX6_ranks_1 30 rfl
theorem dX6_ranks_128 : decode cX6_ranks 128 = .ok (.invokevirtual 111, 3) := wnGet dwX6_ranks_1 dkX6_ranks_1 31 rfl
def dvX6_ranks_2 : List UInt8 := [58, 4, 132, 6, 1, 167, 255, 175, 132, 5, 1, 167, 255, 151, 25, 4, 176]
theorem dwX6_ranks_2 : (cX6_ranks.data.toList.drop 131).take dvX6_ranks_2.length = dvX6_ranks_2 := by decide +kernel
theorem dkX6_ranks_2 : ([(131, (.astore 4, 2)), (133, (.iinc 6 1, 3)), (136, (.goto (-81), 3)), (139, (.iinc 5 1, 3)), (142, (.goto (-105), 3)), (145, (.aload 4, 2)), (147, (.areturn, 1))] : List (Nat × (Jvm.ClassFile.Instr × Nat))).all (wnL dvX6_ranks_2 131) = true := by decide +kernel
theorem dX6_ranks_131 : decode cX6_ranks 131 = .ok (.astore 4, 2) := wnGet dwX6_ranks_2 dkX6_ranks_2 0 rfl
theorem dX6_ranks_133 : decode cX6_ranks 133 = .ok (.iinc 6 1, 3) := wnGet dwX6_ranks_2 dkX6_ranks_2 1 rfl
theorem dX6_ranks_136 : decode cX6_ranks 136 = .ok (.goto (-81), 3) := wnGet dwX6_ranks_2 dkX6_ranks_2 2 rfl
theorem dX6_ranks_139 : decode cX6_ranks 139 = .ok (.iinc 5 1, 3) := wnGet dwX6_ranks_2 dkX6_ranks_2 3 rfl
theorem dX6_ranks_142 : decode cX6_ranks 142 = .ok (.goto (-105), 3) := wnGet dwX6_ranks_2 dkX6_ranks_2 4 rfl
theorem dX6_ranks_145 : decode cX6_ranks 145 = .ok (.aload 4, 2) := wnGet dwX6_ranks_2 dkX6_ranks_2 5 rfl
theorem dX6_ranks_147 : decode cX6_ranks 147 = .ok (.areturn, 1) := wnGet dwX6_ranks_2 dkX6_ranks_2 6 rfl
theorem dkX6_add_0 : ([(0, (.aload_n 0, 1)), (1, (.getfield 21, 3)), (4, (.iload_n 1, 1)), (5, (.aaload, 1)), (6, (.aload_n 0, 1)), (7, (.getfield 29, 3)), (10, (.iload_n 1, 1)), (11, (.iaload, 1)), (12, (.iload_n 2, 1)), (13, (.iastore, 1)), (14, (.aload_n 0, 1)), (15, (.getfield 26, 3)), (18, (.iload_n 1, 1)), (19, (.aaload, 1)), (20, (.aload_n 0, 1)), (21, (.getfield 29, 3)), (24, (.iload_n 1, 1)), (25, (.iaload, 1)), (26, (.iload_n 3, 1)), (27, (.bastore, 1)), (28, (.aload_n 0, 1)), (29, (.getfield 29, 3)), (32, (.iload_n 1, 1)), (33, (.dup2, 1)), (34, (.iaload, 1)), (35, (.iconst 1, 1)), (36, (.iadd, 1)), (37, (.iastore, 1)), (38, (.return_, 1))] : List (Nat × (Jvm.ClassFile.Instr × Nat))).all (dcB cX6_add) = true := by decide +kernel
theorem dX6_add_0 : decode cX6_add 0 = .ok (.aload_n 0, 1) := dget dkX6_add_0 0 rfl
theorem dX6_add_1 : decode cX6_add 1 = .ok (.getfield 21, 3) := dget dkX6_add_0 1 rfl
theorem dX6_add_4 : decode cX6_add 4 = .ok (.iload_n 1, 1) := dget dkX6_add_0 2 rfl
theorem dX6_add_5 : decode cX6_add 5 = .ok (.aaload, 1) := dget dkX6_add_0 3 rfl
theorem dX6_add_6 : decode cX6_add 6 = .ok (.aload_n 0, 1) := dget dkX6_add_0 4 rfl
theorem dX6_add_7 : decode cX6_add 7 = .ok (.getfield 29, 3) := dget dkX6_add_0 5 rfl
theorem dX6_add_10 : decode cX6_add 10 = .ok (.iload_n 1, 1) := dget dkX6_add_0 6 rfl
theorem dX6_add_11 : decode cX6_add 11 = .ok (.iaload, 1) := dget dkX6_add_0 7 rfl
theorem dX6_add_12 : decode cX6_add 12 = .ok (.iload_n 2, 1) := dget dkX6_add_0 8 rfl
theorem dX6_add_13 : decode cX6_add 13 = .ok (.iastore, 1) := dget dkX6_add_0 9 rfl
theorem dX6_add_14 : decode cX6_add 14 = .ok (.aload_n 0, 1) := dget dkX6_add_0 10 rfl
theorem dX6_add_15 : decode cX6_add 15 = .ok (.getfield 26, 3) := dget dkX6_add_0 11 rfl
theorem dX6_add_18 : decode cX6_add 18 = .ok (.iload_n 1, 1) := dget dkX6_add_0 12 rfl
theorem dX6_add_19 : decode cX6_add 19 = .ok (.aaload, 1) := dget dkX6_add_0 13 rfl
theorem dX6_add_20 : decode cX6_add 20 = .ok (.aload_n 0, 1) := dget dkX6_add_0 14 rfl
theorem dX6_add_21 : decode cX6_add 21 = .ok (.getfield 29, 3) := dget dkX6_add_0 15 rfl
theorem dX6_add_24 : decode cX6_add 24 = .ok (.iload_n 1, 1) := dget dkX6_add_0 16 rfl
theorem dX6_add_25 : decode cX6_add 25 = .ok (.iaload, 1) := dget dkX6_add_0 17 rfl
theorem dX6_add_26 : decode cX6_add 26 = .ok (.iload_n 3, 1) := dget dkX6_add_0 18 rfl
theorem dX6_add_27 : decode cX6_add 27 = .ok (.bastore, 1) := dget dkX6_add_0 19 rfl
theorem dX6_add_28 : decode cX6_add 28 = .ok (.aload_n 0, 1) := dget dkX6_add_0 20 rfl
theorem dX6_add_29 : decode cX6_add 29 = .ok (.getfield 29, 3) := dget dkX6_add_0 21 rfl
theorem dX6_add_32 : decode cX6_add 32 = .ok (.iload_n 1, 1) := dget dkX6_add_0 22 rfl
theorem dX6_add_33 : decode cX6_add 33 = .ok (.dup2, 1) := dget dkX6_add_0 23 rfl
theorem dX6_add_34 : decode cX6_add 34 = .ok (.iaload, 1) := dget dkX6_add_0 24 rfl
theorem dX6_add_35 : decode cX6_add 35 = .ok (.iconst 1, 1) := dget dkX6_add_0 25 rfl
theorem dX6_add_36 : decode cX6_add 36 = .ok (.iadd, 1) := dget dkX6_add_0 26 rfl
theorem dX6_add_37 : decode cX6_add 37 = .ok (.iastore, 1) := dget dkX6_add_0 27 rfl
theorem dX6_add_38 : decode cX6_add 38 = .ok (.return_, 1) := dget dkX6_add_0 28 rfl
theorem ggX6_step_X6_isNoOrder : GoodIn wsX6_step wsX6_isNoOrder := tgCall 715 e_X6_isNoOrder (by decide +kernel)
theorem gX6_step_X6_isNoOrder : GoodIn wsX6_step (va_wsS RX6 86 yX6_isNoOrder wsX6_isNoOrder) := goodIn_app (tgIn [713, 714, 684] (by decide +kernel) rfl) ggX6_step_X6_isNoOrder
theorem ggX6_step_X6_start : GoodIn wsX6_step wsX6_start := tgCall 692 e_X6_start (by decide +kernel)
theorem gX6_step_X6_start : GoodIn wsX6_step (wsV RX6 69 RX6 yX6_start wsX6_start) := goodIn_app (tgIn [689, 690, 691, 684] (by decide +kernel) rfl) ggX6_step_X6_start
theorem ggX6_step_X6_isNo : GoodIn wsX6_step wsX6_isNo := tgCall 688 e_X6_isNo (by decide +kernel)
theorem gX6_step_X6_isNo : GoodIn wsX6_step (va_wsS RX6 40 yX6_isNo wsX6_isNo) := goodIn_app (tgIn [686, 687, 684] (by decide +kernel) rfl) ggX6_step_X6_isNo
theorem ggX6_step_X6_refuse : GoodIn wsX6_step wsX6_refuse := tgCall 697 e_X6_refuse (by decide +kernel)
theorem gX6_step_X6_refuse : GoodIn wsX6_step (wsV RX6 36 RX6 yX6_refuse wsX6_refuse) := goodIn_app (tgIn [694, 695, 696, 684] (by decide +kernel) rfl) ggX6_step_X6_refuse
theorem ggX6_step_X6_no : GoodIn wsX6_step wsX6_no := tgCall 704 e_X6_no (by decide +kernel)
theorem gX6_step_X6_no : GoodIn wsX6_step (wsV RX6 75 RX6 yX6_no wsX6_no) := goodIn_app (tgIn [701, 702, 703, 684] (by decide +kernel) rfl) ggX6_step_X6_no
theorem ggX6_step_X6_add : GoodIn wsX6_step wsX6_add := tgCall 806 e_X6_add (by decide +kernel)
theorem gX6_step_X6_add : GoodIn wsX6_step (wsV RX6 133 RX6 yX6_add wsX6_add) := goodIn_app (tgIn [803, 804, 805, 684] (by decide +kernel) rfl) ggX6_step_X6_add
theorem ggX6_step_X6_classesNow : GoodIn wsX6_step wsX6_classesNow := tgCall 810 e_X6_classesNow (by decide +kernel)
theorem gX6_step_X6_classesNow : GoodIn wsX6_step (wsV RX6 137 RX6 yX6_classesNow wsX6_classesNow) := goodIn_app (tgIn [807, 808, 809, 684] (by decide +kernel) rfl) ggX6_step_X6_classesNow
theorem dkX6_step_0 : ([(0, (.aload_n 0, 1)), (1, (.iload_n 1, 1)), (2, (.invokestatic 86, 3)), (5, (.iconst 1, 1)), (6, (.invokevirtual 69, 3)), (9, (.ifCond .ne 17, 3)), (12, (.aload_n 0, 1)), (13, (.iload_n 2, 1)), (14, (.bipush 7, 2)), (16, (.invokestatic 40, 3)), (19, (.iconst 2, 1)), (20, (.invokevirtual 36, 3)), (23, (.ifCond .eq 5, 3)), (26, (.iconst 0, 1)), (27, (.ireturn, 1)), (28, (.aload_n 0, 1)), (29, (.getfield 29, 3)), (32, (.iload_n 1, 1)), (33, (.iaload, 1)), (34, (.iconst 5, 1)), (35, (.if_icmp .ne 8, 3)), (38, (.aload_n 0, 1)), (39, (.invokevirtual 75, 3)), (42, (.ireturn, 1)), (43, (.aload_n 0, 1)), (44, (.iload_n 1, 1)), (45, (.iload_n 2, 1)), (46, (.iload_n 3, 1)), (47, (.invokevirtual 133, 3)), (50, (.aload_n 0, 1)), (51, (.iload_n 1, 1)), (52, (.invokevirtual 137, 3)), (55, (.ireturn, 1))] : List (Nat × (Jvm.ClassFile.Instr × Nat))).all (dcB cX6_step) = true := by decide +kernel
theorem dX6_step_0 : decode cX6_step 0 = .ok (.aload_n 0, 1) := dget dkX6_step_0 0 rfl
theorem dX6_step_1 : decode cX6_step 1 = .ok (.iload_n 1, 1) := dget dkX6_step_0 1 rfl
theorem dX6_step_2 : decode cX6_step 2 = .ok (.invokestatic 86, 3) := dget dkX6_step_0 2 rfl
theorem dX6_step_5 : decode cX6_step 5 = .ok (.iconst 1, 1) := dget dkX6_step_0 3 rfl
theorem dX6_step_6 : decode cX6_step 6 = .ok (.invokevirtual 69, 3) := dget dkX6_step_0 4 rfl
theorem dX6_step_9 : decode cX6_step 9 = .ok (.ifCond .ne 17, 3) := dget dkX6_step_0 5 rfl
theorem dX6_step_12 : decode cX6_step 12 = .ok (.aload_n 0, 1) := dget dkX6_step_0 6 rfl
theorem dX6_step_13 : decode cX6_step 13 = .ok (.iload_n 2, 1) := dget dkX6_step_0 7 rfl
theorem dX6_step_14 : decode cX6_step 14 = .ok (.bipush 7, 2) := dget dkX6_step_0 8 rfl
theorem dX6_step_16 : decode cX6_step 16 = .ok (.invokestatic 40, 3) := dget dkX6_step_0 9 rfl
theorem dX6_step_19 : decode cX6_step 19 = .ok (.iconst 2, 1) := dget dkX6_step_0 10 rfl
theorem dX6_step_20 : decode cX6_step 20 = .ok (.invokevirtual 36, 3) := dget dkX6_step_0 11 rfl
theorem dX6_step_23 : decode cX6_step 23 = .ok (.ifCond .eq 5, 3) := dget dkX6_step_0 12 rfl
theorem dX6_step_26 : decode cX6_step 26 = .ok (.iconst 0, 1) := dget dkX6_step_0 13 rfl
theorem dX6_step_27 : decode cX6_step 27 = .ok (.ireturn, 1) := dget dkX6_step_0 14 rfl
theorem dX6_step_28 : decode cX6_step 28 = .ok (.aload_n 0, 1) := dget dkX6_step_0 15 rfl
theorem dX6_step_29 : decode cX6_step 29 = .ok (.getfield 29, 3) := dget dkX6_step_0 16 rfl
theorem dX6_step_32 : decode cX6_step 32 = .ok (.iload_n 1, 1) := dget dkX6_step_0 17 rfl
theorem dX6_step_33 : decode cX6_step 33 = .ok (.iaload, 1) := dget dkX6_step_0 18 rfl
theorem dX6_step_34 : decode cX6_step 34 = .ok (.iconst 5, 1) := dget dkX6_step_0 19 rfl
theorem dX6_step_35 : decode cX6_step 35 = .ok (.if_icmp .ne 8, 3) := dget dkX6_step_0 20 rfl
theorem dX6_step_38 : decode cX6_step 38 = .ok (.aload_n 0, 1) := dget dkX6_step_0 21 rfl
theorem dX6_step_39 : decode cX6_step 39 = .ok (.invokevirtual 75, 3) := dget dkX6_step_0 22 rfl
theorem dX6_step_42 : decode cX6_step 42 = .ok (.ireturn, 1) := dget dkX6_step_0 23 rfl
theorem dX6_step_43 : decode cX6_step 43 = .ok (.aload_n 0, 1) := dget dkX6_step_0 24 rfl
theorem dX6_step_44 : decode cX6_step 44 = .ok (.iload_n 1, 1) := dget dkX6_step_0 25 rfl
theorem dX6_step_45 : decode cX6_step 45 = .ok (.iload_n 2, 1) := dget dkX6_step_0 26 rfl
theorem dX6_step_46 : decode cX6_step 46 = .ok (.iload_n 3, 1) := dget dkX6_step_0 27 rfl
theorem dX6_step_47 : decode cX6_step 47 = .ok (.invokevirtual 133, 3) := dget dkX6_step_0 28 rfl
theorem dX6_step_50 : decode cX6_step 50 = .ok (.aload_n 0, 1) := dget dkX6_step_0 29 rfl
theorem dX6_step_51 : decode cX6_step 51 = .ok (.iload_n 1, 1) := dget dkX6_step_0 30 rfl
theorem dX6_step_52 : decode cX6_step 52 = .ok (.invokevirtual 137, 3) := dget dkX6_step_0 31 rfl
theorem dX6_step_55 : decode cX6_step 55 = .ok (.ireturn, 1) := dget dkX6_step_0 32 rfl
theorem ggX6_unstep_X6_isNoOrder : GoodIn wsX6_unstep wsX6_isNoOrder := tgCall 715 e_X6_isNoOrder (by decide +kernel)
theorem gX6_unstep_X6_isNoOrder : GoodIn wsX6_unstep (va_wsS RX6 86 yX6_isNoOrder wsX6_isNoOrder) := goodIn_app (tgIn [713, 714, 684] (by decide +kernel) rfl) ggX6_unstep_X6_isNoOrder
theorem ggX6_unstep_X6_start : GoodIn wsX6_unstep wsX6_start := tgCall 692 e_X6_start (by decide +kernel)
theorem gX6_unstep_X6_start : GoodIn wsX6_unstep (wsV RX6 69 RX6 yX6_start wsX6_start) := goodIn_app (tgIn [689, 690, 691, 684] (by decide +kernel) rfl) ggX6_unstep_X6_start
theorem ggX6_unstep_X6_no : GoodIn wsX6_unstep wsX6_no := tgCall 704 e_X6_no (by decide +kernel)
theorem gX6_unstep_X6_no : GoodIn wsX6_unstep (wsV RX6 75 RX6 yX6_no wsX6_no) := goodIn_app (tgIn [701, 702, 703, 684] (by decide +kernel) rfl) ggX6_unstep_X6_no
theorem dkX6_unstep_0 : ([(0, (.aload_n 0, 1)), (1, (.iload_n 1, 1)), (2, (.invokestatic 86, 3)), (5, (.iconst 1, 1)), (6, (.invokevirtual 69, 3)), (9, (.ifCond .eq 5, 3)), (12, (.iconst 0, 1)), (13, (.ireturn, 1)), (14, (.aload_n 0, 1)), (15, (.getfield 29, 3)), (18, (.iload_n 1, 1)), (19, (.iaload, 1)), (20, (.ifCond .ne 8, 3)), (23, (.aload_n 0, 1)), (24, (.invokevirtual 75, 3)), (27, (.ireturn, 1)), (28, (.aload_n 0, 1)), (29, (.getfield 29, 3)), (32, (.iload_n 1, 1)), (33, (.dup2, 1)), (34, (.iaload, 1)), (35, (.iconst 1, 1)), (36, (.isub, 1)), (37, (.iastore, 1)), (38, (.aload_n 0, 1)), (39, (.getfield 21, 3)), (42, (.iload_n 1, 1)), (43, (.aaload, 1)), (44, (.aload_n 0, 1)), (45, (.getfield 29, 3)), (48, (.iload_n 1, 1)), (49, (.iaload, 1)), (50, (.iaload, 1)), (51, (.ireturn, 1))] : List (Nat × (Jvm.ClassFile.Instr × Nat))).all (dcB cX6_unstep) = true := by decide +kernel
theorem dX6_unstep_0 : decode cX6_unstep 0 = .ok (.aload_n 0, 1) := dget dkX6_unstep_0 0 rfl
theorem dX6_unstep_1 : decode cX6_unstep 1 = .ok (.iload_n 1, 1) := dget dkX6_unstep_0 1 rfl
theorem dX6_unstep_2 : decode cX6_unstep 2 = .ok (.invokestatic 86, 3) := dget dkX6_unstep_0 2 rfl
theorem dX6_unstep_5 : decode cX6_unstep 5 = .ok (.iconst 1, 1) := dget dkX6_unstep_0 3 rfl
theorem dX6_unstep_6 : decode cX6_unstep 6 = .ok (.invokevirtual 69, 3) := dget dkX6_unstep_0 4 rfl
theorem dX6_unstep_9 : decode cX6_unstep 9 = .ok (.ifCond .eq 5, 3) := dget dkX6_unstep_0 5 rfl
theorem dX6_unstep_12 : decode cX6_unstep 12 = .ok (.iconst 0, 1) := dget dkX6_unstep_0 6 rfl
theorem dX6_unstep_13 : decode cX6_unstep 13 = .ok (.ireturn, 1) := dget dkX6_unstep_0 7 rfl
theorem dX6_unstep_14 : decode cX6_unstep 14 = .ok (.aload_n 0, 1) := dget dkX6_unstep_0 8 rfl
theorem dX6_unstep_15 : decode cX6_unstep 15 = .ok (.getfield 29, 3) := dget dkX6_unstep_0 9 rfl
theorem dX6_unstep_18 : decode cX6_unstep 18 = .ok (.iload_n 1, 1) := dget dkX6_unstep_0 10 rfl
theorem dX6_unstep_19 : decode cX6_unstep 19 = .ok (.iaload, 1) := dget dkX6_unstep_0 11 rfl
theorem dX6_unstep_20 : decode cX6_unstep 20 = .ok (.ifCond .ne 8, 3) := dget dkX6_unstep_0 12 rfl
theorem dX6_unstep_23 : decode cX6_unstep 23 = .ok (.aload_n 0, 1) := dget dkX6_unstep_0 13 rfl
theorem dX6_unstep_24 : decode cX6_unstep 24 = .ok (.invokevirtual 75, 3) := dget dkX6_unstep_0 14 rfl
theorem dX6_unstep_27 : decode cX6_unstep 27 = .ok (.ireturn, 1) := dget dkX6_unstep_0 15 rfl
theorem dX6_unstep_28 : decode cX6_unstep 28 = .ok (.aload_n 0, 1) := dget dkX6_unstep_0 16 rfl
theorem dX6_unstep_29 : decode cX6_unstep 29 = .ok (.getfield 29, 3) := dget dkX6_unstep_0 17 rfl
theorem dX6_unstep_32 : decode cX6_unstep 32 = .ok (.iload_n 1, 1) := dget dkX6_unstep_0 18 rfl
theorem dX6_unstep_33 : decode cX6_unstep 33 = .ok (.dup2, 1) := dget dkX6_unstep_0 19 rfl
theorem dX6_unstep_34 : decode cX6_unstep 34 = .ok (.iaload, 1) := dget dkX6_unstep_0 20 rfl
theorem dX6_unstep_35 : decode cX6_unstep 35 = .ok (.iconst 1, 1) := dget dkX6_unstep_0 21 rfl
theorem dX6_unstep_36 : decode cX6_unstep 36 = .ok (.isub, 1) := dget dkX6_unstep_0 22 rfl
theorem dX6_unstep_37 : decode cX6_unstep 37 = .ok (.iastore, 1) := dget dkX6_unstep_0 23 rfl
theorem dX6_unstep_38 : decode cX6_unstep 38 = .ok (.aload_n 0, 1) := dget dkX6_unstep_0 24 rfl
theorem dX6_unstep_39 : decode cX6_unstep 39 = .ok (.getfield 21, 3) := dget dkX6_unstep_0 25 rfl
theorem dX6_unstep_42 : decode cX6_unstep 42 = .ok (.iload_n 1, 1) := dget dkX6_unstep_0 26 rfl
theorem dX6_unstep_43 : decode cX6_unstep 43 = .ok (.aaload, 1) := dget dkX6_unstep_0 27 rfl
theorem dX6_unstep_44 : decode cX6_unstep 44 = .ok (.aload_n 0, 1) := dget dkX6_unstep_0 28 rfl
theorem dX6_unstep_45 : decode cX6_unstep 45 = .ok (.getfield 29, 3) := dget dkX6_unstep_0 29 rfl
theorem dX6_unstep_48 : decode cX6_unstep 48 = .ok (.iload_n 1, 1) := dget dkX6_unstep_0 30 rfl
theorem dX6_unstep_49 : decode cX6_unstep 49 = .ok (.iaload, 1) := dget dkX6_unstep_0 31 rfl
theorem dX6_unstep_50 : decode cX6_unstep 50 = .ok (.iaload, 1) := dget dkX6_unstep_0 32 rfl
theorem dX6_unstep_51 : decode cX6_unstep 51 = .ok (.ireturn, 1) := dget dkX6_unstep_0 33 rfl
theorem ggX6_wipe_X6_isNoOrder : GoodIn wsX6_wipe wsX6_isNoOrder := tgCall 715 e_X6_isNoOrder (by decide +kernel)
theorem gX6_wipe_X6_isNoOrder : GoodIn wsX6_wipe (va_wsS RX6 86 yX6_isNoOrder wsX6_isNoOrder) := goodIn_app (tgIn [713, 714, 684] (by decide +kernel) rfl) ggX6_wipe_X6_isNoOrder
theorem ggX6_wipe_X6_start : GoodIn wsX6_wipe wsX6_start := tgCall 692 e_X6_start (by decide +kernel)
theorem gX6_wipe_X6_start : GoodIn wsX6_wipe (wsV RX6 69 RX6 yX6_start wsX6_start) := goodIn_app (tgIn [689, 690, 691, 684] (by decide +kernel) rfl) ggX6_wipe_X6_start
theorem dkX6_wipe_0 : ([(0, (.aload_n 0, 1)), (1, (.iload_n 1, 1)), (2, (.invokestatic 86, 3)), (5, (.iconst 1, 1)), (6, (.invokevirtual 69, 3)), (9, (.ifCond .eq 5, 3)), (12, (.iconst 0, 1)), (13, (.ireturn, 1)), (14, (.aload_n 0, 1)), (15, (.getfield 29, 3)), (18, (.iload_n 1, 1)), (19, (.iaload, 1)), (20, (.istore_n 2, 1)), (21, (.aload_n 0, 1)), (22, (.getfield 29, 3)), (25, (.iload_n 1, 1)), (26, (.iconst 0, 1)), (27, (.iastore, 1)), (28, (.iload_n 2, 1)), (29, (.ireturn, 1))] : List (Nat × (Jvm.ClassFile.Instr × Nat))).all (dcB cX6_wipe) = true := by decide +kernel
theorem dX6_wipe_0 : decode cX6_wipe 0 = .ok (.aload_n 0, 1) := dget dkX6_wipe_0 0 rfl
theorem dX6_wipe_1 : decode cX6_wipe 1 = .ok (.iload_n 1, 1) := dget dkX6_wipe_0 1 rfl
theorem dX6_wipe_2 : decode cX6_wipe 2 = .ok (.invokestatic 86, 3) := dget dkX6_wipe_0 2 rfl
theorem dX6_wipe_5 : decode cX6_wipe 5 = .ok (.iconst 1, 1) := dget dkX6_wipe_0 3 rfl
theorem dX6_wipe_6 : decode cX6_wipe 6 = .ok (.invokevirtual 69, 3) := dget dkX6_wipe_0 4 rfl
theorem dX6_wipe_9 : decode cX6_wipe 9 = .ok (.ifCond .eq 5, 3) := dget dkX6_wipe_0 5 rfl
theorem dX6_wipe_12 : decode cX6_wipe 12 = .ok (.iconst 0, 1) := dget dkX6_wipe_0 6 rfl
theorem dX6_wipe_13 : decode cX6_wipe 13 = .ok (.ireturn, 1) := dget dkX6_wipe_0 7 rfl
theorem dX6_wipe_14 : decode cX6_wipe 14 = .ok (.aload_n 0, 1) := dget dkX6_wipe_0 8 rfl
theorem dX6_wipe_15 : decode cX6_wipe 15 = .ok (.getfield 29, 3) := dget dkX6_wipe_0 9 rfl
theorem dX6_wipe_18 : decode cX6_wipe 18 = .ok (.iload_n 1, 1) := dget dkX6_wipe_0 10 rfl
theorem dX6_wipe_19 : decode cX6_wipe 19 = .ok (.iaload, 1) := dget dkX6_wipe_0 11 rfl
theorem dX6_wipe_20 : decode cX6_wipe 20 = .ok (.istore_n 2, 1) := dget dkX6_wipe_0 12 rfl
theorem dX6_wipe_21 : decode cX6_wipe 21 = .ok (.aload_n 0, 1) := dget dkX6_wipe_0 13 rfl
theorem dX6_wipe_22 : decode cX6_wipe 22 = .ok (.getfield 29, 3) := dget dkX6_wipe_0 14 rfl
theorem dX6_wipe_25 : decode cX6_wipe 25 = .ok (.iload_n 1, 1) := dget dkX6_wipe_0 15 rfl
theorem dX6_wipe_26 : decode cX6_wipe 26 = .ok (.iconst 0, 1) := dget dkX6_wipe_0 16 rfl
theorem dX6_wipe_27 : decode cX6_wipe 27 = .ok (.iastore, 1) := dget dkX6_wipe_0 17 rfl
theorem dX6_wipe_28 : decode cX6_wipe 28 = .ok (.iload_n 2, 1) := dget dkX6_wipe_0 18 rfl
theorem dX6_wipe_29 : decode cX6_wipe 29 = .ok (.ireturn, 1) := dget dkX6_wipe_0 19 rfl
theorem ggX6_copyOrder_X6_isNoOrder : GoodIn wsX6_copyOrder wsX6_isNoOrder := tgCall 715 e_X6_isNoOrder (by decide +kernel)
theorem gX6_copyOrder_X6_isNoOrder : GoodIn wsX6_copyOrder (va_wsS RX6 86 yX6_isNoOrder wsX6_isNoOrder) := goodIn_app (tgIn [713, 714, 684] (by decide +kernel) rfl) ggX6_copyOrder_X6_isNoOrder
theorem ggX6_copyOrder_X6_start : GoodIn wsX6_copyOrder wsX6_start := tgCall 692 e_X6_start (by decide +kernel)
theorem gX6_copyOrder_X6_start : GoodIn wsX6_copyOrder (wsV RX6 69 RX6 yX6_start wsX6_start) := goodIn_app (tgIn [689, 690, 691, 684] (by decide +kernel) rfl) ggX6_copyOrder_X6_start
theorem dkX6_copyOrder_0 : ([(0, (.aload_n 0, 1)), (1, (.iload_n 1, 1)), (2, (.invokestatic 86, 3)), (5, (.ifCond .ne 10, 3)), (8, (.iload_n 2, 1)), (9, (.invokestatic 86, 3)), (12, (.ifCond .eq 7, 3)), (15, (.iconst 1, 1)), (16, (.goto 4, 3)), (19, (.iconst 0, 1)), (20, (.iconst 1, 1)), (21, (.invokevirtual 69, 3)), (24, (.ifCond .eq 5, 3)), (27, (.iconst 0, 1)), (28, (.ireturn, 1)), (29, (.iconst 0, 1)), (30, (.istore_n 3, 1)), (31, (.iload_n 3, 1)), (32, (.aload_n 0, 1)), (33, (.getfield 29, 3)), (36, (.iload_n 1, 1)), (37, (.iaload, 1)), (38, (.if_icmp .ge 41, 3)), (41, (.aload_n 0, 1)), (42, (.getfield 21, 3)), (45, (.iload_n 2, 1)), (46, (.aaload, 1)), (47, (.iload_n 3, 1)), (48, (.aload_n 0, 1)), (49, (.getfield 21, 3)), (52, (.iload_n 1, 1)), (53, (.aaload, 1)), (54, (.iload_n 3, 1)), (55, (.iaload, 1)), (56, (.iastore, 1)), (57, (.aload_n 0, 1)), (58, (.getfield 26, 3)), (61, (.iload_n 2, 1)), (62, (.aaload, 1)), (63, (.iload_n 3, 1))] : List (Nat × (Jvm.ClassFile.Instr × Nat))).all (dcB cX6_copyOrder) = true := by decide +kernel
theorem dX6_copyOrder_0 : decode cX6_copyOrder 0 = .ok (.aload_n 0, 1) := dget dkX6_copyOrder_0 0 rfl
theorem dX6_copyOrder_1 : decode cX6_copyOrder 1 = .ok (.iload_n 1, 1) := dget dkX6_copyOrder_0 1 rfl
theorem dX6_copyOrder_2 : decode cX6_copyOrder 2 = .ok (.invokestatic 86, 3) := dget dkX6_copyOrder_0 2 rfl
theorem dX6_copyOrder_5 : decode cX6_copyOrder 5 = .ok (.ifCond .ne 10, 3) := dget dkX6_copyOrder_0 3 rfl
theorem dX6_copyOrder_8 : decode cX6_copyOrder 8 = .ok (.iload_n 2, 1) := dget dkX6_copyOrder_0 4 rfl
theorem dX6_copyOrder_9 : decode cX6_copyOrder 9 = .ok (.invokestatic 86, 3) := dget dkX6_copyOrder_0 5 rfl
theorem dX6_copyOrder_12 : decode cX6_copyOrder 12 = .ok (.ifCond .eq 7, 3) := dget dkX6_copyOrder_0 6 rfl
theorem dX6_copyOrder_15 : decode cX6_copyOrder 15 = .ok (.iconst 1, 1) := dget dkX6_copyOrder_0 7 rfl
theorem dX6_copyOrder_16 : decode cX6_copyOrder 16 = .ok (.goto 4, 3) := dget dkX6_copyOrder_0 8 rfl
theorem dX6_copyOrder_19 : decode cX6_copyOrder 19 = .ok (.iconst 0, 1) := dget dkX6_copyOrder_0 9 rfl
theorem dX6_copyOrder_20 : decode cX6_copyOrder 20 = .ok (.iconst 1, 1) := dget dkX6_copyOrder_0 10 rfl
theorem dX6_copyOrder_21 : decode cX6_copyOrder 21 = .ok (.invokevirtual 69, 3) := dget dkX6_copyOrder_0 11 rfl
theorem dX6_copyOrder_24 : decode cX6_copyOrder 24 = .ok (.ifCond .eq 5, 3) := dget dkX6_copyOrder_0 12 rfl
theorem dX6_copyOrder_27 : decode cX6_copyOrder 27 = .ok (.iconst 0, 1) := dget dkX6_copyOrder_0 13 rfl
theorem dX6_copyOrder_28 : decode cX6_copyOrder 28 = .ok (.ireturn, 1) := dget dkX6_copyOrder_0 14 rfl
theorem dX6_copyOrder_29 : decode cX6_copyOrder 29 = .ok (.iconst 0, 1) := dget dkX6_copyOrder_0 15 rfl
theorem dX6_copyOrder_30 : decode cX6_copyOrder 30 = .ok (.istore_n 3, 1) := dget dkX6_copyOrder_0 16 rfl
theorem dX6_copyOrder_31 : decode cX6_copyOrder 31 = .ok (.iload_n 3, 1) := dget dkX6_copyOrder_0 17 rfl
theorem dX6_copyOrder_32 : decode cX6_copyOrder 32 = .ok (.aload_n 0, 1) := dget dkX6_copyOrder_0 18 rfl
theorem dX6_copyOrder_33 : decode cX6_copyOrder 33 = .ok (.getfield 29, 3) := dget dkX6_copyOrder_0 19 rfl
theorem dX6_copyOrder_36 : decode cX6_copyOrder 36 = .ok (.iload_n 1, 1) := dget dkX6_copyOrder_0 20 rfl
theorem dX6_copyOrder_37 : decode cX6_copyOrder 37 = .ok (.iaload, 1) := dget dkX6_copyOrder_0 21 rfl
theorem dX6_copyOrder_38 : decode cX6_copyOrder 38 = .ok (.if_icmp .ge 41, 3) := dget dkX6_copyOrder_0 22 rfl
theorem dX6_copyOrder_41 : decode cX6_copyOrder 41 = .ok (.aload_n 0, 1) := dget dkX6_copyOrder_0 23 rfl
theorem dX6_copyOrder_42 : decode cX6_copyOrder 42 = .ok (.getfield 21, 3) := dget dkX6_copyOrder_0 24 rfl
theorem dX6_copyOrder_45 : decode cX6_copyOrder 45 = .ok (.iload_n 2, 1) := dget dkX6_copyOrder_0 25 rfl
theorem dX6_copyOrder_46 : decode cX6_copyOrder 46 = .ok (.aaload, 1) := dget dkX6_copyOrder_0 26 rfl
theorem dX6_copyOrder_47 : decode cX6_copyOrder 47 = .ok (.iload_n 3, 1) := dget dkX6_copyOrder_0 27 rfl
theorem dX6_copyOrder_48 : decode cX6_copyOrder 48 = .ok (.aload_n 0, 1) := dget dkX6_copyOrder_0 28 rfl
theorem dX6_copyOrder_49 : decode cX6_copyOrder 49 = .ok (.getfield 21, 3) := dget dkX6_copyOrder_0 29 rfl
theorem dX6_copyOrder_52 : decode cX6_copyOrder 52 = .ok (.iload_n 1, 1) := dget dkX6_copyOrder_0 30 rfl
theorem dX6_copyOrder_53 : decode cX6_copyOrder 53 = .ok (.aaload, 1) := dget dkX6_copyOrder_0 31 rfl
theorem dX6_copyOrder_54 : decode cX6_copyOrder 54 = .ok (.iload_n 3, 1) := dget dkX6_copyOrder_0 32 rfl
theorem dX6_copyOrder_55 : decode cX6_copyOrder 55 = .ok (.iaload, 1) := dget dkX6_copyOrder_0 33 rfl
theorem dX6_copyOrder_56 : decode cX6_copyOrder 56 = .ok (.iastore, 1) := dget dkX6_copyOrder_0 34 rfl
theorem dX6_copyOrder_57 : decode cX6_copyOrder 57 = .ok (.aload_n 0, 1) := dget dkX6_copyOrder_0 35 rfl
theorem dX6_copyOrder_58 : decode cX6_copyOrder 58 = .ok (.getfield 26, 3) := dget dkX6_copyOrder_0 36 rfl
theorem dX6_copyOrder_61 : decode cX6_copyOrder 61 = .ok (.iload_n 2, 1) := dget dkX6_copyOrder_0 37 rfl
theorem dX6_copyOrder_62 : decode cX6_copyOrder 62 = .ok (.aaload, 1) := dget dkX6_copyOrder_0 38 rfl
theorem dX6_copyOrder_63 : decode cX6_copyOrder 63 = .ok (.iload_n 3, 1) := dget dkX6_copyOrder_0 39 rfl
theorem dkX6_copyOrder_1 : ([(64, (.aload_n 0, 1)), (65, (.getfield 26, 3)), (68, (.iload_n 1, 1)), (69, (.aaload, 1)), (70, (.iload_n 3, 1)), (71, (.baload, 1)), (72, (.bastore, 1)), (73, (.iinc 3 1, 3)), (76, (.goto (-45), 3)), (79, (.aload_n 0, 1)), (80, (.getfield 29, 3)), (83, (.iload_n 2, 1)), (84, (.aload_n 0, 1)), (85, (.getfield 29, 3)), (88, (.iload_n 1, 1)), (89, (.iaload, 1)), (90, (.iastore, 1)), (91, (.aload_n 0, 1)), (92, (.getfield 29, 3)), (95, (.iload_n 2, 1)), (96, (.iaload, 1)), (97, (.ireturn, 1))] : List (Nat × (Jvm.ClassFile.Instr × Nat))).all (dcB cX6_copyOrder) = true := by decide +kernel
theorem dX6_copyOrder_64 : decode cX6_copyOrder 64 = .ok (.aload_n 0, 1) := dget dkX6_copyOrder_1 0 rfl
theorem dX6_copyOrder_65 : decode cX6_copyOrder 65 = .ok (.getfield 26, 3) := dget dkX6_copyOrder_1 1 rfl
theorem dX6_copyOrder_68 : decode cX6_copyOrder 68 = .ok (.iload_n 1, 1) := dget dkX6_copyOrder_1 2 rfl
theorem dX6_copyOrder_69 : decode cX6_copyOrder 69 = .ok (.aaload, 1) := dget dkX6_copyOrder_1 3 rfl
theorem dX6_copyOrder_70 : decode cX6_copyOrder 70 = .ok (.iload_n 3, 1) := dget dkX6_copyOrder_1 4 rfl
theorem dX6_copyOrder_71 : decode cX6_copyOrder 71 = .ok (.baload, 1) := dget dkX6_copyOrder_1 5 rfl
theorem dX6_copyOrder_72 : decode cX6_copyOrder 72 = .ok (.bastore, 1) := dget dkX6_copyOrder_1 6 rfl
theorem dX6_copyOrder_73 : decode cX6_copyOrder 73 = .ok (.iinc 3 1, 3) := dget dkX6_copyOrder_1 7 rfl
theorem dX6_copyOrder_76 : decode cX6_copyOrder 76 = .ok (.goto (-45), 3) := dget dkX6_copyOrder_1 8 rfl
theorem dX6_copyOrder_79 : decode cX6_copyOrder 79 = .ok (.aload_n 0, 1) := dget dkX6_copyOrder_1 9 rfl
theorem dX6_copyOrder_80 : decode cX6_copyOrder 80 = .ok (.getfield 29, 3) := dget dkX6_copyOrder_1 10 rfl
theorem dX6_copyOrder_83 : decode cX6_copyOrder 83 = .ok (.iload_n 2, 1) := dget dkX6_copyOrder_1 11 rfl
theorem dX6_copyOrder_84 : decode cX6_copyOrder 84 = .ok (.aload_n 0, 1) := dget dkX6_copyOrder_1 12 rfl
theorem dX6_copyOrder_85 : decode cX6_copyOrder 85 = .ok (.getfield 29, 3) := dget dkX6_copyOrder_1 13 rfl
theorem dX6_copyOrder_88 : decode cX6_copyOrder 88 = .ok (.iload_n 1, 1) := dget dkX6_copyOrder_1 14 rfl
theorem dX6_copyOrder_89 : decode cX6_copyOrder 89 = .ok (.iaload, 1) := dget dkX6_copyOrder_1 15 rfl
theorem dX6_copyOrder_90 : decode cX6_copyOrder 90 = .ok (.iastore, 1) := dget dkX6_copyOrder_1 16 rfl
theorem dX6_copyOrder_91 : decode cX6_copyOrder 91 = .ok (.aload_n 0, 1) := dget dkX6_copyOrder_1 17 rfl
theorem dX6_copyOrder_92 : decode cX6_copyOrder 92 = .ok (.getfield 29, 3) := dget dkX6_copyOrder_1 18 rfl
theorem dX6_copyOrder_95 : decode cX6_copyOrder 95 = .ok (.iload_n 2, 1) := dget dkX6_copyOrder_1 19 rfl
theorem dX6_copyOrder_96 : decode cX6_copyOrder 96 = .ok (.iaload, 1) := dget dkX6_copyOrder_1 20 rfl
theorem dX6_copyOrder_97 : decode cX6_copyOrder 97 = .ok (.ireturn, 1) := dget dkX6_copyOrder_1 21 rfl
theorem ggX6_turn_X6_isNoOrder : GoodIn wsX6_turn wsX6_isNoOrder := tgCall 715 e_X6_isNoOrder (by decide +kernel)
theorem gX6_turn_X6_isNoOrder : GoodIn wsX6_turn (va_wsS RX6 86 yX6_isNoOrder wsX6_isNoOrder) := goodIn_app (tgIn [713, 714, 684] (by decide +kernel) rfl) ggX6_turn_X6_isNoOrder
theorem ggX6_turn_X6_start : GoodIn wsX6_turn wsX6_start := tgCall 692 e_X6_start (by decide +kernel)
theorem gX6_turn_X6_start : GoodIn wsX6_turn (wsV RX6 69 RX6 yX6_start wsX6_start) := goodIn_app (tgIn [689, 690, 691, 684] (by decide +kernel) rfl) ggX6_turn_X6_start
theorem dkX6_turn_0 : ([(0, (.aload_n 0, 1)), (1, (.iload_n 1, 1)), (2, (.invokestatic 86, 3)), (5, (.iconst 1, 1)), (6, (.invokevirtual 69, 3)), (9, (.ifCond .eq 5, 3)), (12, (.iconst 0, 1)), (13, (.ireturn, 1)), (14, (.iconst 0, 1)), (15, (.istore_n 2, 1)), (16, (.iconst 0, 1)), (17, (.istore_n 3, 1)), (18, (.iload_n 3, 1)), (19, (.aload_n 0, 1)), (20, (.getfield 29, 3)), (23, (.iload_n 1, 1)), (24, (.iaload, 1)), (25, (.if_icmp .ge 52, 3)), (28, (.aload_n 0, 1)), (29, (.getfield 26, 3)), (32, (.iload_n 1, 1)), (33, (.aaload, 1)), (34, (.iload_n 3, 1)), (35, (.aload_n 0, 1)), (36, (.getfield 26, 3)), (39, (.iload_n 1, 1)), (40, (.aaload, 1)), (41, (.iload_n 3, 1)), (42, (.baload, 1)), (43, (.ifCond .ne 7, 3)), (46, (.iconst 1, 1)), (47, (.goto 4, 3)), (50, (.iconst 0, 1)), (51, (.bastore, 1)), (52, (.iload_n 2, 1)), (53, (.aload_n 0, 1)), (54, (.getfield 26, 3)), (57, (.iload_n 1, 1)), (58, (.aaload, 1)), (59, (.iload_n 3, 1))] : List (Nat × (Jvm.ClassFile.Instr × Nat))).all (dcB cX6_turn) = true := by decide +kernel
theorem dX6_turn_0 : decode cX6_turn 0 = .ok (.aload_n 0, 1) := dget dkX6_turn_0 0 rfl
theorem dX6_turn_1 : decode cX6_turn 1 = .ok (.iload_n 1, 1) := dget dkX6_turn_0 1 rfl
theorem dX6_turn_2 : decode cX6_turn 2 = .ok (.invokestatic 86, 3) := dget dkX6_turn_0 2 rfl
theorem dX6_turn_5 : decode cX6_turn 5 = .ok (.iconst 1, 1) := dget dkX6_turn_0 3 rfl
theorem dX6_turn_6 : decode cX6_turn 6 = .ok (.invokevirtual 69, 3) := dget dkX6_turn_0 4 rfl
theorem dX6_turn_9 : decode cX6_turn 9 = .ok (.ifCond .eq 5, 3) := dget dkX6_turn_0 5 rfl
theorem dX6_turn_12 : decode cX6_turn 12 = .ok (.iconst 0, 1) := dget dkX6_turn_0 6 rfl
theorem dX6_turn_13 : decode cX6_turn 13 = .ok (.ireturn, 1) := dget dkX6_turn_0 7 rfl
theorem dX6_turn_14 : decode cX6_turn 14 = .ok (.iconst 0, 1) := dget dkX6_turn_0 8 rfl
theorem dX6_turn_15 : decode cX6_turn 15 = .ok (.istore_n 2, 1) := dget dkX6_turn_0 9 rfl
theorem dX6_turn_16 : decode cX6_turn 16 = .ok (.iconst 0, 1) := dget dkX6_turn_0 10 rfl
theorem dX6_turn_17 : decode cX6_turn 17 = .ok (.istore_n 3, 1) := dget dkX6_turn_0 11 rfl
theorem dX6_turn_18 : decode cX6_turn 18 = .ok (.iload_n 3, 1) := dget dkX6_turn_0 12 rfl
theorem dX6_turn_19 : decode cX6_turn 19 = .ok (.aload_n 0, 1) := dget dkX6_turn_0 13 rfl
theorem dX6_turn_20 : decode cX6_turn 20 = .ok (.getfield 29, 3) := dget dkX6_turn_0 14 rfl
theorem dX6_turn_23 : decode cX6_turn 23 = .ok (.iload_n 1, 1) := dget dkX6_turn_0 15 rfl
theorem dX6_turn_24 : decode cX6_turn 24 = .ok (.iaload, 1) := dget dkX6_turn_0 16 rfl
theorem dX6_turn_25 : decode cX6_turn 25 = .ok (.if_icmp .ge 52, 3) := dget dkX6_turn_0 17 rfl
theorem dX6_turn_28 : decode cX6_turn 28 = .ok (.aload_n 0, 1) := dget dkX6_turn_0 18 rfl
theorem dX6_turn_29 : decode cX6_turn 29 = .ok (.getfield 26, 3) := dget dkX6_turn_0 19 rfl
theorem dX6_turn_32 : decode cX6_turn 32 = .ok (.iload_n 1, 1) := dget dkX6_turn_0 20 rfl
theorem dX6_turn_33 : decode cX6_turn 33 = .ok (.aaload, 1) := dget dkX6_turn_0 21 rfl
theorem dX6_turn_34 : decode cX6_turn 34 = .ok (.iload_n 3, 1) := dget dkX6_turn_0 22 rfl
theorem dX6_turn_35 : decode cX6_turn 35 = .ok (.aload_n 0, 1) := dget dkX6_turn_0 23 rfl
theorem dX6_turn_36 : decode cX6_turn 36 = .ok (.getfield 26, 3) := dget dkX6_turn_0 24 rfl
theorem dX6_turn_39 : decode cX6_turn 39 = .ok (.iload_n 1, 1) := dget dkX6_turn_0 25 rfl
theorem dX6_turn_40 : decode cX6_turn 40 = .ok (.aaload, 1) := dget dkX6_turn_0 26 rfl
theorem dX6_turn_41 : decode cX6_turn 41 = .ok (.iload_n 3, 1) := dget dkX6_turn_0 27 rfl
theorem dX6_turn_42 : decode cX6_turn 42 = .ok (.baload, 1) := dget dkX6_turn_0 28 rfl
theorem dX6_turn_43 : decode cX6_turn 43 = .ok (.ifCond .ne 7, 3) := dget dkX6_turn_0 29 rfl
theorem dX6_turn_46 : decode cX6_turn 46 = .ok (.iconst 1, 1) := dget dkX6_turn_0 30 rfl
theorem dX6_turn_47 : decode cX6_turn 47 = .ok (.goto 4, 3) := dget dkX6_turn_0 31 rfl
theorem dX6_turn_50 : decode cX6_turn 50 = .ok (.iconst 0, 1) := dget dkX6_turn_0 32 rfl
theorem dX6_turn_51 : decode cX6_turn 51 = .ok (.bastore, 1) := dget dkX6_turn_0 33 rfl
theorem dX6_turn_52 : decode cX6_turn 52 = .ok (.iload_n 2, 1) := dget dkX6_turn_0 34 rfl
theorem dX6_turn_53 : decode cX6_turn 53 = .ok (.aload_n 0, 1) := dget dkX6_turn_0 35 rfl
theorem dX6_turn_54 : decode cX6_turn 54 = .ok (.getfield 26, 3) := dget dkX6_turn_0 36 rfl
theorem dX6_turn_57 : decode cX6_turn 57 = .ok (.iload_n 1, 1) := dget dkX6_turn_0 37 rfl
theorem dX6_turn_58 : decode cX6_turn 58 = .ok (.aaload, 1) := dget dkX6_turn_0 38 rfl
theorem dX6_turn_59 : decode cX6_turn 59 = .ok (.iload_n 3, 1) := dget dkX6_turn_0 39 rfl
theorem dkX6_turn_1 : ([(60, (.baload, 1)), (61, (.ifCond .eq 7, 3)), (64, (.iconst 1, 1)), (65, (.goto 4, 3)), (68, (.iconst 0, 1)), (69, (.iadd, 1)), (70, (.istore_n 2, 1)), (71, (.iinc 3 1, 3)), (74, (.goto (-56), 3)), (77, (.iload_n 2, 1)), (78, (.ireturn, 1))] : List (Nat × (Jvm.ClassFile.Instr × Nat))).all (dcB cX6_turn) = true := by decide +kernel
theorem dX6_turn_60 : decode cX6_turn 60 = .ok (.baload, 1) := dget dkX6_turn_1 0 rfl
theorem dX6_turn_61 : decode cX6_turn 61 = .ok (.ifCond .eq 7, 3) := dget dkX6_turn_1 1 rfl
theorem dX6_turn_64 : decode cX6_turn 64 = .ok (.iconst 1, 1) := dget dkX6_turn_1 2 rfl
theorem dX6_turn_65 : decode cX6_turn 65 = .ok (.goto 4, 3) := dget dkX6_turn_1 3 rfl
theorem dX6_turn_68 : decode cX6_turn 68 = .ok (.iconst 0, 1) := dget dkX6_turn_1 4 rfl
theorem dX6_turn_69 : decode cX6_turn 69 = .ok (.iadd, 1) := dget dkX6_turn_1 5 rfl
theorem dX6_turn_70 : decode cX6_turn 70 = .ok (.istore_n 2, 1) := dget dkX6_turn_1 6 rfl
theorem dX6_turn_71 : decode cX6_turn 71 = .ok (.iinc 3 1, 3) := dget dkX6_turn_1 7 rfl
theorem dX6_turn_74 : decode cX6_turn 74 = .ok (.goto (-56), 3) := dget dkX6_turn_1 8 rfl
theorem dX6_turn_77 : decode cX6_turn 77 = .ok (.iload_n 2, 1) := dget dkX6_turn_1 9 rfl
theorem dX6_turn_78 : decode cX6_turn 78 = .ok (.ireturn, 1) := dget dkX6_turn_1 10 rfl
theorem ggX6_product_X6_isNoOrder : GoodIn wsX6_product wsX6_isNoOrder := tgCall 715 e_X6_isNoOrder (by decide +kernel)
theorem gX6_product_X6_isNoOrder : GoodIn wsX6_product (va_wsS RX6 86 yX6_isNoOrder wsX6_isNoOrder) := goodIn_app (tgIn [713, 714, 684] (by decide +kernel) rfl) ggX6_product_X6_isNoOrder
theorem ggX6_product_X6_start : GoodIn wsX6_product wsX6_start := tgCall 692 e_X6_start (by decide +kernel)
theorem gX6_product_X6_start : GoodIn wsX6_product (wsV RX6 69 RX6 yX6_start wsX6_start) := goodIn_app (tgIn [689, 690, 691, 684] (by decide +kernel) rfl) ggX6_product_X6_start
theorem ggX6_product_X6_no : GoodIn wsX6_product wsX6_no := tgCall 704 e_X6_no (by decide +kernel)
theorem gX6_product_X6_no : GoodIn wsX6_product (wsV RX6 75 RX6 yX6_no wsX6_no) := goodIn_app (tgIn [701, 702, 703, 684] (by decide +kernel) rfl) ggX6_product_X6_no
theorem ggX6_product_X6_add : GoodIn wsX6_product wsX6_add := tgCall 806 e_X6_add (by decide +kernel)
theorem gX6_product_X6_add : GoodIn wsX6_product (wsV RX6 133 RX6 yX6_add wsX6_add) := goodIn_app (tgIn [803, 804, 805, 684] (by decide +kernel) rfl) ggX6_product_X6_add
theorem ggX6_product_X6_classesNow : GoodIn wsX6_product wsX6_classesNow := tgCall 810 e_X6_classesNow (by decide +kernel)
theorem gX6_product_X6_classesNow : GoodIn wsX6_product (wsV RX6 137 RX6 yX6_classesNow wsX6_classesNow) := goodIn_app (tgIn [807, 808, 809, 684] (by decide +kernel) rfl) ggX6_product_X6_classesNow
theorem dkX6_product_0 : ([(64, (.newarray .int, 2)), (70, (.newarray .boolean, 2))] : List (Nat × (Jvm.ClassFile.Instr × Nat))).all (dcB cX6_product) = true := by decide +kernel
theorem dX6_product_64 : decode cX6_product 64 = .ok (.newarray .int, 2) := dget dkX6_product_0 0 rfl
theorem dX6_product_70 : decode cX6_product 70 = .ok (.newarray .boolean, 2) := dget dkX6_product_0 1 rfl
def dvX6_product_1 : List UInt8 := [42, 27, 184, 0, 86, 154, 0, 17, 28, 184, 0, 86, 154, 0, 10, 29, 184, 0, 86, 153, 0, 7, 4, 167, 0, 4, 3, 4, 182, 0, 69, 153, 0, 5, 3, 172, 42, 180, 0, 29, 27, 46, 42, 180, 0, 29, 28, 46, 96, 54, 4, 21, 4, 8, 164, 0, 8, 42]
theorem dwX6_product_1 : (cX6_product.data.toList.drop 0).take dvX6_product_1.length = dvX6_product_1 := by decide +kernel
theorem dkX6_product_1 : ([(0, (.aload_n 0, 1)), (1, (.iload_n 1, 1)), (2, (.invokestatic 86, 3)), (5, (.ifCond .ne 17, 3)), (8, (.iload_n 2, 1)), (9, (.invokestatic 86, 3)), (12, (.ifCond .ne 10, 3)), (15, (.iload_n 3, 1)), (16, (.invokestatic 86, 3)), (19, (.ifCond .eq 7, 3)), (22, (.iconst 1, 1)), (23, (.goto 4, 3)), (26, (.iconst 0, 1)), (27, (.iconst 1, 1)), (28, (.invokevirtual 69, 3)), (31, (.ifCond .eq 5, 3)), (34, (.iconst 0, 1)), (35, (.ireturn, 1)), (36, (.aload_n 0, 1)), (37, (.getfield 29, 3)), (40, (.iload_n 1, 1)), (41, (.iaload, 1)), (42, (.aload_n 0, 1)), (43, (.getfield 29, 3)), (46, (.iload_n 2, 1)), (47, (.iaload, 1)), (48, (.iadd, 1)), (49, (.istore 4, 2)), (51, (.iload 4, 2)), (53, (.iconst 5, 1)), (54, (.if_icmp .le 8, 3)), (57, (.aload_n 0, 1))] : List (Nat × (Jvm.ClassFile.Instr × Nat))).all (wnL dvX6_product_1 0) = true := by decide +kernel
theorem dX6_product_0 : decode cX6_product 0 = .ok (.aload_n 0, 1) := wnGet dwX6_product_1 dkX6_product_1 0 rfl
theorem dX6_product_1 : decode cX6_product 1 = .ok (.iload_n 1, 1) := wnGet dwX6_product_1 dkX6_product_1 1 rfl
theorem dX6_product_2 : decode cX6_product 2 = .ok (.invokestatic 86, 3) := wnGet dwX6_product_1 dkX6_product_1 2 rfl
theorem dX6_product_5 : decode cX6_product 5 = .ok (.ifCond .ne 17, 3) := wnGet dwX6_product_1 dkX6_product_1 3 rfl
theorem dX6_product_8 : decode cX6_product 8 = .ok (.iload_n 2, 1) := wnGet dwX6_product_1 dkX6_product_1 4 rfl
theorem dX6_product_9 : decode cX6_product 9 = .ok (.invokestatic 86, 3) := wnGet dwX6_product_1 dkX6_product_1 5 rfl
theorem dX6_product_12 : decode cX6_product 12 = .ok (.ifCond .ne 10, 3) := wnGet dwX6_product_1 dkX6_product_1 6 rfl
theorem dX6_product_15 : decode cX6_product 15 = .ok (.iload_n 3, 1) := wnGet dwX6_product_1 dkX6_product_1 7 rfl
theorem dX6_product_16 : decode cX6_product 16 = .ok (.invokestatic 86, 3) := wnGet dwX6_product_1 dkX6_product_1 8 rfl
theorem dX6_product_19 : decode cX6_product 19 = .ok (.ifCond .eq 7, 3) := wnGet dwX6_product_1 dkX6_product_1 9 rfl
theorem dX6_product_22 : decode cX6_product 22 = .ok (.iconst 1, 1) := wnGet dwX6_product_1 dkX6_product_1 10 rfl
theorem dX6_product_23 : decode cX6_product 23 = .ok (.goto 4, 3) := wnGet dwX6_product_1 dkX6_product_1 11 rfl
theorem dX6_product_26 : decode cX6_product 26 = .ok (.iconst 0, 1) := wnGet dwX6_product_1 dkX6_product_1 12 rfl
theorem dX6_product_27 : decode cX6_product 27 = .ok (.iconst 1, 1) := wnGet dwX6_product_1 dkX6_product_1 13 rfl
theorem dX6_product_28 : decode cX6_product 28 = .ok (.invokevirtual 69, 3) := wnGet dwX6_product_1 dkX6_product_1 14 rfl
theorem dX6_product_31 : decode cX6_product 31 = .ok (.ifCond .eq 5, 3) := wnGet dwX6_product_1 dkX6_product_1 15 rfl
theorem dX6_product_34 : decode cX6_product 34 = .ok (.iconst 0, 1) := wnGet dwX6_product_1 dkX6_product_1 16 rfl
theorem dX6_product_35 : decode cX6_product 35 = .ok (.ireturn, 1) := wnGet dwX6_product_1 dkX6_product_1 17 rfl
theorem dX6_product_36 : decode cX6_product 36 = .ok (.aload_n 0, 1) := wnGet dwX6_product_1 dkX6_product_1 18 rfl
theorem dX6_product_37 : decode cX6_product 37 = .ok (.getfield 29, 3) := wnGet dwX6_product_1 dkX6_product_1 19 rfl
theorem dX6_product_40 : decode cX6_product 40 = .ok (.iload_n 1, 1) := wnGet dwX6_product_1 dkX6_product_1 20 rfl
theorem dX6_product_41 : decode cX6_product 41 = .ok (.iaload, 1) := wnGet dwX6_product_1 dkX6_product_1 21 rfl
theorem dX6_product_42 : decode cX6_product 42 = .ok (.aload_n 0, 1) := wnGet dwX6_product_1 dkX6_product_1 22 rfl
theorem dX6_product_43 : decode cX6_product 43 = .ok (.getfield 29, 3) := wnGet dwX6_product_1 dkX6_product_1 23 rfl
theorem dX6_product_46 : decode cX6_product 46 = .ok (.iload_n 2, 1) := wnGet dwX6_product_1 dkX6_product_1 24 rfl
theorem dX6_product_47 : decode cX6_product 47 = .ok (.iaload, 1) := wnGet dwX6_product_1 dkX6_product_1 25 rfl
theorem dX6_product_48 : decode cX6_product 48 = .ok (.iadd, 1) := wnGet dwX6_product_1 dkX6_product_1 26 rfl
theorem dX6_product_49 : decode cX6_product 49 = .ok (.istore 4, 2) := wnGet dwX6_product_1 dkX6_product_1 27 rfl
theorem dX6_product_51 : decode cX6_product 51 = .ok (.iload 4, 2) := wnGet dwX6_product_1 dkX6_product_1 28 rfl
theorem dX6_product_53 : decode cX6_product 53 = .ok (.iconst 5, 1) := wnGet dwX6_product_1 dkX6_product_1 29 rfl
theorem dX6_product_54 : decode cX6_product 54 = .ok (.if_icmp .le 8, 3) := wnGet dwX6_product_1 dkX6_product_1 30 rfl
theorem dX6_product_57 : decode cX6_product 57 = .ok (.aload_n 0, 1) := wnGet dwX6_product_1 dkX6_product_1 31 rfl
def dvX6_product_2 : List UInt8 := [182, 0, 75, 172, 21, 4, 188, 10, 58, 5, 21, 4, 188, 4, 58, 6, 3, 54, 7, 21, 7, 21, 4, 162, 0, 103, 21, 7, 42, 180, 0, 29, 27, 46, 162, 0, 7, 4, 167, 0, 4, 3, 54, 8, 25, 5, 21, 7, 21, 8, 153, 0, 15, 42, 180, 0, 21, 27, 50, 21, 7, 46, 167, 0, 19]
theorem dwX6_product_2 : (cX6_product.data.toList.drop 58).take dvX6_product_2.length = dvX6_product_2 := by decide +kernel
theorem dkX6_product_2 : ([(58, (.invokevirtual 75, 3)), (61, (.ireturn, 1)), (62, (.iload 4, 2)), (66, (.astore 5, 2)), (68, (.iload 4, 2)), (72, (.astore 6, 2)), (74, (.iconst 0, 1)), (75, (.istore 7, 2)), (77, (.iload 7, 2)), (79, (.iload 4, 2)), (81, (.if_icmp .ge 103, 3)), (84, (.iload 7, 2)), (86, (.aload_n 0, 1)), (87, (.getfield 29, 3)), (90, (.iload_n 1, 1)), (91, (.iaload, 1)), (92, (.if_icmp .ge 7, 3)), (95, (.iconst 1, 1)), (96, (.goto 4, 3)), (99, (.iconst 0, 1)), (100, (.istore 8, 2)), (102, (.aload 5, 2)), (104, (.iload 7, 2)), (106, (.iload 8, 2)), (108, (.ifCond .eq 15, 3)), (111, (.aload_n 0, 1)), (112, (.getfield 21, 3)), (115, (.iload_n 1, 1)), (116, (.aaload, 1)), (117, (.iload 7, 2)), (119, (.iaload, 1)), (120, (.goto 19, 3))] : List (Nat × (Jvm.ClassFile.Instr × Nat))).all (wnL dvX6_product_2 58) = true := by decide +kernel
theorem dX6_product_58 : decode cX6_product 58 = .ok (.invokevirtual 75, 3) := wnGet dwX6_product_2 dkX6_product_2 0 rfl
theorem dX6_product_61 : decode cX6_product 61 = .ok (.ireturn, 1) := wnGet dwX6_product_2 dkX6_product_2 1 rfl
theorem dX6_product_62 : decode cX6_product 62 = .ok (.iload 4, 2) := wnGet dwX6_product_2 dkX6_product_2 2 rfl
theorem dX6_product_66 : decode cX6_product 66 = .ok (.astore 5, 2) := wnGet dwX6_product_2 dkX6_product_2 3 rfl
theorem dX6_product_68 : decode cX6_product 68 = .ok (.iload 4, 2) := wnGet dwX6_product_2 dkX6_product_2 4 rfl
theorem dX6_product_72 : decode cX6_product 72 = .ok (.astore 6, 2) := wnGet dwX6_product_2 dkX6_product_2 5 rfl
theorem dX6_product_74 : decode cX6_product 74 = .ok (.iconst 0, 1) := wnGet dwX6_product_2 dkX6_product_2 6 rfl
theorem dX6_product_75 : decode cX6_product 75 = .ok (.istore 7, 2) := wnGet dwX6_product_2 dkX6_product_2 7 rfl
theorem dX6_product_77 : decode cX6_product 77 = .ok (.iload 7, 2) := wnGet dwX6_product_2 dkX6_product_2 8 rfl
theorem dX6_product_79 : decode cX6_product 79 = .ok (.iload 4, 2) := wnGet dwX6_product_2 dkX6_product_2 9 rfl
theorem dX6_product_81 : decode cX6_product 81 = .ok (.if_icmp .ge 103, 3) := wnGet dwX6_product_2 dkX6_product_2 10 rfl
theorem dX6_product_84 : decode cX6_product 84 = .ok (.iload 7, 2) := wnGet dwX6_product_2 dkX6_product_2 11 rfl
theorem dX6_product_86 : decode cX6_product 86 = .ok (.aload_n 0, 1) := wnGet dwX6_product_2 dkX6_product_2 12 rfl
theorem dX6_product_87 : decode cX6_product 87 = .ok (.getfield 29, 3) := wnGet dwX6_product_2 dkX6_product_2 13 rfl
theorem dX6_product_90 : decode cX6_product 90 = .ok (.iload_n 1, 1) := wnGet dwX6_product_2 dkX6_product_2 14 rfl
theorem dX6_product_91 : decode cX6_product 91 = .ok (.iaload, 1) := wnGet dwX6_product_2 dkX6_product_2 15 rfl
theorem dX6_product_92 : decode cX6_product 92 = .ok (.if_icmp .ge 7, 3) := wnGet dwX6_product_2 dkX6_product_2 16 rfl
theorem dX6_product_95 : decode cX6_product 95 = .ok (.iconst 1, 1) := wnGet dwX6_product_2 dkX6_product_2 17 rfl
theorem dX6_product_96 : decode cX6_product 96 = .ok (.goto 4, 3) := wnGet dwX6_product_2 dkX6_product_2 18 rfl
theorem dX6_product_99 : decode cX6_product 99 = .ok (.iconst 0, 1) := wnGet dwX6_product_2 dkX6_product_2 19 rfl
theorem dX6_product_100 : decode cX6_product 100 = .ok (.istore 8, 2) := wnGet dwX6_product_2 dkX6_product_2 20 rfl
theorem dX6_product_102 : decode cX6_product 102 = .ok (.aload 5, 2) := wnGet dwX6_product_2 dkX6_product_2 21 rfl
theorem dX6_product_104 : decode cX6_product 104 = .ok (.iload 7, 2) := wnGet dwX6_product_2 dkX6_product_2 22 rfl
theorem dX6_product_106 : decode cX6_product 106 = .ok (.iload 8, 2) := wnGet dwX6_product_2 dkX6_product_2 23 rfl
theorem dX6_product_108 : decode cX6_product 108 = .ok (.ifCond .eq 15, 3) := wnGet dwX6_product_2 dkX6_product_2 24 rfl
theorem dX6_product_111 : decode cX6_product 111 = .ok (.aload_n 0, 1) := wnGet dwX6_product_2 dkX6_product_2 25 rfl
theorem dX6_product_112 : decode cX6_product 112 = .ok (.getfield 21, 3) := wnGet dwX6_product_2 dkX6_product_2 26 rfl
theorem dX6_product_115 : decode cX6_product 115 = .ok (.iload_n 1, 1) := wnGet dwX6_product_2 dkX6_product_2 27 rfl
theorem dX6_product_116 : decode cX6_product 116 = .ok (.aaload, 1) := wnGet dwX6_product_2 dkX6_product_2 28 rfl
theorem dX6_product_117 : decode cX6_product 117 = .ok (.iload 7, 2) := wnGet dwX6_product_2 dkX6_product_2 29 rfl
theorem dX6_product_119 : decode cX6_product 119 = .ok (.iaload, 1) := wnGet dwX6_product_2 dkX6_product_2 30 rfl
theorem dX6_product_120 : decode cX6_product 120 = .ok (.goto 19, 3) := wnGet dwX6_product_2 dkX6_product_2 31 rfl
def dvX6_product_3 : List UInt8 := [42, 180, 0, 21, 28, 50, 21, 7, 42, 180, 0, 29, 27, 46, 100, 46, 79, 25, 6, 21, 7, 21, 8, 153, 0, 15, 42, 180, 0, 26, 27, 50, 21, 7, 51, 167, 0, 19, 42, 180, 0, 26, 28, 50, 21, 7, 42, 180, 0, 29, 27, 46]
theorem dwX6_product_3 : (cX6_product.data.toList.drop 123).take dvX6_product_3.length = dvX6_product_3 := by decide +kernel
theorem dkX6_product_3 : ([(123, (.aload_n 0, 1)), (124, (.getfield 21, 3)), (127, (.iload_n 2, 1)), (128, (.aaload, 1)), (129, (.iload 7, 2)), (131, (.aload_n 0, 1)), (132, (.getfield 29, 3)), (135, (.iload_n 1, 1)), (136, (.iaload, 1)), (137, (.isub, 1)), (138, (.iaload, 1)), (139, (.iastore, 1)), (140, (.aload 6, 2)), (142, (.iload 7, 2)), (144, (.iload 8, 2)), (146, (.ifCond .eq 15, 3)), (149, (.aload_n 0, 1)), (150, (.getfield 26, 3)), (153, (.iload_n 1, 1)), (154, (.aaload, 1)), (155, (.iload 7, 2)), (157, (.baload, 1)), (158, (.goto 19, 3)), (161, (.aload_n 0, 1)), (162, (.getfield 26, 3)), (165, (.iload_n 2, 1)), (166, (.aaload, 1)), (167, (.iload 7, 2)), (169, (.aload_n 0, 1)), (170, (.getfield 29, 3)), (173, (.iload_n 1, 1)), (174, (.iaload, 1))] : List (Nat × (Jvm.ClassFile.Instr × Nat))).all (wnL dvX6_product_3 123) = true := by decide +kernel
theorem dX6_product_123 : decode cX6_product 123 = .ok (.aload_n 0, 1) := wnGet dwX6_product_3 dkX6_product_3 0 rfl
theorem dX6_product_124 : decode cX6_product 124 = .ok (.getfield 21, 3) := wnGet dwX6_product_3 dkX6_product_3 1 rfl
theorem dX6_product_127 : decode cX6_product 127 = .ok (.iload_n 2, 1) := wnGet dwX6_product_3 dkX6_product_3 2 rfl
theorem dX6_product_128 : decode cX6_product 128 = .ok (.aaload, 1) := wnGet dwX6_product_3 dkX6_product_3 3 rfl
theorem dX6_product_129 : decode cX6_product 129 = .ok (.iload 7, 2) := wnGet dwX6_product_3 dkX6_product_3 4 rfl
theorem dX6_product_131 : decode cX6_product 131 = .ok (.aload_n 0, 1) := wnGet dwX6_product_3 dkX6_product_3 5 rfl
theorem dX6_product_132 : decode cX6_product 132 = .ok (.getfield 29, 3) := wnGet dwX6_product_3 dkX6_product_3 6 rfl
theorem dX6_product_135 : decode cX6_product 135 = .ok (.iload_n 1, 1) := wnGet dwX6_product_3 dkX6_product_3 7 rfl
theorem dX6_product_136 : decode cX6_product 136 = .ok (.iaload, 1) := wnGet dwX6_product_3 dkX6_product_3 8 rfl
theorem dX6_product_137 : decode cX6_product 137 = .ok (.isub, 1) := wnGet dwX6_product_3 dkX6_product_3 9 rfl
theorem dX6_product_138 : decode cX6_product 138 = .ok (.iaload, 1) := wnGet dwX6_product_3 dkX6_product_3 10 rfl
theorem dX6_product_139 : decode cX6_product 139 = .ok (.iastore, 1) := wnGet dwX6_product_3 dkX6_product_3 11 rfl
theorem dX6_product_140 : decode cX6_product 140 = .ok (.aload 6, 2) := wnGet dwX6_product_3 dkX6_product_3 12 rfl
theorem dX6_product_142 : decode cX6_product 142 = .ok (.iload 7, 2) := wnGet dwX6_product_3 dkX6_product_3 13 rfl
theorem dX6_product_144 : decode cX6_product 144 = .ok (.iload 8, 2) := wnGet dwX6_product_3 dkX6_product_3 14 rfl
theorem dX6_product_146 : decode cX6_product 146 = .ok (.ifCond .eq 15, 3) := wnGet dwX6_product_3 dkX6_product_3 15 rfl
theorem dX6_product_149 : decode cX6_product 149 = .ok (.aload_n 0, 1) := wnGet dwX6_product_3 dkX6_product_3 16 rfl
theorem dX6_product_150 : decode cX6_product 150 = .ok (.getfield 26, 3) := wnGet dwX6_product_3 dkX6_product_3 17 rfl
theorem dX6_product_153 : decode cX6_product 153 = .ok (.iload_n 1, 1) := wnGet dwX6_product_3 dkX6_product_3 18 rfl
theorem dX6_product_154 : decode cX6_product 154 = .ok (.aaload, 1) := wnGet dwX6_product_3 dkX6_product_3 19 rfl
theorem dX6_product_155 : decode cX6_product 155 = .ok (.iload 7, 2) := wnGet dwX6_product_3 dkX6_product_3 20 rfl
theorem dX6_product_157 : decode cX6_product 157 = .ok (.baload, 1) := wnGet dwX6_product_3 dkX6_product_3 21 rfl
theorem dX6_product_158 : decode cX6_product 158 = .ok (.goto 19, 3) := wnGet dwX6_product_3 dkX6_product_3 22 rfl
theorem dX6_product_161 : decode cX6_product 161 = .ok (.aload_n 0, 1) := wnGet dwX6_product_3 dkX6_product_3 23 rfl
theorem dX6_product_162 : decode cX6_product 162 = .ok (.getfield 26, 3) := wnGet dwX6_product_3 dkX6_product_3 24 rfl
theorem dX6_product_165 : decode cX6_product 165 = .ok (.iload_n 2, 1) := wnGet dwX6_product_3 dkX6_product_3 25 rfl
theorem dX6_product_166 : decode cX6_product 166 = .ok (.aaload, 1) := wnGet dwX6_product_3 dkX6_product_3 26 rfl
theorem dX6_product_167 : decode cX6_product 167 = .ok (.iload 7, 2) := wnGet dwX6_product_3 dkX6_product_3 27 rfl
theorem dX6_product_169 : decode cX6_product 169 = .ok (.aload_n 0, 1) := wnGet dwX6_product_3 dkX6_product_3 28 rfl
theorem dX6_product_170 : decode cX6_product 170 = .ok (.getfield 29, 3) := wnGet dwX6_product_3 dkX6_product_3 29 rfl
theorem dX6_product_173 : decode cX6_product 173 = .ok (.iload_n 1, 1) := wnGet dwX6_product_3 dkX6_product_3 30 rfl
theorem dX6_product_174 : decode cX6_product 174 = .ok (.iaload, 1) := wnGet dwX6_product_3 dkX6_product_3 31 rfl
def dvX6_product_4 : List UInt8 := [100, 51, 84, 132, 7, 1, 167, 255, 152, 42, 180, 0, 29, 29, 3, 79, 3, 54, 7, 21, 7, 21, 4, 162, 0, 24, 42, 29, 25, 5, 21, 7, 46, 25, 6, 21, 7, 51, 182, 0, 133, 132, 7, 1, 167, 255, 231, 42, 29, 182, 0, 137, 172]
theorem dwX6_product_4 : (cX6_product.data.toList.drop 175).take dvX6_product_4.length = dvX6_product_4 := by decide +kernel
theorem dkX6_product_4 : ([(175, (.isub, 1)), (176, (.baload, 1)), (177, (.bastore, 1)), (178, (.iinc 7 1, 3)), (181, (.goto (-104), 3)), (184, (.aload_n 0, 1)), (185, (.getfield 29, 3)), (188, (.iload_n 3, 1)), (189, (.iconst 0, 1)), (190, (.iastore, 1)), (191, (.iconst 0, 1)), (192, (.istore 7, 2)), (194, (.iload 7, 2)), (196, (.iload 4, 2)), (198, (.if_icmp .ge 24, 3)), (201, (.aload_n 0, 1)), (202, (.iload_n 3, 1)), (203, (.aload 5, 2)), (205, (.iload 7, 2)), (207, (.iaload, 1)), (208, (.aload 6, 2)), (210, (.iload 7, 2)), (212, (.baload, 1)), (213, (.invokevirtual 133, 3)), (216, (.iinc 7 1, 3)), (219, (.goto (-25), 3)), (222, (.aload_n 0, 1)), (223, (.iload_n 3, 1)), (224, (.invokevirtual 137, 3)), (227, (.ireturn, 1))] : List (Nat × (Jvm.ClassFile.Instr × Nat))).all (wnL dvX6_product_4 175) = true := by decide +kernel
theorem dX6_product_175 : decode cX6_product 175 = .ok (.isub, 1) := wnGet dwX6_product_4 dkX6_product_4 0 rfl
theorem dX6_product_176 : decode cX6_product 176 = .ok (.baload, 1) := wnGet dwX6_product_4 dkX6_product_4 1 rfl
theorem dX6_product_177 : decode cX6_product 177 = .ok (.bastore, 1) := wnGet dwX6_product_4 dkX6_product_4 2 rfl
theorem dX6_product_178 : decode cX6_product 178 = .ok (.iinc 7 1, 3) := wnGet dwX6_product_4 dkX6_product_4 3 rfl
theorem dX6_product_181 : decode cX6_product 181 = .ok (.goto (-104), 3) := wnGet dwX6_product_4 dkX6_product_4 4 rfl
theorem dX6_product_184 : decode cX6_product 184 = .ok (.aload_n 0, 1) := wnGet dwX6_product_4 dkX6_product_4 5 rfl
theorem dX6_product_185 : decode cX6_product 185 = .ok (.getfield 29, 3) := wnGet dwX6_product_4 dkX6_product_4 6 rfl
theorem dX6_product_188 : decode cX6_product 188 = .ok (.iload_n 3, 1) := wnGet dwX6_product_4 dkX6_product_4 7 rfl
theorem dX6_product_189 : decode cX6_product 189 = .ok (.iconst 0, 1) := wnGet dwX6_product_4 dkX6_product_4 8 rfl
theorem dX6_product_190 : decode cX6_product 190 = .ok (.iastore, 1) := wnGet dwX6_product_4 dkX6_product_4 9 rfl
theorem dX6_product_191 : decode cX6_product 191 = .ok (.iconst 0, 1) := wnGet dwX6_product_4 dkX6_product_4 10 rfl
theorem dX6_product_192 : decode cX6_product 192 = .ok (.istore 7, 2) := wnGet dwX6_product_4 dkX6_product_4 11 rfl
theorem dX6_product_194 : decode cX6_product 194 = .ok (.iload 7, 2) := wnGet dwX6_product_4 dkX6_product_4 12 rfl
theorem dX6_product_196 : decode cX6_product 196 = .ok (.iload 4, 2) := wnGet dwX6_product_4 dkX6_product_4 13 rfl
theorem dX6_product_198 : decode cX6_product 198 = .ok (.if_icmp .ge 24, 3) := wnGet dwX6_product_4 dkX6_product_4 14 rfl
theorem dX6_product_201 : decode cX6_product 201 = .ok (.aload_n 0, 1) := wnGet dwX6_product_4 dkX6_product_4 15 rfl
theorem dX6_product_202 : decode cX6_product 202 = .ok (.iload_n 3, 1) := wnGet dwX6_product_4 dkX6_product_4 16 rfl
theorem dX6_product_203 : decode cX6_product 203 = .ok (.aload 5, 2) := wnGet dwX6_product_4 dkX6_product_4 17 rfl
theorem dX6_product_205 : decode cX6_product 205 = .ok (.iload 7, 2) := wnGet dwX6_product_4 dkX6_product_4 18 rfl
theorem dX6_product_207 : decode cX6_product 207 = .ok (.iaload, 1) := wnGet dwX6_product_4 dkX6_product_4 19 rfl
theorem dX6_product_208 : decode cX6_product 208 = .ok (.aload 6, 2) := wnGet dwX6_product_4 dkX6_product_4 20 rfl
theorem dX6_product_210 : decode cX6_product 210 = .ok (.iload 7, 2) := wnGet dwX6_product_4 dkX6_product_4 21 rfl
theorem dX6_product_212 : decode cX6_product 212 = .ok (.baload, 1) := wnGet dwX6_product_4 dkX6_product_4 22 rfl
theorem dX6_product_213 : decode cX6_product 213 = .ok (.invokevirtual 133, 3) := wnGet dwX6_product_4 dkX6_product_4 23 rfl
theorem dX6_product_216 : decode cX6_product 216 = .ok (.iinc 7 1, 3) := wnGet dwX6_product_4 dkX6_product_4 24 rfl
theorem dX6_product_219 : decode cX6_product 219 = .ok (.goto (-25), 3) := wnGet dwX6_product_4 dkX6_product_4 25 rfl
theorem dX6_product_222 : decode cX6_product 222 = .ok (.aload_n 0, 1) := wnGet dwX6_product_4 dkX6_product_4 26 rfl
theorem dX6_product_223 : decode cX6_product 223 = .ok (.iload_n 3, 1) := wnGet dwX6_product_4 dkX6_product_4 27 rfl
theorem dX6_product_224 : decode cX6_product 224 = .ok (.invokevirtual 137, 3) := wnGet dwX6_product_4 dkX6_product_4 28 rfl
theorem dX6_product_227 : decode cX6_product 227 = .ok (.ireturn, 1) := wnGet dwX6_product_4 dkX6_product_4 29 rfl
theorem ggX6_tellApart_X6_isNoOrder : GoodIn wsX6_tellApart wsX6_isNoOrder := tgCall 715 e_X6_isNoOrder (by decide +kernel)
theorem gX6_tellApart_X6_isNoOrder : GoodIn wsX6_tellApart (va_wsS RX6 86 yX6_isNoOrder wsX6_isNoOrder) := goodIn_app (tgIn [713, 714, 684] (by decide +kernel) rfl) ggX6_tellApart_X6_isNoOrder
theorem ggX6_tellApart_X6_start : GoodIn wsX6_tellApart wsX6_start := tgCall 692 e_X6_start (by decide +kernel)
theorem gX6_tellApart_X6_start : GoodIn wsX6_tellApart (wsV RX6 69 RX6 yX6_start wsX6_start) := goodIn_app (tgIn [689, 690, 691, 684] (by decide +kernel) rfl) ggX6_tellApart_X6_start
theorem ggX6_tellApart_X6_isNoValue : GoodIn wsX6_tellApart wsX6_isNoValue := tgCall 700 e_X6_isNoValue (by decide +kernel)
theorem gX6_tellApart_X6_isNoValue : GoodIn wsX6_tellApart (va_wsS RX6 72 yX6_isNoValue wsX6_isNoValue) := goodIn_app (tgIn [698, 699, 684] (by decide +kernel) rfl) ggX6_tellApart_X6_isNoValue
theorem ggX6_tellApart_X6_refuse : GoodIn wsX6_tellApart wsX6_refuse := tgCall 697 e_X6_refuse (by decide +kernel)
theorem gX6_tellApart_X6_refuse : GoodIn wsX6_tellApart (wsV RX6 36 RX6 yX6_refuse wsX6_refuse) := goodIn_app (tgIn [694, 695, 696, 684] (by decide +kernel) rfl) ggX6_tellApart_X6_refuse
theorem ggX6_tellApart_X6_compareNow : GoodIn wsX6_tellApart wsX6_compareNow := tgCall 723 e_X6_compareNow (by decide +kernel)
theorem gX6_tellApart_X6_compareNow : GoodIn wsX6_tellApart (wsV RX6 51 RX6 yX6_compareNow wsX6_compareNow) := goodIn_app (tgIn [720, 721, 722, 684] (by decide +kernel) rfl) ggX6_tellApart_X6_compareNow
theorem ggX6_tellApart_X6_no : GoodIn wsX6_tellApart wsX6_no := tgCall 704 e_X6_no (by decide +kernel)
theorem gX6_tellApart_X6_no : GoodIn wsX6_tellApart (wsV RX6 75 RX6 yX6_no wsX6_no) := goodIn_app (tgIn [701, 702, 703, 684] (by decide +kernel) rfl) ggX6_tellApart_X6_no
theorem ggX6_tellApart_X6_keyNow : GoodIn wsX6_tellApart wsX6_keyNow := tgCall 729 e_X6_keyNow (by decide +kernel)
theorem gX6_tellApart_X6_keyNow : GoodIn wsX6_tellApart (va_wsS RX6 47 yX6_keyNow wsX6_keyNow) := goodIn_app (tgIn [727, 728, 684] (by decide +kernel) rfl) ggX6_tellApart_X6_keyNow
theorem ggX6_tellApart_X6_add : GoodIn wsX6_tellApart wsX6_add := tgCall 806 e_X6_add (by decide +kernel)
theorem gX6_tellApart_X6_add : GoodIn wsX6_tellApart (wsV RX6 133 RX6 yX6_add wsX6_add) := goodIn_app (tgIn [803, 804, 805, 684] (by decide +kernel) rfl) ggX6_tellApart_X6_add
theorem ggX6_tellApart_X6_classesNow : GoodIn wsX6_tellApart wsX6_classesNow := tgCall 810 e_X6_classesNow (by decide +kernel)
theorem gX6_tellApart_X6_classesNow : GoodIn wsX6_tellApart (wsV RX6 137 RX6 yX6_classesNow wsX6_classesNow) := goodIn_app (tgIn [807, 808, 809, 684] (by decide +kernel) rfl) ggX6_tellApart_X6_classesNow
def dvX6_tellApart_0 : List UInt8 := [42, 27, 184, 0, 86, 4, 182, 0, 69, 154, 0, 30, 42, 28, 184, 0, 72, 154, 0, 10, 29, 184, 0, 72, 153, 0, 7, 4, 167, 0, 4, 3, 5, 182, 0, 36, 153, 0, 5, 3, 172, 42, 27, 28, 29, 182, 0, 51, 154, 0, 18, 28, 29, 159, 0, 13, 42, 180, 0, 29]
theorem dwX6_tellApart_0 : (cX6_tellApart.data.toList.drop 0).take dvX6_tellApart_0.length = dvX6_tellApart_0 := by decide +kernel
theorem dkX6_tellApart_0 : ([(0, (.aload_n 0, 1)), (1, (.iload_n 1, 1)), (2, (.invokestatic 86, 3)), (5, (.iconst 1, 1)), (6, (.invokevirtual 69, 3)), (9, (.ifCond .ne 30, 3)), (12, (.aload_n 0, 1)), (13, (.iload_n 2, 1)), (14, (.invokestatic 72, 3)), (17, (.ifCond .ne 10, 3)), (20, (.iload_n 3, 1)), (21, (.invokestatic 72, 3)), (24, (.ifCond .eq 7, 3)), (27, (.iconst 1, 1)), (28, (.goto 4, 3)), (31, (.iconst 0, 1)), (32, (.iconst 2, 1)), (33, (.invokevirtual 36, 3)), (36, (.ifCond .eq 5, 3)), (39, (.iconst 0, 1)), (40, (.ireturn, 1)), (41, (.aload_n 0, 1)), (42, (.iload_n 1, 1)), (43, (.iload_n 2, 1)), (44, (.iload_n 3, 1)), (45, (.invokevirtual 51, 3)), (48, (.ifCond .ne 18, 3)), (51, (.iload_n 2, 1)), (52, (.iload_n 3, 1)), (53, (.if_icmp .eq 13, 3)), (56, (.aload_n 0, 1)), (57, (.getfield 29, 3))] : List (Nat × (Jvm.ClassFile.Instr × Nat))).all (wnL dvX6_tellApart_0 0) = true := by decide +kernel
theorem dX6_tellApart_0 : decode cX6_tellApart 0 = .ok (.aload_n 0, 1) := wnGet dwX6_tellApart_0 dkX6_tellApart_0 0 rfl
theorem dX6_tellApart_1 : decode cX6_tellApart 1 = .ok (.iload_n 1, 1) := wnGet dwX6_tellApart_0 dkX6_tellApart_0 1 rfl
theorem dX6_tellApart_2 : decode cX6_tellApart 2 = .ok (.invokestatic 86, 3) := wnGet dwX6_tellApart_0 dkX6_tellApart_0 2 rfl
theorem dX6_tellApart_5 : decode cX6_tellApart 5 = .ok (.iconst 1, 1) := wnGet dwX6_tellApart_0 dkX6_tellApart_0 3 rfl
theorem dX6_tellApart_6 : decode cX6_tellApart 6 = .ok (.invokevirtual 69, 3) := wnGet dwX6_tellApart_0 dkX6_tellApart_0 4 rfl
theorem dX6_tellApart_9 : decode cX6_tellApart 9 = .ok (.ifCond .ne 30, 3) := wnGet dwX6_tellApart_0 dkX6_tellApart_0 5 rfl
theorem dX6_tellApart_12 : decode cX6_tellApart 12 = .ok (.aload_n 0, 1) := wnGet dwX6_tellApart_0 dkX6_tellApart_0 6 rfl
theorem dX6_tellApart_13 : decode cX6_tellApart 13 = .ok (.iload_n 2, 1) := wnGet dwX6_tellApart_0 dkX6_tellApart_0 7 rfl
theorem dX6_tellApart_14 : decode cX6_tellApart 14 = .ok (.invokestatic 72, 3) := wnGet dwX6_tellApart_0 dkX6_tellApart_0 8 rfl
theorem dX6_tellApart_17 : decode cX6_tellApart 17 = .ok (.ifCond .ne 10, 3) := wnGet dwX6_tellApart_0 dkX6_tellApart_0 9 rfl
theorem dX6_tellApart_20 : decode cX6_tellApart 20 = .ok (.iload_n 3, 1) := wnGet dwX6_tellApart_0 dkX6_tellApart_0 10 rfl
theorem dX6_tellApart_21 : decode cX6_tellApart 21 = .ok (.invokestatic 72, 3) := wnGet dwX6_tellApart_0 dkX6_tellApart_0 11 rfl
theorem dX6_tellApart_24 : decode cX6_tellApart 24 = .ok (.ifCond .eq 7, 3) := wnGet dwX6_tellApart_0 dkX6_tellApart_0 12 rfl
theorem dX6_tellApart_27 : decode cX6_tellApart 27 = .ok (.iconst 1, 1) := wnGet dwX6_tellApart_0 dkX6_tellApart_0 13 rfl
theorem dX6_tellApart_28 : decode cX6_tellApart 28 = .ok (.goto 4, 3) := wnGet dwX6_tellApart_0 dkX6_tellApart_0 14 rfl
theorem dX6_tellApart_31 : decode cX6_tellApart 31 = .ok (.iconst 0, 1) := wnGet dwX6_tellApart_0 dkX6_tellApart_0 15 rfl
theorem dX6_tellApart_32 : decode cX6_tellApart 32 = .ok (.iconst 2, 1) := wnGet dwX6_tellApart_0 dkX6_tellApart_0 16 rfl
theorem dX6_tellApart_33 : decode cX6_tellApart 33 = .ok (.invokevirtual 36, 3) := wnGet dwX6_tellApart_0 dkX6_tellApart_0 17 rfl
theorem dX6_tellApart_36 : decode cX6_tellApart 36 = .ok (.ifCond .eq 5, 3) := wnGet dwX6_tellApart_0 dkX6_tellApart_0 18 rfl
theorem dX6_tellApart_39 : decode cX6_tellApart 39 = .ok (.iconst 0, 1) := wnGet dwX6_tellApart_0 dkX6_tellApart_0 19 rfl
theorem dX6_tellApart_40 : decode cX6_tellApart 40 = .ok (.ireturn, 1) := wnGet dwX6_tellApart_0 dkX6_tellApart_0 20 rfl
theorem dX6_tellApart_41 : decode cX6_tellApart 41 = .ok (.aload_n 0, 1) := wnGet dwX6_tellApart_0 dkX6_tellApart_0 21 rfl
theorem dX6_tellApart_42 : decode cX6_tellApart 42 = .ok (.iload_n 1, 1) := wnGet dwX6_tellApart_0 dkX6_tellApart_0 22 rfl
theorem dX6_tellApart_43 : decode cX6_tellApart 43 = .ok (.iload_n 2, 1) := wnGet dwX6_tellApart_0 dkX6_tellApart_0 23 rfl
theorem dX6_tellApart_44 : decode cX6_tellApart 44 = .ok (.iload_n 3, 1) := wnGet dwX6_tellApart_0 dkX6_tellApart_0 24 rfl
theorem dX6_tellApart_45 : decode cX6_tellApart 45 = .ok (.invokevirtual 51, 3) := wnGet dwX6_tellApart_0 dkX6_tellApart_0 25 rfl
theorem dX6_tellApart_48 : decode cX6_tellApart 48 = .ok (.ifCond .ne 18, 3) := wnGet dwX6_tellApart_0 dkX6_tellApart_0 26 rfl
theorem dX6_tellApart_51 : decode cX6_tellApart 51 = .ok (.iload_n 2, 1) := wnGet dwX6_tellApart_0 dkX6_tellApart_0 27 rfl
theorem dX6_tellApart_52 : decode cX6_tellApart 52 = .ok (.iload_n 3, 1) := wnGet dwX6_tellApart_0 dkX6_tellApart_0 28 rfl
theorem dX6_tellApart_53 : decode cX6_tellApart 53 = .ok (.if_icmp .eq 13, 3) := wnGet dwX6_tellApart_0 dkX6_tellApart_0 29 rfl
theorem dX6_tellApart_56 : decode cX6_tellApart 56 = .ok (.aload_n 0, 1) := wnGet dwX6_tellApart_0 dkX6_tellApart_0 30 rfl
theorem dX6_tellApart_57 : decode cX6_tellApart 57 = .ok (.getfield 29, 3) := wnGet dwX6_tellApart_0 dkX6_tellApart_0 31 rfl
def dvX6_tellApart_1 : List UInt8 := [27, 46, 8, 160, 0, 8, 42, 182, 0, 75, 172, 2, 54, 4, 16, 17, 54, 5, 3, 54, 6, 21, 6, 16, 8, 162, 0, 70, 21, 6, 28, 184, 0, 47, 21, 6, 29, 184, 0, 47, 160, 0, 6, 167, 0, 46, 42, 27, 21, 6, 3, 182, 0, 133, 42, 27, 182, 0, 137]
theorem dwX6_tellApart_1 : (cX6_tellApart.data.toList.drop 60).take dvX6_tellApart_1.length = dvX6_tellApart_1 := by decide +kernel
theorem dkX6_tellApart_1 : ([(60, (.iload_n 1, 1)), (61, (.iaload, 1)), (62, (.iconst 5, 1)), (63, (.if_icmp .ne 8, 3)), (66, (.aload_n 0, 1)), (67, (.invokevirtual 75, 3)), (70, (.ireturn, 1)), (71, (.iconst (-1), 1)), (72, (.istore 4, 2)), (74, (.bipush 17, 2)), (76, (.istore 5, 2)), (78, (.iconst 0, 1)), (79, (.istore 6, 2)), (81, (.iload 6, 2)), (83, (.bipush 8, 2)), (85, (.if_icmp .ge 70, 3)), (88, (.iload 6, 2)), (90, (.iload_n 2, 1)), (91, (.invokestatic 47, 3)), (94, (.iload 6, 2)), (96, (.iload_n 3, 1)), (97, (.invokestatic 47, 3)), (100, (.if_icmp .ne 6, 3)), (103, (.goto 46, 3)), (106, (.aload_n 0, 1)), (107, (.iload_n 1, 1)), (108, (.iload 6, 2)), (110, (.iconst 0, 1)), (111, (.invokevirtual 133, 3)), (114, (.aload_n 0, 1)), (115, (.iload_n 1, 1)), (116, (.invokevirtual 137, 3))] : List (Nat × (Jvm.ClassFile.Instr × Nat))).all (wnL dvX6_tellApart_1 60) = true := by decide +kernel
theorem dX6_tellApart_60 : decode cX6_tellApart 60 = .ok (.iload_n 1, 1) := wnGet dwX6_tellApart_1 dkX6_tellApart_1 0 rfl
theorem dX6_tellApart_61 : decode cX6_tellApart 61 = .ok (.iaload, 1) := wnGet dwX6_tellApart_1 dkX6_tellApart_1 1 rfl
theorem dX6_tellApart_62 : decode cX6_tellApart 62 = .ok (.iconst 5, 1) := wnGet dwX6_tellApart_1 dkX6_tellApart_1 2 rfl
theorem dX6_tellApart_63 : decode cX6_tellApart 63 = .ok (.if_icmp .ne 8, 3) := wnGet dwX6_tellApart_1 dkX6_tellApart_1 3 rfl
theorem dX6_tellApart_66 : decode cX6_tellApart 66 = .ok (.aload_n 0, 1) := wnGet dwX6_tellApart_1 dkX6_tellApart_1 4 rfl
theorem dX6_tellApart_67 : decode cX6_tellApart 67 = .ok (.invokevirtual 75, 3) := wnGet dwX6_tellApart_1 dkX6_tellApart_1 5 rfl
theorem dX6_tellApart_70 : decode cX6_tellApart 70 = .ok (.ireturn, 1) := wnGet dwX6_tellApart_1 dkX6_tellApart_1 6 rfl
theorem dX6_tellApart_71 : decode cX6_tellApart 71 = .ok (.iconst (-1), 1) := wnGet dwX6_tellApart_1 dkX6_tellApart_1 7 rfl
theorem dX6_tellApart_72 : decode cX6_tellApart 72 = .ok (.istore 4, 2) := wnGet dwX6_tellApart_1 dkX6_tellApart_1 8 rfl
theorem dX6_tellApart_74 : decode cX6_tellApart 74 = .ok (.bipush 17, 2) := wnGet dwX6_tellApart_1 dkX6_tellApart_1 9 rfl
theorem dX6_tellApart_76 : decode cX6_tellApart 76 = .ok (.istore 5, 2) := wnGet dwX6_tellApart_1 dkX6_tellApart_1 10 rfl
theorem dX6_tellApart_78 : decode cX6_tellApart 78 = .ok (.iconst 0, 1) := wnGet dwX6_tellApart_1 dkX6_tellApart_1 11 rfl
theorem dX6_tellApart_79 : decode cX6_tellApart 79 = .ok (.istore 6, 2) := wnGet dwX6_tellApart_1 dkX6_tellApart_1 12 rfl
theorem dX6_tellApart_81 : decode cX6_tellApart 81 = .ok (.iload 6, 2) := wnGet dwX6_tellApart_1 dkX6_tellApart_1 13 rfl
theorem dX6_tellApart_83 : decode cX6_tellApart 83 = .ok (.bipush 8, 2) := wnGet dwX6_tellApart_1 dkX6_tellApart_1 14 rfl
theorem dX6_tellApart_85 : decode cX6_tellApart 85 = .ok (.if_icmp .ge 70, 3) := wnGet dwX6_tellApart_1 dkX6_tellApart_1 15 rfl
theorem dX6_tellApart_88 : decode cX6_tellApart 88 = .ok (.iload 6, 2) := wnGet dwX6_tellApart_1 dkX6_tellApart_1 16 rfl
theorem dX6_tellApart_90 : decode cX6_tellApart 90 = .ok (.iload_n 2, 1) := wnGet dwX6_tellApart_1 dkX6_tellApart_1 17 rfl
theorem dX6_tellApart_91 : decode cX6_tellApart 91 = .ok (.invokestatic 47, 3) := wnGet dwX6_tellApart_1 dkX6_tellApart_1 18 rfl
theorem dX6_tellApart_94 : decode cX6_tellApart 94 = .ok (.iload 6, 2) := wnGet dwX6_tellApart_1 dkX6_tellApart_1 19 rfl
theorem dX6_tellApart_96 : decode cX6_tellApart 96 = .ok (.iload_n 3, 1) := wnGet dwX6_tellApart_1 dkX6_tellApart_1 20 rfl
theorem dX6_tellApart_97 : decode cX6_tellApart 97 = .ok (.invokestatic 47, 3) := wnGet dwX6_tellApart_1 dkX6_tellApart_1 21 rfl
theorem dX6_tellApart_100 : decode cX6_tellApart 100 = .ok (.if_icmp .ne 6, 3) := wnGet dwX6_tellApart_1 dkX6_tellApart_1 22 rfl
theorem dX6_tellApart_103 : decode cX6_tellApart 103 = .ok (.goto 46, 3) := wnGet dwX6_tellApart_1 dkX6_tellApart_1 23 rfl
theorem dX6_tellApart_106 : decode cX6_tellApart 106 = .ok (.aload_n 0, 1) := wnGet dwX6_tellApart_1 dkX6_tellApart_1 24 rfl
theorem dX6_tellApart_107 : decode cX6_tellApart 107 = .ok (.iload_n 1, 1) := wnGet dwX6_tellApart_1 dkX6_tellApart_1 25 rfl
theorem dX6_tellApart_108 : decode cX6_tellApart 108 = .ok (.iload 6, 2) := wnGet dwX6_tellApart_1 dkX6_tellApart_1 26 rfl
theorem dX6_tellApart_110 : decode cX6_tellApart 110 = .ok (.iconst 0, 1) := wnGet dwX6_tellApart_1 dkX6_tellApart_1 27 rfl
theorem dX6_tellApart_111 : decode cX6_tellApart 111 = .ok (.invokevirtual 133, 3) := wnGet dwX6_tellApart_1 dkX6_tellApart_1 28 rfl
theorem dX6_tellApart_114 : decode cX6_tellApart 114 = .ok (.aload_n 0, 1) := wnGet dwX6_tellApart_1 dkX6_tellApart_1 29 rfl
theorem dX6_tellApart_115 : decode cX6_tellApart 115 = .ok (.iload_n 1, 1) := wnGet dwX6_tellApart_1 dkX6_tellApart_1 30 rfl
theorem dX6_tellApart_116 : decode cX6_tellApart 116 = .ok (.invokevirtual 137, 3) := wnGet dwX6_tellApart_1 dkX6_tellApart_1 31 rfl
def dvX6_tellApart_2 : List UInt8 := [54, 7, 42, 180, 0, 29, 27, 92, 46, 4, 100, 79, 21, 7, 21, 5, 161, 0, 6, 167, 0, 11, 21, 7, 54, 5, 21, 6, 54, 4, 132, 6, 1, 167, 255, 185, 42, 27, 21, 4, 3, 182, 0, 133, 21, 4, 172]
theorem dwX6_tellApart_2 : (cX6_tellApart.data.toList.drop 119).take dvX6_tellApart_2.length = dvX6_tellApart_2 := by decide +kernel
theorem dkX6_tellApart_2 : ([(119, (.istore 7, 2)), (121, (.aload_n 0, 1)), (122, (.getfield 29, 3)), (125, (.iload_n 1, 1)), (126, (.dup2, 1)), (127, (.iaload, 1)), (128, (.iconst 1, 1)), (129, (.isub, 1)), (130, (.iastore, 1)), (131, (.iload 7, 2)), (133, (.iload 5, 2)), (135, (.if_icmp .lt 6, 3)), (138, (.goto 11, 3)), (141, (.iload 7, 2)), (143, (.istore 5, 2)), (145, (.iload 6, 2)), (147, (.istore 4, 2)), (149, (.iinc 6 1, 3)), (152, (.goto (-71), 3)), (155, (.aload_n 0, 1)), (156, (.iload_n 1, 1)), (157, (.iload 4, 2)), (159, (.iconst 0, 1)), (160, (.invokevirtual 133, 3)), (163, (.iload 4, 2)), (165, (.ireturn, 1))] : List (Nat × (Jvm.ClassFile.Instr × Nat))).all (wnL dvX6_tellApart_2 119) = true := by decide +kernel
theorem dX6_tellApart_119 : decode cX6_tellApart 119 = .ok (.istore 7, 2) := wnGet dwX6_tellApart_2 dkX6_tellApart_2 0 rfl
theorem dX6_tellApart_121 : decode cX6_tellApart 121 = .ok (.aload_n 0, 1) := wnGet dwX6_tellApart_2 dkX6_tellApart_2 1 rfl
theorem dX6_tellApart_122 : decode cX6_tellApart 122 = .ok (.getfield 29, 3) := wnGet dwX6_tellApart_2 dkX6_tellApart_2 2 rfl
theorem dX6_tellApart_125 : decode cX6_tellApart 125 = .ok (.iload_n 1, 1) := wnGet dwX6_tellApart_2 dkX6_tellApart_2 3 rfl
theorem dX6_tellApart_126 : decode cX6_tellApart 126 = .ok (.dup2, 1) := wnGet dwX6_tellApart_2 dkX6_tellApart_2 4 rfl
theorem dX6_tellApart_127 : decode cX6_tellApart 127 = .ok (.iaload, 1) := wnGet dwX6_tellApart_2 dkX6_tellApart_2 5 rfl
theorem dX6_tellApart_128 : decode cX6_tellApart 128 = .ok (.iconst 1, 1) := wnGet dwX6_tellApart_2 dkX6_tellApart_2 6 rfl
theorem dX6_tellApart_129 : decode cX6_tellApart 129 = .ok (.isub, 1) := wnGet dwX6_tellApart_2 dkX6_tellApart_2 7 rfl
theorem dX6_tellApart_130 : decode cX6_tellApart 130 = .ok (.iastore, 1) := wnGet dwX6_tellApart_2 dkX6_tellApart_2 8 rfl
theorem dX6_tellApart_131 : decode cX6_tellApart 131 = .ok (.iload 7, 2) := wnGet dwX6_tellApart_2 dkX6_tellApart_2 9 rfl
theorem dX6_tellApart_133 : decode cX6_tellApart 133 = .ok (.iload 5, 2) := wnGet dwX6_tellApart_2 dkX6_tellApart_2 10 rfl
theorem dX6_tellApart_135 : decode cX6_tellApart 135 = .ok (.if_icmp .lt 6, 3) := wnGet dwX6_tellApart_2 dkX6_tellApart_2 11 rfl
theorem dX6_tellApart_138 : decode cX6_tellApart 138 = .ok (.goto 11, 3) := wnGet dwX6_tellApart_2 dkX6_tellApart_2 12 rfl
theorem dX6_tellApart_141 : decode cX6_tellApart 141 = .ok (.iload 7, 2) := wnGet dwX6_tellApart_2 dkX6_tellApart_2 13 rfl
theorem dX6_tellApart_143 : decode cX6_tellApart 143 = .ok (.istore 5, 2) := wnGet dwX6_tellApart_2 dkX6_tellApart_2 14 rfl
theorem dX6_tellApart_145 : decode cX6_tellApart 145 = .ok (.iload 6, 2) := wnGet dwX6_tellApart_2 dkX6_tellApart_2 15 rfl
theorem dX6_tellApart_147 : decode cX6_tellApart 147 = .ok (.istore 4, 2) := wnGet dwX6_tellApart_2 dkX6_tellApart_2 16 rfl
theorem dX6_tellApart_149 : decode cX6_tellApart 149 = .ok (.iinc 6 1, 3) := wnGet dwX6_tellApart_2 dkX6_tellApart_2 17 rfl
theorem dX6_tellApart_152 : decode cX6_tellApart 152 = .ok (.goto (-71), 3) := wnGet dwX6_tellApart_2 dkX6_tellApart_2 18 rfl
theorem dX6_tellApart_155 : decode cX6_tellApart 155 = .ok (.aload_n 0, 1) := wnGet dwX6_tellApart_2 dkX6_tellApart_2 19 rfl
theorem dX6_tellApart_156 : decode cX6_tellApart 156 = .ok (.iload_n 1, 1) := wnGet dwX6_tellApart_2 dkX6_tellApart_2 20 rfl
theorem dX6_tellApart_157 : decode cX6_tellApart 157 = .ok (.iload 4, 2) := wnGet dwX6_tellApart_2 dkX6_tellApart_2 21 rfl
theorem dX6_tellApart_159 : decode cX6_tellApart 159 = .ok (.iconst 0, 1) := wnGet dwX6_tellApart_2 dkX6_tellApart_2 22 rfl
theorem dX6_tellApart_160 : decode cX6_tellApart 160 = .ok (.invokevirtual 133, 3) := wnGet dwX6_tellApart_2 dkX6_tellApart_2 23 rfl
theorem dX6_tellApart_163 : decode cX6_tellApart 163 = .ok (.iload 4, 2) := wnGet dwX6_tellApart_2 dkX6_tellApart_2 24 rfl
theorem dX6_tellApart_165 : decode cX6_tellApart 165 = .ok (.ireturn, 1) := wnGet dwX6_tellApart_2 dkX6_tellApart_2 25 rfl
theorem ggX6_orderText_X6_isNoOrder : GoodIn wsX6_orderText wsX6_isNoOrder := tgCall 715 e_X6_isNoOrder (by decide +kernel)
theorem gX6_orderText_X6_isNoOrder : GoodIn wsX6_orderText (va_wsS RX6 86 yX6_isNoOrder wsX6_isNoOrder) := goodIn_app (tgIn [713, 714, 684] (by decide +kernel) rfl) ggX6_orderText_X6_isNoOrder
theorem ggX6_orderText_X6_start : GoodIn wsX6_orderText wsX6_start := tgCall 692 e_X6_start (by decide +kernel)
theorem gX6_orderText_X6_start : GoodIn wsX6_orderText (wsV RX6 69 RX6 yX6_start wsX6_start) := goodIn_app (tgIn [689, 690, 691, 684] (by decide +kernel) rfl) ggX6_orderText_X6_start
theorem ggX6_orderText_J4_init_da8c8 : GoodIn wsX6_orderText wsJ4_init_da8c8 := tgCall 415 e_J4_init_da8c8 (by decide +kernel)
theorem gX6_orderText_J4_init_da8c8 : GoodIn wsX6_orderText (wsJ4_init_da8c8) := ggX6_orderText_J4_init_da8c8
theorem ggX6_orderText_J4_append_15ec4 : GoodIn wsX6_orderText wsJ4_append_15ec4 := tgCall 780 e_J4_append_15ec4 (by decide +kernel)
theorem gX6_orderText_J4_append_15ec4 : GoodIn wsX6_orderText (wsV RX6 100 RJ4 yJ4_append_15ec4 wsJ4_append_15ec4) := goodIn_app (tgIn [777, 778, 779, 328] (by decide +kernel) rfl) ggX6_orderText_J4_append_15ec4
theorem ggX6_orderText_J4_append_bf812 : GoodIn wsX6_orderText wsJ4_append_bf812 := tgCall 426 e_J4_append_bf812 (by decide +kernel)
theorem gX6_orderText_J4_append_bf812 : GoodIn wsX6_orderText (wsV RX6 106 RJ4 yJ4_append_bf812 wsJ4_append_bf812) := goodIn_app (tgIn [781, 424, 425, 328] (by decide +kernel) rfl) ggX6_orderText_J4_append_bf812
theorem ggX6_orderText_J4_toString_0e30d : GoodIn wsX6_orderText wsJ4_toString_0e30d := tgCall 431 e_J4_toString_0e30d (by decide +kernel)
theorem gX6_orderText_J4_toString_0e30d : GoodIn wsX6_orderText (wsV RX6 111 RJ4 yJ4_toString_0e30d wsJ4_toString_0e30d) := goodIn_app (tgIn [782, 429, 430, 328] (by decide +kernel) rfl) ggX6_orderText_J4_toString_0e30d
theorem dkX6_orderText_0 : ([(0, (.aload_n 0, 1)), (1, (.iload_n 1, 1)), (2, (.invokestatic 86, 3)), (5, (.iconst 1, 1)), (6, (.invokevirtual 69, 3)), (9, (.ifCond .eq 6, 3)), (12, (.ldc 95, 2)), (14, (.areturn, 1)), (15, (.ldc 95, 2)), (17, (.astore_n 2, 1)), (18, (.iconst 0, 1)), (19, (.istore_n 3, 1)), (20, (.iload_n 3, 1)), (21, (.aload_n 0, 1)), (22, (.getfield 29, 3)), (25, (.iload_n 1, 1)), (26, (.iaload, 1)), (27, (.if_icmp .ge 70, 3)), (30, (.new 97, 3)), (33, (.dup, 1)), (34, (.invokespecial 99, 3)), (37, (.aload_n 2, 1)), (38, (.invokevirtual 100, 3)), (41, (.iload_n 3, 1)), (42, (.ifCond .ne 8, 3)), (45, (.ldc 95, 2)), (47, (.goto 5, 3)), (50, (.ldc 104, 2)), (52, (.invokevirtual 100, 3)), (55, (.aload_n 0, 1)), (56, (.getfield 21, 3)), (59, (.iload_n 1, 1)), (60, (.aaload, 1)), (61, (.iload_n 3, 1)), (62, (.iaload, 1)), (63, (.invokevirtual 106, 3)), (66, (.aload_n 0, 1)), (67, (.getfield 26, 3)), (70, (.iload_n 1, 1)), (71, (.aaload, 1))] : List (Nat × (Jvm.ClassFile.Instr × Nat))).all (dcB cX6_orderText) = true := by decide +kernel
theorem dX6_orderText_0 : decode cX6_orderText 0 = .ok (.aload_n 0, 1) := dget dkX6_orderText_0 0 rfl
theorem dX6_orderText_1 : decode cX6_orderText 1 = .ok (.iload_n 1, 1) := dget dkX6_orderText_0 1 rfl
theorem dX6_orderText_2 : decode cX6_orderText 2 = .ok (.invokestatic 86, 3) := dget dkX6_orderText_0 2 rfl
theorem dX6_orderText_5 : decode cX6_orderText 5 = .ok (.iconst 1, 1) := dget dkX6_orderText_0 3 rfl
theorem dX6_orderText_6 : decode cX6_orderText 6 = .ok (.invokevirtual 69, 3) := dget dkX6_orderText_0 4 rfl
theorem dX6_orderText_9 : decode cX6_orderText 9 = .ok (.ifCond .eq 6, 3) := dget dkX6_orderText_0 5 rfl
theorem dX6_orderText_12 : decode cX6_orderText 12 = .ok (.ldc 95, 2) := dget dkX6_orderText_0 6 rfl
theorem dX6_orderText_14 : decode cX6_orderText 14 = .ok (.areturn, 1) := dget dkX6_orderText_0 7 rfl
theorem dX6_orderText_15 : decode cX6_orderText 15 = .ok (.ldc 95, 2) := dget dkX6_orderText_0 8 rfl
theorem dX6_orderText_17 : decode cX6_orderText 17 = .ok (.astore_n 2, 1) := dget dkX6_orderText_0 9 rfl
theorem dX6_orderText_18 : decode cX6_orderText 18 = .ok (.iconst 0, 1) := dget dkX6_orderText_0 10 rfl
theorem dX6_orderText_19 : decode cX6_orderText 19 = .ok (.istore_n 3, 1) := dget dkX6_orderText_0 11 rfl
theorem dX6_orderText_20 : decode cX6_orderText 20 = .ok (.iload_n 3, 1) := dget dkX6_orderText_0 12 rfl
theorem dX6_orderText_21 : decode cX6_orderText 21 = .ok (.aload_n 0, 1) := dget dkX6_orderText_0 13 rfl
theorem dX6_orderText_22 : decode cX6_orderText 22 = .ok (.getfield 29, 3) := dget dkX6_orderText_0 14 rfl
theorem dX6_orderText_25 : decode cX6_orderText 25 = .ok (.iload_n 1, 1) := dget dkX6_orderText_0 15 rfl
theorem dX6_orderText_26 : decode cX6_orderText 26 = .ok (.iaload, 1) := dget dkX6_orderText_0 16 rfl
theorem dX6_orderText_27 : decode cX6_orderText 27 = .ok (.if_icmp .ge 70, 3) := dget dkX6_orderText_0 17 rfl
theorem dX6_orderText_30 : decode cX6_orderText 30 = .ok (.new 97, 3) := dget dkX6_orderText_0 18 rfl
theorem dX6_orderText_33 : decode cX6_orderText 33 = .ok (.dup, 1) := dget dkX6_orderText_0 19 rfl
theorem dX6_orderText_34 : decode cX6_orderText 34 = .ok (.invokespecial 99, 3) := dget dkX6_orderText_0 20 rfl
theorem dX6_orderText_37 : decode cX6_orderText 37 = .ok (.aload_n 2, 1) := dget dkX6_orderText_0 21 rfl
theorem dX6_orderText_38 : decode cX6_orderText 38 = .ok (.invokevirtual 100, 3) := dget dkX6_orderText_0 22 rfl
theorem dX6_orderText_41 : decode cX6_orderText 41 = .ok (.iload_n 3, 1) := dget dkX6_orderText_0 23 rfl
theorem dX6_orderText_42 : decode cX6_orderText 42 = .ok (.ifCond .ne 8, 3) := dget dkX6_orderText_0 24 rfl
theorem dX6_orderText_45 : decode cX6_orderText 45 = .ok (.ldc 95, 2) := dget dkX6_orderText_0 25 rfl
theorem dX6_orderText_47 : decode cX6_orderText 47 = .ok (.goto 5, 3) := dget dkX6_orderText_0 26 rfl
theorem dX6_orderText_50 : decode cX6_orderText 50 = .ok (.ldc 104, 2) := dget dkX6_orderText_0 27 rfl
theorem dX6_orderText_52 : decode cX6_orderText 52 = .ok (.invokevirtual 100, 3) := dget dkX6_orderText_0 28 rfl
theorem dX6_orderText_55 : decode cX6_orderText 55 = .ok (.aload_n 0, 1) := dget dkX6_orderText_0 29 rfl
theorem dX6_orderText_56 : decode cX6_orderText 56 = .ok (.getfield 21, 3) := dget dkX6_orderText_0 30 rfl
theorem dX6_orderText_59 : decode cX6_orderText 59 = .ok (.iload_n 1, 1) := dget dkX6_orderText_0 31 rfl
theorem dX6_orderText_60 : decode cX6_orderText 60 = .ok (.aaload, 1) := dget dkX6_orderText_0 32 rfl
theorem dX6_orderText_61 : decode cX6_orderText 61 = .ok (.iload_n 3, 1) := dget dkX6_orderText_0 33 rfl
theorem dX6_orderText_62 : decode cX6_orderText 62 = .ok (.iaload, 1) := dget dkX6_orderText_0 34 rfl
theorem dX6_orderText_63 : decode cX6_orderText 63 = .ok (.invokevirtual 106, 3) := dget dkX6_orderText_0 35 rfl
theorem dX6_orderText_66 : decode cX6_orderText 66 = .ok (.aload_n 0, 1) := dget dkX6_orderText_0 36 rfl
theorem dX6_orderText_67 : decode cX6_orderText 67 = .ok (.getfield 26, 3) := dget dkX6_orderText_0 37 rfl
theorem dX6_orderText_70 : decode cX6_orderText 70 = .ok (.iload_n 1, 1) := dget dkX6_orderText_0 38 rfl
theorem dX6_orderText_71 : decode cX6_orderText 71 = .ok (.aaload, 1) := dget dkX6_orderText_0 39 rfl
theorem dkX6_orderText_1 : ([(72, (.iload_n 3, 1)), (73, (.baload, 1)), (74, (.ifCond .eq 8, 3)), (77, (.ldc 141, 2)), (79, (.goto 5, 3)), (82, (.ldc 143, 2)), (84, (.invokevirtual 100, 3)), (87, (.invokevirtual 111, 3)), (90, (.astore_n 2, 1)), (91, (.iinc 3 1, 3)), (94, (.goto (-74), 3)), (97, (.aload_n 2, 1)), (98, (.areturn, 1))] : List (Nat × (Jvm.ClassFile.Instr × Nat))).all (dcB cX6_orderText) = true := by decide +kernel
theorem dX6_orderText_72 : decode cX6_orderText 72 = .ok (.iload_n 3, 1) := dget dkX6_orderText_1 0 rfl
theorem dX6_orderText_73 : decode cX6_orderText 73 = .ok (.baload, 1) := dget dkX6_orderText_1 1 rfl
theorem dX6_orderText_74 : decode cX6_orderText 74 = .ok (.ifCond .eq 8, 3) := dget dkX6_orderText_1 2 rfl
theorem dX6_orderText_77 : decode cX6_orderText 77 = .ok (.ldc 141, 2) := dget dkX6_orderText_1 3 rfl
theorem dX6_orderText_79 : decode cX6_orderText 79 = .ok (.goto 5, 3) := dget dkX6_orderText_1 4 rfl
theorem dX6_orderText_82 : decode cX6_orderText 82 = .ok (.ldc 143, 2) := dget dkX6_orderText_1 5 rfl
theorem dX6_orderText_84 : decode cX6_orderText 84 = .ok (.invokevirtual 100, 3) := dget dkX6_orderText_1 6 rfl
theorem dX6_orderText_87 : decode cX6_orderText 87 = .ok (.invokevirtual 111, 3) := dget dkX6_orderText_1 7 rfl
theorem dX6_orderText_90 : decode cX6_orderText 90 = .ok (.astore_n 2, 1) := dget dkX6_orderText_1 8 rfl
theorem dX6_orderText_91 : decode cX6_orderText 91 = .ok (.iinc 3 1, 3) := dget dkX6_orderText_1 9 rfl
theorem dX6_orderText_94 : decode cX6_orderText 94 = .ok (.goto (-74), 3) := dget dkX6_orderText_1 10 rfl
theorem dX6_orderText_97 : decode cX6_orderText 97 = .ok (.aload_n 2, 1) := dget dkX6_orderText_1 11 rfl
theorem dX6_orderText_98 : decode cX6_orderText 98 = .ok (.areturn, 1) := dget dkX6_orderText_1 12 rfl
theorem ggX6_compare_X6_isNoOrder : GoodIn wsX6_compare wsX6_isNoOrder := tgCall 715 e_X6_isNoOrder (by decide +kernel)
theorem gX6_compare_X6_isNoOrder : GoodIn wsX6_compare (va_wsS RX6 86 yX6_isNoOrder wsX6_isNoOrder) := goodIn_app (tgIn [713, 714, 684] (by decide +kernel) rfl) ggX6_compare_X6_isNoOrder
theorem ggX6_compare_X6_start : GoodIn wsX6_compare wsX6_start := tgCall 692 e_X6_start (by decide +kernel)
theorem gX6_compare_X6_start : GoodIn wsX6_compare (wsV RX6 69 RX6 yX6_start wsX6_start) := goodIn_app (tgIn [689, 690, 691, 684] (by decide +kernel) rfl) ggX6_compare_X6_start
theorem ggX6_compare_X6_isNoValue : GoodIn wsX6_compare wsX6_isNoValue := tgCall 700 e_X6_isNoValue (by decide +kernel)
theorem gX6_compare_X6_isNoValue : GoodIn wsX6_compare (va_wsS RX6 72 yX6_isNoValue wsX6_isNoValue) := goodIn_app (tgIn [698, 699, 684] (by decide +kernel) rfl) ggX6_compare_X6_isNoValue
theorem ggX6_compare_X6_refuse : GoodIn wsX6_compare wsX6_refuse := tgCall 697 e_X6_refuse (by decide +kernel)
theorem gX6_compare_X6_refuse : GoodIn wsX6_compare (wsV RX6 36 RX6 yX6_refuse wsX6_refuse) := goodIn_app (tgIn [694, 695, 696, 684] (by decide +kernel) rfl) ggX6_compare_X6_refuse
theorem ggX6_compare_X6_compareNow : GoodIn wsX6_compare wsX6_compareNow := tgCall 723 e_X6_compareNow (by decide +kernel)
theorem gX6_compare_X6_compareNow : GoodIn wsX6_compare (wsV RX6 51 RX6 yX6_compareNow wsX6_compareNow) := goodIn_app (tgIn [720, 721, 722, 684] (by decide +kernel) rfl) ggX6_compare_X6_compareNow
theorem dkX6_compare_0 : ([(0, (.aload_n 0, 1)), (1, (.iload_n 1, 1)), (2, (.invokestatic 86, 3)), (5, (.iconst 1, 1)), (6, (.invokevirtual 69, 3)), (9, (.ifCond .ne 30, 3)), (12, (.aload_n 0, 1)), (13, (.iload_n 2, 1)), (14, (.invokestatic 72, 3)), (17, (.ifCond .ne 10, 3)), (20, (.iload_n 3, 1)), (21, (.invokestatic 72, 3)), (24, (.ifCond .eq 7, 3)), (27, (.iconst 1, 1)), (28, (.goto 4, 3)), (31, (.iconst 0, 1)), (32, (.iconst 2, 1)), (33, (.invokevirtual 36, 3)), (36, (.ifCond .eq 7, 3)), (39, (.iconst 0, 1)), (40, (.goto 10, 3)), (43, (.aload_n 0, 1)), (44, (.iload_n 1, 1)), (45, (.iload_n 2, 1)), (46, (.iload_n 3, 1)), (47, (.invokevirtual 51, 3)), (50, (.ireturn, 1))] : List (Nat × (Jvm.ClassFile.Instr × Nat))).all (dcB cX6_compare) = true := by decide +kernel
theorem dX6_compare_0 : decode cX6_compare 0 = .ok (.aload_n 0, 1) := dget dkX6_compare_0 0 rfl
theorem dX6_compare_1 : decode cX6_compare 1 = .ok (.iload_n 1, 1) := dget dkX6_compare_0 1 rfl
theorem dX6_compare_2 : decode cX6_compare 2 = .ok (.invokestatic 86, 3) := dget dkX6_compare_0 2 rfl
theorem dX6_compare_5 : decode cX6_compare 5 = .ok (.iconst 1, 1) := dget dkX6_compare_0 3 rfl
theorem dX6_compare_6 : decode cX6_compare 6 = .ok (.invokevirtual 69, 3) := dget dkX6_compare_0 4 rfl
theorem dX6_compare_9 : decode cX6_compare 9 = .ok (.ifCond .ne 30, 3) := dget dkX6_compare_0 5 rfl
theorem dX6_compare_12 : decode cX6_compare 12 = .ok (.aload_n 0, 1) := dget dkX6_compare_0 6 rfl
theorem dX6_compare_13 : decode cX6_compare 13 = .ok (.iload_n 2, 1) := dget dkX6_compare_0 7 rfl
theorem dX6_compare_14 : decode cX6_compare 14 = .ok (.invokestatic 72, 3) := dget dkX6_compare_0 8 rfl
theorem dX6_compare_17 : decode cX6_compare 17 = .ok (.ifCond .ne 10, 3) := dget dkX6_compare_0 9 rfl
theorem dX6_compare_20 : decode cX6_compare 20 = .ok (.iload_n 3, 1) := dget dkX6_compare_0 10 rfl
theorem dX6_compare_21 : decode cX6_compare 21 = .ok (.invokestatic 72, 3) := dget dkX6_compare_0 11 rfl
theorem dX6_compare_24 : decode cX6_compare 24 = .ok (.ifCond .eq 7, 3) := dget dkX6_compare_0 12 rfl
theorem dX6_compare_27 : decode cX6_compare 27 = .ok (.iconst 1, 1) := dget dkX6_compare_0 13 rfl
theorem dX6_compare_28 : decode cX6_compare 28 = .ok (.goto 4, 3) := dget dkX6_compare_0 14 rfl
theorem dX6_compare_31 : decode cX6_compare 31 = .ok (.iconst 0, 1) := dget dkX6_compare_0 15 rfl
theorem dX6_compare_32 : decode cX6_compare 32 = .ok (.iconst 2, 1) := dget dkX6_compare_0 16 rfl
theorem dX6_compare_33 : decode cX6_compare 33 = .ok (.invokevirtual 36, 3) := dget dkX6_compare_0 17 rfl
theorem dX6_compare_36 : decode cX6_compare 36 = .ok (.ifCond .eq 7, 3) := dget dkX6_compare_0 18 rfl
theorem dX6_compare_39 : decode cX6_compare 39 = .ok (.iconst 0, 1) := dget dkX6_compare_0 19 rfl
theorem dX6_compare_40 : decode cX6_compare 40 = .ok (.goto 10, 3) := dget dkX6_compare_0 20 rfl
theorem dX6_compare_43 : decode cX6_compare 43 = .ok (.aload_n 0, 1) := dget dkX6_compare_0 21 rfl
theorem dX6_compare_44 : decode cX6_compare 44 = .ok (.iload_n 1, 1) := dget dkX6_compare_0 22 rfl
theorem dX6_compare_45 : decode cX6_compare 45 = .ok (.iload_n 2, 1) := dget dkX6_compare_0 23 rfl
theorem dX6_compare_46 : decode cX6_compare 46 = .ok (.iload_n 3, 1) := dget dkX6_compare_0 24 rfl
theorem dX6_compare_47 : decode cX6_compare 47 = .ok (.invokevirtual 51, 3) := dget dkX6_compare_0 25 rfl
theorem dX6_compare_50 : decode cX6_compare 50 = .ok (.ireturn, 1) := dget dkX6_compare_0 26 rfl
theorem ggX6_both_X6_isNoOrder : GoodIn wsX6_both wsX6_isNoOrder := tgCall 715 e_X6_isNoOrder (by decide +kernel)
theorem gX6_both_X6_isNoOrder : GoodIn wsX6_both (va_wsS RX6 86 yX6_isNoOrder wsX6_isNoOrder) := goodIn_app (tgIn [713, 714, 684] (by decide +kernel) rfl) ggX6_both_X6_isNoOrder
theorem ggX6_both_X6_start : GoodIn wsX6_both wsX6_start := tgCall 692 e_X6_start (by decide +kernel)
theorem gX6_both_X6_start : GoodIn wsX6_both (wsV RX6 69 RX6 yX6_start wsX6_start) := goodIn_app (tgIn [689, 690, 691, 684] (by decide +kernel) rfl) ggX6_both_X6_start
theorem ggX6_both_X6_isNoValue : GoodIn wsX6_both wsX6_isNoValue := tgCall 700 e_X6_isNoValue (by decide +kernel)
theorem gX6_both_X6_isNoValue : GoodIn wsX6_both (va_wsS RX6 72 yX6_isNoValue wsX6_isNoValue) := goodIn_app (tgIn [698, 699, 684] (by decide +kernel) rfl) ggX6_both_X6_isNoValue
theorem ggX6_both_X6_refuse : GoodIn wsX6_both wsX6_refuse := tgCall 697 e_X6_refuse (by decide +kernel)
theorem gX6_both_X6_refuse : GoodIn wsX6_both (wsV RX6 36 RX6 yX6_refuse wsX6_refuse) := goodIn_app (tgIn [694, 695, 696, 684] (by decide +kernel) rfl) ggX6_both_X6_refuse
theorem ggX6_both_X6_bothNow : GoodIn wsX6_both wsX6_bothNow := tgCall 814 e_X6_bothNow (by decide +kernel)
theorem gX6_both_X6_bothNow : GoodIn wsX6_both (wsV RX6 58 RX6 yX6_bothNow wsX6_bothNow) := goodIn_app (tgIn [811, 812, 813, 684] (by decide +kernel) rfl) ggX6_both_X6_bothNow
theorem dkX6_both_0 : ([(0, (.aload_n 0, 1)), (1, (.iload_n 1, 1)), (2, (.invokestatic 86, 3)), (5, (.ifCond .ne 10, 3)), (8, (.iload_n 2, 1)), (9, (.invokestatic 86, 3)), (12, (.ifCond .eq 7, 3)), (15, (.iconst 1, 1)), (16, (.goto 4, 3)), (19, (.iconst 0, 1)), (20, (.iconst 1, 1)), (21, (.invokevirtual 69, 3)), (24, (.ifCond .ne 31, 3)), (27, (.aload_n 0, 1)), (28, (.iload_n 3, 1)), (29, (.invokestatic 72, 3)), (32, (.ifCond .ne 11, 3)), (35, (.iload 4, 2)), (37, (.invokestatic 72, 3)), (40, (.ifCond .eq 7, 3)), (43, (.iconst 1, 1)), (44, (.goto 4, 3)), (47, (.iconst 0, 1)), (48, (.iconst 2, 1)), (49, (.invokevirtual 36, 3)), (52, (.ifCond .eq 7, 3)), (55, (.iconst 0, 1)), (56, (.goto 12, 3)), (59, (.aload_n 0, 1)), (60, (.iload_n 1, 1)), (61, (.iload_n 2, 1)), (62, (.iload_n 3, 1)), (63, (.iload 4, 2)), (65, (.invokevirtual 58, 3)), (68, (.ireturn, 1))] : List (Nat × (Jvm.ClassFile.Instr × Nat))).all (dcB cX6_both) = true := by decide +kernel
theorem dX6_both_0 : decode cX6_both 0 = .ok (.aload_n 0, 1) := dget dkX6_both_0 0 rfl
theorem dX6_both_1 : decode cX6_both 1 = .ok (.iload_n 1, 1) := dget dkX6_both_0 1 rfl
theorem dX6_both_2 : decode cX6_both 2 = .ok (.invokestatic 86, 3) := dget dkX6_both_0 2 rfl
theorem dX6_both_5 : decode cX6_both 5 = .ok (.ifCond .ne 10, 3) := dget dkX6_both_0 3 rfl
theorem dX6_both_8 : decode cX6_both 8 = .ok (.iload_n 2, 1) := dget dkX6_both_0 4 rfl
theorem dX6_both_9 : decode cX6_both 9 = .ok (.invokestatic 86, 3) := dget dkX6_both_0 5 rfl
theorem dX6_both_12 : decode cX6_both 12 = .ok (.ifCond .eq 7, 3) := dget dkX6_both_0 6 rfl
theorem dX6_both_15 : decode cX6_both 15 = .ok (.iconst 1, 1) := dget dkX6_both_0 7 rfl
theorem dX6_both_16 : decode cX6_both 16 = .ok (.goto 4, 3) := dget dkX6_both_0 8 rfl
theorem dX6_both_19 : decode cX6_both 19 = .ok (.iconst 0, 1) := dget dkX6_both_0 9 rfl
theorem dX6_both_20 : decode cX6_both 20 = .ok (.iconst 1, 1) := dget dkX6_both_0 10 rfl
theorem dX6_both_21 : decode cX6_both 21 = .ok (.invokevirtual 69, 3) := dget dkX6_both_0 11 rfl
theorem dX6_both_24 : decode cX6_both 24 = .ok (.ifCond .ne 31, 3) := dget dkX6_both_0 12 rfl
theorem dX6_both_27 : decode cX6_both 27 = .ok (.aload_n 0, 1) := dget dkX6_both_0 13 rfl
theorem dX6_both_28 : decode cX6_both 28 = .ok (.iload_n 3, 1) := dget dkX6_both_0 14 rfl
theorem dX6_both_29 : decode cX6_both 29 = .ok (.invokestatic 72, 3) := dget dkX6_both_0 15 rfl
theorem dX6_both_32 : decode cX6_both 32 = .ok (.ifCond .ne 11, 3) := dget dkX6_both_0 16 rfl
theorem dX6_both_35 : decode cX6_both 35 = .ok (.iload 4, 2) := dget dkX6_both_0 17 rfl
theorem dX6_both_37 : decode cX6_both 37 = .ok (.invokestatic 72, 3) := dget dkX6_both_0 18 rfl
theorem dX6_both_40 : decode cX6_both 40 = .ok (.ifCond .eq 7, 3) := dget dkX6_both_0 19 rfl
theorem dX6_both_43 : decode cX6_both 43 = .ok (.iconst 1, 1) := dget dkX6_both_0 20 rfl
theorem dX6_both_44 : decode cX6_both 44 = .ok (.goto 4, 3) := dget dkX6_both_0 21 rfl
theorem dX6_both_47 : decode cX6_both 47 = .ok (.iconst 0, 1) := dget dkX6_both_0 22 rfl
theorem dX6_both_48 : decode cX6_both 48 = .ok (.iconst 2, 1) := dget dkX6_both_0 23 rfl
theorem dX6_both_49 : decode cX6_both 49 = .ok (.invokevirtual 36, 3) := dget dkX6_both_0 24 rfl
theorem dX6_both_52 : decode cX6_both 52 = .ok (.ifCond .eq 7, 3) := dget dkX6_both_0 25 rfl
theorem dX6_both_55 : decode cX6_both 55 = .ok (.iconst 0, 1) := dget dkX6_both_0 26 rfl
theorem dX6_both_56 : decode cX6_both 56 = .ok (.goto 12, 3) := dget dkX6_both_0 27 rfl
theorem dX6_both_59 : decode cX6_both 59 = .ok (.aload_n 0, 1) := dget dkX6_both_0 28 rfl
theorem dX6_both_60 : decode cX6_both 60 = .ok (.iload_n 1, 1) := dget dkX6_both_0 29 rfl
theorem dX6_both_61 : decode cX6_both 61 = .ok (.iload_n 2, 1) := dget dkX6_both_0 30 rfl
theorem dX6_both_62 : decode cX6_both 62 = .ok (.iload_n 3, 1) := dget dkX6_both_0 31 rfl
theorem dX6_both_63 : decode cX6_both 63 = .ok (.iload 4, 2) := dget dkX6_both_0 32 rfl
theorem dX6_both_65 : decode cX6_both 65 = .ok (.invokevirtual 58, 3) := dget dkX6_both_0 33 rfl
theorem dX6_both_68 : decode cX6_both 68 = .ok (.ireturn, 1) := dget dkX6_both_0 34 rfl
theorem ggX6_refines_X6_isNoOrder : GoodIn wsX6_refines wsX6_isNoOrder := tgCall 715 e_X6_isNoOrder (by decide +kernel)
theorem gX6_refines_X6_isNoOrder : GoodIn wsX6_refines (va_wsS RX6 86 yX6_isNoOrder wsX6_isNoOrder) := goodIn_app (tgIn [713, 714, 684] (by decide +kernel) rfl) ggX6_refines_X6_isNoOrder
theorem ggX6_refines_X6_start : GoodIn wsX6_refines wsX6_start := tgCall 692 e_X6_start (by decide +kernel)
theorem gX6_refines_X6_start : GoodIn wsX6_refines (wsV RX6 69 RX6 yX6_start wsX6_start) := goodIn_app (tgIn [689, 690, 691, 684] (by decide +kernel) rfl) ggX6_refines_X6_start
theorem ggX6_refines_X6_isRefined : GoodIn wsX6_refines wsX6_isRefined := tgCall 818 e_X6_isRefined (by decide +kernel)
theorem gX6_refines_X6_isRefined : GoodIn wsX6_refines (wsV RX6 145 RX6 yX6_isRefined wsX6_isRefined) := goodIn_app (tgIn [815, 816, 817, 684] (by decide +kernel) rfl) ggX6_refines_X6_isRefined
theorem dkX6_refines_0 : ([(0, (.aload_n 0, 1)), (1, (.iload_n 1, 1)), (2, (.invokestatic 86, 3)), (5, (.ifCond .ne 10, 3)), (8, (.iload_n 2, 1)), (9, (.invokestatic 86, 3)), (12, (.ifCond .eq 7, 3)), (15, (.iconst 1, 1)), (16, (.goto 4, 3)), (19, (.iconst 0, 1)), (20, (.iconst 1, 1)), (21, (.invokevirtual 69, 3)), (24, (.ifCond .ne 16, 3)), (27, (.aload_n 0, 1)), (28, (.iload_n 1, 1)), (29, (.iload_n 2, 1)), (30, (.invokevirtual 145, 3)), (33, (.ifCond .eq 7, 3)), (36, (.iconst 1, 1)), (37, (.goto 4, 3)), (40, (.iconst 0, 1)), (41, (.ireturn, 1))] : List (Nat × (Jvm.ClassFile.Instr × Nat))).all (dcB cX6_refines) = true := by decide +kernel
theorem dX6_refines_0 : decode cX6_refines 0 = .ok (.aload_n 0, 1) := dget dkX6_refines_0 0 rfl
theorem dX6_refines_1 : decode cX6_refines 1 = .ok (.iload_n 1, 1) := dget dkX6_refines_0 1 rfl
theorem dX6_refines_2 : decode cX6_refines 2 = .ok (.invokestatic 86, 3) := dget dkX6_refines_0 2 rfl
theorem dX6_refines_5 : decode cX6_refines 5 = .ok (.ifCond .ne 10, 3) := dget dkX6_refines_0 3 rfl
theorem dX6_refines_8 : decode cX6_refines 8 = .ok (.iload_n 2, 1) := dget dkX6_refines_0 4 rfl
theorem dX6_refines_9 : decode cX6_refines 9 = .ok (.invokestatic 86, 3) := dget dkX6_refines_0 5 rfl
theorem dX6_refines_12 : decode cX6_refines 12 = .ok (.ifCond .eq 7, 3) := dget dkX6_refines_0 6 rfl
theorem dX6_refines_15 : decode cX6_refines 15 = .ok (.iconst 1, 1) := dget dkX6_refines_0 7 rfl
theorem dX6_refines_16 : decode cX6_refines 16 = .ok (.goto 4, 3) := dget dkX6_refines_0 8 rfl
theorem dX6_refines_19 : decode cX6_refines 19 = .ok (.iconst 0, 1) := dget dkX6_refines_0 9 rfl
theorem dX6_refines_20 : decode cX6_refines 20 = .ok (.iconst 1, 1) := dget dkX6_refines_0 10 rfl
theorem dX6_refines_21 : decode cX6_refines 21 = .ok (.invokevirtual 69, 3) := dget dkX6_refines_0 11 rfl
theorem dX6_refines_24 : decode cX6_refines 24 = .ok (.ifCond .ne 16, 3) := dget dkX6_refines_0 12 rfl
theorem dX6_refines_27 : decode cX6_refines 27 = .ok (.aload_n 0, 1) := dget dkX6_refines_0 13 rfl
theorem dX6_refines_28 : decode cX6_refines 28 = .ok (.iload_n 1, 1) := dget dkX6_refines_0 14 rfl
theorem dX6_refines_29 : decode cX6_refines 29 = .ok (.iload_n 2, 1) := dget dkX6_refines_0 15 rfl
theorem dX6_refines_30 : decode cX6_refines 30 = .ok (.invokevirtual 145, 3) := dget dkX6_refines_0 16 rfl
theorem dX6_refines_33 : decode cX6_refines 33 = .ok (.ifCond .eq 7, 3) := dget dkX6_refines_0 17 rfl
theorem dX6_refines_36 : decode cX6_refines 36 = .ok (.iconst 1, 1) := dget dkX6_refines_0 18 rfl
theorem dX6_refines_37 : decode cX6_refines 37 = .ok (.goto 4, 3) := dget dkX6_refines_0 19 rfl
theorem dX6_refines_40 : decode cX6_refines 40 = .ok (.iconst 0, 1) := dget dkX6_refines_0 20 rfl
theorem dX6_refines_41 : decode cX6_refines 41 = .ok (.ireturn, 1) := dget dkX6_refines_0 21 rfl
theorem ggX6_areSame_X6_isNoOrder : GoodIn wsX6_areSame wsX6_isNoOrder := tgCall 715 e_X6_isNoOrder (by decide +kernel)
theorem gX6_areSame_X6_isNoOrder : GoodIn wsX6_areSame (va_wsS RX6 86 yX6_isNoOrder wsX6_isNoOrder) := goodIn_app (tgIn [713, 714, 684] (by decide +kernel) rfl) ggX6_areSame_X6_isNoOrder
theorem ggX6_areSame_X6_start : GoodIn wsX6_areSame wsX6_start := tgCall 692 e_X6_start (by decide +kernel)
theorem gX6_areSame_X6_start : GoodIn wsX6_areSame (wsV RX6 69 RX6 yX6_start wsX6_start) := goodIn_app (tgIn [689, 690, 691, 684] (by decide +kernel) rfl) ggX6_areSame_X6_start
theorem ggX6_areSame_X6_compareNow : GoodIn wsX6_areSame wsX6_compareNow := tgCall 723 e_X6_compareNow (by decide +kernel)
theorem gX6_areSame_X6_compareNow : GoodIn wsX6_areSame (wsV RX6 51 RX6 yX6_compareNow wsX6_compareNow) := goodIn_app (tgIn [720, 721, 722, 684] (by decide +kernel) rfl) ggX6_areSame_X6_compareNow
theorem dkX6_areSame_0 : ([(0, (.aload_n 0, 1)), (1, (.iload_n 1, 1)), (2, (.invokestatic 86, 3)), (5, (.ifCond .ne 10, 3)), (8, (.iload_n 2, 1)), (9, (.invokestatic 86, 3)), (12, (.ifCond .eq 7, 3)), (15, (.iconst 1, 1)), (16, (.goto 4, 3)), (19, (.iconst 0, 1)), (20, (.iconst 1, 1)), (21, (.invokevirtual 69, 3)), (24, (.ifCond .eq 5, 3)), (27, (.iconst 0, 1)), (28, (.ireturn, 1)), (29, (.iconst 0, 1)), (30, (.istore_n 3, 1)), (31, (.iload_n 3, 1)), (32, (.bipush 16, 2)), (34, (.if_icmp .ge 46, 3)), (37, (.iconst 0, 1)), (38, (.istore 4, 2)), (40, (.iload 4, 2)), (42, (.bipush 16, 2)), (44, (.if_icmp .ge 30, 3)), (47, (.aload_n 0, 1)), (48, (.iload_n 1, 1)), (49, (.iload_n 3, 1)), (50, (.iload 4, 2)), (52, (.invokevirtual 51, 3)), (55, (.aload_n 0, 1)), (56, (.iload_n 2, 1)), (57, (.iload_n 3, 1)), (58, (.iload 4, 2)), (60, (.invokevirtual 51, 3)), (63, (.if_icmp .eq 5, 3)), (66, (.iconst 0, 1)), (67, (.ireturn, 1)), (68, (.iinc 4 1, 3)), (71, (.goto (-31), 3))] : List (Nat × (Jvm.ClassFile.Instr × Nat))).all (dcB cX6_areSame) = true := by decide +kernel
theorem dX6_areSame_0 : decode cX6_areSame 0 = .ok (.aload_n 0, 1) := dget dkX6_areSame_0 0 rfl
theorem dX6_areSame_1 : decode cX6_areSame 1 = .ok (.iload_n 1, 1) := dget dkX6_areSame_0 1 rfl
theorem dX6_areSame_2 : decode cX6_areSame 2 = .ok (.invokestatic 86, 3) := dget dkX6_areSame_0 2 rfl
theorem dX6_areSame_5 : decode cX6_areSame 5 = .ok (.ifCond .ne 10, 3) := dget dkX6_areSame_0 3 rfl
theorem dX6_areSame_8 : decode cX6_areSame 8 = .ok (.iload_n 2, 1) := dget dkX6_areSame_0 4 rfl
theorem dX6_areSame_9 : decode cX6_areSame 9 = .ok (.invokestatic 86, 3) := dget dkX6_areSame_0 5 rfl
theorem dX6_areSame_12 : decode cX6_areSame 12 = .ok (.ifCond .eq 7, 3) := dget dkX6_areSame_0 6 rfl
theorem dX6_areSame_15 : decode cX6_areSame 15 = .ok (.iconst 1, 1) := dget dkX6_areSame_0 7 rfl
theorem dX6_areSame_16 : decode cX6_areSame 16 = .ok (.goto 4, 3) := dget dkX6_areSame_0 8 rfl
theorem dX6_areSame_19 : decode cX6_areSame 19 = .ok (.iconst 0, 1) := dget dkX6_areSame_0 9 rfl
theorem dX6_areSame_20 : decode cX6_areSame 20 = .ok (.iconst 1, 1) := dget dkX6_areSame_0 10 rfl
theorem dX6_areSame_21 : decode cX6_areSame 21 = .ok (.invokevirtual 69, 3) := dget dkX6_areSame_0 11 rfl
theorem dX6_areSame_24 : decode cX6_areSame 24 = .ok (.ifCond .eq 5, 3) := dget dkX6_areSame_0 12 rfl
theorem dX6_areSame_27 : decode cX6_areSame 27 = .ok (.iconst 0, 1) := dget dkX6_areSame_0 13 rfl
theorem dX6_areSame_28 : decode cX6_areSame 28 = .ok (.ireturn, 1) := dget dkX6_areSame_0 14 rfl
theorem dX6_areSame_29 : decode cX6_areSame 29 = .ok (.iconst 0, 1) := dget dkX6_areSame_0 15 rfl
theorem dX6_areSame_30 : decode cX6_areSame 30 = .ok (.istore_n 3, 1) := dget dkX6_areSame_0 16 rfl
theorem dX6_areSame_31 : decode cX6_areSame 31 = .ok (.iload_n 3, 1) := dget dkX6_areSame_0 17 rfl
theorem dX6_areSame_32 : decode cX6_areSame 32 = .ok (.bipush 16, 2) := dget dkX6_areSame_0 18 rfl
theorem dX6_areSame_34 : decode cX6_areSame 34 = .ok (.if_icmp .ge 46, 3) := dget dkX6_areSame_0 19 rfl
theorem dX6_areSame_37 : decode cX6_areSame 37 = .ok (.iconst 0, 1) := dget dkX6_areSame_0 20 rfl
theorem dX6_areSame_38 : decode cX6_areSame 38 = .ok (.istore 4, 2) := dget dkX6_areSame_0 21 rfl
theorem dX6_areSame_40 : decode cX6_areSame 40 = .ok (.iload 4, 2) := dget dkX6_areSame_0 22 rfl
theorem dX6_areSame_42 : decode cX6_areSame 42 = .ok (.bipush 16, 2) := dget dkX6_areSame_0 23 rfl
theorem dX6_areSame_44 : decode cX6_areSame 44 = .ok (.if_icmp .ge 30, 3) := dget dkX6_areSame_0 24 rfl
theorem dX6_areSame_47 : decode cX6_areSame 47 = .ok (.aload_n 0, 1) := dget dkX6_areSame_0 25 rfl
theorem dX6_areSame_48 : decode cX6_areSame 48 = .ok (.iload_n 1, 1) := dget dkX6_areSame_0 26 rfl
theorem dX6_areSame_49 : decode cX6_areSame 49 = .ok (.iload_n 3, 1) := dget dkX6_areSame_0 27 rfl
theorem dX6_areSame_50 : decode cX6_areSame 50 = .ok (.iload 4, 2) := dget dkX6_areSame_0 28 rfl
theorem dX6_areSame_52 : decode cX6_areSame 52 = .ok (.invokevirtual 51, 3) := dget dkX6_areSame_0 29 rfl
theorem dX6_areSame_55 : decode cX6_areSame 55 = .ok (.aload_n 0, 1) := dget dkX6_areSame_0 30 rfl
theorem dX6_areSame_56 : decode cX6_areSame 56 = .ok (.iload_n 2, 1) := dget dkX6_areSame_0 31 rfl
theorem dX6_areSame_57 : decode cX6_areSame 57 = .ok (.iload_n 3, 1) := dget dkX6_areSame_0 32 rfl
theorem dX6_areSame_58 : decode cX6_areSame 58 = .ok (.iload 4, 2) := dget dkX6_areSame_0 33 rfl
theorem dX6_areSame_60 : decode cX6_areSame 60 = .ok (.invokevirtual 51, 3) := dget dkX6_areSame_0 34 rfl
theorem dX6_areSame_63 : decode cX6_areSame 63 = .ok (.if_icmp .eq 5, 3) := dget dkX6_areSame_0 35 rfl
theorem dX6_areSame_66 : decode cX6_areSame 66 = .ok (.iconst 0, 1) := dget dkX6_areSame_0 36 rfl
theorem dX6_areSame_67 : decode cX6_areSame 67 = .ok (.ireturn, 1) := dget dkX6_areSame_0 37 rfl
theorem dX6_areSame_68 : decode cX6_areSame 68 = .ok (.iinc 4 1, 3) := dget dkX6_areSame_0 38 rfl
theorem dX6_areSame_71 : decode cX6_areSame 71 = .ok (.goto (-31), 3) := dget dkX6_areSame_0 39 rfl
theorem dkX6_areSame_1 : ([(74, (.iinc 3 1, 3)), (77, (.goto (-46), 3)), (80, (.iconst 1, 1)), (81, (.ireturn, 1))] : List (Nat × (Jvm.ClassFile.Instr × Nat))).all (dcB cX6_areSame) = true := by decide +kernel
theorem dX6_areSame_74 : decode cX6_areSame 74 = .ok (.iinc 3 1, 3) := dget dkX6_areSame_1 0 rfl
theorem dX6_areSame_77 : decode cX6_areSame 77 = .ok (.goto (-46), 3) := dget dkX6_areSame_1 1 rfl
theorem dX6_areSame_80 : decode cX6_areSame 80 = .ok (.iconst 1, 1) := dget dkX6_areSame_1 2 rfl
theorem dX6_areSame_81 : decode cX6_areSame 81 = .ok (.ireturn, 1) := dget dkX6_areSame_1 3 rfl
theorem ggX6_apart_X6_isNoOrder : GoodIn wsX6_apart wsX6_isNoOrder := tgCall 715 e_X6_isNoOrder (by decide +kernel)
theorem gX6_apart_X6_isNoOrder : GoodIn wsX6_apart (va_wsS RX6 86 yX6_isNoOrder wsX6_isNoOrder) := goodIn_app (tgIn [713, 714, 684] (by decide +kernel) rfl) ggX6_apart_X6_isNoOrder
theorem ggX6_apart_X6_start : GoodIn wsX6_apart wsX6_start := tgCall 692 e_X6_start (by decide +kernel)
theorem gX6_apart_X6_start : GoodIn wsX6_apart (wsV RX6 69 RX6 yX6_start wsX6_start) := goodIn_app (tgIn [689, 690, 691, 684] (by decide +kernel) rfl) ggX6_apart_X6_start
theorem ggX6_apart_X6_apartNow : GoodIn wsX6_apart wsX6_apartNow := tgCall 822 e_X6_apartNow (by decide +kernel)
theorem gX6_apart_X6_apartNow : GoodIn wsX6_apart (wsV RX6 148 RX6 yX6_apartNow wsX6_apartNow) := goodIn_app (tgIn [819, 820, 821, 684] (by decide +kernel) rfl) ggX6_apart_X6_apartNow
theorem dkX6_apart_0 : ([(0, (.aload_n 0, 1)), (1, (.iload_n 1, 1)), (2, (.invokestatic 86, 3)), (5, (.ifCond .ne 10, 3)), (8, (.iload_n 2, 1)), (9, (.invokestatic 86, 3)), (12, (.ifCond .eq 7, 3)), (15, (.iconst 1, 1)), (16, (.goto 4, 3)), (19, (.iconst 0, 1)), (20, (.iconst 1, 1)), (21, (.invokevirtual 69, 3)), (24, (.ifCond .eq 7, 3)), (27, (.iconst 0, 1)), (28, (.goto 9, 3)), (31, (.aload_n 0, 1)), (32, (.iload_n 1, 1)), (33, (.iload_n 2, 1)), (34, (.invokevirtual 148, 3)), (37, (.ireturn, 1))] : List (Nat × (Jvm.ClassFile.Instr × Nat))).all (dcB cX6_apart) = true := by decide +kernel
theorem dX6_apart_0 : decode cX6_apart 0 = .ok (.aload_n 0, 1) := dget dkX6_apart_0 0 rfl
theorem dX6_apart_1 : decode cX6_apart 1 = .ok (.iload_n 1, 1) := dget dkX6_apart_0 1 rfl
theorem dX6_apart_2 : decode cX6_apart 2 = .ok (.invokestatic 86, 3) := dget dkX6_apart_0 2 rfl
theorem dX6_apart_5 : decode cX6_apart 5 = .ok (.ifCond .ne 10, 3) := dget dkX6_apart_0 3 rfl
theorem dX6_apart_8 : decode cX6_apart 8 = .ok (.iload_n 2, 1) := dget dkX6_apart_0 4 rfl
theorem dX6_apart_9 : decode cX6_apart 9 = .ok (.invokestatic 86, 3) := dget dkX6_apart_0 5 rfl
theorem dX6_apart_12 : decode cX6_apart 12 = .ok (.ifCond .eq 7, 3) := dget dkX6_apart_0 6 rfl
theorem dX6_apart_15 : decode cX6_apart 15 = .ok (.iconst 1, 1) := dget dkX6_apart_0 7 rfl
theorem dX6_apart_16 : decode cX6_apart 16 = .ok (.goto 4, 3) := dget dkX6_apart_0 8 rfl
theorem dX6_apart_19 : decode cX6_apart 19 = .ok (.iconst 0, 1) := dget dkX6_apart_0 9 rfl
theorem dX6_apart_20 : decode cX6_apart 20 = .ok (.iconst 1, 1) := dget dkX6_apart_0 10 rfl
theorem dX6_apart_21 : decode cX6_apart 21 = .ok (.invokevirtual 69, 3) := dget dkX6_apart_0 11 rfl
theorem dX6_apart_24 : decode cX6_apart 24 = .ok (.ifCond .eq 7, 3) := dget dkX6_apart_0 12 rfl
theorem dX6_apart_27 : decode cX6_apart 27 = .ok (.iconst 0, 1) := dget dkX6_apart_0 13 rfl
theorem dX6_apart_28 : decode cX6_apart 28 = .ok (.goto 9, 3) := dget dkX6_apart_0 14 rfl
theorem dX6_apart_31 : decode cX6_apart 31 = .ok (.aload_n 0, 1) := dget dkX6_apart_0 15 rfl
theorem dX6_apart_32 : decode cX6_apart 32 = .ok (.iload_n 1, 1) := dget dkX6_apart_0 16 rfl
theorem dX6_apart_33 : decode cX6_apart 33 = .ok (.iload_n 2, 1) := dget dkX6_apart_0 17 rfl
theorem dX6_apart_34 : decode cX6_apart 34 = .ok (.invokevirtual 148, 3) := dget dkX6_apart_0 18 rfl
theorem dX6_apart_37 : decode cX6_apart 37 = .ok (.ireturn, 1) := dget dkX6_apart_0 19 rfl
theorem ggX6_classes_X6_isNoOrder : GoodIn wsX6_classes wsX6_isNoOrder := tgCall 715 e_X6_isNoOrder (by decide +kernel)
theorem gX6_classes_X6_isNoOrder : GoodIn wsX6_classes (va_wsS RX6 86 yX6_isNoOrder wsX6_isNoOrder) := goodIn_app (tgIn [713, 714, 684] (by decide +kernel) rfl) ggX6_classes_X6_isNoOrder
theorem ggX6_classes_X6_start : GoodIn wsX6_classes wsX6_start := tgCall 692 e_X6_start (by decide +kernel)
theorem gX6_classes_X6_start : GoodIn wsX6_classes (wsV RX6 69 RX6 yX6_start wsX6_start) := goodIn_app (tgIn [689, 690, 691, 684] (by decide +kernel) rfl) ggX6_classes_X6_start
theorem ggX6_classes_X6_classesNow : GoodIn wsX6_classes wsX6_classesNow := tgCall 810 e_X6_classesNow (by decide +kernel)
theorem gX6_classes_X6_classesNow : GoodIn wsX6_classes (wsV RX6 137 RX6 yX6_classesNow wsX6_classesNow) := goodIn_app (tgIn [807, 808, 809, 684] (by decide +kernel) rfl) ggX6_classes_X6_classesNow
theorem dkX6_classes_0 : ([(0, (.aload_n 0, 1)), (1, (.iload_n 1, 1)), (2, (.invokestatic 86, 3)), (5, (.iconst 1, 1)), (6, (.invokevirtual 69, 3)), (9, (.ifCond .eq 7, 3)), (12, (.iconst 0, 1)), (13, (.goto 8, 3)), (16, (.aload_n 0, 1)), (17, (.iload_n 1, 1)), (18, (.invokevirtual 137, 3)), (21, (.ireturn, 1))] : List (Nat × (Jvm.ClassFile.Instr × Nat))).all (dcB cX6_classes) = true := by decide +kernel
theorem dX6_classes_0 : decode cX6_classes 0 = .ok (.aload_n 0, 1) := dget dkX6_classes_0 0 rfl
theorem dX6_classes_1 : decode cX6_classes 1 = .ok (.iload_n 1, 1) := dget dkX6_classes_0 1 rfl
theorem dX6_classes_2 : decode cX6_classes 2 = .ok (.invokestatic 86, 3) := dget dkX6_classes_0 2 rfl
theorem dX6_classes_5 : decode cX6_classes 5 = .ok (.iconst 1, 1) := dget dkX6_classes_0 3 rfl
theorem dX6_classes_6 : decode cX6_classes 6 = .ok (.invokevirtual 69, 3) := dget dkX6_classes_0 4 rfl
theorem dX6_classes_9 : decode cX6_classes 9 = .ok (.ifCond .eq 7, 3) := dget dkX6_classes_0 5 rfl
theorem dX6_classes_12 : decode cX6_classes 12 = .ok (.iconst 0, 1) := dget dkX6_classes_0 6 rfl
theorem dX6_classes_13 : decode cX6_classes 13 = .ok (.goto 8, 3) := dget dkX6_classes_0 7 rfl
theorem dX6_classes_16 : decode cX6_classes 16 = .ok (.aload_n 0, 1) := dget dkX6_classes_0 8 rfl
theorem dX6_classes_17 : decode cX6_classes 17 = .ok (.iload_n 1, 1) := dget dkX6_classes_0 9 rfl
theorem dX6_classes_18 : decode cX6_classes 18 = .ok (.invokevirtual 137, 3) := dget dkX6_classes_0 10 rfl
theorem dX6_classes_21 : decode cX6_classes 21 = .ok (.ireturn, 1) := dget dkX6_classes_0 11 rfl
theorem ggX6_rank_X6_isNoOrder : GoodIn wsX6_rank wsX6_isNoOrder := tgCall 715 e_X6_isNoOrder (by decide +kernel)
theorem gX6_rank_X6_isNoOrder : GoodIn wsX6_rank (va_wsS RX6 86 yX6_isNoOrder wsX6_isNoOrder) := goodIn_app (tgIn [713, 714, 684] (by decide +kernel) rfl) ggX6_rank_X6_isNoOrder
theorem ggX6_rank_X6_start : GoodIn wsX6_rank wsX6_start := tgCall 692 e_X6_start (by decide +kernel)
theorem gX6_rank_X6_start : GoodIn wsX6_rank (wsV RX6 69 RX6 yX6_start wsX6_start) := goodIn_app (tgIn [689, 690, 691, 684] (by decide +kernel) rfl) ggX6_rank_X6_start
theorem ggX6_rank_X6_isNoValue : GoodIn wsX6_rank wsX6_isNoValue := tgCall 700 e_X6_isNoValue (by decide +kernel)
theorem gX6_rank_X6_isNoValue : GoodIn wsX6_rank (va_wsS RX6 72 yX6_isNoValue wsX6_isNoValue) := goodIn_app (tgIn [698, 699, 684] (by decide +kernel) rfl) ggX6_rank_X6_isNoValue
theorem ggX6_rank_X6_refuse : GoodIn wsX6_rank wsX6_refuse := tgCall 697 e_X6_refuse (by decide +kernel)
theorem gX6_rank_X6_refuse : GoodIn wsX6_rank (wsV RX6 36 RX6 yX6_refuse wsX6_refuse) := goodIn_app (tgIn [694, 695, 696, 684] (by decide +kernel) rfl) ggX6_rank_X6_refuse
theorem ggX6_rank_X6_rankNow : GoodIn wsX6_rank wsX6_rankNow := tgCall 786 e_X6_rankNow (by decide +kernel)
theorem gX6_rank_X6_rankNow : GoodIn wsX6_rank (wsV RX6 115 RX6 yX6_rankNow wsX6_rankNow) := goodIn_app (tgIn [783, 784, 785, 684] (by decide +kernel) rfl) ggX6_rank_X6_rankNow
theorem dkX6_rank_0 : ([(0, (.aload_n 0, 1)), (1, (.iload_n 1, 1)), (2, (.invokestatic 86, 3)), (5, (.iconst 1, 1)), (6, (.invokevirtual 69, 3)), (9, (.ifCond .ne 15, 3)), (12, (.aload_n 0, 1)), (13, (.iload_n 2, 1)), (14, (.invokestatic 72, 3)), (17, (.iconst 2, 1)), (18, (.invokevirtual 36, 3)), (21, (.ifCond .eq 7, 3)), (24, (.iconst 0, 1)), (25, (.goto 9, 3)), (28, (.aload_n 0, 1)), (29, (.iload_n 1, 1)), (30, (.iload_n 2, 1)), (31, (.invokevirtual 115, 3)), (34, (.ireturn, 1))] : List (Nat × (Jvm.ClassFile.Instr × Nat))).all (dcB cX6_rank) = true := by decide +kernel
theorem dX6_rank_0 : decode cX6_rank 0 = .ok (.aload_n 0, 1) := dget dkX6_rank_0 0 rfl
theorem dX6_rank_1 : decode cX6_rank 1 = .ok (.iload_n 1, 1) := dget dkX6_rank_0 1 rfl
theorem dX6_rank_2 : decode cX6_rank 2 = .ok (.invokestatic 86, 3) := dget dkX6_rank_0 2 rfl
theorem dX6_rank_5 : decode cX6_rank 5 = .ok (.iconst 1, 1) := dget dkX6_rank_0 3 rfl
theorem dX6_rank_6 : decode cX6_rank 6 = .ok (.invokevirtual 69, 3) := dget dkX6_rank_0 4 rfl
theorem dX6_rank_9 : decode cX6_rank 9 = .ok (.ifCond .ne 15, 3) := dget dkX6_rank_0 5 rfl
theorem dX6_rank_12 : decode cX6_rank 12 = .ok (.aload_n 0, 1) := dget dkX6_rank_0 6 rfl
theorem dX6_rank_13 : decode cX6_rank 13 = .ok (.iload_n 2, 1) := dget dkX6_rank_0 7 rfl
theorem dX6_rank_14 : decode cX6_rank 14 = .ok (.invokestatic 72, 3) := dget dkX6_rank_0 8 rfl
theorem dX6_rank_17 : decode cX6_rank 17 = .ok (.iconst 2, 1) := dget dkX6_rank_0 9 rfl
theorem dX6_rank_18 : decode cX6_rank 18 = .ok (.invokevirtual 36, 3) := dget dkX6_rank_0 10 rfl
theorem dX6_rank_21 : decode cX6_rank 21 = .ok (.ifCond .eq 7, 3) := dget dkX6_rank_0 11 rfl
theorem dX6_rank_24 : decode cX6_rank 24 = .ok (.iconst 0, 1) := dget dkX6_rank_0 12 rfl
theorem dX6_rank_25 : decode cX6_rank 25 = .ok (.goto 9, 3) := dget dkX6_rank_0 13 rfl
theorem dX6_rank_28 : decode cX6_rank 28 = .ok (.aload_n 0, 1) := dget dkX6_rank_0 14 rfl
theorem dX6_rank_29 : decode cX6_rank 29 = .ok (.iload_n 1, 1) := dget dkX6_rank_0 15 rfl
theorem dX6_rank_30 : decode cX6_rank 30 = .ok (.iload_n 2, 1) := dget dkX6_rank_0 16 rfl
theorem dX6_rank_31 : decode cX6_rank 31 = .ok (.invokevirtual 115, 3) := dget dkX6_rank_0 17 rfl
theorem dX6_rank_34 : decode cX6_rank 34 = .ok (.ireturn, 1) := dget dkX6_rank_0 18 rfl
theorem ggX6_keyOf_X6_isNo : GoodIn wsX6_keyOf wsX6_isNo := tgCall 688 e_X6_isNo (by decide +kernel)
theorem gX6_keyOf_X6_isNo : GoodIn wsX6_keyOf (va_wsS RX6 40 yX6_isNo wsX6_isNo) := goodIn_app (tgIn [686, 687, 684] (by decide +kernel) rfl) ggX6_keyOf_X6_isNo
theorem ggX6_keyOf_X6_isNoValue : GoodIn wsX6_keyOf wsX6_isNoValue := tgCall 700 e_X6_isNoValue (by decide +kernel)
theorem gX6_keyOf_X6_isNoValue : GoodIn wsX6_keyOf (va_wsS RX6 72 yX6_isNoValue wsX6_isNoValue) := goodIn_app (tgIn [698, 699, 684] (by decide +kernel) rfl) ggX6_keyOf_X6_isNoValue
theorem ggX6_keyOf_X6_start : GoodIn wsX6_keyOf wsX6_start := tgCall 692 e_X6_start (by decide +kernel)
theorem gX6_keyOf_X6_start : GoodIn wsX6_keyOf (wsV RX6 69 RX6 yX6_start wsX6_start) := goodIn_app (tgIn [689, 690, 691, 684] (by decide +kernel) rfl) ggX6_keyOf_X6_start
theorem ggX6_keyOf_X6_keyNow : GoodIn wsX6_keyOf wsX6_keyNow := tgCall 729 e_X6_keyNow (by decide +kernel)
theorem gX6_keyOf_X6_keyNow : GoodIn wsX6_keyOf (va_wsS RX6 47 yX6_keyNow wsX6_keyNow) := goodIn_app (tgIn [727, 728, 684] (by decide +kernel) rfl) ggX6_keyOf_X6_keyNow
theorem dkX6_keyOf_0 : ([(0, (.aload_n 0, 1)), (1, (.iload_n 1, 1)), (2, (.bipush 7, 2)), (4, (.invokestatic 40, 3)), (7, (.ifCond .ne 10, 3)), (10, (.iload_n 2, 1)), (11, (.invokestatic 72, 3)), (14, (.ifCond .eq 7, 3)), (17, (.iconst 1, 1)), (18, (.goto 4, 3)), (21, (.iconst 0, 1)), (22, (.iconst 1, 1)), (23, (.invokevirtual 69, 3)), (26, (.ifCond .eq 7, 3)), (29, (.iconst 0, 1)), (30, (.goto 8, 3)), (33, (.iload_n 1, 1)), (34, (.iload_n 2, 1)), (35, (.invokestatic 47, 3)), (38, (.ireturn, 1))] : List (Nat × (Jvm.ClassFile.Instr × Nat))).all (dcB cX6_keyOf) = true := by decide +kernel
theorem dX6_keyOf_0 : decode cX6_keyOf 0 = .ok (.aload_n 0, 1) := dget dkX6_keyOf_0 0 rfl
theorem dX6_keyOf_1 : decode cX6_keyOf 1 = .ok (.iload_n 1, 1) := dget dkX6_keyOf_0 1 rfl
theorem dX6_keyOf_2 : decode cX6_keyOf 2 = .ok (.bipush 7, 2) := dget dkX6_keyOf_0 2 rfl
theorem dX6_keyOf_4 : decode cX6_keyOf 4 = .ok (.invokestatic 40, 3) := dget dkX6_keyOf_0 3 rfl
theorem dX6_keyOf_7 : decode cX6_keyOf 7 = .ok (.ifCond .ne 10, 3) := dget dkX6_keyOf_0 4 rfl
theorem dX6_keyOf_10 : decode cX6_keyOf 10 = .ok (.iload_n 2, 1) := dget dkX6_keyOf_0 5 rfl
theorem dX6_keyOf_11 : decode cX6_keyOf 11 = .ok (.invokestatic 72, 3) := dget dkX6_keyOf_0 6 rfl
theorem dX6_keyOf_14 : decode cX6_keyOf 14 = .ok (.ifCond .eq 7, 3) := dget dkX6_keyOf_0 7 rfl
theorem dX6_keyOf_17 : decode cX6_keyOf 17 = .ok (.iconst 1, 1) := dget dkX6_keyOf_0 8 rfl
theorem dX6_keyOf_18 : decode cX6_keyOf 18 = .ok (.goto 4, 3) := dget dkX6_keyOf_0 9 rfl
theorem dX6_keyOf_21 : decode cX6_keyOf 21 = .ok (.iconst 0, 1) := dget dkX6_keyOf_0 10 rfl
theorem dX6_keyOf_22 : decode cX6_keyOf 22 = .ok (.iconst 1, 1) := dget dkX6_keyOf_0 11 rfl
theorem dX6_keyOf_23 : decode cX6_keyOf 23 = .ok (.invokevirtual 69, 3) := dget dkX6_keyOf_0 12 rfl
theorem dX6_keyOf_26 : decode cX6_keyOf 26 = .ok (.ifCond .eq 7, 3) := dget dkX6_keyOf_0 13 rfl
theorem dX6_keyOf_29 : decode cX6_keyOf 29 = .ok (.iconst 0, 1) := dget dkX6_keyOf_0 14 rfl
theorem dX6_keyOf_30 : decode cX6_keyOf 30 = .ok (.goto 8, 3) := dget dkX6_keyOf_0 15 rfl
theorem dX6_keyOf_33 : decode cX6_keyOf 33 = .ok (.iload_n 1, 1) := dget dkX6_keyOf_0 16 rfl
theorem dX6_keyOf_34 : decode cX6_keyOf 34 = .ok (.iload_n 2, 1) := dget dkX6_keyOf_0 17 rfl
theorem dX6_keyOf_35 : decode cX6_keyOf 35 = .ok (.invokestatic 47, 3) := dget dkX6_keyOf_0 18 rfl
theorem dX6_keyOf_38 : decode cX6_keyOf 38 = .ok (.ireturn, 1) := dget dkX6_keyOf_0 19 rfl
theorem dkX6_knock_0 : ([(0, (.aload_n 0, 1)), (1, (.iconst 0, 1)), (2, (.putfield 32, 3)), (5, (.aload_n 0, 1)), (6, (.dup, 1)), (7, (.getfield 151, 3)), (10, (.iconst 1, 1)), (11, (.iadd, 1)), (12, (.dup_x1, 1)), (13, (.putfield 151, 3)), (16, (.ireturn, 1))] : List (Nat × (Jvm.ClassFile.Instr × Nat))).all (dcB cX6_knock) = true := by decide +kernel
theorem dX6_knock_0 : decode cX6_knock 0 = .ok (.aload_n 0, 1) := dget dkX6_knock_0 0 rfl
theorem dX6_knock_1 : decode cX6_knock 1 = .ok (.iconst 0, 1) := dget dkX6_knock_0 1 rfl
theorem dX6_knock_2 : decode cX6_knock 2 = .ok (.putfield 32, 3) := dget dkX6_knock_0 2 rfl
theorem dX6_knock_5 : decode cX6_knock 5 = .ok (.aload_n 0, 1) := dget dkX6_knock_0 3 rfl
theorem dX6_knock_6 : decode cX6_knock 6 = .ok (.dup, 1) := dget dkX6_knock_0 4 rfl
theorem dX6_knock_7 : decode cX6_knock 7 = .ok (.getfield 151, 3) := dget dkX6_knock_0 5 rfl
theorem dX6_knock_10 : decode cX6_knock 10 = .ok (.iconst 1, 1) := dget dkX6_knock_0 6 rfl
theorem dX6_knock_11 : decode cX6_knock 11 = .ok (.iadd, 1) := dget dkX6_knock_0 7 rfl
theorem dX6_knock_12 : decode cX6_knock 12 = .ok (.dup_x1, 1) := dget dkX6_knock_0 8 rfl
theorem dX6_knock_13 : decode cX6_knock 13 = .ok (.putfield 151, 3) := dget dkX6_knock_0 9 rfl
theorem dX6_knock_16 : decode cX6_knock 16 = .ok (.ireturn, 1) := dget dkX6_knock_0 10 rfl
def dvX6_houseNow_0 : List UInt8 := [3, 61, 3, 62, 42, 180, 0, 17, 58, 4, 25, 4, 190, 54, 5, 3, 54, 6, 21, 6, 21, 5, 162, 0, 21, 25, 4, 21, 6, 46, 54, 7, 28, 21, 7, 96, 61, 132, 6, 1, 167, 255, 234, 42, 180, 0, 29, 58, 4, 25, 4, 190, 54, 5, 3]
theorem dwX6_houseNow_0 : (cX6_houseNow.data.toList.drop 0).take dvX6_houseNow_0.length = dvX6_houseNow_0 := by decide +kernel
theorem dkX6_houseNow_0 : ([(0, (.iconst 0, 1)), (1, (.istore_n 2, 1)), (2, (.iconst 0, 1)), (3, (.istore_n 3, 1)), (4, (.aload_n 0, 1)), (5, (.getfield 17, 3)), (8, (.astore 4, 2)), (10, (.aload 4, 2)), (12, (.arraylength, 1)), (13, (.istore 5, 2)), (15, (.iconst 0, 1)), (16, (.istore 6, 2)), (18, (.iload 6, 2)), (20, (.iload 5, 2)), (22, (.if_icmp .ge 21, 3)), (25, (.aload 4, 2)), (27, (.iload 6, 2)), (29, (.iaload, 1)), (30, (.istore 7, 2)), (32, (.iload_n 2, 1)), (33, (.iload 7, 2)), (35, (.iadd, 1)), (36, (.istore_n 2, 1)), (37, (.iinc 6 1, 3)), (40, (.goto (-22), 3)), (43, (.aload_n 0, 1)), (44, (.getfield 29, 3)), (47, (.astore 4, 2)), (49, (.aload 4, 2)), (51, (.arraylength, 1)), (52, (.istore 5, 2)), (54, (.iconst 0, 1))] : List (Nat × (Jvm.ClassFile.Instr × Nat))).all (wnL dvX6_houseNow_0 0) = true := by decide +kernel
theorem dX6_houseNow_0 : decode cX6_houseNow 0 = .ok (.iconst 0, 1) := wnGet dwX6_houseNow_0 dkX6_houseNow_0 0 rfl
theorem dX6_houseNow_1 : decode cX6_houseNow 1 = .ok (.istore_n 2, 1) := wnGet dwX6_houseNow_0 dkX6_houseNow_0 1 rfl
theorem dX6_houseNow_2 : decode cX6_houseNow 2 = .ok (.iconst 0, 1) := wnGet dwX6_houseNow_0 dkX6_houseNow_0 2 rfl
theorem dX6_houseNow_3 : decode cX6_houseNow 3 = .ok (.istore_n 3, 1) := wnGet dwX6_houseNow_0 dkX6_houseNow_0 3 rfl
theorem dX6_houseNow_4 : decode cX6_houseNow 4 = .ok (.aload_n 0, 1) := wnGet dwX6_houseNow_0 dkX6_houseNow_0 4 rfl
theorem dX6_houseNow_5 : decode cX6_houseNow 5 = .ok (.getfield 17, 3) := wnGet dwX6_houseNow_0 dkX6_houseNow_0 5 rfl
theorem dX6_houseNow_8 : decode cX6_houseNow 8 = .ok (.astore 4, 2) := wnGet dwX6_houseNow_0 dkX6_houseNow_0 6 rfl
theorem dX6_houseNow_10 : decode cX6_houseNow 10 = .ok (.aload 4, 2) := wnGet dwX6_houseNow_0 dkX6_houseNow_0 7 rfl
theorem dX6_houseNow_12 : decode cX6_houseNow 12 = .ok (.arraylength, 1) := wnGet dwX6_houseNow_0 dkX6_houseNow_0 8 rfl
theorem dX6_houseNow_13 : decode cX6_houseNow 13 = .ok (.istore 5, 2) := wnGet dwX6_houseNow_0 dkX6_houseNow_0 9 rfl
theorem dX6_houseNow_15 : decode cX6_houseNow 15 = .ok (.iconst 0, 1) := wnGet dwX6_houseNow_0 dkX6_houseNow_0 10 rfl
theorem dX6_houseNow_16 : decode cX6_houseNow 16 = .ok (.istore 6, 2) := wnGet dwX6_houseNow_0 dkX6_houseNow_0 11 rfl
theorem dX6_houseNow_18 : decode cX6_houseNow 18 = .ok (.iload 6, 2) := wnGet dwX6_houseNow_0 dkX6_houseNow_0 12 rfl
theorem dX6_houseNow_20 : decode cX6_houseNow 20 = .ok (.iload 5, 2) := wnGet dwX6_houseNow_0 dkX6_houseNow_0 13 rfl
theorem dX6_houseNow_22 : decode cX6_houseNow 22 = .ok (.if_icmp .ge 21, 3) := wnGet dwX6_houseNow_0 dkX6_houseNow_0 14 rfl
theorem dX6_houseNow_25 : decode cX6_houseNow 25 = .ok (.aload 4, 2) := wnGet dwX6_houseNow_0 dkX6_houseNow_0 15 rfl
theorem dX6_houseNow_27 : decode cX6_houseNow 27 = .ok (.iload 6, 2) := wnGet dwX6_houseNow_0 dkX6_houseNow_0 16 rfl
theorem dX6_houseNow_29 : decode cX6_houseNow 29 = .ok (.iaload, 1) := wnGet dwX6_houseNow_0 dkX6_houseNow_0 17 rfl
theorem dX6_houseNow_30 : decode cX6_houseNow 30 = .ok (.istore 7, 2) := wnGet dwX6_houseNow_0 dkX6_houseNow_0 18 rfl
theorem dX6_houseNow_32 : decode cX6_houseNow 32 = .ok (.iload_n 2, 1) := wnGet dwX6_houseNow_0 dkX6_houseNow_0 19 rfl
theorem dX6_houseNow_33 : decode cX6_houseNow 33 = .ok (.iload 7, 2) := wnGet dwX6_houseNow_0 dkX6_houseNow_0 20 rfl
theorem dX6_houseNow_35 : decode cX6_houseNow 35 = .ok (.iadd, 1) := wnGet dwX6_houseNow_0 dkX6_houseNow_0 21 rfl
theorem dX6_houseNow_36 : decode cX6_houseNow 36 = .ok (.istore_n 2, 1) := wnGet dwX6_houseNow_0 dkX6_houseNow_0 22 rfl
theorem dX6_houseNow_37 : decode cX6_houseNow 37 = .ok (.iinc 6 1, 3) := wnGet dwX6_houseNow_0 dkX6_houseNow_0 23 rfl
theorem dX6_houseNow_40 : decode cX6_houseNow 40 = .ok (.goto (-22), 3) := wnGet dwX6_houseNow_0 dkX6_houseNow_0 24 rfl
theorem dX6_houseNow_43 : decode cX6_houseNow 43 = .ok (.aload_n 0, 1) := wnGet dwX6_houseNow_0 dkX6_houseNow_0 25 rfl
theorem dX6_houseNow_44 : decode cX6_houseNow 44 = .ok (.getfield 29, 3) := wnGet dwX6_houseNow_0 dkX6_houseNow_0 26 rfl
theorem dX6_houseNow_47 : decode cX6_houseNow 47 = .ok (.astore 4, 2) := wnGet dwX6_houseNow_0 dkX6_houseNow_0 27 rfl
theorem dX6_houseNow_49 : decode cX6_houseNow 49 = .ok (.aload 4, 2) := wnGet dwX6_houseNow_0 dkX6_houseNow_0 28 rfl
theorem dX6_houseNow_51 : decode cX6_houseNow 51 = .ok (.arraylength, 1) := wnGet dwX6_houseNow_0 dkX6_houseNow_0 29 rfl
theorem dX6_houseNow_52 : decode cX6_houseNow 52 = .ok (.istore 5, 2) := wnGet dwX6_houseNow_0 dkX6_houseNow_0 30 rfl
theorem dX6_houseNow_54 : decode cX6_houseNow 54 = .ok (.iconst 0, 1) := wnGet dwX6_houseNow_0 dkX6_houseNow_0 31 rfl
def dvX6_houseNow_1 : List UInt8 := [54, 6, 21, 6, 21, 5, 162, 0, 21, 25, 4, 21, 6, 46, 54, 7, 29, 21, 7, 96, 62, 132, 6, 1, 167, 255, 234, 27, 154, 0, 7, 28, 167, 0, 40, 27, 4, 160, 0, 7, 29, 167, 0, 31, 27, 5, 160, 0, 10, 42, 180, 0, 62, 167, 0, 19, 27, 6, 160, 0, 10]
theorem dwX6_houseNow_1 : (cX6_houseNow.data.toList.drop 55).take dvX6_houseNow_1.length = dvX6_houseNow_1 := by decide +kernel
theorem dkX6_houseNow_1 : ([(55, (.istore 6, 2)), (57, (.iload 6, 2)), (59, (.iload 5, 2)), (61, (.if_icmp .ge 21, 3)), (64, (.aload 4, 2)), (66, (.iload 6, 2)), (68, (.iaload, 1)), (69, (.istore 7, 2)), (71, (.iload_n 3, 1)), (72, (.iload 7, 2)), (74, (.iadd, 1)), (75, (.istore_n 3, 1)), (76, (.iinc 6 1, 3)), (79, (.goto (-22), 3)), (82, (.iload_n 1, 1)), (83, (.ifCond .ne 7, 3)), (86, (.iload_n 2, 1)), (87, (.goto 40, 3)), (90, (.iload_n 1, 1)), (91, (.iconst 1, 1)), (92, (.if_icmp .ne 7, 3)), (95, (.iload_n 3, 1)), (96, (.goto 31, 3)), (99, (.iload_n 1, 1)), (100, (.iconst 2, 1)), (101, (.if_icmp .ne 10, 3)), (104, (.aload_n 0, 1)), (105, (.getfield 62, 3)), (108, (.goto 19, 3)), (111, (.iload_n 1, 1)), (112, (.iconst 3, 1)), (113, (.if_icmp .ne 10, 3))] : List (Nat × (Jvm.ClassFile.Instr × Nat))).all (wnL dvX6_houseNow_1 55) = true := by decide +kernel
theorem dX6_houseNow_55 : decode cX6_houseNow 55 = .ok (.istore 6, 2) := wnGet dwX6_houseNow_1 dkX6_houseNow_1 0 rfl
theorem dX6_houseNow_57 : decode cX6_houseNow 57 = .ok (.iload 6, 2) := wnGet dwX6_houseNow_1 dkX6_houseNow_1 1 rfl
theorem dX6_houseNow_59 : decode cX6_houseNow 59 = .ok (.iload 5, 2) := wnGet dwX6_houseNow_1 dkX6_houseNow_1 2 rfl
theorem dX6_houseNow_61 : decode cX6_houseNow 61 = .ok (.if_icmp .ge 21, 3) := wnGet dwX6_houseNow_1 dkX6_houseNow_1 3 rfl
theorem dX6_houseNow_64 : decode cX6_houseNow 64 = .ok (.aload 4, 2) := wnGet dwX6_houseNow_1 dkX6_houseNow_1 4 rfl
theorem dX6_houseNow_66 : decode cX6_houseNow 66 = .ok (.iload 6, 2) := wnGet dwX6_houseNow_1 dkX6_houseNow_1 5 rfl
theorem dX6_houseNow_68 : decode cX6_houseNow 68 = .ok (.iaload, 1) := wnGet dwX6_houseNow_1 dkX6_houseNow_1 6 rfl
theorem dX6_houseNow_69 : decode cX6_houseNow 69 = .ok (.istore 7, 2) := wnGet dwX6_houseNow_1 dkX6_houseNow_1 7 rfl
theorem dX6_houseNow_71 : decode cX6_houseNow 71 = .ok (.iload_n 3, 1) := wnGet dwX6_houseNow_1 dkX6_houseNow_1 8 rfl
theorem dX6_houseNow_72 : decode cX6_houseNow 72 = .ok (.iload 7, 2) := wnGet dwX6_houseNow_1 dkX6_houseNow_1 9 rfl
theorem dX6_houseNow_74 : decode cX6_houseNow 74 = .ok (.iadd, 1) := wnGet dwX6_houseNow_1 dkX6_houseNow_1 10 rfl
theorem dX6_houseNow_75 : decode cX6_houseNow 75 = .ok (.istore_n 3, 1) := wnGet dwX6_houseNow_1 dkX6_houseNow_1 11 rfl
theorem dX6_houseNow_76 : decode cX6_houseNow 76 = .ok (.iinc 6 1, 3) := wnGet dwX6_houseNow_1 dkX6_houseNow_1 12 rfl
theorem dX6_houseNow_79 : decode cX6_houseNow 79 = .ok (.goto (-22), 3) := wnGet dwX6_houseNow_1 dkX6_houseNow_1 13 rfl
theorem dX6_houseNow_82 : decode cX6_houseNow 82 = .ok (.iload_n 1, 1) := wnGet dwX6_houseNow_1 dkX6_houseNow_1 14 rfl
theorem dX6_houseNow_83 : decode cX6_houseNow 83 = .ok (.ifCond .ne 7, 3) := wnGet dwX6_houseNow_1 dkX6_houseNow_1 15 rfl
theorem dX6_houseNow_86 : decode cX6_houseNow 86 = .ok (.iload_n 2, 1) := wnGet dwX6_houseNow_1 dkX6_houseNow_1 16 rfl
theorem dX6_houseNow_87 : decode cX6_houseNow 87 = .ok (.goto 40, 3) := wnGet dwX6_houseNow_1 dkX6_houseNow_1 17 rfl
theorem dX6_houseNow_90 : decode cX6_houseNow 90 = .ok (.iload_n 1, 1) := wnGet dwX6_houseNow_1 dkX6_houseNow_1 18 rfl
theorem dX6_houseNow_91 : decode cX6_houseNow 91 = .ok (.iconst 1, 1) := wnGet dwX6_houseNow_1 dkX6_houseNow_1 19 rfl
theorem dX6_houseNow_92 : decode cX6_houseNow 92 = .ok (.if_icmp .ne 7, 3) := wnGet dwX6_houseNow_1 dkX6_houseNow_1 20 rfl
theorem dX6_houseNow_95 : decode cX6_houseNow 95 = .ok (.iload_n 3, 1) := wnGet dwX6_houseNow_1 dkX6_houseNow_1 21 rfl
theorem dX6_houseNow_96 : decode cX6_houseNow 96 = .ok (.goto 31, 3) := wnGet dwX6_houseNow_1 dkX6_houseNow_1 22 rfl
theorem dX6_houseNow_99 : decode cX6_houseNow 99 = .ok (.iload_n 1, 1) := wnGet dwX6_houseNow_1 dkX6_houseNow_1 23 rfl
theorem dX6_houseNow_100 : decode cX6_houseNow 100 = .ok (.iconst 2, 1) := wnGet dwX6_houseNow_1 dkX6_houseNow_1 24 rfl
theorem dX6_houseNow_101 : decode cX6_houseNow 101 = .ok (.if_icmp .ne 10, 3) := wnGet dwX6_houseNow_1 dkX6_houseNow_1 25 rfl
theorem dX6_houseNow_104 : decode cX6_houseNow 104 = .ok (.aload_n 0, 1) := wnGet dwX6_houseNow_1 dkX6_houseNow_1 26 rfl
theorem dX6_houseNow_105 : decode cX6_houseNow 105 = .ok (.getfield 62, 3) := wnGet dwX6_houseNow_1 dkX6_houseNow_1 27 rfl
theorem dX6_houseNow_108 : decode cX6_houseNow 108 = .ok (.goto 19, 3) := wnGet dwX6_houseNow_1 dkX6_houseNow_1 28 rfl
theorem dX6_houseNow_111 : decode cX6_houseNow 111 = .ok (.iload_n 1, 1) := wnGet dwX6_houseNow_1 dkX6_houseNow_1 29 rfl
theorem dX6_houseNow_112 : decode cX6_houseNow 112 = .ok (.iconst 3, 1) := wnGet dwX6_houseNow_1 dkX6_houseNow_1 30 rfl
theorem dX6_houseNow_113 : decode cX6_houseNow 113 = .ok (.if_icmp .ne 10, 3) := wnGet dwX6_houseNow_1 dkX6_houseNow_1 31 rfl
def dvX6_houseNow_2 : List UInt8 := [42, 180, 0, 44, 167, 0, 7, 42, 180, 0, 151, 172]
theorem dwX6_houseNow_2 : (cX6_houseNow.data.toList.drop 116).take dvX6_houseNow_2.length = dvX6_houseNow_2 := by decide +kernel
theorem dkX6_houseNow_2 : ([(116, (.aload_n 0, 1)), (117, (.getfield 44, 3)), (120, (.goto 7, 3)), (123, (.aload_n 0, 1)), (124, (.getfield 151, 3)), (127, (.ireturn, 1))] : List (Nat × (Jvm.ClassFile.Instr × Nat))).all (wnL dvX6_houseNow_2 116) = true := by decide +kernel
theorem dX6_houseNow_116 : decode cX6_houseNow 116 = .ok (.aload_n 0, 1) := wnGet dwX6_houseNow_2 dkX6_houseNow_2 0 rfl
theorem dX6_houseNow_117 : decode cX6_houseNow 117 = .ok (.getfield 44, 3) := wnGet dwX6_houseNow_2 dkX6_houseNow_2 1 rfl
theorem dX6_houseNow_120 : decode cX6_houseNow 120 = .ok (.goto 7, 3) := wnGet dwX6_houseNow_2 dkX6_houseNow_2 2 rfl
theorem dX6_houseNow_123 : decode cX6_houseNow 123 = .ok (.aload_n 0, 1) := wnGet dwX6_houseNow_2 dkX6_houseNow_2 3 rfl
theorem dX6_houseNow_124 : decode cX6_houseNow 124 = .ok (.getfield 151, 3) := wnGet dwX6_houseNow_2 dkX6_houseNow_2 4 rfl
theorem dX6_houseNow_127 : decode cX6_houseNow 127 = .ok (.ireturn, 1) := wnGet dwX6_houseNow_2 dkX6_houseNow_2 5 rfl
theorem ggX6_house_X6_isNo : GoodIn wsX6_house wsX6_isNo := tgCall 688 e_X6_isNo (by decide +kernel)
theorem gX6_house_X6_isNo : GoodIn wsX6_house (va_wsS RX6 40 yX6_isNo wsX6_isNo) := goodIn_app (tgIn [686, 687, 684] (by decide +kernel) rfl) ggX6_house_X6_isNo
theorem ggX6_house_X6_start : GoodIn wsX6_house wsX6_start := tgCall 692 e_X6_start (by decide +kernel)
theorem gX6_house_X6_start : GoodIn wsX6_house (wsV RX6 69 RX6 yX6_start wsX6_start) := goodIn_app (tgIn [689, 690, 691, 684] (by decide +kernel) rfl) ggX6_house_X6_start
theorem ggX6_house_X6_houseNow : GoodIn wsX6_house wsX6_houseNow := tgCall 828 e_X6_houseNow (by decide +kernel)
theorem gX6_house_X6_houseNow : GoodIn wsX6_house (wsV RX6 154 RX6 yX6_houseNow wsX6_houseNow) := goodIn_app (tgIn [825, 826, 827, 684] (by decide +kernel) rfl) ggX6_house_X6_houseNow
theorem dkX6_house_0 : ([(0, (.aload_n 0, 1)), (1, (.iload_n 1, 1)), (2, (.iconst 4, 1)), (3, (.invokestatic 40, 3)), (6, (.iconst 1, 1)), (7, (.invokevirtual 69, 3)), (10, (.ifCond .eq 7, 3)), (13, (.iconst 0, 1)), (14, (.goto 8, 3)), (17, (.aload_n 0, 1)), (18, (.iload_n 1, 1)), (19, (.invokevirtual 154, 3)), (22, (.ireturn, 1))] : List (Nat × (Jvm.ClassFile.Instr × Nat))).all (dcB cX6_house) = true := by decide +kernel
theorem dX6_house_0 : decode cX6_house 0 = .ok (.aload_n 0, 1) := dget dkX6_house_0 0 rfl
theorem dX6_house_1 : decode cX6_house 1 = .ok (.iload_n 1, 1) := dget dkX6_house_0 1 rfl
theorem dX6_house_2 : decode cX6_house 2 = .ok (.iconst 4, 1) := dget dkX6_house_0 2 rfl
theorem dX6_house_3 : decode cX6_house 3 = .ok (.invokestatic 40, 3) := dget dkX6_house_0 3 rfl
theorem dX6_house_6 : decode cX6_house 6 = .ok (.iconst 1, 1) := dget dkX6_house_0 4 rfl
theorem dX6_house_7 : decode cX6_house 7 = .ok (.invokevirtual 69, 3) := dget dkX6_house_0 5 rfl
theorem dX6_house_10 : decode cX6_house 10 = .ok (.ifCond .eq 7, 3) := dget dkX6_house_0 6 rfl
theorem dX6_house_13 : decode cX6_house 13 = .ok (.iconst 0, 1) := dget dkX6_house_0 7 rfl
theorem dX6_house_14 : decode cX6_house 14 = .ok (.goto 8, 3) := dget dkX6_house_0 8 rfl
theorem dX6_house_17 : decode cX6_house 17 = .ok (.aload_n 0, 1) := dget dkX6_house_0 9 rfl
theorem dX6_house_18 : decode cX6_house 18 = .ok (.iload_n 1, 1) := dget dkX6_house_0 10 rfl
theorem dX6_house_19 : decode cX6_house 19 = .ok (.invokevirtual 154, 3) := dget dkX6_house_0 11 rfl
theorem dX6_house_22 : decode cX6_house 22 = .ok (.ireturn, 1) := dget dkX6_house_0 12 rfl
theorem dkX6_isSound_0 : ([(0, (.aload_n 0, 1)), (1, (.iconst 0, 1)), (2, (.putfield 32, 3)), (5, (.iconst 1, 1)), (6, (.ireturn, 1))] : List (Nat × (Jvm.ClassFile.Instr × Nat))).all (dcB cX6_isSound) = true := by decide +kernel
theorem dX6_isSound_0 : decode cX6_isSound 0 = .ok (.aload_n 0, 1) := dget dkX6_isSound_0 0 rfl
theorem dX6_isSound_1 : decode cX6_isSound 1 = .ok (.iconst 0, 1) := dget dkX6_isSound_0 1 rfl
theorem dX6_isSound_2 : decode cX6_isSound 2 = .ok (.putfield 32, 3) := dget dkX6_isSound_0 2 rfl
theorem dX6_isSound_5 : decode cX6_isSound 5 = .ok (.iconst 1, 1) := dget dkX6_isSound_0 3 rfl
theorem dX6_isSound_6 : decode cX6_isSound 6 = .ok (.ireturn, 1) := dget dkX6_isSound_0 4 rfl
theorem ggX6_digest_X6_houseNow : GoodIn wsX6_digest wsX6_houseNow := tgCall 828 e_X6_houseNow (by decide +kernel)
theorem gX6_digest_X6_houseNow : GoodIn wsX6_digest (wsV RX6 154 RX6 yX6_houseNow wsX6_houseNow) := goodIn_app (tgIn [825, 826, 827, 684] (by decide +kernel) rfl) ggX6_digest_X6_houseNow
theorem ggX6_digest_X6_classesNow : GoodIn wsX6_digest wsX6_classesNow := tgCall 810 e_X6_classesNow (by decide +kernel)
theorem gX6_digest_X6_classesNow : GoodIn wsX6_digest (wsV RX6 137 RX6 yX6_classesNow wsX6_classesNow) := goodIn_app (tgIn [807, 808, 809, 684] (by decide +kernel) rfl) ggX6_digest_X6_classesNow
theorem ggX6_digest_X6_rankNow : GoodIn wsX6_digest wsX6_rankNow := tgCall 786 e_X6_rankNow (by decide +kernel)
theorem gX6_digest_X6_rankNow : GoodIn wsX6_digest (wsV RX6 115 RX6 yX6_rankNow wsX6_rankNow) := goodIn_app (tgIn [783, 784, 785, 684] (by decide +kernel) rfl) ggX6_digest_X6_rankNow
theorem ggX6_digest_X6_apartNow : GoodIn wsX6_digest wsX6_apartNow := tgCall 822 e_X6_apartNow (by decide +kernel)
theorem gX6_digest_X6_apartNow : GoodIn wsX6_digest (wsV RX6 148 RX6 yX6_apartNow wsX6_apartNow) := goodIn_app (tgIn [819, 820, 821, 684] (by decide +kernel) rfl) ggX6_digest_X6_apartNow
theorem ggX6_digest_X6_isRefined : GoodIn wsX6_digest wsX6_isRefined := tgCall 818 e_X6_isRefined (by decide +kernel)
theorem gX6_digest_X6_isRefined : GoodIn wsX6_digest (wsV RX6 145 RX6 yX6_isRefined wsX6_isRefined) := goodIn_app (tgIn [815, 816, 817, 684] (by decide +kernel) rfl) ggX6_digest_X6_isRefined
theorem ggX6_digest_X6_kindsNow : GoodIn wsX6_digest wsX6_kindsNow := tgCall 794 e_X6_kindsNow (by decide +kernel)
theorem gX6_digest_X6_kindsNow : GoodIn wsX6_digest (wsV RX6 122 RX6 yX6_kindsNow wsX6_kindsNow) := goodIn_app (tgIn [791, 792, 793, 684] (by decide +kernel) rfl) ggX6_digest_X6_kindsNow
theorem ggX6_digest_X6_isInSequence : GoodIn wsX6_digest wsX6_isInSequence := tgCall 737 e_X6_isInSequence (by decide +kernel)
theorem gX6_digest_X6_isInSequence : GoodIn wsX6_digest (wsV RX6 92 RX6 yX6_isInSequence wsX6_isInSequence) := goodIn_app (tgIn [734, 735, 736, 684] (by decide +kernel) rfl) ggX6_digest_X6_isInSequence
def dvX6_digest_0 : List UInt8 := [42, 3, 181, 0, 32, 20, 0, 157, 64, 3, 62, 29, 8, 162, 0, 22, 31, 20, 0, 159, 105, 42, 29, 182, 0, 154, 133, 97, 64, 132, 3, 1, 167, 255, 235, 3, 62, 29, 6, 162, 0, 75, 31, 20, 0, 159, 105, 42, 180, 0, 17, 29]
theorem dwX6_digest_0 : (cX6_digest.data.toList.drop 0).take dvX6_digest_0.length = dvX6_digest_0 := by decide +kernel
theorem dkX6_digest_0 : ([(0, (.aload_n 0, 1)), (1, (.iconst 0, 1)), (2, (.putfield 32, 3)), (5, (.ldc2_w 157, 3)), (8, (.lstore_n 1, 1)), (9, (.iconst 0, 1)), (10, (.istore_n 3, 1)), (11, (.iload_n 3, 1)), (12, (.iconst 5, 1)), (13, (.if_icmp .ge 22, 3)), (16, (.lload_n 1, 1)), (17, (.ldc2_w 159, 3)), (20, (.lmul, 1)), (21, (.aload_n 0, 1)), (22, (.iload_n 3, 1)), (23, (.invokevirtual 154, 3)), (26, (.i2l, 1)), (27, (.ladd, 1)), (28, (.lstore_n 1, 1)), (29, (.iinc 3 1, 3)), (32, (.goto (-21), 3)), (35, (.iconst 0, 1)), (36, (.istore_n 3, 1)), (37, (.iload_n 3, 1)), (38, (.iconst 3, 1)), (39, (.if_icmp .ge 75, 3)), (42, (.lload_n 1, 1)), (43, (.ldc2_w 159, 3)), (46, (.lmul, 1)), (47, (.aload_n 0, 1)), (48, (.getfield 17, 3)), (51, (.iload_n 3, 1))] : List (Nat × (Jvm.ClassFile.Instr × Nat))).all (wnL dvX6_digest_0 0) = true := by decide +kernel
theorem dX6_digest_0 : decode cX6_digest 0 = .ok (.aload_n 0, 1) := wnGet dwX6_digest_0 dkX6_digest_0 0 rfl
theorem dX6_digest_1 : decode cX6_digest 1 = .ok (.iconst 0, 1) := wnGet dwX6_digest_0 dkX6_digest_0 1 rfl
theorem dX6_digest_2 : decode cX6_digest 2 = .ok (.putfield 32, 3) := wnGet dwX6_digest_0 dkX6_digest_0 2 rfl
theorem dX6_digest_5 : decode cX6_digest 5 = .ok (.ldc2_w 157, 3) := wnGet dwX6_digest_0 dkX6_digest_0 3 rfl
theorem dX6_digest_8 : decode cX6_digest 8 = .ok (.lstore_n 1, 1) := wnGet dwX6_digest_0 dkX6_digest_0 4 rfl
theorem dX6_digest_9 : decode cX6_digest 9 = .ok (.iconst 0, 1) := wnGet dwX6_digest_0 dkX6_digest_0 5 rfl
theorem dX6_digest_10 : decode cX6_digest 10 = .ok (.istore_n 3, 1) := wnGet dwX6_digest_0 dkX6_digest_0 6 rfl
theorem dX6_digest_11 : decode cX6_digest 11 = .ok (.iload_n 3, 1) := wnGet dwX6_digest_0 dkX6_digest_0 7 rfl
theorem dX6_digest_12 : decode cX6_digest 12 = .ok (.iconst 5, 1) := wnGet dwX6_digest_0 dkX6_digest_0 8 rfl
theorem dX6_digest_13 : decode cX6_digest 13 = .ok (.if_icmp .ge 22, 3) := wnGet dwX6_digest_0 dkX6_digest_0 9 rfl
theorem dX6_digest_16 : decode cX6_digest 16 = .ok (.lload_n 1, 1) := wnGet dwX6_digest_0 dkX6_digest_0 10 rfl
theorem dX6_digest_17 : decode cX6_digest 17 = .ok (.ldc2_w 159, 3) := wnGet dwX6_digest_0 dkX6_digest_0 11 rfl
theorem dX6_digest_20 : decode cX6_digest 20 = .ok (.lmul, 1) := wnGet dwX6_digest_0 dkX6_digest_0 12 rfl
theorem dX6_digest_21 : decode cX6_digest 21 = .ok (.aload_n 0, 1) := wnGet dwX6_digest_0 dkX6_digest_0 13 rfl
theorem dX6_digest_22 : decode cX6_digest 22 = .ok (.iload_n 3, 1) := wnGet dwX6_digest_0 dkX6_digest_0 14 rfl
theorem dX6_digest_23 : decode cX6_digest 23 = .ok (.invokevirtual 154, 3) := wnGet dwX6_digest_0 dkX6_digest_0 15 rfl
theorem dX6_digest_26 : decode cX6_digest 26 = .ok (.i2l, 1) := wnGet dwX6_digest_0 dkX6_digest_0 16 rfl
theorem dX6_digest_27 : decode cX6_digest 27 = .ok (.ladd, 1) := wnGet dwX6_digest_0 dkX6_digest_0 17 rfl
theorem dX6_digest_28 : decode cX6_digest 28 = .ok (.lstore_n 1, 1) := wnGet dwX6_digest_0 dkX6_digest_0 18 rfl
theorem dX6_digest_29 : decode cX6_digest 29 = .ok (.iinc 3 1, 3) := wnGet dwX6_digest_0 dkX6_digest_0 19 rfl
theorem dX6_digest_32 : decode cX6_digest 32 = .ok (.goto (-21), 3) := wnGet dwX6_digest_0 dkX6_digest_0 20 rfl
theorem dX6_digest_35 : decode cX6_digest 35 = .ok (.iconst 0, 1) := wnGet dwX6_digest_0 dkX6_digest_0 21 rfl
theorem dX6_digest_36 : decode cX6_digest 36 = .ok (.istore_n 3, 1) := wnGet dwX6_digest_0 dkX6_digest_0 22 rfl
theorem dX6_digest_37 : decode cX6_digest 37 = .ok (.iload_n 3, 1) := wnGet dwX6_digest_0 dkX6_digest_0 23 rfl
theorem dX6_digest_38 : decode cX6_digest 38 = .ok (.iconst 3, 1) := wnGet dwX6_digest_0 dkX6_digest_0 24 rfl
theorem dX6_digest_39 : decode cX6_digest 39 = .ok (.if_icmp .ge 75, 3) := wnGet dwX6_digest_0 dkX6_digest_0 25 rfl
theorem dX6_digest_42 : decode cX6_digest 42 = .ok (.lload_n 1, 1) := wnGet dwX6_digest_0 dkX6_digest_0 26 rfl
theorem dX6_digest_43 : decode cX6_digest 43 = .ok (.ldc2_w 159, 3) := wnGet dwX6_digest_0 dkX6_digest_0 27 rfl
theorem dX6_digest_46 : decode cX6_digest 46 = .ok (.lmul, 1) := wnGet dwX6_digest_0 dkX6_digest_0 28 rfl
theorem dX6_digest_47 : decode cX6_digest 47 = .ok (.aload_n 0, 1) := wnGet dwX6_digest_0 dkX6_digest_0 29 rfl
theorem dX6_digest_48 : decode cX6_digest 48 = .ok (.getfield 17, 3) := wnGet dwX6_digest_0 dkX6_digest_0 30 rfl
theorem dX6_digest_51 : decode cX6_digest 51 = .ok (.iload_n 3, 1) := wnGet dwX6_digest_0 dkX6_digest_0 31 rfl
def dvX6_digest_1 : List UInt8 := [46, 133, 97, 64, 3, 54, 4, 21, 4, 42, 180, 0, 17, 29, 46, 162, 0, 41, 31, 20, 0, 159, 105, 42, 180, 0, 11, 29, 50, 21, 4, 46, 133, 97, 20, 0, 159, 105, 42, 180, 0, 14, 29, 50, 21, 4, 46, 133]
theorem dwX6_digest_1 : (cX6_digest.data.toList.drop 52).take dvX6_digest_1.length = dvX6_digest_1 := by decide +kernel
theorem dkX6_digest_1 : ([(52, (.iaload, 1)), (53, (.i2l, 1)), (54, (.ladd, 1)), (55, (.lstore_n 1, 1)), (56, (.iconst 0, 1)), (57, (.istore 4, 2)), (59, (.iload 4, 2)), (61, (.aload_n 0, 1)), (62, (.getfield 17, 3)), (65, (.iload_n 3, 1)), (66, (.iaload, 1)), (67, (.if_icmp .ge 41, 3)), (70, (.lload_n 1, 1)), (71, (.ldc2_w 159, 3)), (74, (.lmul, 1)), (75, (.aload_n 0, 1)), (76, (.getfield 11, 3)), (79, (.iload_n 3, 1)), (80, (.aaload, 1)), (81, (.iload 4, 2)), (83, (.iaload, 1)), (84, (.i2l, 1)), (85, (.ladd, 1)), (86, (.ldc2_w 159, 3)), (89, (.lmul, 1)), (90, (.aload_n 0, 1)), (91, (.getfield 14, 3)), (94, (.iload_n 3, 1)), (95, (.aaload, 1)), (96, (.iload 4, 2)), (98, (.iaload, 1)), (99, (.i2l, 1))] : List (Nat × (Jvm.ClassFile.Instr × Nat))).all (wnL dvX6_digest_1 52) = true := by decide +kernel
theorem dX6_digest_52 : decode cX6_digest 52 = .ok (.iaload, 1) := wnGet dwX6_digest_1 dkX6_digest_1 0 rfl
theorem dX6_digest_53 : decode cX6_digest 53 = .ok (.i2l, 1) := wnGet dwX6_digest_1 dkX6_digest_1 1 rfl
theorem dX6_digest_54 : decode cX6_digest 54 = .ok (.ladd, 1) := wnGet dwX6_digest_1 dkX6_digest_1 2 rfl
theorem dX6_digest_55 : decode cX6_digest 55 = .ok (.lstore_n 1, 1) := wnGet dwX6_digest_1 dkX6_digest_1 3 rfl
theorem dX6_digest_56 : decode cX6_digest 56 = .ok (.iconst 0, 1) := wnGet dwX6_digest_1 dkX6_digest_1 4 rfl
theorem dX6_digest_57 : decode cX6_digest 57 = .ok (.istore 4, 2) := wnGet dwX6_digest_1 dkX6_digest_1 5 rfl
theorem dX6_digest_59 : decode cX6_digest 59 = .ok (.iload 4, 2) := wnGet dwX6_digest_1 dkX6_digest_1 6 rfl
theorem dX6_digest_61 : decode cX6_digest 61 = .ok (.aload_n 0, 1) := wnGet dwX6_digest_1 dkX6_digest_1 7 rfl
theorem dX6_digest_62 : decode cX6_digest 62 = .ok (.getfield 17, 3) := wnGet dwX6_digest_1 dkX6_digest_1 8 rfl
theorem dX6_digest_65 : decode cX6_digest 65 = .ok (.iload_n 3, 1) := wnGet dwX6_digest_1 dkX6_digest_1 9 rfl
theorem dX6_digest_66 : decode cX6_digest 66 = .ok (.iaload, 1) := wnGet dwX6_digest_1 dkX6_digest_1 10 rfl
theorem dX6_digest_67 : decode cX6_digest 67 = .ok (.if_icmp .ge 41, 3) := wnGet dwX6_digest_1 dkX6_digest_1 11 rfl
theorem dX6_digest_70 : decode cX6_digest 70 = .ok (.lload_n 1, 1) := wnGet dwX6_digest_1 dkX6_digest_1 12 rfl
theorem dX6_digest_71 : decode cX6_digest 71 = .ok (.ldc2_w 159, 3) := wnGet dwX6_digest_1 dkX6_digest_1 13 rfl
theorem dX6_digest_74 : decode cX6_digest 74 = .ok (.lmul, 1) := wnGet dwX6_digest_1 dkX6_digest_1 14 rfl
theorem dX6_digest_75 : decode cX6_digest 75 = .ok (.aload_n 0, 1) := wnGet dwX6_digest_1 dkX6_digest_1 15 rfl
theorem dX6_digest_76 : decode cX6_digest 76 = .ok (.getfield 11, 3) := wnGet dwX6_digest_1 dkX6_digest_1 16 rfl
theorem dX6_digest_79 : decode cX6_digest 79 = .ok (.iload_n 3, 1) := wnGet dwX6_digest_1 dkX6_digest_1 17 rfl
theorem dX6_digest_80 : decode cX6_digest 80 = .ok (.aaload, 1) := wnGet dwX6_digest_1 dkX6_digest_1 18 rfl
theorem dX6_digest_81 : decode cX6_digest 81 = .ok (.iload 4, 2) := wnGet dwX6_digest_1 dkX6_digest_1 19 rfl
theorem dX6_digest_83 : decode cX6_digest 83 = .ok (.iaload, 1) := wnGet dwX6_digest_1 dkX6_digest_1 20 rfl
theorem dX6_digest_84 : decode cX6_digest 84 = .ok (.i2l, 1) := wnGet dwX6_digest_1 dkX6_digest_1 21 rfl
theorem dX6_digest_85 : decode cX6_digest 85 = .ok (.ladd, 1) := wnGet dwX6_digest_1 dkX6_digest_1 22 rfl
theorem dX6_digest_86 : decode cX6_digest 86 = .ok (.ldc2_w 159, 3) := wnGet dwX6_digest_1 dkX6_digest_1 23 rfl
theorem dX6_digest_89 : decode cX6_digest 89 = .ok (.lmul, 1) := wnGet dwX6_digest_1 dkX6_digest_1 24 rfl
theorem dX6_digest_90 : decode cX6_digest 90 = .ok (.aload_n 0, 1) := wnGet dwX6_digest_1 dkX6_digest_1 25 rfl
theorem dX6_digest_91 : decode cX6_digest 91 = .ok (.getfield 14, 3) := wnGet dwX6_digest_1 dkX6_digest_1 26 rfl
theorem dX6_digest_94 : decode cX6_digest 94 = .ok (.iload_n 3, 1) := wnGet dwX6_digest_1 dkX6_digest_1 27 rfl
theorem dX6_digest_95 : decode cX6_digest 95 = .ok (.aaload, 1) := wnGet dwX6_digest_1 dkX6_digest_1 28 rfl
theorem dX6_digest_96 : decode cX6_digest 96 = .ok (.iload 4, 2) := wnGet dwX6_digest_1 dkX6_digest_1 29 rfl
theorem dX6_digest_98 : decode cX6_digest 98 = .ok (.iaload, 1) := wnGet dwX6_digest_1 dkX6_digest_1 30 rfl
theorem dX6_digest_99 : decode cX6_digest 99 = .ok (.i2l, 1) := wnGet dwX6_digest_1 dkX6_digest_1 31 rfl
def dvX6_digest_2 : List UInt8 := [97, 64, 132, 4, 1, 167, 255, 210, 132, 3, 1, 167, 255, 182, 3, 62, 29, 7, 162, 0, 127, 31, 20, 0, 159, 105, 42, 180, 0, 29, 29, 46, 133, 97, 64, 3, 54, 4, 21, 4, 42, 180, 0, 29, 29, 46, 162, 0, 49, 31, 20, 0, 159, 105]
theorem dwX6_digest_2 : (cX6_digest.data.toList.drop 100).take dvX6_digest_2.length = dvX6_digest_2 := by decide +kernel
theorem dkX6_digest_2 : ([(100, (.ladd, 1)), (101, (.lstore_n 1, 1)), (102, (.iinc 4 1, 3)), (105, (.goto (-46), 3)), (108, (.iinc 3 1, 3)), (111, (.goto (-74), 3)), (114, (.iconst 0, 1)), (115, (.istore_n 3, 1)), (116, (.iload_n 3, 1)), (117, (.iconst 4, 1)), (118, (.if_icmp .ge 127, 3)), (121, (.lload_n 1, 1)), (122, (.ldc2_w 159, 3)), (125, (.lmul, 1)), (126, (.aload_n 0, 1)), (127, (.getfield 29, 3)), (130, (.iload_n 3, 1)), (131, (.iaload, 1)), (132, (.i2l, 1)), (133, (.ladd, 1)), (134, (.lstore_n 1, 1)), (135, (.iconst 0, 1)), (136, (.istore 4, 2)), (138, (.iload 4, 2)), (140, (.aload_n 0, 1)), (141, (.getfield 29, 3)), (144, (.iload_n 3, 1)), (145, (.iaload, 1)), (146, (.if_icmp .ge 49, 3)), (149, (.lload_n 1, 1)), (150, (.ldc2_w 159, 3)), (153, (.lmul, 1))] : List (Nat × (Jvm.ClassFile.Instr × Nat))).all (wnL dvX6_digest_2 100) = true := by decide +kernel
theorem dX6_digest_100 : decode cX6_digest 100 = .ok (.ladd, 1) := wnGet dwX6_digest_2 dkX6_digest_2 0 rfl
theorem dX6_digest_101 : decode cX6_digest 101 = .ok (.lstore_n 1, 1) := wnGet dwX6_digest_2 dkX6_digest_2 1 rfl
theorem dX6_digest_102 : decode cX6_digest 102 = .ok (.iinc 4 1, 3) := wnGet dwX6_digest_2 dkX6_digest_2 2 rfl
theorem dX6_digest_105 : decode cX6_digest 105 = .ok (.goto (-46), 3) := wnGet dwX6_digest_2 dkX6_digest_2 3 rfl
theorem dX6_digest_108 : decode cX6_digest 108 = .ok (.iinc 3 1, 3) := wnGet dwX6_digest_2 dkX6_digest_2 4 rfl
theorem dX6_digest_111 : decode cX6_digest 111 = .ok (.goto (-74), 3) := wnGet dwX6_digest_2 dkX6_digest_2 5 rfl
theorem dX6_digest_114 : decode cX6_digest 114 = .ok (.iconst 0, 1) := wnGet dwX6_digest_2 dkX6_digest_2 6 rfl
theorem dX6_digest_115 : decode cX6_digest 115 = .ok (.istore_n 3, 1) := wnGet dwX6_digest_2 dkX6_digest_2 7 rfl
theorem dX6_digest_116 : decode cX6_digest 116 = .ok (.iload_n 3, 1) := wnGet dwX6_digest_2 dkX6_digest_2 8 rfl
theorem dX6_digest_117 : decode cX6_digest 117 = .ok (.iconst 4, 1) := wnGet dwX6_digest_2 dkX6_digest_2 9 rfl
theorem dX6_digest_118 : decode cX6_digest 118 = .ok (.if_icmp .ge 127, 3) := wnGet dwX6_digest_2 dkX6_digest_2 10 rfl
theorem dX6_digest_121 : decode cX6_digest 121 = .ok (.lload_n 1, 1) := wnGet dwX6_digest_2 dkX6_digest_2 11 rfl
theorem dX6_digest_122 : decode cX6_digest 122 = .ok (.ldc2_w 159, 3) := wnGet dwX6_digest_2 dkX6_digest_2 12 rfl
theorem dX6_digest_125 : decode cX6_digest 125 = .ok (.lmul, 1) := wnGet dwX6_digest_2 dkX6_digest_2 13 rfl
theorem dX6_digest_126 : decode cX6_digest 126 = .ok (.aload_n 0, 1) := wnGet dwX6_digest_2 dkX6_digest_2 14 rfl
theorem dX6_digest_127 : decode cX6_digest 127 = .ok (.getfield 29, 3) := wnGet dwX6_digest_2 dkX6_digest_2 15 rfl
theorem dX6_digest_130 : decode cX6_digest 130 = .ok (.iload_n 3, 1) := wnGet dwX6_digest_2 dkX6_digest_2 16 rfl
theorem dX6_digest_131 : decode cX6_digest 131 = .ok (.iaload, 1) := wnGet dwX6_digest_2 dkX6_digest_2 17 rfl
theorem dX6_digest_132 : decode cX6_digest 132 = .ok (.i2l, 1) := wnGet dwX6_digest_2 dkX6_digest_2 18 rfl
theorem dX6_digest_133 : decode cX6_digest 133 = .ok (.ladd, 1) := wnGet dwX6_digest_2 dkX6_digest_2 19 rfl
theorem dX6_digest_134 : decode cX6_digest 134 = .ok (.lstore_n 1, 1) := wnGet dwX6_digest_2 dkX6_digest_2 20 rfl
theorem dX6_digest_135 : decode cX6_digest 135 = .ok (.iconst 0, 1) := wnGet dwX6_digest_2 dkX6_digest_2 21 rfl
theorem dX6_digest_136 : decode cX6_digest 136 = .ok (.istore 4, 2) := wnGet dwX6_digest_2 dkX6_digest_2 22 rfl
theorem dX6_digest_138 : decode cX6_digest 138 = .ok (.iload 4, 2) := wnGet dwX6_digest_2 dkX6_digest_2 23 rfl
theorem dX6_digest_140 : decode cX6_digest 140 = .ok (.aload_n 0, 1) := wnGet dwX6_digest_2 dkX6_digest_2 24 rfl
theorem dX6_digest_141 : decode cX6_digest 141 = .ok (.getfield 29, 3) := wnGet dwX6_digest_2 dkX6_digest_2 25 rfl
theorem dX6_digest_144 : decode cX6_digest 144 = .ok (.iload_n 3, 1) := wnGet dwX6_digest_2 dkX6_digest_2 26 rfl
theorem dX6_digest_145 : decode cX6_digest 145 = .ok (.iaload, 1) := wnGet dwX6_digest_2 dkX6_digest_2 27 rfl
theorem dX6_digest_146 : decode cX6_digest 146 = .ok (.if_icmp .ge 49, 3) := wnGet dwX6_digest_2 dkX6_digest_2 28 rfl
theorem dX6_digest_149 : decode cX6_digest 149 = .ok (.lload_n 1, 1) := wnGet dwX6_digest_2 dkX6_digest_2 29 rfl
theorem dX6_digest_150 : decode cX6_digest 150 = .ok (.ldc2_w 159, 3) := wnGet dwX6_digest_2 dkX6_digest_2 30 rfl
theorem dX6_digest_153 : decode cX6_digest 153 = .ok (.lmul, 1) := wnGet dwX6_digest_2 dkX6_digest_2 31 rfl
def dvX6_digest_3 : List UInt8 := [42, 180, 0, 21, 29, 50, 21, 4, 46, 133, 97, 20, 0, 159, 105, 42, 180, 0, 26, 29, 50, 21, 4, 51, 153, 0, 7, 4, 167, 0, 4, 3, 133, 97, 64, 132, 4, 1, 167, 255, 202, 31, 20, 0, 159, 105, 42, 29, 182, 0, 137, 133]
theorem dwX6_digest_3 : (cX6_digest.data.toList.drop 154).take dvX6_digest_3.length = dvX6_digest_3 := by decide +kernel
theorem dkX6_digest_3 : ([(154, (.aload_n 0, 1)), (155, (.getfield 21, 3)), (158, (.iload_n 3, 1)), (159, (.aaload, 1)), (160, (.iload 4, 2)), (162, (.iaload, 1)), (163, (.i2l, 1)), (164, (.ladd, 1)), (165, (.ldc2_w 159, 3)), (168, (.lmul, 1)), (169, (.aload_n 0, 1)), (170, (.getfield 26, 3)), (173, (.iload_n 3, 1)), (174, (.aaload, 1)), (175, (.iload 4, 2)), (177, (.baload, 1)), (178, (.ifCond .eq 7, 3)), (181, (.iconst 1, 1)), (182, (.goto 4, 3)), (185, (.iconst 0, 1)), (186, (.i2l, 1)), (187, (.ladd, 1)), (188, (.lstore_n 1, 1)), (189, (.iinc 4 1, 3)), (192, (.goto (-54), 3)), (195, (.lload_n 1, 1)), (196, (.ldc2_w 159, 3)), (199, (.lmul, 1)), (200, (.aload_n 0, 1)), (201, (.iload_n 3, 1)), (202, (.invokevirtual 137, 3)), (205, (.i2l, 1))] : List (Nat × (Jvm.ClassFile.Instr × Nat))).all (wnL dvX6_digest_3 154) = true := by decide +kernel
theorem dX6_digest_154 : decode cX6_digest 154 = .ok (.aload_n 0, 1) := wnGet dwX6_digest_3 dkX6_digest_3 0 rfl
theorem dX6_digest_155 : decode cX6_digest 155 = .ok (.getfield 21, 3) := wnGet dwX6_digest_3 dkX6_digest_3 1 rfl
theorem dX6_digest_158 : decode cX6_digest 158 = .ok (.iload_n 3, 1) := wnGet dwX6_digest_3 dkX6_digest_3 2 rfl
theorem dX6_digest_159 : decode cX6_digest 159 = .ok (.aaload, 1) := wnGet dwX6_digest_3 dkX6_digest_3 3 rfl
theorem dX6_digest_160 : decode cX6_digest 160 = .ok (.iload 4, 2) := wnGet dwX6_digest_3 dkX6_digest_3 4 rfl
theorem dX6_digest_162 : decode cX6_digest 162 = .ok (.iaload, 1) := wnGet dwX6_digest_3 dkX6_digest_3 5 rfl
theorem dX6_digest_163 : decode cX6_digest 163 = .ok (.i2l, 1) := wnGet dwX6_digest_3 dkX6_digest_3 6 rfl
theorem dX6_digest_164 : decode cX6_digest 164 = .ok (.ladd, 1) := wnGet dwX6_digest_3 dkX6_digest_3 7 rfl
theorem dX6_digest_165 : decode cX6_digest 165 = .ok (.ldc2_w 159, 3) := wnGet dwX6_digest_3 dkX6_digest_3 8 rfl
theorem dX6_digest_168 : decode cX6_digest 168 = .ok (.lmul, 1) := wnGet dwX6_digest_3 dkX6_digest_3 9 rfl
theorem dX6_digest_169 : decode cX6_digest 169 = .ok (.aload_n 0, 1) := wnGet dwX6_digest_3 dkX6_digest_3 10 rfl
theorem dX6_digest_170 : decode cX6_digest 170 = .ok (.getfield 26, 3) := wnGet dwX6_digest_3 dkX6_digest_3 11 rfl
theorem dX6_digest_173 : decode cX6_digest 173 = .ok (.iload_n 3, 1) := wnGet dwX6_digest_3 dkX6_digest_3 12 rfl
theorem dX6_digest_174 : decode cX6_digest 174 = .ok (.aaload, 1) := wnGet dwX6_digest_3 dkX6_digest_3 13 rfl
theorem dX6_digest_175 : decode cX6_digest 175 = .ok (.iload 4, 2) := wnGet dwX6_digest_3 dkX6_digest_3 14 rfl
theorem dX6_digest_177 : decode cX6_digest 177 = .ok (.baload, 1) := wnGet dwX6_digest_3 dkX6_digest_3 15 rfl
theorem dX6_digest_178 : decode cX6_digest 178 = .ok (.ifCond .eq 7, 3) := wnGet dwX6_digest_3 dkX6_digest_3 16 rfl
theorem dX6_digest_181 : decode cX6_digest 181 = .ok (.iconst 1, 1) := wnGet dwX6_digest_3 dkX6_digest_3 17 rfl
theorem dX6_digest_182 : decode cX6_digest 182 = .ok (.goto 4, 3) := wnGet dwX6_digest_3 dkX6_digest_3 18 rfl
theorem dX6_digest_185 : decode cX6_digest 185 = .ok (.iconst 0, 1) := wnGet dwX6_digest_3 dkX6_digest_3 19 rfl
theorem dX6_digest_186 : decode cX6_digest 186 = .ok (.i2l, 1) := wnGet dwX6_digest_3 dkX6_digest_3 20 rfl
theorem dX6_digest_187 : decode cX6_digest 187 = .ok (.ladd, 1) := wnGet dwX6_digest_3 dkX6_digest_3 21 rfl
theorem dX6_digest_188 : decode cX6_digest 188 = .ok (.lstore_n 1, 1) := wnGet dwX6_digest_3 dkX6_digest_3 22 rfl
theorem dX6_digest_189 : decode cX6_digest 189 = .ok (.iinc 4 1, 3) := wnGet dwX6_digest_3 dkX6_digest_3 23 rfl
theorem dX6_digest_192 : decode cX6_digest 192 = .ok (.goto (-54), 3) := wnGet dwX6_digest_3 dkX6_digest_3 24 rfl
theorem dX6_digest_195 : decode cX6_digest 195 = .ok (.lload_n 1, 1) := wnGet dwX6_digest_3 dkX6_digest_3 25 rfl
theorem dX6_digest_196 : decode cX6_digest 196 = .ok (.ldc2_w 159, 3) := wnGet dwX6_digest_3 dkX6_digest_3 26 rfl
theorem dX6_digest_199 : decode cX6_digest 199 = .ok (.lmul, 1) := wnGet dwX6_digest_3 dkX6_digest_3 27 rfl
theorem dX6_digest_200 : decode cX6_digest 200 = .ok (.aload_n 0, 1) := wnGet dwX6_digest_3 dkX6_digest_3 28 rfl
theorem dX6_digest_201 : decode cX6_digest 201 = .ok (.iload_n 3, 1) := wnGet dwX6_digest_3 dkX6_digest_3 29 rfl
theorem dX6_digest_202 : decode cX6_digest 202 = .ok (.invokevirtual 137, 3) := wnGet dwX6_digest_3 dkX6_digest_3 30 rfl
theorem dX6_digest_205 : decode cX6_digest 205 = .ok (.i2l, 1) := wnGet dwX6_digest_3 dkX6_digest_3 31 rfl
def dvX6_digest_4 : List UInt8 := [97, 64, 3, 54, 4, 21, 4, 16, 16, 162, 0, 24, 31, 20, 0, 159, 105, 42, 29, 21, 4, 182, 0, 115, 133, 97, 64, 132, 4, 1, 167, 255, 231, 132, 3, 1, 167, 255, 130, 3, 62, 29, 7, 162, 0, 60, 3, 54, 4, 21, 4, 7, 162, 0, 45, 31]
theorem dwX6_digest_4 : (cX6_digest.data.toList.drop 206).take dvX6_digest_4.length = dvX6_digest_4 := by decide +kernel
theorem dkX6_digest_4 : ([(206, (.ladd, 1)), (207, (.lstore_n 1, 1)), (208, (.iconst 0, 1)), (209, (.istore 4, 2)), (211, (.iload 4, 2)), (213, (.bipush 16, 2)), (215, (.if_icmp .ge 24, 3)), (218, (.lload_n 1, 1)), (219, (.ldc2_w 159, 3)), (222, (.lmul, 1)), (223, (.aload_n 0, 1)), (224, (.iload_n 3, 1)), (225, (.iload 4, 2)), (227, (.invokevirtual 115, 3)), (230, (.i2l, 1)), (231, (.ladd, 1)), (232, (.lstore_n 1, 1)), (233, (.iinc 4 1, 3)), (236, (.goto (-25), 3)), (239, (.iinc 3 1, 3)), (242, (.goto (-126), 3)), (245, (.iconst 0, 1)), (246, (.istore_n 3, 1)), (247, (.iload_n 3, 1)), (248, (.iconst 4, 1)), (249, (.if_icmp .ge 60, 3)), (252, (.iconst 0, 1)), (253, (.istore 4, 2)), (255, (.iload 4, 2)), (257, (.iconst 4, 1)), (258, (.if_icmp .ge 45, 3)), (261, (.lload_n 1, 1))] : List (Nat × (Jvm.ClassFile.Instr × Nat))).all (wnL dvX6_digest_4 206) = true := by decide +kernel
theorem dX6_digest_206 : decode cX6_digest 206 = .ok (.ladd, 1) := wnGet dwX6_digest_4 dkX6_digest_4 0 rfl
theorem dX6_digest_207 : decode cX6_digest 207 = .ok (.lstore_n 1, 1) := wnGet dwX6_digest_4 dkX6_digest_4 1 rfl
theorem dX6_digest_208 : decode cX6_digest 208 = .ok (.iconst 0, 1) := wnGet dwX6_digest_4 dkX6_digest_4 2 rfl
theorem dX6_digest_209 : decode cX6_digest 209 = .ok (.istore 4, 2) := wnGet dwX6_digest_4 dkX6_digest_4 3 rfl
theorem dX6_digest_211 : decode cX6_digest 211 = .ok (.iload 4, 2) := wnGet dwX6_digest_4 dkX6_digest_4 4 rfl
theorem dX6_digest_213 : decode cX6_digest 213 = .ok (.bipush 16, 2) := wnGet dwX6_digest_4 dkX6_digest_4 5 rfl
theorem dX6_digest_215 : decode cX6_digest 215 = .ok (.if_icmp .ge 24, 3) := wnGet dwX6_digest_4 dkX6_digest_4 6 rfl
theorem dX6_digest_218 : decode cX6_digest 218 = .ok (.lload_n 1, 1) := wnGet dwX6_digest_4 dkX6_digest_4 7 rfl
theorem dX6_digest_219 : decode cX6_digest 219 = .ok (.ldc2_w 159, 3) := wnGet dwX6_digest_4 dkX6_digest_4 8 rfl
theorem dX6_digest_222 : decode cX6_digest 222 = .ok (.lmul, 1) := wnGet dwX6_digest_4 dkX6_digest_4 9 rfl
theorem dX6_digest_223 : decode cX6_digest 223 = .ok (.aload_n 0, 1) := wnGet dwX6_digest_4 dkX6_digest_4 10 rfl
theorem dX6_digest_224 : decode cX6_digest 224 = .ok (.iload_n 3, 1) := wnGet dwX6_digest_4 dkX6_digest_4 11 rfl
theorem dX6_digest_225 : decode cX6_digest 225 = .ok (.iload 4, 2) := wnGet dwX6_digest_4 dkX6_digest_4 12 rfl
theorem dX6_digest_227 : decode cX6_digest 227 = .ok (.invokevirtual 115, 3) := wnGet dwX6_digest_4 dkX6_digest_4 13 rfl
theorem dX6_digest_230 : decode cX6_digest 230 = .ok (.i2l, 1) := wnGet dwX6_digest_4 dkX6_digest_4 14 rfl
theorem dX6_digest_231 : decode cX6_digest 231 = .ok (.ladd, 1) := wnGet dwX6_digest_4 dkX6_digest_4 15 rfl
theorem dX6_digest_232 : decode cX6_digest 232 = .ok (.lstore_n 1, 1) := wnGet dwX6_digest_4 dkX6_digest_4 16 rfl
theorem dX6_digest_233 : decode cX6_digest 233 = .ok (.iinc 4 1, 3) := wnGet dwX6_digest_4 dkX6_digest_4 17 rfl
theorem dX6_digest_236 : decode cX6_digest 236 = .ok (.goto (-25), 3) := wnGet dwX6_digest_4 dkX6_digest_4 18 rfl
theorem dX6_digest_239 : decode cX6_digest 239 = .ok (.iinc 3 1, 3) := wnGet dwX6_digest_4 dkX6_digest_4 19 rfl
theorem dX6_digest_242 : decode cX6_digest 242 = .ok (.goto (-126), 3) := wnGet dwX6_digest_4 dkX6_digest_4 20 rfl
theorem dX6_digest_245 : decode cX6_digest 245 = .ok (.iconst 0, 1) := wnGet dwX6_digest_4 dkX6_digest_4 21 rfl
theorem dX6_digest_246 : decode cX6_digest 246 = .ok (.istore_n 3, 1) := wnGet dwX6_digest_4 dkX6_digest_4 22 rfl
theorem dX6_digest_247 : decode cX6_digest 247 = .ok (.iload_n 3, 1) := wnGet dwX6_digest_4 dkX6_digest_4 23 rfl
theorem dX6_digest_248 : decode cX6_digest 248 = .ok (.iconst 4, 1) := wnGet dwX6_digest_4 dkX6_digest_4 24 rfl
theorem dX6_digest_249 : decode cX6_digest 249 = .ok (.if_icmp .ge 60, 3) := wnGet dwX6_digest_4 dkX6_digest_4 25 rfl
theorem dX6_digest_252 : decode cX6_digest 252 = .ok (.iconst 0, 1) := wnGet dwX6_digest_4 dkX6_digest_4 26 rfl
theorem dX6_digest_253 : decode cX6_digest 253 = .ok (.istore 4, 2) := wnGet dwX6_digest_4 dkX6_digest_4 27 rfl
theorem dX6_digest_255 : decode cX6_digest 255 = .ok (.iload 4, 2) := wnGet dwX6_digest_4 dkX6_digest_4 28 rfl
theorem dX6_digest_257 : decode cX6_digest 257 = .ok (.iconst 4, 1) := wnGet dwX6_digest_4 dkX6_digest_4 29 rfl
theorem dX6_digest_258 : decode cX6_digest 258 = .ok (.if_icmp .ge 45, 3) := wnGet dwX6_digest_4 dkX6_digest_4 30 rfl
theorem dX6_digest_261 : decode cX6_digest 261 = .ok (.lload_n 1, 1) := wnGet dwX6_digest_4 dkX6_digest_4 31 rfl
def dvX6_digest_5 : List UInt8 := [20, 0, 159, 105, 42, 29, 21, 4, 182, 0, 148, 133, 97, 20, 0, 159, 105, 42, 29, 21, 4, 182, 0, 145, 153, 0, 7, 4, 167, 0, 4, 3, 133, 97, 64, 132, 4, 1, 167, 255, 211, 132, 3, 1, 167, 255, 197, 3, 62, 29, 6, 162, 0, 60, 3, 54, 4]
theorem dwX6_digest_5 : (cX6_digest.data.toList.drop 262).take dvX6_digest_5.length = dvX6_digest_5 := by decide +kernel
theorem dkX6_digest_5 : ([(262, (.ldc2_w 159, 3)), (265, (.lmul, 1)), (266, (.aload_n 0, 1)), (267, (.iload_n 3, 1)), (268, (.iload 4, 2)), (270, (.invokevirtual 148, 3)), (273, (.i2l, 1)), (274, (.ladd, 1)), (275, (.ldc2_w 159, 3)), (278, (.lmul, 1)), (279, (.aload_n 0, 1)), (280, (.iload_n 3, 1)), (281, (.iload 4, 2)), (283, (.invokevirtual 145, 3)), (286, (.ifCond .eq 7, 3)), (289, (.iconst 1, 1)), (290, (.goto 4, 3)), (293, (.iconst 0, 1)), (294, (.i2l, 1)), (295, (.ladd, 1)), (296, (.lstore_n 1, 1)), (297, (.iinc 4 1, 3)), (300, (.goto (-45), 3)), (303, (.iinc 3 1, 3)), (306, (.goto (-59), 3)), (309, (.iconst 0, 1)), (310, (.istore_n 3, 1)), (311, (.iload_n 3, 1)), (312, (.iconst 3, 1)), (313, (.if_icmp .ge 60, 3)), (316, (.iconst 0, 1)), (317, (.istore 4, 2))] : List (Nat × (Jvm.ClassFile.Instr × Nat))).all (wnL dvX6_digest_5 262) = true := by decide +kernel
theorem dX6_digest_262 : decode cX6_digest 262 = .ok (.ldc2_w 159, 3) := wnGet dwX6_digest_5 dkX6_digest_5 0 rfl
theorem dX6_digest_265 : decode cX6_digest 265 = .ok (.lmul, 1) := wnGet dwX6_digest_5 dkX6_digest_5 1 rfl
theorem dX6_digest_266 : decode cX6_digest 266 = .ok (.aload_n 0, 1) := wnGet dwX6_digest_5 dkX6_digest_5 2 rfl
theorem dX6_digest_267 : decode cX6_digest 267 = .ok (.iload_n 3, 1) := wnGet dwX6_digest_5 dkX6_digest_5 3 rfl
theorem dX6_digest_268 : decode cX6_digest 268 = .ok (.iload 4, 2) := wnGet dwX6_digest_5 dkX6_digest_5 4 rfl
theorem dX6_digest_270 : decode cX6_digest 270 = .ok (.invokevirtual 148, 3) := wnGet dwX6_digest_5 dkX6_digest_5 5 rfl
theorem dX6_digest_273 : decode cX6_digest 273 = .ok (.i2l, 1) := wnGet dwX6_digest_5 dkX6_digest_5 6 rfl
theorem dX6_digest_274 : decode cX6_digest 274 = .ok (.ladd, 1) := wnGet dwX6_digest_5 dkX6_digest_5 7 rfl
theorem dX6_digest_275 : decode cX6_digest 275 = .ok (.ldc2_w 159, 3) := wnGet dwX6_digest_5 dkX6_digest_5 8 rfl
theorem dX6_digest_278 : decode cX6_digest 278 = .ok (.lmul, 1) := wnGet dwX6_digest_5 dkX6_digest_5 9 rfl
theorem dX6_digest_279 : decode cX6_digest 279 = .ok (.aload_n 0, 1) := wnGet dwX6_digest_5 dkX6_digest_5 10 rfl
theorem dX6_digest_280 : decode cX6_digest 280 = .ok (.iload_n 3, 1) := wnGet dwX6_digest_5 dkX6_digest_5 11 rfl
theorem dX6_digest_281 : decode cX6_digest 281 = .ok (.iload 4, 2) := wnGet dwX6_digest_5 dkX6_digest_5 12 rfl
theorem dX6_digest_283 : decode cX6_digest 283 = .ok (.invokevirtual 145, 3) := wnGet dwX6_digest_5 dkX6_digest_5 13 rfl
theorem dX6_digest_286 : decode cX6_digest 286 = .ok (.ifCond .eq 7, 3) := wnGet dwX6_digest_5 dkX6_digest_5 14 rfl
theorem dX6_digest_289 : decode cX6_digest 289 = .ok (.iconst 1, 1) := wnGet dwX6_digest_5 dkX6_digest_5 15 rfl
theorem dX6_digest_290 : decode cX6_digest 290 = .ok (.goto 4, 3) := wnGet dwX6_digest_5 dkX6_digest_5 16 rfl
theorem dX6_digest_293 : decode cX6_digest 293 = .ok (.iconst 0, 1) := wnGet dwX6_digest_5 dkX6_digest_5 17 rfl
theorem dX6_digest_294 : decode cX6_digest 294 = .ok (.i2l, 1) := wnGet dwX6_digest_5 dkX6_digest_5 18 rfl
theorem dX6_digest_295 : decode cX6_digest 295 = .ok (.ladd, 1) := wnGet dwX6_digest_5 dkX6_digest_5 19 rfl
theorem dX6_digest_296 : decode cX6_digest 296 = .ok (.lstore_n 1, 1) := wnGet dwX6_digest_5 dkX6_digest_5 20 rfl
theorem dX6_digest_297 : decode cX6_digest 297 = .ok (.iinc 4 1, 3) := wnGet dwX6_digest_5 dkX6_digest_5 21 rfl
theorem dX6_digest_300 : decode cX6_digest 300 = .ok (.goto (-45), 3) := wnGet dwX6_digest_5 dkX6_digest_5 22 rfl
theorem dX6_digest_303 : decode cX6_digest 303 = .ok (.iinc 3 1, 3) := wnGet dwX6_digest_5 dkX6_digest_5 23 rfl
theorem dX6_digest_306 : decode cX6_digest 306 = .ok (.goto (-59), 3) := wnGet dwX6_digest_5 dkX6_digest_5 24 rfl
theorem dX6_digest_309 : decode cX6_digest 309 = .ok (.iconst 0, 1) := wnGet dwX6_digest_5 dkX6_digest_5 25 rfl
theorem dX6_digest_310 : decode cX6_digest 310 = .ok (.istore_n 3, 1) := wnGet dwX6_digest_5 dkX6_digest_5 26 rfl
theorem dX6_digest_311 : decode cX6_digest 311 = .ok (.iload_n 3, 1) := wnGet dwX6_digest_5 dkX6_digest_5 27 rfl
theorem dX6_digest_312 : decode cX6_digest 312 = .ok (.iconst 3, 1) := wnGet dwX6_digest_5 dkX6_digest_5 28 rfl
theorem dX6_digest_313 : decode cX6_digest 313 = .ok (.if_icmp .ge 60, 3) := wnGet dwX6_digest_5 dkX6_digest_5 29 rfl
theorem dX6_digest_316 : decode cX6_digest 316 = .ok (.iconst 0, 1) := wnGet dwX6_digest_5 dkX6_digest_5 30 rfl
theorem dX6_digest_317 : decode cX6_digest 317 = .ok (.istore 4, 2) := wnGet dwX6_digest_5 dkX6_digest_5 31 rfl
def dvX6_digest_6 : List UInt8 := [21, 4, 7, 162, 0, 45, 31, 20, 0, 159, 105, 42, 29, 21, 4, 182, 0, 122, 133, 97, 20, 0, 159, 105, 42, 29, 21, 4, 182, 0, 92, 153, 0, 7, 4, 167, 0, 4, 3, 133, 97, 64, 132, 4, 1, 167, 255, 211, 132, 3, 1, 167, 255, 197, 31, 20, 0, 159, 105]
theorem dwX6_digest_6 : (cX6_digest.data.toList.drop 319).take dvX6_digest_6.length = dvX6_digest_6 := by decide +kernel
theorem dkX6_digest_6 : ([(319, (.iload 4, 2)), (321, (.iconst 4, 1)), (322, (.if_icmp .ge 45, 3)), (325, (.lload_n 1, 1)), (326, (.ldc2_w 159, 3)), (329, (.lmul, 1)), (330, (.aload_n 0, 1)), (331, (.iload_n 3, 1)), (332, (.iload 4, 2)), (334, (.invokevirtual 122, 3)), (337, (.i2l, 1)), (338, (.ladd, 1)), (339, (.ldc2_w 159, 3)), (342, (.lmul, 1)), (343, (.aload_n 0, 1)), (344, (.iload_n 3, 1)), (345, (.iload 4, 2)), (347, (.invokevirtual 92, 3)), (350, (.ifCond .eq 7, 3)), (353, (.iconst 1, 1)), (354, (.goto 4, 3)), (357, (.iconst 0, 1)), (358, (.i2l, 1)), (359, (.ladd, 1)), (360, (.lstore_n 1, 1)), (361, (.iinc 4 1, 3)), (364, (.goto (-45), 3)), (367, (.iinc 3 1, 3)), (370, (.goto (-59), 3)), (373, (.lload_n 1, 1)), (374, (.ldc2_w 159, 3)), (377, (.lmul, 1))] : List (Nat × (Jvm.ClassFile.Instr × Nat))).all (wnL dvX6_digest_6 319) = true := by decide +kernel
theorem dX6_digest_319 : decode cX6_digest 319 = .ok (.iload 4, 2) := wnGet dwX6_digest_6 dkX6_digest_6 0 rfl
theorem dX6_digest_321 : decode cX6_digest 321 = .ok (.iconst 4, 1) := wnGet dwX6_digest_6 dkX6_digest_6 1 rfl
theorem dX6_digest_322 : decode cX6_digest 322 = .ok (.if_icmp .ge 45, 3) := wnGet dwX6_digest_6 dkX6_digest_6 2 rfl
theorem dX6_digest_325 : decode cX6_digest 325 = .ok (.lload_n 1, 1) := wnGet dwX6_digest_6 dkX6_digest_6 3 rfl
theorem dX6_digest_326 : decode cX6_digest 326 = .ok (.ldc2_w 159, 3) := wnGet dwX6_digest_6 dkX6_digest_6 4 rfl
theorem dX6_digest_329 : decode cX6_digest 329 = .ok (.lmul, 1) := wnGet dwX6_digest_6 dkX6_digest_6 5 rfl
theorem dX6_digest_330 : decode cX6_digest 330 = .ok (.aload_n 0, 1) := wnGet dwX6_digest_6 dkX6_digest_6 6 rfl
theorem dX6_digest_331 : decode cX6_digest 331 = .ok (.iload_n 3, 1) := wnGet dwX6_digest_6 dkX6_digest_6 7 rfl
theorem dX6_digest_332 : decode cX6_digest 332 = .ok (.iload 4, 2) := wnGet dwX6_digest_6 dkX6_digest_6 8 rfl
theorem dX6_digest_334 : decode cX6_digest 334 = .ok (.invokevirtual 122, 3) := wnGet dwX6_digest_6 dkX6_digest_6 9 rfl
theorem dX6_digest_337 : decode cX6_digest 337 = .ok (.i2l, 1) := wnGet dwX6_digest_6 dkX6_digest_6 10 rfl
theorem dX6_digest_338 : decode cX6_digest 338 = .ok (.ladd, 1) := wnGet dwX6_digest_6 dkX6_digest_6 11 rfl
theorem dX6_digest_339 : decode cX6_digest 339 = .ok (.ldc2_w 159, 3) := wnGet dwX6_digest_6 dkX6_digest_6 12 rfl
theorem dX6_digest_342 : decode cX6_digest 342 = .ok (.lmul, 1) := wnGet dwX6_digest_6 dkX6_digest_6 13 rfl
theorem dX6_digest_343 : decode cX6_digest 343 = .ok (.aload_n 0, 1) := wnGet dwX6_digest_6 dkX6_digest_6 14 rfl
theorem dX6_digest_344 : decode cX6_digest 344 = .ok (.iload_n 3, 1) := wnGet dwX6_digest_6 dkX6_digest_6 15 rfl
theorem dX6_digest_345 : decode cX6_digest 345 = .ok (.iload 4, 2) := wnGet dwX6_digest_6 dkX6_digest_6 16 rfl
theorem dX6_digest_347 : decode cX6_digest 347 = .ok (.invokevirtual 92, 3) := wnGet dwX6_digest_6 dkX6_digest_6 17 rfl
theorem dX6_digest_350 : decode cX6_digest 350 = .ok (.ifCond .eq 7, 3) := wnGet dwX6_digest_6 dkX6_digest_6 18 rfl
theorem dX6_digest_353 : decode cX6_digest 353 = .ok (.iconst 1, 1) := wnGet dwX6_digest_6 dkX6_digest_6 19 rfl
theorem dX6_digest_354 : decode cX6_digest 354 = .ok (.goto 4, 3) := wnGet dwX6_digest_6 dkX6_digest_6 20 rfl
theorem dX6_digest_357 : decode cX6_digest 357 = .ok (.iconst 0, 1) := wnGet dwX6_digest_6 dkX6_digest_6 21 rfl
theorem dX6_digest_358 : decode cX6_digest 358 = .ok (.i2l, 1) := wnGet dwX6_digest_6 dkX6_digest_6 22 rfl
theorem dX6_digest_359 : decode cX6_digest 359 = .ok (.ladd, 1) := wnGet dwX6_digest_6 dkX6_digest_6 23 rfl
theorem dX6_digest_360 : decode cX6_digest 360 = .ok (.lstore_n 1, 1) := wnGet dwX6_digest_6 dkX6_digest_6 24 rfl
theorem dX6_digest_361 : decode cX6_digest 361 = .ok (.iinc 4 1, 3) := wnGet dwX6_digest_6 dkX6_digest_6 25 rfl
theorem dX6_digest_364 : decode cX6_digest 364 = .ok (.goto (-45), 3) := wnGet dwX6_digest_6 dkX6_digest_6 26 rfl
theorem dX6_digest_367 : decode cX6_digest 367 = .ok (.iinc 3 1, 3) := wnGet dwX6_digest_6 dkX6_digest_6 27 rfl
theorem dX6_digest_370 : decode cX6_digest 370 = .ok (.goto (-59), 3) := wnGet dwX6_digest_6 dkX6_digest_6 28 rfl
theorem dX6_digest_373 : decode cX6_digest 373 = .ok (.lload_n 1, 1) := wnGet dwX6_digest_6 dkX6_digest_6 29 rfl
theorem dX6_digest_374 : decode cX6_digest 374 = .ok (.ldc2_w 159, 3) := wnGet dwX6_digest_6 dkX6_digest_6 30 rfl
theorem dX6_digest_377 : decode cX6_digest 377 = .ok (.lmul, 1) := wnGet dwX6_digest_6 dkX6_digest_6 31 rfl
def dvX6_digest_7 : List UInt8 := [10, 97, 173]
theorem dwX6_digest_7 : (cX6_digest.data.toList.drop 378).take dvX6_digest_7.length = dvX6_digest_7 := by decide +kernel
theorem dkX6_digest_7 : ([(378, (.lconst 1, 1)), (379, (.ladd, 1)), (380, (.lreturn, 1))] : List (Nat × (Jvm.ClassFile.Instr × Nat))).all (wnL dvX6_digest_7 378) = true := by decide +kernel
theorem dX6_digest_378 : decode cX6_digest 378 = .ok (.lconst 1, 1) := wnGet dwX6_digest_7 dkX6_digest_7 0 rfl
theorem dX6_digest_379 : decode cX6_digest 379 = .ok (.ladd, 1) := wnGet dwX6_digest_7 dkX6_digest_7 1 rfl
theorem dX6_digest_380 : decode cX6_digest 380 = .ok (.lreturn, 1) := wnGet dwX6_digest_7 dkX6_digest_7 2 rfl
