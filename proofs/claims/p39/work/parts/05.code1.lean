theorem ggX0_init_X3_init : GoodIn wsX0_init wsX3_init := tgCall 17 e_X3_init (by decide +kernel)
theorem gX0_init_X3_init_n11 : GoodIn wsX0_init (wsX3_init) := ggX0_init_X3_init
theorem ggX0_init_X2_init : GoodIn wsX0_init wsX2_init := tgCall 22 e_X2_init (by decide +kernel)
theorem gX0_init_X2_init_n20 : GoodIn wsX0_init (wsX2_init) := ggX0_init_X2_init
theorem ggX0_init_X1_init : GoodIn wsX0_init wsX1_init := tgCall 29 e_X1_init (by decide +kernel)
theorem gX0_init_X1_init_n30 : GoodIn wsX0_init (wsX1_init) := ggX0_init_X1_init
theorem dkX0_init_0 : ([(0, (.aload_n 0, 1)), (1, (.invokespecial 3, 3)), (4, (.aload_n 0, 1)), (5, (.new 9, 3)), (8, (.dup, 1)), (9, (.invokespecial 11, 3)), (12, (.putfield 12, 3)), (15, (.aload_n 0, 1)), (16, (.new 18, 3)), (19, (.dup, 1)), (20, (.invokespecial 20, 3)), (23, (.putfield 21, 3)), (26, (.aload_n 0, 1)), (27, (.new 18, 3)), (30, (.dup, 1)), (31, (.invokespecial 20, 3)), (34, (.putfield 25, 3)), (37, (.aload_n 0, 1)), (38, (.new 28, 3)), (41, (.dup, 1)), (42, (.invokespecial 30, 3)), (45, (.putfield 31, 3)), (48, (.return_, 1))] : List (Nat × (Jvm.ClassFile.Instr × Nat))).all (dcB cX0_init) = true := by decide +kernel
theorem dX0_init_0 : decode cX0_init 0 = .ok (.aload_n 0, 1) := dget dkX0_init_0 0 rfl
theorem dX0_init_1 : decode cX0_init 1 = .ok (.invokespecial 3, 3) := dget dkX0_init_0 1 rfl
theorem dX0_init_4 : decode cX0_init 4 = .ok (.aload_n 0, 1) := dget dkX0_init_0 2 rfl
theorem dX0_init_5 : decode cX0_init 5 = .ok (.new 9, 3) := dget dkX0_init_0 3 rfl
theorem dX0_init_8 : decode cX0_init 8 = .ok (.dup, 1) := dget dkX0_init_0 4 rfl
theorem dX0_init_9 : decode cX0_init 9 = .ok (.invokespecial 11, 3) := dget dkX0_init_0 5 rfl
theorem dX0_init_12 : decode cX0_init 12 = .ok (.putfield 12, 3) := dget dkX0_init_0 6 rfl
theorem dX0_init_15 : decode cX0_init 15 = .ok (.aload_n 0, 1) := dget dkX0_init_0 7 rfl
theorem dX0_init_16 : decode cX0_init 16 = .ok (.new 18, 3) := dget dkX0_init_0 8 rfl
theorem dX0_init_19 : decode cX0_init 19 = .ok (.dup, 1) := dget dkX0_init_0 9 rfl
theorem dX0_init_20 : decode cX0_init 20 = .ok (.invokespecial 20, 3) := dget dkX0_init_0 10 rfl
theorem dX0_init_23 : decode cX0_init 23 = .ok (.putfield 21, 3) := dget dkX0_init_0 11 rfl
theorem dX0_init_26 : decode cX0_init 26 = .ok (.aload_n 0, 1) := dget dkX0_init_0 12 rfl
theorem dX0_init_27 : decode cX0_init 27 = .ok (.new 18, 3) := dget dkX0_init_0 13 rfl
theorem dX0_init_30 : decode cX0_init 30 = .ok (.dup, 1) := dget dkX0_init_0 14 rfl
theorem dX0_init_31 : decode cX0_init 31 = .ok (.invokespecial 20, 3) := dget dkX0_init_0 15 rfl
theorem dX0_init_34 : decode cX0_init 34 = .ok (.putfield 25, 3) := dget dkX0_init_0 16 rfl
theorem dX0_init_37 : decode cX0_init 37 = .ok (.aload_n 0, 1) := dget dkX0_init_0 17 rfl
theorem dX0_init_38 : decode cX0_init 38 = .ok (.new 28, 3) := dget dkX0_init_0 18 rfl
theorem dX0_init_41 : decode cX0_init 41 = .ok (.dup, 1) := dget dkX0_init_0 19 rfl
theorem dX0_init_42 : decode cX0_init 42 = .ok (.invokespecial 30, 3) := dget dkX0_init_0 20 rfl
theorem dX0_init_45 : decode cX0_init 45 = .ok (.putfield 31, 3) := dget dkX0_init_0 21 rfl
theorem dX0_init_48 : decode cX0_init 48 = .ok (.return_, 1) := dget dkX0_init_0 22 rfl
theorem ggX0_isRefiningSound_X1_isFinerThan : GoodIn wsX0_isRefiningSound wsX1_isFinerThan := tgCall 136 e_X1_isFinerThan (by decide +kernel)
theorem gX0_isRefiningSound_X1_isFinerThan : GoodIn wsX0_isRefiningSound (wsV RX0 35 RX1 yX1_isFinerThan wsX1_isFinerThan) := goodIn_app (tgIn [133, 134, 135, 14] (by decide +kernel) rfl) ggX0_isRefiningSound_X1_isFinerThan
theorem ggX0_isRefiningSound_X1_becomeProductOf : GoodIn wsX0_isRefiningSound wsX1_becomeProductOf := tgCall 141 e_X1_becomeProductOf (by decide +kernel)
theorem gX0_isRefiningSound_X1_becomeProductOf : GoodIn wsX0_isRefiningSound (wsV RX0 39 RX1 yX1_becomeProductOf wsX1_becomeProductOf) := goodIn_app (tgIn [138, 139, 140, 14] (by decide +kernel) rfl) ggX0_isRefiningSound_X1_becomeProductOf
theorem ggX0_isRefiningSound_X0_isFinerBySorting : GoodIn wsX0_isRefiningSound wsX0_isFinerBySorting := tgCall 145 e_X0_isFinerBySorting (by decide +kernel)
theorem gX0_isRefiningSound_X0_isFinerBySorting : GoodIn wsX0_isRefiningSound (wsV RX0 43 RX0 yX0_isFinerBySorting wsX0_isFinerBySorting) := goodIn_app (tgIn [142, 143, 144, 130] (by decide +kernel) rfl) ggX0_isRefiningSound_X0_isFinerBySorting
theorem ggX0_isRefiningSound_X1_classCount : GoodIn wsX0_isRefiningSound wsX1_classCount := tgCall 149 e_X1_classCount (by decide +kernel)
theorem gX0_isRefiningSound_X1_classCount : GoodIn wsX0_isRefiningSound (wsV RX0 47 RX1 yX1_classCount wsX1_classCount) := goodIn_app (tgIn [146, 147, 148, 14] (by decide +kernel) rfl) ggX0_isRefiningSound_X1_classCount
theorem dkX0_isRefiningSound_0 : ([(0, (.aload_n 1, 1)), (1, (.aload_n 2, 1)), (2, (.invokevirtual 35, 3)), (5, (.istore_n 3, 1)), (6, (.aload_n 0, 1)), (7, (.getfield 31, 3)), (10, (.aload_n 1, 1)), (11, (.aload_n 2, 1)), (12, (.invokevirtual 39, 3)), (15, (.iload_n 3, 1)), (16, (.aload_n 0, 1)), (17, (.aload_n 1, 1)), (18, (.aload_n 2, 1)), (19, (.invokevirtual 43, 3)), (22, (.if_icmp .ne 33, 3)), (25, (.iload_n 3, 1)), (26, (.ifCond .eq 14, 3)), (29, (.aload_n 1, 1)), (30, (.invokevirtual 47, 3)), (33, (.aload_n 2, 1)), (34, (.invokevirtual 47, 3)), (37, (.if_icmp .lt 18, 3)), (40, (.aload_n 0, 1)), (41, (.getfield 31, 3)), (44, (.aload_n 1, 1)), (45, (.invokevirtual 35, 3)), (48, (.ifCond .eq 7, 3)), (51, (.iconst 1, 1)), (52, (.goto 4, 3)), (55, (.iconst 0, 1)), (56, (.ireturn, 1))] : List (Nat × (Jvm.ClassFile.Instr × Nat))).all (dcB cX0_isRefiningSound) = true := by decide +kernel
theorem dX0_isRefiningSound_0 : decode cX0_isRefiningSound 0 = .ok (.aload_n 1, 1) := dget dkX0_isRefiningSound_0 0 rfl
theorem dX0_isRefiningSound_1 : decode cX0_isRefiningSound 1 = .ok (.aload_n 2, 1) := dget dkX0_isRefiningSound_0 1 rfl
theorem dX0_isRefiningSound_2 : decode cX0_isRefiningSound 2 = .ok (.invokevirtual 35, 3) := dget dkX0_isRefiningSound_0 2 rfl
theorem dX0_isRefiningSound_5 : decode cX0_isRefiningSound 5 = .ok (.istore_n 3, 1) := dget dkX0_isRefiningSound_0 3 rfl
theorem dX0_isRefiningSound_6 : decode cX0_isRefiningSound 6 = .ok (.aload_n 0, 1) := dget dkX0_isRefiningSound_0 4 rfl
theorem dX0_isRefiningSound_7 : decode cX0_isRefiningSound 7 = .ok (.getfield 31, 3) := dget dkX0_isRefiningSound_0 5 rfl
theorem dX0_isRefiningSound_10 : decode cX0_isRefiningSound 10 = .ok (.aload_n 1, 1) := dget dkX0_isRefiningSound_0 6 rfl
theorem dX0_isRefiningSound_11 : decode cX0_isRefiningSound 11 = .ok (.aload_n 2, 1) := dget dkX0_isRefiningSound_0 7 rfl
theorem dX0_isRefiningSound_12 : decode cX0_isRefiningSound 12 = .ok (.invokevirtual 39, 3) := dget dkX0_isRefiningSound_0 8 rfl
theorem dX0_isRefiningSound_15 : decode cX0_isRefiningSound 15 = .ok (.iload_n 3, 1) := dget dkX0_isRefiningSound_0 9 rfl
theorem dX0_isRefiningSound_16 : decode cX0_isRefiningSound 16 = .ok (.aload_n 0, 1) := dget dkX0_isRefiningSound_0 10 rfl
theorem dX0_isRefiningSound_17 : decode cX0_isRefiningSound 17 = .ok (.aload_n 1, 1) := dget dkX0_isRefiningSound_0 11 rfl
theorem dX0_isRefiningSound_18 : decode cX0_isRefiningSound 18 = .ok (.aload_n 2, 1) := dget dkX0_isRefiningSound_0 12 rfl
theorem dX0_isRefiningSound_19 : decode cX0_isRefiningSound 19 = .ok (.invokevirtual 43, 3) := dget dkX0_isRefiningSound_0 13 rfl
theorem dX0_isRefiningSound_22 : decode cX0_isRefiningSound 22 = .ok (.if_icmp .ne 33, 3) := dget dkX0_isRefiningSound_0 14 rfl
theorem dX0_isRefiningSound_25 : decode cX0_isRefiningSound 25 = .ok (.iload_n 3, 1) := dget dkX0_isRefiningSound_0 15 rfl
theorem dX0_isRefiningSound_26 : decode cX0_isRefiningSound 26 = .ok (.ifCond .eq 14, 3) := dget dkX0_isRefiningSound_0 16 rfl
theorem dX0_isRefiningSound_29 : decode cX0_isRefiningSound 29 = .ok (.aload_n 1, 1) := dget dkX0_isRefiningSound_0 17 rfl
theorem dX0_isRefiningSound_30 : decode cX0_isRefiningSound 30 = .ok (.invokevirtual 47, 3) := dget dkX0_isRefiningSound_0 18 rfl
theorem dX0_isRefiningSound_33 : decode cX0_isRefiningSound 33 = .ok (.aload_n 2, 1) := dget dkX0_isRefiningSound_0 19 rfl
theorem dX0_isRefiningSound_34 : decode cX0_isRefiningSound 34 = .ok (.invokevirtual 47, 3) := dget dkX0_isRefiningSound_0 20 rfl
theorem dX0_isRefiningSound_37 : decode cX0_isRefiningSound 37 = .ok (.if_icmp .lt 18, 3) := dget dkX0_isRefiningSound_0 21 rfl
theorem dX0_isRefiningSound_40 : decode cX0_isRefiningSound 40 = .ok (.aload_n 0, 1) := dget dkX0_isRefiningSound_0 22 rfl
theorem dX0_isRefiningSound_41 : decode cX0_isRefiningSound 41 = .ok (.getfield 31, 3) := dget dkX0_isRefiningSound_0 23 rfl
theorem dX0_isRefiningSound_44 : decode cX0_isRefiningSound 44 = .ok (.aload_n 1, 1) := dget dkX0_isRefiningSound_0 24 rfl
theorem dX0_isRefiningSound_45 : decode cX0_isRefiningSound 45 = .ok (.invokevirtual 35, 3) := dget dkX0_isRefiningSound_0 25 rfl
theorem dX0_isRefiningSound_48 : decode cX0_isRefiningSound 48 = .ok (.ifCond .eq 7, 3) := dget dkX0_isRefiningSound_0 26 rfl
theorem dX0_isRefiningSound_51 : decode cX0_isRefiningSound 51 = .ok (.iconst 1, 1) := dget dkX0_isRefiningSound_0 27 rfl
theorem dX0_isRefiningSound_52 : decode cX0_isRefiningSound 52 = .ok (.goto 4, 3) := dget dkX0_isRefiningSound_0 28 rfl
theorem dX0_isRefiningSound_56 : decode cX0_isRefiningSound 56 = .ok (.ireturn, 1) := dget dkX0_isRefiningSound_0 30 rfl
theorem ggX0_isProductAlike_X2_becomeCopyOf : GoodIn wsX0_isProductAlike wsX2_becomeCopyOf := tgCall 168 e_X2_becomeCopyOf (by decide +kernel)
theorem gX0_isProductAlike_X2_becomeCopyOf : GoodIn wsX0_isProductAlike (wsV RX0 51 RX2 yX2_becomeCopyOf wsX2_becomeCopyOf) := goodIn_app (tgIn [184, 166, 167, 9] (by decide +kernel) rfl) ggX0_isProductAlike_X2_becomeCopyOf
theorem ggX0_isProductAlike_X3_arrangeAll : GoodIn wsX0_isProductAlike wsX3_arrangeAll := tgCall 188 e_X3_arrangeAll (by decide +kernel)
theorem gX0_isProductAlike_X3_arrangeAll : GoodIn wsX0_isProductAlike (wsV RX0 55 RX3 yX3_arrangeAll wsX3_arrangeAll) := goodIn_app (tgIn [185, 186, 187, 5] (by decide +kernel) rfl) ggX0_isProductAlike_X3_arrangeAll
theorem ggX0_isProductAlike_X1_becomeProductOf : GoodIn wsX0_isProductAlike wsX1_becomeProductOf := tgCall 141 e_X1_becomeProductOf (by decide +kernel)
theorem gX0_isProductAlike_X1_becomeProductOf : GoodIn wsX0_isProductAlike (wsV RX0 39 RX1 yX1_becomeProductOf wsX1_becomeProductOf) := goodIn_app (tgIn [138, 139, 140, 14] (by decide +kernel) rfl) ggX0_isProductAlike_X1_becomeProductOf
theorem ggX0_isProductAlike_X2_isLike : GoodIn wsX0_isProductAlike wsX2_isLike := tgCall 192 e_X2_isLike (by decide +kernel)
theorem gX0_isProductAlike_X2_isLike : GoodIn wsX0_isProductAlike (wsV RX0 59 RX2 yX2_isLike wsX2_isLike) := goodIn_app (tgIn [189, 190, 191, 9] (by decide +kernel) rfl) ggX0_isProductAlike_X2_isLike
theorem dkX0_isProductAlike_0 : ([(0, (.aload_n 0, 1)), (1, (.getfield 21, 3)), (4, (.aload_n 1, 1)), (5, (.invokevirtual 51, 3)), (8, (.aload_n 0, 1)), (9, (.getfield 12, 3)), (12, (.aload_n 0, 1)), (13, (.getfield 21, 3)), (16, (.aload_n 2, 1)), (17, (.iconst 0, 1)), (18, (.invokevirtual 55, 3)), (21, (.aload_n 0, 1)), (22, (.getfield 12, 3)), (25, (.aload_n 0, 1)), (26, (.getfield 21, 3)), (29, (.aload_n 3, 1)), (30, (.iconst 0, 1)), (31, (.invokevirtual 55, 3)), (34, (.aload_n 0, 1)), (35, (.getfield 31, 3)), (38, (.aload_n 3, 1)), (39, (.aload_n 2, 1)), (40, (.invokevirtual 39, 3)), (43, (.aload_n 0, 1)), (44, (.getfield 25, 3)), (47, (.aload_n 1, 1)), (48, (.invokevirtual 51, 3)), (51, (.aload_n 0, 1)), (52, (.getfield 12, 3)), (55, (.aload_n 0, 1)), (56, (.getfield 25, 3)), (59, (.aload_n 0, 1)), (60, (.getfield 31, 3)), (63, (.iconst 0, 1)), (64, (.invokevirtual 55, 3)), (67, (.aload_n 0, 1)), (68, (.getfield 21, 3)), (71, (.aload_n 0, 1)), (72, (.getfield 25, 3)), (75, (.invokevirtual 59, 3))] : List (Nat × (Jvm.ClassFile.Instr × Nat))).all (dcB cX0_isProductAlike) = true := by decide +kernel
theorem dX0_isProductAlike_0 : decode cX0_isProductAlike 0 = .ok (.aload_n 0, 1) := dget dkX0_isProductAlike_0 0 rfl
theorem dX0_isProductAlike_1 : decode cX0_isProductAlike 1 = .ok (.getfield 21, 3) := dget dkX0_isProductAlike_0 1 rfl
theorem dX0_isProductAlike_4 : decode cX0_isProductAlike 4 = .ok (.aload_n 1, 1) := dget dkX0_isProductAlike_0 2 rfl
theorem dX0_isProductAlike_5 : decode cX0_isProductAlike 5 = .ok (.invokevirtual 51, 3) := dget dkX0_isProductAlike_0 3 rfl
theorem dX0_isProductAlike_8 : decode cX0_isProductAlike 8 = .ok (.aload_n 0, 1) := dget dkX0_isProductAlike_0 4 rfl
theorem dX0_isProductAlike_9 : decode cX0_isProductAlike 9 = .ok (.getfield 12, 3) := dget dkX0_isProductAlike_0 5 rfl
theorem dX0_isProductAlike_12 : decode cX0_isProductAlike 12 = .ok (.aload_n 0, 1) := dget dkX0_isProductAlike_0 6 rfl
theorem dX0_isProductAlike_13 : decode cX0_isProductAlike 13 = .ok (.getfield 21, 3) := dget dkX0_isProductAlike_0 7 rfl
theorem dX0_isProductAlike_16 : decode cX0_isProductAlike 16 = .ok (.aload_n 2, 1) := dget dkX0_isProductAlike_0 8 rfl
theorem dX0_isProductAlike_17 : decode cX0_isProductAlike 17 = .ok (.iconst 0, 1) := dget dkX0_isProductAlike_0 9 rfl
theorem dX0_isProductAlike_18 : decode cX0_isProductAlike 18 = .ok (.invokevirtual 55, 3) := dget dkX0_isProductAlike_0 10 rfl
theorem dX0_isProductAlike_21 : decode cX0_isProductAlike 21 = .ok (.aload_n 0, 1) := dget dkX0_isProductAlike_0 11 rfl
theorem dX0_isProductAlike_22 : decode cX0_isProductAlike 22 = .ok (.getfield 12, 3) := dget dkX0_isProductAlike_0 12 rfl
theorem dX0_isProductAlike_25 : decode cX0_isProductAlike 25 = .ok (.aload_n 0, 1) := dget dkX0_isProductAlike_0 13 rfl
theorem dX0_isProductAlike_26 : decode cX0_isProductAlike 26 = .ok (.getfield 21, 3) := dget dkX0_isProductAlike_0 14 rfl
theorem dX0_isProductAlike_29 : decode cX0_isProductAlike 29 = .ok (.aload_n 3, 1) := dget dkX0_isProductAlike_0 15 rfl
theorem dX0_isProductAlike_30 : decode cX0_isProductAlike 30 = .ok (.iconst 0, 1) := dget dkX0_isProductAlike_0 16 rfl
theorem dX0_isProductAlike_31 : decode cX0_isProductAlike 31 = .ok (.invokevirtual 55, 3) := dget dkX0_isProductAlike_0 17 rfl
theorem dX0_isProductAlike_34 : decode cX0_isProductAlike 34 = .ok (.aload_n 0, 1) := dget dkX0_isProductAlike_0 18 rfl
theorem dX0_isProductAlike_35 : decode cX0_isProductAlike 35 = .ok (.getfield 31, 3) := dget dkX0_isProductAlike_0 19 rfl
theorem dX0_isProductAlike_38 : decode cX0_isProductAlike 38 = .ok (.aload_n 3, 1) := dget dkX0_isProductAlike_0 20 rfl
theorem dX0_isProductAlike_39 : decode cX0_isProductAlike 39 = .ok (.aload_n 2, 1) := dget dkX0_isProductAlike_0 21 rfl
theorem dX0_isProductAlike_40 : decode cX0_isProductAlike 40 = .ok (.invokevirtual 39, 3) := dget dkX0_isProductAlike_0 22 rfl
theorem dX0_isProductAlike_43 : decode cX0_isProductAlike 43 = .ok (.aload_n 0, 1) := dget dkX0_isProductAlike_0 23 rfl
theorem dX0_isProductAlike_44 : decode cX0_isProductAlike 44 = .ok (.getfield 25, 3) := dget dkX0_isProductAlike_0 24 rfl
theorem dX0_isProductAlike_47 : decode cX0_isProductAlike 47 = .ok (.aload_n 1, 1) := dget dkX0_isProductAlike_0 25 rfl
theorem dX0_isProductAlike_48 : decode cX0_isProductAlike 48 = .ok (.invokevirtual 51, 3) := dget dkX0_isProductAlike_0 26 rfl
theorem dX0_isProductAlike_51 : decode cX0_isProductAlike 51 = .ok (.aload_n 0, 1) := dget dkX0_isProductAlike_0 27 rfl
theorem dX0_isProductAlike_52 : decode cX0_isProductAlike 52 = .ok (.getfield 12, 3) := dget dkX0_isProductAlike_0 28 rfl
theorem dX0_isProductAlike_55 : decode cX0_isProductAlike 55 = .ok (.aload_n 0, 1) := dget dkX0_isProductAlike_0 29 rfl
theorem dX0_isProductAlike_56 : decode cX0_isProductAlike 56 = .ok (.getfield 25, 3) := dget dkX0_isProductAlike_0 30 rfl
theorem dX0_isProductAlike_59 : decode cX0_isProductAlike 59 = .ok (.aload_n 0, 1) := dget dkX0_isProductAlike_0 31 rfl
theorem dX0_isProductAlike_60 : decode cX0_isProductAlike 60 = .ok (.getfield 31, 3) := dget dkX0_isProductAlike_0 32 rfl
theorem dX0_isProductAlike_63 : decode cX0_isProductAlike 63 = .ok (.iconst 0, 1) := dget dkX0_isProductAlike_0 33 rfl
theorem dX0_isProductAlike_64 : decode cX0_isProductAlike 64 = .ok (.invokevirtual 55, 3) := dget dkX0_isProductAlike_0 34 rfl
theorem dX0_isProductAlike_67 : decode cX0_isProductAlike 67 = .ok (.aload_n 0, 1) := dget dkX0_isProductAlike_0 35 rfl
theorem dX0_isProductAlike_68 : decode cX0_isProductAlike 68 = .ok (.getfield 21, 3) := dget dkX0_isProductAlike_0 36 rfl
theorem dX0_isProductAlike_71 : decode cX0_isProductAlike 71 = .ok (.aload_n 0, 1) := dget dkX0_isProductAlike_0 37 rfl
theorem dX0_isProductAlike_72 : decode cX0_isProductAlike 72 = .ok (.getfield 25, 3) := dget dkX0_isProductAlike_0 38 rfl
theorem dX0_isProductAlike_75 : decode cX0_isProductAlike 75 = .ok (.invokevirtual 59, 3) := dget dkX0_isProductAlike_0 39 rfl
theorem dkX0_isProductAlike_1 : ([(78, (.ireturn, 1))] : List (Nat × (Jvm.ClassFile.Instr × Nat))).all (dcB cX0_isProductAlike) = true := by decide +kernel
theorem dX0_isProductAlike_78 : decode cX0_isProductAlike 78 = .ok (.ireturn, 1) := dget dkX0_isProductAlike_1 0 rfl
theorem ggX0_areSignsTurned_X1_compared : GoodIn wsX0_areSignsTurned wsX1_compared := tgCall 93 e_X1_compared (by decide +kernel)
theorem gX0_areSignsTurned_X1_compared : GoodIn wsX0_areSignsTurned (wsV RX0 63 RX1 yX1_compared wsX1_compared) := goodIn_app (tgIn [132, 91, 92, 14] (by decide +kernel) rfl) ggX0_areSignsTurned_X1_compared
theorem dkX0_areSignsTurned_0 : ([(0, (.iconst 0, 1)), (1, (.istore_n 2, 1)), (2, (.iload_n 2, 1)), (3, (.bipush 16, 2)), (5, (.if_icmp .ge 41, 3)), (8, (.iconst 0, 1)), (9, (.istore_n 3, 1)), (10, (.iload_n 3, 1)), (11, (.bipush 16, 2)), (13, (.if_icmp .ge 27, 3)), (16, (.aload_n 1, 1)), (17, (.iload_n 2, 1)), (18, (.iload_n 3, 1)), (19, (.invokevirtual 63, 3)), (22, (.aload_n 1, 1)), (23, (.iload_n 3, 1)), (24, (.iload_n 2, 1)), (25, (.invokevirtual 63, 3)), (28, (.ineg, 1)), (29, (.if_icmp .eq 5, 3)), (32, (.iconst 0, 1)), (33, (.ireturn, 1)), (34, (.iinc 3 1, 3)), (37, (.goto (-27), 3)), (40, (.iinc 2 1, 3)), (43, (.goto (-41), 3)), (46, (.iconst 1, 1)), (47, (.ireturn, 1))] : List (Nat × (Jvm.ClassFile.Instr × Nat))).all (dcB cX0_areSignsTurned) = true := by decide +kernel
theorem dX0_areSignsTurned_0 : decode cX0_areSignsTurned 0 = .ok (.iconst 0, 1) := dget dkX0_areSignsTurned_0 0 rfl
theorem dX0_areSignsTurned_1 : decode cX0_areSignsTurned 1 = .ok (.istore_n 2, 1) := dget dkX0_areSignsTurned_0 1 rfl
theorem dX0_areSignsTurned_2 : decode cX0_areSignsTurned 2 = .ok (.iload_n 2, 1) := dget dkX0_areSignsTurned_0 2 rfl
theorem dX0_areSignsTurned_3 : decode cX0_areSignsTurned 3 = .ok (.bipush 16, 2) := dget dkX0_areSignsTurned_0 3 rfl
theorem dX0_areSignsTurned_5 : decode cX0_areSignsTurned 5 = .ok (.if_icmp .ge 41, 3) := dget dkX0_areSignsTurned_0 4 rfl
theorem dX0_areSignsTurned_8 : decode cX0_areSignsTurned 8 = .ok (.iconst 0, 1) := dget dkX0_areSignsTurned_0 5 rfl
theorem dX0_areSignsTurned_9 : decode cX0_areSignsTurned 9 = .ok (.istore_n 3, 1) := dget dkX0_areSignsTurned_0 6 rfl
theorem dX0_areSignsTurned_10 : decode cX0_areSignsTurned 10 = .ok (.iload_n 3, 1) := dget dkX0_areSignsTurned_0 7 rfl
theorem dX0_areSignsTurned_11 : decode cX0_areSignsTurned 11 = .ok (.bipush 16, 2) := dget dkX0_areSignsTurned_0 8 rfl
theorem dX0_areSignsTurned_13 : decode cX0_areSignsTurned 13 = .ok (.if_icmp .ge 27, 3) := dget dkX0_areSignsTurned_0 9 rfl
theorem dX0_areSignsTurned_16 : decode cX0_areSignsTurned 16 = .ok (.aload_n 1, 1) := dget dkX0_areSignsTurned_0 10 rfl
theorem dX0_areSignsTurned_17 : decode cX0_areSignsTurned 17 = .ok (.iload_n 2, 1) := dget dkX0_areSignsTurned_0 11 rfl
theorem dX0_areSignsTurned_18 : decode cX0_areSignsTurned 18 = .ok (.iload_n 3, 1) := dget dkX0_areSignsTurned_0 12 rfl
theorem dX0_areSignsTurned_19 : decode cX0_areSignsTurned 19 = .ok (.invokevirtual 63, 3) := dget dkX0_areSignsTurned_0 13 rfl
theorem dX0_areSignsTurned_22 : decode cX0_areSignsTurned 22 = .ok (.aload_n 1, 1) := dget dkX0_areSignsTurned_0 14 rfl
theorem dX0_areSignsTurned_23 : decode cX0_areSignsTurned 23 = .ok (.iload_n 3, 1) := dget dkX0_areSignsTurned_0 15 rfl
theorem dX0_areSignsTurned_24 : decode cX0_areSignsTurned 24 = .ok (.iload_n 2, 1) := dget dkX0_areSignsTurned_0 16 rfl
theorem dX0_areSignsTurned_25 : decode cX0_areSignsTurned 25 = .ok (.invokevirtual 63, 3) := dget dkX0_areSignsTurned_0 17 rfl
theorem dX0_areSignsTurned_28 : decode cX0_areSignsTurned 28 = .ok (.ineg, 1) := dget dkX0_areSignsTurned_0 18 rfl
theorem dX0_areSignsTurned_29 : decode cX0_areSignsTurned 29 = .ok (.if_icmp .eq 5, 3) := dget dkX0_areSignsTurned_0 19 rfl
theorem dX0_areSignsTurned_34 : decode cX0_areSignsTurned 34 = .ok (.iinc 3 1, 3) := dget dkX0_areSignsTurned_0 22 rfl
theorem dX0_areSignsTurned_37 : decode cX0_areSignsTurned 37 = .ok (.goto (-27), 3) := dget dkX0_areSignsTurned_0 23 rfl
theorem dX0_areSignsTurned_40 : decode cX0_areSignsTurned 40 = .ok (.iinc 2 1, 3) := dget dkX0_areSignsTurned_0 24 rfl
theorem dX0_areSignsTurned_43 : decode cX0_areSignsTurned 43 = .ok (.goto (-41), 3) := dget dkX0_areSignsTurned_0 25 rfl
theorem dX0_areSignsTurned_46 : decode cX0_areSignsTurned 46 = .ok (.iconst 1, 1) := dget dkX0_areSignsTurned_0 26 rfl
theorem dX0_areSignsTurned_47 : decode cX0_areSignsTurned 47 = .ok (.ireturn, 1) := dget dkX0_areSignsTurned_0 27 rfl
theorem ggX0_areRanksAsClasses_X0_isRankOfSome : GoodIn wsX0_areRanksAsClasses wsX0_isRankOfSome := tgCall 626 e_X0_isRankOfSome (by decide +kernel)
theorem gX0_areRanksAsClasses_X0_isRankOfSome : GoodIn wsX0_areRanksAsClasses (va_wsS RX0 67 yX0_isRankOfSome wsX0_isRankOfSome) := goodIn_app (tgIn [624, 625, 130] (by decide +kernel) rfl) ggX0_areRanksAsClasses_X0_isRankOfSome
theorem ggX0_areRanksAsClasses_X1_classCount : GoodIn wsX0_areRanksAsClasses wsX1_classCount := tgCall 149 e_X1_classCount (by decide +kernel)
theorem gX0_areRanksAsClasses_X1_classCount : GoodIn wsX0_areRanksAsClasses (wsV RX0 47 RX1 yX1_classCount wsX1_classCount) := goodIn_app (tgIn [146, 147, 148, 14] (by decide +kernel) rfl) ggX0_areRanksAsClasses_X1_classCount
theorem dkX0_areRanksAsClasses_0 : ([(0, (.iconst 0, 1)), (1, (.istore_n 2, 1)), (2, (.iconst 0, 1)), (3, (.istore_n 3, 1)), (4, (.iload_n 3, 1)), (5, (.bipush 16, 2)), (7, (.if_icmp .ge 20, 3)), (10, (.aload_n 1, 1)), (11, (.iload_n 3, 1)), (12, (.invokestatic 67, 3)), (15, (.ifCond .eq 6, 3)), (18, (.iinc 2 1, 3)), (21, (.iinc 3 1, 3)), (24, (.goto (-20), 3)), (27, (.iload_n 2, 1)), (28, (.aload_n 1, 1)), (29, (.invokevirtual 47, 3)), (32, (.if_icmp .ne 7, 3)), (35, (.iconst 1, 1)), (36, (.goto 4, 3)), (39, (.iconst 0, 1)), (40, (.ireturn, 1))] : List (Nat × (Jvm.ClassFile.Instr × Nat))).all (dcB cX0_areRanksAsClasses) = true := by decide +kernel
theorem dX0_areRanksAsClasses_0 : decode cX0_areRanksAsClasses 0 = .ok (.iconst 0, 1) := dget dkX0_areRanksAsClasses_0 0 rfl
theorem dX0_areRanksAsClasses_1 : decode cX0_areRanksAsClasses 1 = .ok (.istore_n 2, 1) := dget dkX0_areRanksAsClasses_0 1 rfl
theorem dX0_areRanksAsClasses_2 : decode cX0_areRanksAsClasses 2 = .ok (.iconst 0, 1) := dget dkX0_areRanksAsClasses_0 2 rfl
theorem dX0_areRanksAsClasses_3 : decode cX0_areRanksAsClasses 3 = .ok (.istore_n 3, 1) := dget dkX0_areRanksAsClasses_0 3 rfl
theorem dX0_areRanksAsClasses_4 : decode cX0_areRanksAsClasses 4 = .ok (.iload_n 3, 1) := dget dkX0_areRanksAsClasses_0 4 rfl
theorem dX0_areRanksAsClasses_5 : decode cX0_areRanksAsClasses 5 = .ok (.bipush 16, 2) := dget dkX0_areRanksAsClasses_0 5 rfl
theorem dX0_areRanksAsClasses_7 : decode cX0_areRanksAsClasses 7 = .ok (.if_icmp .ge 20, 3) := dget dkX0_areRanksAsClasses_0 6 rfl
theorem dX0_areRanksAsClasses_10 : decode cX0_areRanksAsClasses 10 = .ok (.aload_n 1, 1) := dget dkX0_areRanksAsClasses_0 7 rfl
theorem dX0_areRanksAsClasses_11 : decode cX0_areRanksAsClasses 11 = .ok (.iload_n 3, 1) := dget dkX0_areRanksAsClasses_0 8 rfl
theorem dX0_areRanksAsClasses_12 : decode cX0_areRanksAsClasses 12 = .ok (.invokestatic 67, 3) := dget dkX0_areRanksAsClasses_0 9 rfl
theorem dX0_areRanksAsClasses_15 : decode cX0_areRanksAsClasses 15 = .ok (.ifCond .eq 6, 3) := dget dkX0_areRanksAsClasses_0 10 rfl
theorem dX0_areRanksAsClasses_18 : decode cX0_areRanksAsClasses 18 = .ok (.iinc 2 1, 3) := dget dkX0_areRanksAsClasses_0 11 rfl
theorem dX0_areRanksAsClasses_21 : decode cX0_areRanksAsClasses 21 = .ok (.iinc 3 1, 3) := dget dkX0_areRanksAsClasses_0 12 rfl
theorem dX0_areRanksAsClasses_24 : decode cX0_areRanksAsClasses 24 = .ok (.goto (-20), 3) := dget dkX0_areRanksAsClasses_0 13 rfl
theorem dX0_areRanksAsClasses_27 : decode cX0_areRanksAsClasses 27 = .ok (.iload_n 2, 1) := dget dkX0_areRanksAsClasses_0 14 rfl
theorem dX0_areRanksAsClasses_28 : decode cX0_areRanksAsClasses 28 = .ok (.aload_n 1, 1) := dget dkX0_areRanksAsClasses_0 15 rfl
theorem dX0_areRanksAsClasses_29 : decode cX0_areRanksAsClasses 29 = .ok (.invokevirtual 47, 3) := dget dkX0_areRanksAsClasses_0 16 rfl
theorem dX0_areRanksAsClasses_32 : decode cX0_areRanksAsClasses 32 = .ok (.if_icmp .ne 7, 3) := dget dkX0_areRanksAsClasses_0 17 rfl
theorem dX0_areRanksAsClasses_35 : decode cX0_areRanksAsClasses 35 = .ok (.iconst 1, 1) := dget dkX0_areRanksAsClasses_0 18 rfl
theorem dX0_areRanksAsClasses_36 : decode cX0_areRanksAsClasses 36 = .ok (.goto 4, 3) := dget dkX0_areRanksAsClasses_0 19 rfl
theorem dX0_areRanksAsClasses_39 : decode cX0_areRanksAsClasses 39 = .ok (.iconst 0, 1) := dget dkX0_areRanksAsClasses_0 20 rfl
theorem dX0_areRanksAsClasses_40 : decode cX0_areRanksAsClasses 40 = .ok (.ireturn, 1) := dget dkX0_areRanksAsClasses_0 21 rfl
theorem ggX0_isRankOfSome_X1_rankOf : GoodIn wsX0_isRankOfSome wsX1_rankOf := tgCall 174 e_X1_rankOf (by decide +kernel)
theorem gX0_isRankOfSome_X1_rankOf : GoodIn wsX0_isRankOfSome (wsV RX0 71 RX1 yX1_rankOf wsX1_rankOf) := goodIn_app (tgIn [211, 172, 173, 14] (by decide +kernel) rfl) ggX0_isRankOfSome_X1_rankOf
theorem dkX0_isRankOfSome_0 : ([(0, (.iconst 0, 1)), (1, (.istore_n 2, 1)), (2, (.iload_n 2, 1)), (3, (.bipush 16, 2)), (5, (.if_icmp .ge 20, 3)), (8, (.aload_n 0, 1)), (9, (.iload_n 2, 1)), (10, (.invokevirtual 71, 3)), (13, (.iload_n 1, 1)), (14, (.if_icmp .ne 5, 3)), (17, (.iconst 1, 1)), (18, (.ireturn, 1)), (19, (.iinc 2 1, 3)), (22, (.goto (-20), 3)), (25, (.iconst 0, 1)), (26, (.ireturn, 1))] : List (Nat × (Jvm.ClassFile.Instr × Nat))).all (dcB cX0_isRankOfSome) = true := by decide +kernel
theorem dX0_isRankOfSome_0 : decode cX0_isRankOfSome 0 = .ok (.iconst 0, 1) := dget dkX0_isRankOfSome_0 0 rfl
theorem dX0_isRankOfSome_1 : decode cX0_isRankOfSome 1 = .ok (.istore_n 2, 1) := dget dkX0_isRankOfSome_0 1 rfl
theorem dX0_isRankOfSome_2 : decode cX0_isRankOfSome 2 = .ok (.iload_n 2, 1) := dget dkX0_isRankOfSome_0 2 rfl
theorem dX0_isRankOfSome_3 : decode cX0_isRankOfSome 3 = .ok (.bipush 16, 2) := dget dkX0_isRankOfSome_0 3 rfl
theorem dX0_isRankOfSome_5 : decode cX0_isRankOfSome 5 = .ok (.if_icmp .ge 20, 3) := dget dkX0_isRankOfSome_0 4 rfl
theorem dX0_isRankOfSome_8 : decode cX0_isRankOfSome 8 = .ok (.aload_n 0, 1) := dget dkX0_isRankOfSome_0 5 rfl
theorem dX0_isRankOfSome_9 : decode cX0_isRankOfSome 9 = .ok (.iload_n 2, 1) := dget dkX0_isRankOfSome_0 6 rfl
theorem dX0_isRankOfSome_10 : decode cX0_isRankOfSome 10 = .ok (.invokevirtual 71, 3) := dget dkX0_isRankOfSome_0 7 rfl
theorem dX0_isRankOfSome_13 : decode cX0_isRankOfSome 13 = .ok (.iload_n 1, 1) := dget dkX0_isRankOfSome_0 8 rfl
theorem dX0_isRankOfSome_14 : decode cX0_isRankOfSome 14 = .ok (.if_icmp .ne 5, 3) := dget dkX0_isRankOfSome_0 9 rfl
theorem dX0_isRankOfSome_17 : decode cX0_isRankOfSome 17 = .ok (.iconst 1, 1) := dget dkX0_isRankOfSome_0 10 rfl
theorem dX0_isRankOfSome_18 : decode cX0_isRankOfSome 18 = .ok (.ireturn, 1) := dget dkX0_isRankOfSome_0 11 rfl
theorem dX0_isRankOfSome_19 : decode cX0_isRankOfSome 19 = .ok (.iinc 2 1, 3) := dget dkX0_isRankOfSome_0 12 rfl
theorem dX0_isRankOfSome_22 : decode cX0_isRankOfSome 22 = .ok (.goto (-20), 3) := dget dkX0_isRankOfSome_0 13 rfl
theorem dX0_isRankOfSome_25 : decode cX0_isRankOfSome 25 = .ok (.iconst 0, 1) := dget dkX0_isRankOfSome_0 14 rfl
theorem dX0_isRankOfSome_26 : decode cX0_isRankOfSome 26 = .ok (.ireturn, 1) := dget dkX0_isRankOfSome_0 15 rfl
theorem ggX0_isFinerBySorting_X2_becomeAllValues : GoodIn wsX0_isFinerBySorting wsX2_becomeAllValues := tgCall 110 e_X2_becomeAllValues (by decide +kernel)
theorem gX0_isFinerBySorting_X2_becomeAllValues : GoodIn wsX0_isFinerBySorting (wsV RX0 75 RX2 yX2_becomeAllValues wsX2_becomeAllValues) := goodIn_app (tgIn [107, 108, 109, 9] (by decide +kernel) rfl) ggX0_isFinerBySorting_X2_becomeAllValues
theorem ggX0_isFinerBySorting_X2_length : GoodIn wsX0_isFinerBySorting wsX2_length := tgCall 118 e_X2_length (by decide +kernel)
theorem gX0_isFinerBySorting_X2_length : GoodIn wsX0_isFinerBySorting (wsV RX0 78 RX2 yX2_length wsX2_length) := goodIn_app (tgIn [115, 116, 117, 9] (by decide +kernel) rfl) ggX0_isFinerBySorting_X2_length
theorem ggX0_isFinerBySorting_X3_insertEach : GoodIn wsX0_isFinerBySorting wsX3_insertEach := tgCall 122 e_X3_insertEach (by decide +kernel)
theorem gX0_isFinerBySorting_X3_insertEach : GoodIn wsX0_isFinerBySorting (wsV RX0 81 RX3 yX3_insertEach wsX3_insertEach) := goodIn_app (tgIn [119, 120, 121, 5] (by decide +kernel) rfl) ggX0_isFinerBySorting_X3_insertEach
theorem ggX0_isFinerBySorting_X2_isInSequenceBy : GoodIn wsX0_isFinerBySorting wsX2_isInSequenceBy := tgCall 126 e_X2_isInSequenceBy (by decide +kernel)
theorem gX0_isFinerBySorting_X2_isInSequenceBy : GoodIn wsX0_isFinerBySorting (wsV RX0 85 RX2 yX2_isInSequenceBy wsX2_isInSequenceBy) := goodIn_app (tgIn [123, 124, 125, 9] (by decide +kernel) rfl) ggX0_isFinerBySorting_X2_isInSequenceBy
theorem ggX0_isFinerBySorting_X0_areAlikeAlike : GoodIn wsX0_isFinerBySorting wsX0_areAlikeAlike := tgCall 131 e_X0_areAlikeAlike (by decide +kernel)
theorem gX0_isFinerBySorting_X0_areAlikeAlike : GoodIn wsX0_isFinerBySorting (va_wsS RX0 88 yX0_areAlikeAlike wsX0_areAlikeAlike) := goodIn_app (tgIn [128, 129, 130] (by decide +kernel) rfl) ggX0_isFinerBySorting_X0_areAlikeAlike
theorem dkX0_isFinerBySorting_0 : ([(0, (.aload_n 0, 1)), (1, (.getfield 21, 3)), (4, (.invokevirtual 75, 3)), (7, (.aload_n 0, 1)), (8, (.getfield 12, 3)), (11, (.aload_n 0, 1)), (12, (.getfield 21, 3)), (15, (.aload_n 1, 1)), (16, (.iconst 0, 1)), (17, (.aload_n 0, 1)), (18, (.getfield 21, 3)), (21, (.invokevirtual 78, 3)), (24, (.invokevirtual 81, 3)), (27, (.aload_n 0, 1)), (28, (.getfield 21, 3)), (31, (.aload_n 2, 1)), (32, (.invokevirtual 85, 3)), (35, (.ifCond .eq 15, 3)), (38, (.aload_n 1, 1)), (39, (.aload_n 2, 1)), (40, (.invokestatic 88, 3)), (43, (.ifCond .eq 7, 3)), (46, (.iconst 1, 1)), (47, (.goto 4, 3)), (50, (.iconst 0, 1)), (51, (.ireturn, 1))] : List (Nat × (Jvm.ClassFile.Instr × Nat))).all (dcB cX0_isFinerBySorting) = true := by decide +kernel
theorem dX0_isFinerBySorting_0 : decode cX0_isFinerBySorting 0 = .ok (.aload_n 0, 1) := dget dkX0_isFinerBySorting_0 0 rfl
theorem dX0_isFinerBySorting_1 : decode cX0_isFinerBySorting 1 = .ok (.getfield 21, 3) := dget dkX0_isFinerBySorting_0 1 rfl
theorem dX0_isFinerBySorting_4 : decode cX0_isFinerBySorting 4 = .ok (.invokevirtual 75, 3) := dget dkX0_isFinerBySorting_0 2 rfl
theorem dX0_isFinerBySorting_7 : decode cX0_isFinerBySorting 7 = .ok (.aload_n 0, 1) := dget dkX0_isFinerBySorting_0 3 rfl
theorem dX0_isFinerBySorting_8 : decode cX0_isFinerBySorting 8 = .ok (.getfield 12, 3) := dget dkX0_isFinerBySorting_0 4 rfl
theorem dX0_isFinerBySorting_11 : decode cX0_isFinerBySorting 11 = .ok (.aload_n 0, 1) := dget dkX0_isFinerBySorting_0 5 rfl
theorem dX0_isFinerBySorting_12 : decode cX0_isFinerBySorting 12 = .ok (.getfield 21, 3) := dget dkX0_isFinerBySorting_0 6 rfl
theorem dX0_isFinerBySorting_15 : decode cX0_isFinerBySorting 15 = .ok (.aload_n 1, 1) := dget dkX0_isFinerBySorting_0 7 rfl
theorem dX0_isFinerBySorting_16 : decode cX0_isFinerBySorting 16 = .ok (.iconst 0, 1) := dget dkX0_isFinerBySorting_0 8 rfl
theorem dX0_isFinerBySorting_17 : decode cX0_isFinerBySorting 17 = .ok (.aload_n 0, 1) := dget dkX0_isFinerBySorting_0 9 rfl
theorem dX0_isFinerBySorting_18 : decode cX0_isFinerBySorting 18 = .ok (.getfield 21, 3) := dget dkX0_isFinerBySorting_0 10 rfl
theorem dX0_isFinerBySorting_21 : decode cX0_isFinerBySorting 21 = .ok (.invokevirtual 78, 3) := dget dkX0_isFinerBySorting_0 11 rfl
theorem dX0_isFinerBySorting_24 : decode cX0_isFinerBySorting 24 = .ok (.invokevirtual 81, 3) := dget dkX0_isFinerBySorting_0 12 rfl
theorem dX0_isFinerBySorting_27 : decode cX0_isFinerBySorting 27 = .ok (.aload_n 0, 1) := dget dkX0_isFinerBySorting_0 13 rfl
theorem dX0_isFinerBySorting_28 : decode cX0_isFinerBySorting 28 = .ok (.getfield 21, 3) := dget dkX0_isFinerBySorting_0 14 rfl
theorem dX0_isFinerBySorting_31 : decode cX0_isFinerBySorting 31 = .ok (.aload_n 2, 1) := dget dkX0_isFinerBySorting_0 15 rfl
theorem dX0_isFinerBySorting_32 : decode cX0_isFinerBySorting 32 = .ok (.invokevirtual 85, 3) := dget dkX0_isFinerBySorting_0 16 rfl
theorem dX0_isFinerBySorting_35 : decode cX0_isFinerBySorting 35 = .ok (.ifCond .eq 15, 3) := dget dkX0_isFinerBySorting_0 17 rfl
theorem dX0_isFinerBySorting_38 : decode cX0_isFinerBySorting 38 = .ok (.aload_n 1, 1) := dget dkX0_isFinerBySorting_0 18 rfl
theorem dX0_isFinerBySorting_39 : decode cX0_isFinerBySorting 39 = .ok (.aload_n 2, 1) := dget dkX0_isFinerBySorting_0 19 rfl
theorem dX0_isFinerBySorting_40 : decode cX0_isFinerBySorting 40 = .ok (.invokestatic 88, 3) := dget dkX0_isFinerBySorting_0 20 rfl
theorem dX0_isFinerBySorting_43 : decode cX0_isFinerBySorting 43 = .ok (.ifCond .eq 7, 3) := dget dkX0_isFinerBySorting_0 21 rfl
theorem dX0_isFinerBySorting_46 : decode cX0_isFinerBySorting 46 = .ok (.iconst 1, 1) := dget dkX0_isFinerBySorting_0 22 rfl
theorem dX0_isFinerBySorting_47 : decode cX0_isFinerBySorting 47 = .ok (.goto 4, 3) := dget dkX0_isFinerBySorting_0 23 rfl
theorem dX0_isFinerBySorting_50 : decode cX0_isFinerBySorting 50 = .ok (.iconst 0, 1) := dget dkX0_isFinerBySorting_0 24 rfl
theorem dX0_isFinerBySorting_51 : decode cX0_isFinerBySorting 51 = .ok (.ireturn, 1) := dget dkX0_isFinerBySorting_0 25 rfl
theorem ggX0_areAlikeAlike_X1_compared : GoodIn wsX0_areAlikeAlike wsX1_compared := tgCall 93 e_X1_compared (by decide +kernel)
theorem gX0_areAlikeAlike_X1_compared : GoodIn wsX0_areAlikeAlike (wsV RX0 63 RX1 yX1_compared wsX1_compared) := goodIn_app (tgIn [132, 91, 92, 14] (by decide +kernel) rfl) ggX0_areAlikeAlike_X1_compared
theorem dkX0_areAlikeAlike_0 : ([(0, (.iconst 0, 1)), (1, (.istore_n 2, 1)), (2, (.iload_n 2, 1)), (3, (.bipush 16, 2)), (5, (.if_icmp .ge 45, 3)), (8, (.iload_n 2, 1)), (9, (.iconst 1, 1)), (10, (.iadd, 1)), (11, (.istore_n 3, 1)), (12, (.iload_n 3, 1)), (13, (.bipush 16, 2)), (15, (.if_icmp .ge 29, 3)), (18, (.aload_n 0, 1)), (19, (.iload_n 2, 1)), (20, (.iload_n 3, 1)), (21, (.invokevirtual 63, 3)), (24, (.ifCond .ne 14, 3)), (27, (.aload_n 1, 1)), (28, (.iload_n 2, 1)), (29, (.iload_n 3, 1)), (30, (.invokevirtual 63, 3)), (33, (.ifCond .eq 5, 3)), (36, (.iconst 0, 1)), (37, (.ireturn, 1)), (38, (.iinc 3 1, 3)), (41, (.goto (-29), 3)), (44, (.iinc 2 1, 3)), (47, (.goto (-45), 3)), (50, (.iconst 1, 1)), (51, (.ireturn, 1))] : List (Nat × (Jvm.ClassFile.Instr × Nat))).all (dcB cX0_areAlikeAlike) = true := by decide +kernel
theorem dX0_areAlikeAlike_0 : decode cX0_areAlikeAlike 0 = .ok (.iconst 0, 1) := dget dkX0_areAlikeAlike_0 0 rfl
theorem dX0_areAlikeAlike_1 : decode cX0_areAlikeAlike 1 = .ok (.istore_n 2, 1) := dget dkX0_areAlikeAlike_0 1 rfl
theorem dX0_areAlikeAlike_2 : decode cX0_areAlikeAlike 2 = .ok (.iload_n 2, 1) := dget dkX0_areAlikeAlike_0 2 rfl
theorem dX0_areAlikeAlike_3 : decode cX0_areAlikeAlike 3 = .ok (.bipush 16, 2) := dget dkX0_areAlikeAlike_0 3 rfl
theorem dX0_areAlikeAlike_5 : decode cX0_areAlikeAlike 5 = .ok (.if_icmp .ge 45, 3) := dget dkX0_areAlikeAlike_0 4 rfl
theorem dX0_areAlikeAlike_8 : decode cX0_areAlikeAlike 8 = .ok (.iload_n 2, 1) := dget dkX0_areAlikeAlike_0 5 rfl
theorem dX0_areAlikeAlike_9 : decode cX0_areAlikeAlike 9 = .ok (.iconst 1, 1) := dget dkX0_areAlikeAlike_0 6 rfl
theorem dX0_areAlikeAlike_10 : decode cX0_areAlikeAlike 10 = .ok (.iadd, 1) := dget dkX0_areAlikeAlike_0 7 rfl
theorem dX0_areAlikeAlike_11 : decode cX0_areAlikeAlike 11 = .ok (.istore_n 3, 1) := dget dkX0_areAlikeAlike_0 8 rfl
theorem dX0_areAlikeAlike_12 : decode cX0_areAlikeAlike 12 = .ok (.iload_n 3, 1) := dget dkX0_areAlikeAlike_0 9 rfl
theorem dX0_areAlikeAlike_13 : decode cX0_areAlikeAlike 13 = .ok (.bipush 16, 2) := dget dkX0_areAlikeAlike_0 10 rfl
theorem dX0_areAlikeAlike_15 : decode cX0_areAlikeAlike 15 = .ok (.if_icmp .ge 29, 3) := dget dkX0_areAlikeAlike_0 11 rfl
theorem dX0_areAlikeAlike_18 : decode cX0_areAlikeAlike 18 = .ok (.aload_n 0, 1) := dget dkX0_areAlikeAlike_0 12 rfl
theorem dX0_areAlikeAlike_19 : decode cX0_areAlikeAlike 19 = .ok (.iload_n 2, 1) := dget dkX0_areAlikeAlike_0 13 rfl
theorem dX0_areAlikeAlike_20 : decode cX0_areAlikeAlike 20 = .ok (.iload_n 3, 1) := dget dkX0_areAlikeAlike_0 14 rfl
theorem dX0_areAlikeAlike_21 : decode cX0_areAlikeAlike 21 = .ok (.invokevirtual 63, 3) := dget dkX0_areAlikeAlike_0 15 rfl
theorem dX0_areAlikeAlike_24 : decode cX0_areAlikeAlike 24 = .ok (.ifCond .ne 14, 3) := dget dkX0_areAlikeAlike_0 16 rfl
theorem dX0_areAlikeAlike_27 : decode cX0_areAlikeAlike 27 = .ok (.aload_n 1, 1) := dget dkX0_areAlikeAlike_0 17 rfl
theorem dX0_areAlikeAlike_28 : decode cX0_areAlikeAlike 28 = .ok (.iload_n 2, 1) := dget dkX0_areAlikeAlike_0 18 rfl
theorem dX0_areAlikeAlike_29 : decode cX0_areAlikeAlike 29 = .ok (.iload_n 3, 1) := dget dkX0_areAlikeAlike_0 19 rfl
theorem dX0_areAlikeAlike_30 : decode cX0_areAlikeAlike 30 = .ok (.invokevirtual 63, 3) := dget dkX0_areAlikeAlike_0 20 rfl
theorem dX0_areAlikeAlike_33 : decode cX0_areAlikeAlike 33 = .ok (.ifCond .eq 5, 3) := dget dkX0_areAlikeAlike_0 21 rfl
theorem dX0_areAlikeAlike_36 : decode cX0_areAlikeAlike 36 = .ok (.iconst 0, 1) := dget dkX0_areAlikeAlike_0 22 rfl
theorem dX0_areAlikeAlike_37 : decode cX0_areAlikeAlike 37 = .ok (.ireturn, 1) := dget dkX0_areAlikeAlike_0 23 rfl
theorem dX0_areAlikeAlike_38 : decode cX0_areAlikeAlike 38 = .ok (.iinc 3 1, 3) := dget dkX0_areAlikeAlike_0 24 rfl
theorem dX0_areAlikeAlike_41 : decode cX0_areAlikeAlike 41 = .ok (.goto (-29), 3) := dget dkX0_areAlikeAlike_0 25 rfl
theorem dX0_areAlikeAlike_44 : decode cX0_areAlikeAlike 44 = .ok (.iinc 2 1, 3) := dget dkX0_areAlikeAlike_0 26 rfl
theorem dX0_areAlikeAlike_47 : decode cX0_areAlikeAlike 47 = .ok (.goto (-45), 3) := dget dkX0_areAlikeAlike_0 27 rfl
theorem dX0_areAlikeAlike_50 : decode cX0_areAlikeAlike 50 = .ok (.iconst 1, 1) := dget dkX0_areAlikeAlike_0 28 rfl
theorem dX0_areAlikeAlike_51 : decode cX0_areAlikeAlike 51 = .ok (.ireturn, 1) := dget dkX0_areAlikeAlike_0 29 rfl
theorem ggX0_areWaysAgreed_X2_becomeCopyOf : GoodIn wsX0_areWaysAgreed wsX2_becomeCopyOf := tgCall 168 e_X2_becomeCopyOf (by decide +kernel)
theorem gX0_areWaysAgreed_X2_becomeCopyOf : GoodIn wsX0_areWaysAgreed (wsV RX0 51 RX2 yX2_becomeCopyOf wsX2_becomeCopyOf) := goodIn_app (tgIn [184, 166, 167, 9] (by decide +kernel) rfl) ggX0_areWaysAgreed_X2_becomeCopyOf
theorem ggX0_areWaysAgreed_X3_arrangeAll : GoodIn wsX0_areWaysAgreed wsX3_arrangeAll := tgCall 188 e_X3_arrangeAll (by decide +kernel)
theorem gX0_areWaysAgreed_X3_arrangeAll : GoodIn wsX0_areWaysAgreed (wsV RX0 55 RX3 yX3_arrangeAll wsX3_arrangeAll) := goodIn_app (tgIn [185, 186, 187, 5] (by decide +kernel) rfl) ggX0_areWaysAgreed_X3_arrangeAll
theorem ggX0_areWaysAgreed_X2_isLike : GoodIn wsX0_areWaysAgreed wsX2_isLike := tgCall 192 e_X2_isLike (by decide +kernel)
theorem gX0_areWaysAgreed_X2_isLike : GoodIn wsX0_areWaysAgreed (wsV RX0 59 RX2 yX2_isLike wsX2_isLike) := goodIn_app (tgIn [189, 190, 191, 9] (by decide +kernel) rfl) ggX0_areWaysAgreed_X2_isLike
theorem dkX0_areWaysAgreed_0 : ([(0, (.aload_n 0, 1)), (1, (.getfield 21, 3)), (4, (.aload_n 1, 1)), (5, (.invokevirtual 51, 3)), (8, (.aload_n 0, 1)), (9, (.getfield 12, 3)), (12, (.aload_n 0, 1)), (13, (.getfield 21, 3)), (16, (.aload_n 2, 1)), (17, (.iconst 0, 1)), (18, (.invokevirtual 55, 3)), (21, (.iconst 1, 1)), (22, (.istore_n 3, 1)), (23, (.iload_n 3, 1)), (24, (.iconst 3, 1)), (25, (.if_icmp .ge 46, 3)), (28, (.aload_n 0, 1)), (29, (.getfield 25, 3)), (32, (.aload_n 1, 1)), (33, (.invokevirtual 51, 3)), (36, (.aload_n 0, 1)), (37, (.getfield 12, 3)), (40, (.aload_n 0, 1)), (41, (.getfield 25, 3)), (44, (.aload_n 2, 1)), (45, (.iload_n 3, 1)), (46, (.invokevirtual 55, 3)), (49, (.aload_n 0, 1)), (50, (.getfield 21, 3)), (53, (.aload_n 0, 1)), (54, (.getfield 25, 3)), (57, (.invokevirtual 59, 3)), (60, (.ifCond .ne 5, 3)), (63, (.iconst 0, 1)), (64, (.ireturn, 1)), (65, (.iinc 3 1, 3)), (68, (.goto (-45), 3)), (71, (.iconst 1, 1)), (72, (.ireturn, 1))] : List (Nat × (Jvm.ClassFile.Instr × Nat))).all (dcB cX0_areWaysAgreed) = true := by decide +kernel
theorem dX0_areWaysAgreed_0 : decode cX0_areWaysAgreed 0 = .ok (.aload_n 0, 1) := dget dkX0_areWaysAgreed_0 0 rfl
theorem dX0_areWaysAgreed_1 : decode cX0_areWaysAgreed 1 = .ok (.getfield 21, 3) := dget dkX0_areWaysAgreed_0 1 rfl
theorem dX0_areWaysAgreed_4 : decode cX0_areWaysAgreed 4 = .ok (.aload_n 1, 1) := dget dkX0_areWaysAgreed_0 2 rfl
theorem dX0_areWaysAgreed_5 : decode cX0_areWaysAgreed 5 = .ok (.invokevirtual 51, 3) := dget dkX0_areWaysAgreed_0 3 rfl
theorem dX0_areWaysAgreed_8 : decode cX0_areWaysAgreed 8 = .ok (.aload_n 0, 1) := dget dkX0_areWaysAgreed_0 4 rfl
theorem dX0_areWaysAgreed_9 : decode cX0_areWaysAgreed 9 = .ok (.getfield 12, 3) := dget dkX0_areWaysAgreed_0 5 rfl
theorem dX0_areWaysAgreed_12 : decode cX0_areWaysAgreed 12 = .ok (.aload_n 0, 1) := dget dkX0_areWaysAgreed_0 6 rfl
theorem dX0_areWaysAgreed_13 : decode cX0_areWaysAgreed 13 = .ok (.getfield 21, 3) := dget dkX0_areWaysAgreed_0 7 rfl
theorem dX0_areWaysAgreed_16 : decode cX0_areWaysAgreed 16 = .ok (.aload_n 2, 1) := dget dkX0_areWaysAgreed_0 8 rfl
theorem dX0_areWaysAgreed_17 : decode cX0_areWaysAgreed 17 = .ok (.iconst 0, 1) := dget dkX0_areWaysAgreed_0 9 rfl
theorem dX0_areWaysAgreed_18 : decode cX0_areWaysAgreed 18 = .ok (.invokevirtual 55, 3) := dget dkX0_areWaysAgreed_0 10 rfl
theorem dX0_areWaysAgreed_21 : decode cX0_areWaysAgreed 21 = .ok (.iconst 1, 1) := dget dkX0_areWaysAgreed_0 11 rfl
theorem dX0_areWaysAgreed_22 : decode cX0_areWaysAgreed 22 = .ok (.istore_n 3, 1) := dget dkX0_areWaysAgreed_0 12 rfl
theorem dX0_areWaysAgreed_23 : decode cX0_areWaysAgreed 23 = .ok (.iload_n 3, 1) := dget dkX0_areWaysAgreed_0 13 rfl
theorem dX0_areWaysAgreed_24 : decode cX0_areWaysAgreed 24 = .ok (.iconst 3, 1) := dget dkX0_areWaysAgreed_0 14 rfl
theorem dX0_areWaysAgreed_25 : decode cX0_areWaysAgreed 25 = .ok (.if_icmp .ge 46, 3) := dget dkX0_areWaysAgreed_0 15 rfl
theorem dX0_areWaysAgreed_28 : decode cX0_areWaysAgreed 28 = .ok (.aload_n 0, 1) := dget dkX0_areWaysAgreed_0 16 rfl
theorem dX0_areWaysAgreed_29 : decode cX0_areWaysAgreed 29 = .ok (.getfield 25, 3) := dget dkX0_areWaysAgreed_0 17 rfl
theorem dX0_areWaysAgreed_32 : decode cX0_areWaysAgreed 32 = .ok (.aload_n 1, 1) := dget dkX0_areWaysAgreed_0 18 rfl
theorem dX0_areWaysAgreed_33 : decode cX0_areWaysAgreed 33 = .ok (.invokevirtual 51, 3) := dget dkX0_areWaysAgreed_0 19 rfl
theorem dX0_areWaysAgreed_36 : decode cX0_areWaysAgreed 36 = .ok (.aload_n 0, 1) := dget dkX0_areWaysAgreed_0 20 rfl
theorem dX0_areWaysAgreed_37 : decode cX0_areWaysAgreed 37 = .ok (.getfield 12, 3) := dget dkX0_areWaysAgreed_0 21 rfl
theorem dX0_areWaysAgreed_40 : decode cX0_areWaysAgreed 40 = .ok (.aload_n 0, 1) := dget dkX0_areWaysAgreed_0 22 rfl
theorem dX0_areWaysAgreed_41 : decode cX0_areWaysAgreed 41 = .ok (.getfield 25, 3) := dget dkX0_areWaysAgreed_0 23 rfl
theorem dX0_areWaysAgreed_44 : decode cX0_areWaysAgreed 44 = .ok (.aload_n 2, 1) := dget dkX0_areWaysAgreed_0 24 rfl
theorem dX0_areWaysAgreed_45 : decode cX0_areWaysAgreed 45 = .ok (.iload_n 3, 1) := dget dkX0_areWaysAgreed_0 25 rfl
theorem dX0_areWaysAgreed_46 : decode cX0_areWaysAgreed 46 = .ok (.invokevirtual 55, 3) := dget dkX0_areWaysAgreed_0 26 rfl
theorem dX0_areWaysAgreed_49 : decode cX0_areWaysAgreed 49 = .ok (.aload_n 0, 1) := dget dkX0_areWaysAgreed_0 27 rfl
theorem dX0_areWaysAgreed_50 : decode cX0_areWaysAgreed 50 = .ok (.getfield 21, 3) := dget dkX0_areWaysAgreed_0 28 rfl
theorem dX0_areWaysAgreed_53 : decode cX0_areWaysAgreed 53 = .ok (.aload_n 0, 1) := dget dkX0_areWaysAgreed_0 29 rfl
theorem dX0_areWaysAgreed_54 : decode cX0_areWaysAgreed 54 = .ok (.getfield 25, 3) := dget dkX0_areWaysAgreed_0 30 rfl
theorem dX0_areWaysAgreed_57 : decode cX0_areWaysAgreed 57 = .ok (.invokevirtual 59, 3) := dget dkX0_areWaysAgreed_0 31 rfl
theorem dX0_areWaysAgreed_60 : decode cX0_areWaysAgreed 60 = .ok (.ifCond .ne 5, 3) := dget dkX0_areWaysAgreed_0 32 rfl
theorem dX0_areWaysAgreed_65 : decode cX0_areWaysAgreed 65 = .ok (.iinc 3 1, 3) := dget dkX0_areWaysAgreed_0 35 rfl
theorem dX0_areWaysAgreed_68 : decode cX0_areWaysAgreed 68 = .ok (.goto (-45), 3) := dget dkX0_areWaysAgreed_0 36 rfl
theorem dX0_areWaysAgreed_71 : decode cX0_areWaysAgreed 71 = .ok (.iconst 1, 1) := dget dkX0_areWaysAgreed_0 37 rfl
theorem dX0_areWaysAgreed_72 : decode cX0_areWaysAgreed 72 = .ok (.ireturn, 1) := dget dkX0_areWaysAgreed_0 38 rfl
theorem ggX0_staysSorted_X2_becomeCopyOf : GoodIn wsX0_staysSorted wsX2_becomeCopyOf := tgCall 168 e_X2_becomeCopyOf (by decide +kernel)
theorem gX0_staysSorted_X2_becomeCopyOf : GoodIn wsX0_staysSorted (wsV RX0 51 RX2 yX2_becomeCopyOf wsX2_becomeCopyOf) := goodIn_app (tgIn [184, 166, 167, 9] (by decide +kernel) rfl) ggX0_staysSorted_X2_becomeCopyOf
theorem ggX0_staysSorted_X3_arrangeAll : GoodIn wsX0_staysSorted wsX3_arrangeAll := tgCall 188 e_X3_arrangeAll (by decide +kernel)
theorem gX0_staysSorted_X3_arrangeAll : GoodIn wsX0_staysSorted (wsV RX0 55 RX3 yX3_arrangeAll wsX3_arrangeAll) := goodIn_app (tgIn [185, 186, 187, 5] (by decide +kernel) rfl) ggX0_staysSorted_X3_arrangeAll
theorem ggX0_staysSorted_X2_isInSequenceBy : GoodIn wsX0_staysSorted wsX2_isInSequenceBy := tgCall 126 e_X2_isInSequenceBy (by decide +kernel)
theorem gX0_staysSorted_X2_isInSequenceBy : GoodIn wsX0_staysSorted (wsV RX0 85 RX2 yX2_isInSequenceBy wsX2_isInSequenceBy) := goodIn_app (tgIn [123, 124, 125, 9] (by decide +kernel) rfl) ggX0_staysSorted_X2_isInSequenceBy
theorem ggX0_staysSorted_X2_isLike : GoodIn wsX0_staysSorted wsX2_isLike := tgCall 192 e_X2_isLike (by decide +kernel)
theorem gX0_staysSorted_X2_isLike : GoodIn wsX0_staysSorted (wsV RX0 59 RX2 yX2_isLike wsX2_isLike) := goodIn_app (tgIn [189, 190, 191, 9] (by decide +kernel) rfl) ggX0_staysSorted_X2_isLike
theorem dkX0_staysSorted_0 : ([(0, (.aload_n 0, 1)), (1, (.getfield 21, 3)), (4, (.aload_n 1, 1)), (5, (.invokevirtual 51, 3)), (8, (.aload_n 0, 1)), (9, (.getfield 12, 3)), (12, (.aload_n 0, 1)), (13, (.getfield 21, 3)), (16, (.aload_n 2, 1)), (17, (.iconst 0, 1)), (18, (.invokevirtual 55, 3)), (21, (.aload_n 0, 1)), (22, (.getfield 25, 3)), (25, (.aload_n 0, 1)), (26, (.getfield 21, 3)), (29, (.invokevirtual 51, 3)), (32, (.aload_n 0, 1)), (33, (.getfield 12, 3)), (36, (.aload_n 0, 1)), (37, (.getfield 25, 3)), (40, (.aload_n 2, 1)), (41, (.iconst 0, 1)), (42, (.invokevirtual 55, 3)), (45, (.aload_n 0, 1)), (46, (.getfield 21, 3)), (49, (.aload_n 2, 1)), (50, (.invokevirtual 85, 3)), (53, (.ifCond .eq 21, 3)), (56, (.aload_n 0, 1)), (57, (.getfield 21, 3)), (60, (.aload_n 0, 1)), (61, (.getfield 25, 3)), (64, (.invokevirtual 59, 3)), (67, (.ifCond .eq 7, 3)), (70, (.iconst 1, 1)), (71, (.goto 4, 3)), (74, (.iconst 0, 1)), (75, (.ireturn, 1))] : List (Nat × (Jvm.ClassFile.Instr × Nat))).all (dcB cX0_staysSorted) = true := by decide +kernel
theorem dX0_staysSorted_0 : decode cX0_staysSorted 0 = .ok (.aload_n 0, 1) := dget dkX0_staysSorted_0 0 rfl
theorem dX0_staysSorted_1 : decode cX0_staysSorted 1 = .ok (.getfield 21, 3) := dget dkX0_staysSorted_0 1 rfl
theorem dX0_staysSorted_4 : decode cX0_staysSorted 4 = .ok (.aload_n 1, 1) := dget dkX0_staysSorted_0 2 rfl
theorem dX0_staysSorted_5 : decode cX0_staysSorted 5 = .ok (.invokevirtual 51, 3) := dget dkX0_staysSorted_0 3 rfl
theorem dX0_staysSorted_8 : decode cX0_staysSorted 8 = .ok (.aload_n 0, 1) := dget dkX0_staysSorted_0 4 rfl
theorem dX0_staysSorted_9 : decode cX0_staysSorted 9 = .ok (.getfield 12, 3) := dget dkX0_staysSorted_0 5 rfl
theorem dX0_staysSorted_12 : decode cX0_staysSorted 12 = .ok (.aload_n 0, 1) := dget dkX0_staysSorted_0 6 rfl
theorem dX0_staysSorted_13 : decode cX0_staysSorted 13 = .ok (.getfield 21, 3) := dget dkX0_staysSorted_0 7 rfl
theorem dX0_staysSorted_16 : decode cX0_staysSorted 16 = .ok (.aload_n 2, 1) := dget dkX0_staysSorted_0 8 rfl
theorem dX0_staysSorted_17 : decode cX0_staysSorted 17 = .ok (.iconst 0, 1) := dget dkX0_staysSorted_0 9 rfl
theorem dX0_staysSorted_18 : decode cX0_staysSorted 18 = .ok (.invokevirtual 55, 3) := dget dkX0_staysSorted_0 10 rfl
theorem dX0_staysSorted_21 : decode cX0_staysSorted 21 = .ok (.aload_n 0, 1) := dget dkX0_staysSorted_0 11 rfl
theorem dX0_staysSorted_22 : decode cX0_staysSorted 22 = .ok (.getfield 25, 3) := dget dkX0_staysSorted_0 12 rfl
theorem dX0_staysSorted_25 : decode cX0_staysSorted 25 = .ok (.aload_n 0, 1) := dget dkX0_staysSorted_0 13 rfl
theorem dX0_staysSorted_26 : decode cX0_staysSorted 26 = .ok (.getfield 21, 3) := dget dkX0_staysSorted_0 14 rfl
theorem dX0_staysSorted_29 : decode cX0_staysSorted 29 = .ok (.invokevirtual 51, 3) := dget dkX0_staysSorted_0 15 rfl
theorem dX0_staysSorted_32 : decode cX0_staysSorted 32 = .ok (.aload_n 0, 1) := dget dkX0_staysSorted_0 16 rfl
theorem dX0_staysSorted_33 : decode cX0_staysSorted 33 = .ok (.getfield 12, 3) := dget dkX0_staysSorted_0 17 rfl
theorem dX0_staysSorted_36 : decode cX0_staysSorted 36 = .ok (.aload_n 0, 1) := dget dkX0_staysSorted_0 18 rfl
theorem dX0_staysSorted_37 : decode cX0_staysSorted 37 = .ok (.getfield 25, 3) := dget dkX0_staysSorted_0 19 rfl
theorem dX0_staysSorted_40 : decode cX0_staysSorted 40 = .ok (.aload_n 2, 1) := dget dkX0_staysSorted_0 20 rfl
theorem dX0_staysSorted_41 : decode cX0_staysSorted 41 = .ok (.iconst 0, 1) := dget dkX0_staysSorted_0 21 rfl
theorem dX0_staysSorted_42 : decode cX0_staysSorted 42 = .ok (.invokevirtual 55, 3) := dget dkX0_staysSorted_0 22 rfl
theorem dX0_staysSorted_45 : decode cX0_staysSorted 45 = .ok (.aload_n 0, 1) := dget dkX0_staysSorted_0 23 rfl
theorem dX0_staysSorted_46 : decode cX0_staysSorted 46 = .ok (.getfield 21, 3) := dget dkX0_staysSorted_0 24 rfl
theorem dX0_staysSorted_49 : decode cX0_staysSorted 49 = .ok (.aload_n 2, 1) := dget dkX0_staysSorted_0 25 rfl
theorem dX0_staysSorted_50 : decode cX0_staysSorted 50 = .ok (.invokevirtual 85, 3) := dget dkX0_staysSorted_0 26 rfl
theorem dX0_staysSorted_53 : decode cX0_staysSorted 53 = .ok (.ifCond .eq 21, 3) := dget dkX0_staysSorted_0 27 rfl
theorem dX0_staysSorted_56 : decode cX0_staysSorted 56 = .ok (.aload_n 0, 1) := dget dkX0_staysSorted_0 28 rfl
theorem dX0_staysSorted_57 : decode cX0_staysSorted 57 = .ok (.getfield 21, 3) := dget dkX0_staysSorted_0 29 rfl
theorem dX0_staysSorted_60 : decode cX0_staysSorted 60 = .ok (.aload_n 0, 1) := dget dkX0_staysSorted_0 30 rfl
theorem dX0_staysSorted_61 : decode cX0_staysSorted 61 = .ok (.getfield 25, 3) := dget dkX0_staysSorted_0 31 rfl
theorem dX0_staysSorted_64 : decode cX0_staysSorted 64 = .ok (.invokevirtual 59, 3) := dget dkX0_staysSorted_0 32 rfl
theorem dX0_staysSorted_67 : decode cX0_staysSorted 67 = .ok (.ifCond .eq 7, 3) := dget dkX0_staysSorted_0 33 rfl
theorem dX0_staysSorted_70 : decode cX0_staysSorted 70 = .ok (.iconst 1, 1) := dget dkX0_staysSorted_0 34 rfl
theorem dX0_staysSorted_71 : decode cX0_staysSorted 71 = .ok (.goto 4, 3) := dget dkX0_staysSorted_0 35 rfl
theorem dX0_staysSorted_75 : decode cX0_staysSorted 75 = .ok (.ireturn, 1) := dget dkX0_staysSorted_0 37 rfl
theorem ggX0_isTurnedAlike_X2_becomeCopyOf : GoodIn wsX0_isTurnedAlike wsX2_becomeCopyOf := tgCall 168 e_X2_becomeCopyOf (by decide +kernel)
theorem gX0_isTurnedAlike_X2_becomeCopyOf : GoodIn wsX0_isTurnedAlike (wsV RX0 51 RX2 yX2_becomeCopyOf wsX2_becomeCopyOf) := goodIn_app (tgIn [184, 166, 167, 9] (by decide +kernel) rfl) ggX0_isTurnedAlike_X2_becomeCopyOf
theorem ggX0_isTurnedAlike_X2_reverse : GoodIn wsX0_isTurnedAlike wsX2_reverse := tgCall 196 e_X2_reverse (by decide +kernel)
theorem gX0_isTurnedAlike_X2_reverse : GoodIn wsX0_isTurnedAlike (wsV RX0 91 RX2 yX2_reverse wsX2_reverse) := goodIn_app (tgIn [193, 194, 195, 9] (by decide +kernel) rfl) ggX0_isTurnedAlike_X2_reverse
theorem ggX0_isTurnedAlike_X3_arrangeAll : GoodIn wsX0_isTurnedAlike wsX3_arrangeAll := tgCall 188 e_X3_arrangeAll (by decide +kernel)
theorem gX0_isTurnedAlike_X3_arrangeAll : GoodIn wsX0_isTurnedAlike (wsV RX0 55 RX3 yX3_arrangeAll wsX3_arrangeAll) := goodIn_app (tgIn [185, 186, 187, 5] (by decide +kernel) rfl) ggX0_isTurnedAlike_X3_arrangeAll
theorem ggX0_isTurnedAlike_X1_becomeCopyOf : GoodIn wsX0_isTurnedAlike wsX1_becomeCopyOf := tgCall 201 e_X1_becomeCopyOf (by decide +kernel)
theorem gX0_isTurnedAlike_X1_becomeCopyOf : GoodIn wsX0_isTurnedAlike (wsV RX0 94 RX1 yX1_becomeCopyOf wsX1_becomeCopyOf) := goodIn_app (tgIn [198, 199, 200, 14] (by decide +kernel) rfl) ggX0_isTurnedAlike_X1_becomeCopyOf
theorem ggX0_isTurnedAlike_X1_reverse : GoodIn wsX0_isTurnedAlike wsX1_reverse := tgCall 205 e_X1_reverse (by decide +kernel)
theorem gX0_isTurnedAlike_X1_reverse : GoodIn wsX0_isTurnedAlike (wsV RX0 97 RX1 yX1_reverse wsX1_reverse) := goodIn_app (tgIn [202, 203, 204, 14] (by decide +kernel) rfl) ggX0_isTurnedAlike_X1_reverse
theorem ggX0_isTurnedAlike_X2_isLike : GoodIn wsX0_isTurnedAlike wsX2_isLike := tgCall 192 e_X2_isLike (by decide +kernel)
theorem gX0_isTurnedAlike_X2_isLike : GoodIn wsX0_isTurnedAlike (wsV RX0 59 RX2 yX2_isLike wsX2_isLike) := goodIn_app (tgIn [189, 190, 191, 9] (by decide +kernel) rfl) ggX0_isTurnedAlike_X2_isLike
theorem dkX0_isTurnedAlike_0 : ([(0, (.aload_n 0, 1)), (1, (.getfield 21, 3)), (4, (.aload_n 1, 1)), (5, (.invokevirtual 51, 3)), (8, (.aload_n 0, 1)), (9, (.getfield 21, 3)), (12, (.invokevirtual 91, 3)), (15, (.aload_n 0, 1)), (16, (.getfield 12, 3)), (19, (.aload_n 0, 1)), (20, (.getfield 21, 3)), (23, (.aload_n 2, 1)), (24, (.iconst 0, 1)), (25, (.invokevirtual 55, 3)), (28, (.aload_n 0, 1)), (29, (.getfield 21, 3)), (32, (.invokevirtual 91, 3)), (35, (.aload_n 0, 1)), (36, (.getfield 31, 3)), (39, (.aload_n 2, 1)), (40, (.invokevirtual 94, 3)), (43, (.aload_n 0, 1)), (44, (.getfield 31, 3)), (47, (.invokevirtual 97, 3)), (50, (.aload_n 0, 1)), (51, (.getfield 25, 3)), (54, (.aload_n 1, 1)), (55, (.invokevirtual 51, 3)), (58, (.aload_n 0, 1)), (59, (.getfield 12, 3)), (62, (.aload_n 0, 1)), (63, (.getfield 25, 3)), (66, (.aload_n 0, 1)), (67, (.getfield 31, 3)), (70, (.iconst 0, 1)), (71, (.invokevirtual 55, 3)), (74, (.aload_n 0, 1)), (75, (.getfield 21, 3)), (78, (.aload_n 0, 1)), (79, (.getfield 25, 3))] : List (Nat × (Jvm.ClassFile.Instr × Nat))).all (dcB cX0_isTurnedAlike) = true := by decide +kernel
theorem dX0_isTurnedAlike_0 : decode cX0_isTurnedAlike 0 = .ok (.aload_n 0, 1) := dget dkX0_isTurnedAlike_0 0 rfl
theorem dX0_isTurnedAlike_1 : decode cX0_isTurnedAlike 1 = .ok (.getfield 21, 3) := dget dkX0_isTurnedAlike_0 1 rfl
theorem dX0_isTurnedAlike_4 : decode cX0_isTurnedAlike 4 = .ok (.aload_n 1, 1) := dget dkX0_isTurnedAlike_0 2 rfl
theorem dX0_isTurnedAlike_5 : decode cX0_isTurnedAlike 5 = .ok (.invokevirtual 51, 3) := dget dkX0_isTurnedAlike_0 3 rfl
theorem dX0_isTurnedAlike_8 : decode cX0_isTurnedAlike 8 = .ok (.aload_n 0, 1) := dget dkX0_isTurnedAlike_0 4 rfl
theorem dX0_isTurnedAlike_9 : decode cX0_isTurnedAlike 9 = .ok (.getfield 21, 3) := dget dkX0_isTurnedAlike_0 5 rfl
theorem dX0_isTurnedAlike_12 : decode cX0_isTurnedAlike 12 = .ok (.invokevirtual 91, 3) := dget dkX0_isTurnedAlike_0 6 rfl
theorem dX0_isTurnedAlike_15 : decode cX0_isTurnedAlike 15 = .ok (.aload_n 0, 1) := dget dkX0_isTurnedAlike_0 7 rfl
theorem dX0_isTurnedAlike_16 : decode cX0_isTurnedAlike 16 = .ok (.getfield 12, 3) := dget dkX0_isTurnedAlike_0 8 rfl
theorem dX0_isTurnedAlike_19 : decode cX0_isTurnedAlike 19 = .ok (.aload_n 0, 1) := dget dkX0_isTurnedAlike_0 9 rfl
theorem dX0_isTurnedAlike_20 : decode cX0_isTurnedAlike 20 = .ok (.getfield 21, 3) := dget dkX0_isTurnedAlike_0 10 rfl
theorem dX0_isTurnedAlike_23 : decode cX0_isTurnedAlike 23 = .ok (.aload_n 2, 1) := dget dkX0_isTurnedAlike_0 11 rfl
theorem dX0_isTurnedAlike_24 : decode cX0_isTurnedAlike 24 = .ok (.iconst 0, 1) := dget dkX0_isTurnedAlike_0 12 rfl
theorem dX0_isTurnedAlike_25 : decode cX0_isTurnedAlike 25 = .ok (.invokevirtual 55, 3) := dget dkX0_isTurnedAlike_0 13 rfl
theorem dX0_isTurnedAlike_28 : decode cX0_isTurnedAlike 28 = .ok (.aload_n 0, 1) := dget dkX0_isTurnedAlike_0 14 rfl
theorem dX0_isTurnedAlike_29 : decode cX0_isTurnedAlike 29 = .ok (.getfield 21, 3) := dget dkX0_isTurnedAlike_0 15 rfl
theorem dX0_isTurnedAlike_32 : decode cX0_isTurnedAlike 32 = .ok (.invokevirtual 91, 3) := dget dkX0_isTurnedAlike_0 16 rfl
theorem dX0_isTurnedAlike_35 : decode cX0_isTurnedAlike 35 = .ok (.aload_n 0, 1) := dget dkX0_isTurnedAlike_0 17 rfl
theorem dX0_isTurnedAlike_36 : decode cX0_isTurnedAlike 36 = .ok (.getfield 31, 3) := dget dkX0_isTurnedAlike_0 18 rfl
theorem dX0_isTurnedAlike_39 : decode cX0_isTurnedAlike 39 = .ok (.aload_n 2, 1) := dget dkX0_isTurnedAlike_0 19 rfl
theorem dX0_isTurnedAlike_40 : decode cX0_isTurnedAlike 40 = .ok (.invokevirtual 94, 3) := dget dkX0_isTurnedAlike_0 20 rfl
theorem dX0_isTurnedAlike_43 : decode cX0_isTurnedAlike 43 = .ok (.aload_n 0, 1) := dget dkX0_isTurnedAlike_0 21 rfl
theorem dX0_isTurnedAlike_44 : decode cX0_isTurnedAlike 44 = .ok (.getfield 31, 3) := dget dkX0_isTurnedAlike_0 22 rfl
theorem dX0_isTurnedAlike_47 : decode cX0_isTurnedAlike 47 = .ok (.invokevirtual 97, 3) := dget dkX0_isTurnedAlike_0 23 rfl
theorem dX0_isTurnedAlike_50 : decode cX0_isTurnedAlike 50 = .ok (.aload_n 0, 1) := dget dkX0_isTurnedAlike_0 24 rfl
theorem dX0_isTurnedAlike_51 : decode cX0_isTurnedAlike 51 = .ok (.getfield 25, 3) := dget dkX0_isTurnedAlike_0 25 rfl
theorem dX0_isTurnedAlike_54 : decode cX0_isTurnedAlike 54 = .ok (.aload_n 1, 1) := dget dkX0_isTurnedAlike_0 26 rfl
theorem dX0_isTurnedAlike_55 : decode cX0_isTurnedAlike 55 = .ok (.invokevirtual 51, 3) := dget dkX0_isTurnedAlike_0 27 rfl
theorem dX0_isTurnedAlike_58 : decode cX0_isTurnedAlike 58 = .ok (.aload_n 0, 1) := dget dkX0_isTurnedAlike_0 28 rfl
theorem dX0_isTurnedAlike_59 : decode cX0_isTurnedAlike 59 = .ok (.getfield 12, 3) := dget dkX0_isTurnedAlike_0 29 rfl
theorem dX0_isTurnedAlike_62 : decode cX0_isTurnedAlike 62 = .ok (.aload_n 0, 1) := dget dkX0_isTurnedAlike_0 30 rfl
theorem dX0_isTurnedAlike_63 : decode cX0_isTurnedAlike 63 = .ok (.getfield 25, 3) := dget dkX0_isTurnedAlike_0 31 rfl
theorem dX0_isTurnedAlike_66 : decode cX0_isTurnedAlike 66 = .ok (.aload_n 0, 1) := dget dkX0_isTurnedAlike_0 32 rfl
theorem dX0_isTurnedAlike_67 : decode cX0_isTurnedAlike 67 = .ok (.getfield 31, 3) := dget dkX0_isTurnedAlike_0 33 rfl
theorem dX0_isTurnedAlike_70 : decode cX0_isTurnedAlike 70 = .ok (.iconst 0, 1) := dget dkX0_isTurnedAlike_0 34 rfl
theorem dX0_isTurnedAlike_71 : decode cX0_isTurnedAlike 71 = .ok (.invokevirtual 55, 3) := dget dkX0_isTurnedAlike_0 35 rfl
theorem dX0_isTurnedAlike_74 : decode cX0_isTurnedAlike 74 = .ok (.aload_n 0, 1) := dget dkX0_isTurnedAlike_0 36 rfl
theorem dX0_isTurnedAlike_75 : decode cX0_isTurnedAlike 75 = .ok (.getfield 21, 3) := dget dkX0_isTurnedAlike_0 37 rfl
theorem dX0_isTurnedAlike_78 : decode cX0_isTurnedAlike 78 = .ok (.aload_n 0, 1) := dget dkX0_isTurnedAlike_0 38 rfl
theorem dX0_isTurnedAlike_79 : decode cX0_isTurnedAlike 79 = .ok (.getfield 25, 3) := dget dkX0_isTurnedAlike_0 39 rfl
theorem dkX0_isTurnedAlike_1 : ([(82, (.invokevirtual 59, 3)), (85, (.ireturn, 1))] : List (Nat × (Jvm.ClassFile.Instr × Nat))).all (dcB cX0_isTurnedAlike) = true := by decide +kernel
theorem dX0_isTurnedAlike_82 : decode cX0_isTurnedAlike 82 = .ok (.invokevirtual 59, 3) := dget dkX0_isTurnedAlike_1 0 rfl
theorem dX0_isTurnedAlike_85 : decode cX0_isTurnedAlike 85 = .ok (.ireturn, 1) := dget dkX0_isTurnedAlike_1 1 rfl
theorem ggX0_isQueuedAlike_X2_becomeCopyOf : GoodIn wsX0_isQueuedAlike wsX2_becomeCopyOf := tgCall 168 e_X2_becomeCopyOf (by decide +kernel)
theorem gX0_isQueuedAlike_X2_becomeCopyOf : GoodIn wsX0_isQueuedAlike (wsV RX0 51 RX2 yX2_becomeCopyOf wsX2_becomeCopyOf) := goodIn_app (tgIn [184, 166, 167, 9] (by decide +kernel) rfl) ggX0_isQueuedAlike_X2_becomeCopyOf
theorem ggX0_isQueuedAlike_X3_arrangeAll : GoodIn wsX0_isQueuedAlike wsX3_arrangeAll := tgCall 188 e_X3_arrangeAll (by decide +kernel)
theorem gX0_isQueuedAlike_X3_arrangeAll : GoodIn wsX0_isQueuedAlike (wsV RX0 55 RX3 yX3_arrangeAll wsX3_arrangeAll) := goodIn_app (tgIn [185, 186, 187, 5] (by decide +kernel) rfl) ggX0_isQueuedAlike_X3_arrangeAll
theorem ggX0_isQueuedAlike_X2_length : GoodIn wsX0_isQueuedAlike wsX2_length := tgCall 118 e_X2_length (by decide +kernel)
theorem gX0_isQueuedAlike_X2_length : GoodIn wsX0_isQueuedAlike (wsV RX0 78 RX2 yX2_length wsX2_length) := goodIn_app (tgIn [115, 116, 117, 9] (by decide +kernel) rfl) ggX0_isQueuedAlike_X2_length
theorem ggX0_isQueuedAlike_X2_firstPlaceBy : GoodIn wsX0_isQueuedAlike wsX2_firstPlaceBy := tgCall 209 e_X2_firstPlaceBy (by decide +kernel)
theorem gX0_isQueuedAlike_X2_firstPlaceBy : GoodIn wsX0_isQueuedAlike (wsV RX0 98 RX2 yX2_firstPlaceBy wsX2_firstPlaceBy) := goodIn_app (tgIn [206, 207, 208, 9] (by decide +kernel) rfl) ggX0_isQueuedAlike_X2_firstPlaceBy
theorem ggX0_isQueuedAlike_X2_valueOn : GoodIn wsX0_isQueuedAlike wsX2_valueOn := tgCall 89 e_X2_valueOn (by decide +kernel)
theorem gX0_isQueuedAlike_X2_valueOn : GoodIn wsX0_isQueuedAlike (wsV RX0 102 RX2 yX2_valueOn wsX2_valueOn) := goodIn_app (tgIn [210, 87, 88, 9] (by decide +kernel) rfl) ggX0_isQueuedAlike_X2_valueOn
theorem ggX0_isQueuedAlike_X1_rankOf : GoodIn wsX0_isQueuedAlike wsX1_rankOf := tgCall 174 e_X1_rankOf (by decide +kernel)
theorem gX0_isQueuedAlike_X1_rankOf : GoodIn wsX0_isQueuedAlike (wsV RX0 71 RX1 yX1_rankOf wsX1_rankOf) := goodIn_app (tgIn [211, 172, 173, 14] (by decide +kernel) rfl) ggX0_isQueuedAlike_X1_rankOf
theorem ggX0_isQueuedAlike_X2_remove : GoodIn wsX0_isQueuedAlike wsX2_remove := tgCall 215 e_X2_remove (by decide +kernel)
theorem gX0_isQueuedAlike_X2_remove : GoodIn wsX0_isQueuedAlike (wsV RX0 105 RX2 yX2_remove wsX2_remove) := goodIn_app (tgIn [212, 213, 214, 9] (by decide +kernel) rfl) ggX0_isQueuedAlike_X2_remove
theorem dkX0_isQueuedAlike_0 : ([(0, (.aload_n 0, 1)), (1, (.getfield 21, 3)), (4, (.aload_n 1, 1)), (5, (.invokevirtual 51, 3)), (8, (.aload_n 0, 1)), (9, (.getfield 12, 3)), (12, (.aload_n 0, 1)), (13, (.getfield 21, 3)), (16, (.aload_n 2, 1)), (17, (.iconst 0, 1)), (18, (.invokevirtual 55, 3)), (21, (.aload_n 0, 1)), (22, (.getfield 25, 3)), (25, (.aload_n 1, 1)), (26, (.invokevirtual 51, 3)), (29, (.iconst 0, 1)), (30, (.istore_n 3, 1)), (31, (.iload_n 3, 1)), (32, (.aload_n 0, 1)), (33, (.getfield 21, 3)), (36, (.invokevirtual 78, 3)), (39, (.if_icmp .ge 58, 3)), (42, (.aload_n 0, 1)), (43, (.getfield 25, 3)), (46, (.aload_n 2, 1)), (47, (.invokevirtual 98, 3)), (50, (.istore 4, 2)), (52, (.aload_n 2, 1)), (53, (.aload_n 0, 1)), (54, (.getfield 25, 3)), (57, (.iload 4, 2)), (59, (.invokevirtual 102, 3)), (62, (.invokevirtual 71, 3)), (65, (.aload_n 2, 1)), (66, (.aload_n 0, 1)), (67, (.getfield 21, 3)), (70, (.iload_n 3, 1)), (71, (.invokevirtual 102, 3)), (74, (.invokevirtual 71, 3)), (77, (.if_icmp .eq 5, 3))] : List (Nat × (Jvm.ClassFile.Instr × Nat))).all (dcB cX0_isQueuedAlike) = true := by decide +kernel
theorem dX0_isQueuedAlike_0 : decode cX0_isQueuedAlike 0 = .ok (.aload_n 0, 1) := dget dkX0_isQueuedAlike_0 0 rfl
theorem dX0_isQueuedAlike_1 : decode cX0_isQueuedAlike 1 = .ok (.getfield 21, 3) := dget dkX0_isQueuedAlike_0 1 rfl
theorem dX0_isQueuedAlike_4 : decode cX0_isQueuedAlike 4 = .ok (.aload_n 1, 1) := dget dkX0_isQueuedAlike_0 2 rfl
theorem dX0_isQueuedAlike_5 : decode cX0_isQueuedAlike 5 = .ok (.invokevirtual 51, 3) := dget dkX0_isQueuedAlike_0 3 rfl
theorem dX0_isQueuedAlike_8 : decode cX0_isQueuedAlike 8 = .ok (.aload_n 0, 1) := dget dkX0_isQueuedAlike_0 4 rfl
theorem dX0_isQueuedAlike_9 : decode cX0_isQueuedAlike 9 = .ok (.getfield 12, 3) := dget dkX0_isQueuedAlike_0 5 rfl
theorem dX0_isQueuedAlike_12 : decode cX0_isQueuedAlike 12 = .ok (.aload_n 0, 1) := dget dkX0_isQueuedAlike_0 6 rfl
theorem dX0_isQueuedAlike_13 : decode cX0_isQueuedAlike 13 = .ok (.getfield 21, 3) := dget dkX0_isQueuedAlike_0 7 rfl
theorem dX0_isQueuedAlike_16 : decode cX0_isQueuedAlike 16 = .ok (.aload_n 2, 1) := dget dkX0_isQueuedAlike_0 8 rfl
theorem dX0_isQueuedAlike_17 : decode cX0_isQueuedAlike 17 = .ok (.iconst 0, 1) := dget dkX0_isQueuedAlike_0 9 rfl
theorem dX0_isQueuedAlike_18 : decode cX0_isQueuedAlike 18 = .ok (.invokevirtual 55, 3) := dget dkX0_isQueuedAlike_0 10 rfl
theorem dX0_isQueuedAlike_21 : decode cX0_isQueuedAlike 21 = .ok (.aload_n 0, 1) := dget dkX0_isQueuedAlike_0 11 rfl
theorem dX0_isQueuedAlike_22 : decode cX0_isQueuedAlike 22 = .ok (.getfield 25, 3) := dget dkX0_isQueuedAlike_0 12 rfl
theorem dX0_isQueuedAlike_25 : decode cX0_isQueuedAlike 25 = .ok (.aload_n 1, 1) := dget dkX0_isQueuedAlike_0 13 rfl
theorem dX0_isQueuedAlike_26 : decode cX0_isQueuedAlike 26 = .ok (.invokevirtual 51, 3) := dget dkX0_isQueuedAlike_0 14 rfl
theorem dX0_isQueuedAlike_29 : decode cX0_isQueuedAlike 29 = .ok (.iconst 0, 1) := dget dkX0_isQueuedAlike_0 15 rfl
theorem dX0_isQueuedAlike_30 : decode cX0_isQueuedAlike 30 = .ok (.istore_n 3, 1) := dget dkX0_isQueuedAlike_0 16 rfl
theorem dX0_isQueuedAlike_31 : decode cX0_isQueuedAlike 31 = .ok (.iload_n 3, 1) := dget dkX0_isQueuedAlike_0 17 rfl
theorem dX0_isQueuedAlike_32 : decode cX0_isQueuedAlike 32 = .ok (.aload_n 0, 1) := dget dkX0_isQueuedAlike_0 18 rfl
theorem dX0_isQueuedAlike_33 : decode cX0_isQueuedAlike 33 = .ok (.getfield 21, 3) := dget dkX0_isQueuedAlike_0 19 rfl
theorem dX0_isQueuedAlike_36 : decode cX0_isQueuedAlike 36 = .ok (.invokevirtual 78, 3) := dget dkX0_isQueuedAlike_0 20 rfl
theorem dX0_isQueuedAlike_39 : decode cX0_isQueuedAlike 39 = .ok (.if_icmp .ge 58, 3) := dget dkX0_isQueuedAlike_0 21 rfl
theorem dX0_isQueuedAlike_42 : decode cX0_isQueuedAlike 42 = .ok (.aload_n 0, 1) := dget dkX0_isQueuedAlike_0 22 rfl
theorem dX0_isQueuedAlike_43 : decode cX0_isQueuedAlike 43 = .ok (.getfield 25, 3) := dget dkX0_isQueuedAlike_0 23 rfl
theorem dX0_isQueuedAlike_46 : decode cX0_isQueuedAlike 46 = .ok (.aload_n 2, 1) := dget dkX0_isQueuedAlike_0 24 rfl
theorem dX0_isQueuedAlike_47 : decode cX0_isQueuedAlike 47 = .ok (.invokevirtual 98, 3) := dget dkX0_isQueuedAlike_0 25 rfl
theorem dX0_isQueuedAlike_50 : decode cX0_isQueuedAlike 50 = .ok (.istore 4, 2) := dget dkX0_isQueuedAlike_0 26 rfl
theorem dX0_isQueuedAlike_52 : decode cX0_isQueuedAlike 52 = .ok (.aload_n 2, 1) := dget dkX0_isQueuedAlike_0 27 rfl
theorem dX0_isQueuedAlike_53 : decode cX0_isQueuedAlike 53 = .ok (.aload_n 0, 1) := dget dkX0_isQueuedAlike_0 28 rfl
theorem dX0_isQueuedAlike_54 : decode cX0_isQueuedAlike 54 = .ok (.getfield 25, 3) := dget dkX0_isQueuedAlike_0 29 rfl
theorem dX0_isQueuedAlike_57 : decode cX0_isQueuedAlike 57 = .ok (.iload 4, 2) := dget dkX0_isQueuedAlike_0 30 rfl
theorem dX0_isQueuedAlike_59 : decode cX0_isQueuedAlike 59 = .ok (.invokevirtual 102, 3) := dget dkX0_isQueuedAlike_0 31 rfl
theorem dX0_isQueuedAlike_62 : decode cX0_isQueuedAlike 62 = .ok (.invokevirtual 71, 3) := dget dkX0_isQueuedAlike_0 32 rfl
theorem dX0_isQueuedAlike_65 : decode cX0_isQueuedAlike 65 = .ok (.aload_n 2, 1) := dget dkX0_isQueuedAlike_0 33 rfl
theorem dX0_isQueuedAlike_66 : decode cX0_isQueuedAlike 66 = .ok (.aload_n 0, 1) := dget dkX0_isQueuedAlike_0 34 rfl
theorem dX0_isQueuedAlike_67 : decode cX0_isQueuedAlike 67 = .ok (.getfield 21, 3) := dget dkX0_isQueuedAlike_0 35 rfl
theorem dX0_isQueuedAlike_70 : decode cX0_isQueuedAlike 70 = .ok (.iload_n 3, 1) := dget dkX0_isQueuedAlike_0 36 rfl
theorem dX0_isQueuedAlike_71 : decode cX0_isQueuedAlike 71 = .ok (.invokevirtual 102, 3) := dget dkX0_isQueuedAlike_0 37 rfl
theorem dX0_isQueuedAlike_74 : decode cX0_isQueuedAlike 74 = .ok (.invokevirtual 71, 3) := dget dkX0_isQueuedAlike_0 38 rfl
theorem dX0_isQueuedAlike_77 : decode cX0_isQueuedAlike 77 = .ok (.if_icmp .eq 5, 3) := dget dkX0_isQueuedAlike_0 39 rfl
theorem dkX0_isQueuedAlike_1 : ([(80, (.iconst 0, 1)), (81, (.ireturn, 1)), (82, (.aload_n 0, 1)), (83, (.getfield 25, 3)), (86, (.iload 4, 2)), (88, (.invokevirtual 105, 3)), (91, (.iinc 3 1, 3)), (94, (.goto (-63), 3)), (97, (.iconst 1, 1)), (98, (.ireturn, 1))] : List (Nat × (Jvm.ClassFile.Instr × Nat))).all (dcB cX0_isQueuedAlike) = true := by decide +kernel
theorem dX0_isQueuedAlike_82 : decode cX0_isQueuedAlike 82 = .ok (.aload_n 0, 1) := dget dkX0_isQueuedAlike_1 2 rfl
theorem dX0_isQueuedAlike_83 : decode cX0_isQueuedAlike 83 = .ok (.getfield 25, 3) := dget dkX0_isQueuedAlike_1 3 rfl
theorem dX0_isQueuedAlike_86 : decode cX0_isQueuedAlike 86 = .ok (.iload 4, 2) := dget dkX0_isQueuedAlike_1 4 rfl
theorem dX0_isQueuedAlike_88 : decode cX0_isQueuedAlike 88 = .ok (.invokevirtual 105, 3) := dget dkX0_isQueuedAlike_1 5 rfl
theorem dX0_isQueuedAlike_91 : decode cX0_isQueuedAlike 91 = .ok (.iinc 3 1, 3) := dget dkX0_isQueuedAlike_1 6 rfl
theorem dX0_isQueuedAlike_94 : decode cX0_isQueuedAlike 94 = .ok (.goto (-63), 3) := dget dkX0_isQueuedAlike_1 7 rfl
theorem dX0_isQueuedAlike_97 : decode cX0_isQueuedAlike 97 = .ok (.iconst 1, 1) := dget dkX0_isQueuedAlike_1 8 rfl
theorem dX0_isQueuedAlike_98 : decode cX0_isQueuedAlike 98 = .ok (.ireturn, 1) := dget dkX0_isQueuedAlike_1 9 rfl
theorem dkX1_init_0 : ([(0, (.aload_n 0, 1)), (1, (.invokespecial 3, 3)), (4, (.aload_n 0, 1)), (5, (.bipush 10, 2)), (7, (.newarray .int, 2)), (9, (.putfield 11, 3)), (12, (.aload_n 0, 1)), (13, (.bipush 10, 2)), (15, (.newarray .boolean, 2)), (17, (.putfield 15, 3)), (20, (.aload_n 0, 1)), (21, (.bipush 16, 2)), (23, (.newarray .long, 2)), (25, (.putfield 19, 3)), (28, (.aload_n 0, 1)), (29, (.bipush 16, 2)), (31, (.newarray .int, 2)), (33, (.putfield 23, 3)), (36, (.aload_n 0, 1)), (37, (.iconst 0, 1)), (38, (.putfield 26, 3)), (41, (.aload_n 0, 1)), (42, (.iconst 1, 1)), (43, (.putfield 30, 3)), (46, (.return_, 1))] : List (Nat × (Jvm.ClassFile.Instr × Nat))).all (dcB cX1_init) = true := by decide +kernel
theorem dX1_init_0 : decode cX1_init 0 = .ok (.aload_n 0, 1) := dget dkX1_init_0 0 rfl
theorem dX1_init_1 : decode cX1_init 1 = .ok (.invokespecial 3, 3) := dget dkX1_init_0 1 rfl
theorem dX1_init_4 : decode cX1_init 4 = .ok (.aload_n 0, 1) := dget dkX1_init_0 2 rfl
theorem dX1_init_5 : decode cX1_init 5 = .ok (.bipush 10, 2) := dget dkX1_init_0 3 rfl
theorem dX1_init_7 : decode cX1_init 7 = .ok (.newarray .int, 2) := dget dkX1_init_0 4 rfl
theorem dX1_init_9 : decode cX1_init 9 = .ok (.putfield 11, 3) := dget dkX1_init_0 5 rfl
theorem dX1_init_12 : decode cX1_init 12 = .ok (.aload_n 0, 1) := dget dkX1_init_0 6 rfl
theorem dX1_init_13 : decode cX1_init 13 = .ok (.bipush 10, 2) := dget dkX1_init_0 7 rfl
theorem dX1_init_15 : decode cX1_init 15 = .ok (.newarray .boolean, 2) := dget dkX1_init_0 8 rfl
theorem dX1_init_17 : decode cX1_init 17 = .ok (.putfield 15, 3) := dget dkX1_init_0 9 rfl
theorem dX1_init_20 : decode cX1_init 20 = .ok (.aload_n 0, 1) := dget dkX1_init_0 10 rfl
theorem dX1_init_21 : decode cX1_init 21 = .ok (.bipush 16, 2) := dget dkX1_init_0 11 rfl
theorem dX1_init_23 : decode cX1_init 23 = .ok (.newarray .long, 2) := dget dkX1_init_0 12 rfl
theorem dX1_init_25 : decode cX1_init 25 = .ok (.putfield 19, 3) := dget dkX1_init_0 13 rfl
theorem dX1_init_28 : decode cX1_init 28 = .ok (.aload_n 0, 1) := dget dkX1_init_0 14 rfl
theorem dX1_init_29 : decode cX1_init 29 = .ok (.bipush 16, 2) := dget dkX1_init_0 15 rfl
theorem dX1_init_31 : decode cX1_init 31 = .ok (.newarray .int, 2) := dget dkX1_init_0 16 rfl
theorem dX1_init_33 : decode cX1_init 33 = .ok (.putfield 23, 3) := dget dkX1_init_0 17 rfl
theorem dX1_init_36 : decode cX1_init 36 = .ok (.aload_n 0, 1) := dget dkX1_init_0 18 rfl
theorem dX1_init_37 : decode cX1_init 37 = .ok (.iconst 0, 1) := dget dkX1_init_0 19 rfl
theorem dX1_init_38 : decode cX1_init 38 = .ok (.putfield 26, 3) := dget dkX1_init_0 20 rfl
theorem dX1_init_41 : decode cX1_init 41 = .ok (.aload_n 0, 1) := dget dkX1_init_0 21 rfl
theorem dX1_init_42 : decode cX1_init 42 = .ok (.iconst 1, 1) := dget dkX1_init_0 22 rfl
theorem dX1_init_43 : decode cX1_init 43 = .ok (.putfield 30, 3) := dget dkX1_init_0 23 rfl
theorem dX1_init_46 : decode cX1_init 46 = .ok (.return_, 1) := dget dkX1_init_0 24 rfl
theorem ggX1_numberBy_J6_bitCount_0f7a4 : GoodIn wsX1_numberBy wsJ6_bitCount_0f7a4 := tgCall 46 e_J6_bitCount_0f7a4 (by decide +kernel)
theorem gX1_numberBy_J6_bitCount_0f7a4 : GoodIn wsX1_numberBy (va_wsS RX1 33 yJ6_bitCount_0f7a4 wsJ6_bitCount_0f7a4) := goodIn_app (tgIn [43, 44, 45] (by decide +kernel) rfl) ggX1_numberBy_J6_bitCount_0f7a4
theorem dkX1_numberBy_0 : ([(0, (.iload_n 0, 1)), (1, (.tableswitch 84 0 6 #[43, 45, 49, 53, 57, 61, 79], 43)), (44, (.iload_n 1, 1)), (45, (.ireturn, 1)), (46, (.iload_n 1, 1)), (47, (.iconst 4, 1)), (48, (.idiv, 1)), (49, (.ireturn, 1)), (50, (.iload_n 1, 1)), (51, (.iconst 4, 1)), (52, (.irem, 1)), (53, (.ireturn, 1)), (54, (.iload_n 1, 1)), (55, (.iconst 2, 1)), (56, (.irem, 1)), (57, (.ireturn, 1)), (58, (.iload_n 1, 1)), (59, (.iconst 3, 1)), (60, (.irem, 1)), (61, (.ireturn, 1)), (62, (.iload_n 1, 1)), (63, (.bipush 8, 2)), (65, (.if_icmp .ge 10, 3)), (68, (.bipush 7, 2)), (70, (.iload_n 1, 1)), (71, (.isub, 1)), (72, (.goto 7, 3)), (75, (.iload_n 1, 1)), (76, (.bipush 8, 2)), (78, (.isub, 1)), (79, (.ireturn, 1)), (80, (.iload_n 1, 1)), (81, (.invokestatic 33, 3)), (84, (.ireturn, 1)), (85, (.iconst 0, 1)), (86, (.ireturn, 1))] : List (Nat × (Jvm.ClassFile.Instr × Nat))).all (dcB cX1_numberBy) = true := by decide +kernel
theorem dX1_numberBy_0 : decode cX1_numberBy 0 = .ok (.iload_n 0, 1) := dget dkX1_numberBy_0 0 rfl
theorem dX1_numberBy_1 : decode cX1_numberBy 1 = .ok (.tableswitch 84 0 6 #[43, 45, 49, 53, 57, 61, 79], 43) := dget dkX1_numberBy_0 1 rfl
theorem dX1_numberBy_44 : decode cX1_numberBy 44 = .ok (.iload_n 1, 1) := dget dkX1_numberBy_0 2 rfl
theorem dX1_numberBy_45 : decode cX1_numberBy 45 = .ok (.ireturn, 1) := dget dkX1_numberBy_0 3 rfl
theorem dX1_numberBy_46 : decode cX1_numberBy 46 = .ok (.iload_n 1, 1) := dget dkX1_numberBy_0 4 rfl
theorem dX1_numberBy_47 : decode cX1_numberBy 47 = .ok (.iconst 4, 1) := dget dkX1_numberBy_0 5 rfl
theorem dX1_numberBy_48 : decode cX1_numberBy 48 = .ok (.idiv, 1) := dget dkX1_numberBy_0 6 rfl
theorem dX1_numberBy_49 : decode cX1_numberBy 49 = .ok (.ireturn, 1) := dget dkX1_numberBy_0 7 rfl
theorem dX1_numberBy_50 : decode cX1_numberBy 50 = .ok (.iload_n 1, 1) := dget dkX1_numberBy_0 8 rfl
theorem dX1_numberBy_51 : decode cX1_numberBy 51 = .ok (.iconst 4, 1) := dget dkX1_numberBy_0 9 rfl
theorem dX1_numberBy_52 : decode cX1_numberBy 52 = .ok (.irem, 1) := dget dkX1_numberBy_0 10 rfl
theorem dX1_numberBy_53 : decode cX1_numberBy 53 = .ok (.ireturn, 1) := dget dkX1_numberBy_0 11 rfl
theorem dX1_numberBy_54 : decode cX1_numberBy 54 = .ok (.iload_n 1, 1) := dget dkX1_numberBy_0 12 rfl
theorem dX1_numberBy_55 : decode cX1_numberBy 55 = .ok (.iconst 2, 1) := dget dkX1_numberBy_0 13 rfl
theorem dX1_numberBy_56 : decode cX1_numberBy 56 = .ok (.irem, 1) := dget dkX1_numberBy_0 14 rfl
theorem dX1_numberBy_57 : decode cX1_numberBy 57 = .ok (.ireturn, 1) := dget dkX1_numberBy_0 15 rfl
theorem dX1_numberBy_58 : decode cX1_numberBy 58 = .ok (.iload_n 1, 1) := dget dkX1_numberBy_0 16 rfl
theorem dX1_numberBy_59 : decode cX1_numberBy 59 = .ok (.iconst 3, 1) := dget dkX1_numberBy_0 17 rfl
theorem dX1_numberBy_60 : decode cX1_numberBy 60 = .ok (.irem, 1) := dget dkX1_numberBy_0 18 rfl
theorem dX1_numberBy_61 : decode cX1_numberBy 61 = .ok (.ireturn, 1) := dget dkX1_numberBy_0 19 rfl
theorem dX1_numberBy_62 : decode cX1_numberBy 62 = .ok (.iload_n 1, 1) := dget dkX1_numberBy_0 20 rfl
theorem dX1_numberBy_63 : decode cX1_numberBy 63 = .ok (.bipush 8, 2) := dget dkX1_numberBy_0 21 rfl
theorem dX1_numberBy_65 : decode cX1_numberBy 65 = .ok (.if_icmp .ge 10, 3) := dget dkX1_numberBy_0 22 rfl
theorem dX1_numberBy_68 : decode cX1_numberBy 68 = .ok (.bipush 7, 2) := dget dkX1_numberBy_0 23 rfl
theorem dX1_numberBy_70 : decode cX1_numberBy 70 = .ok (.iload_n 1, 1) := dget dkX1_numberBy_0 24 rfl
theorem dX1_numberBy_71 : decode cX1_numberBy 71 = .ok (.isub, 1) := dget dkX1_numberBy_0 25 rfl
theorem dX1_numberBy_72 : decode cX1_numberBy 72 = .ok (.goto 7, 3) := dget dkX1_numberBy_0 26 rfl
theorem dX1_numberBy_75 : decode cX1_numberBy 75 = .ok (.iload_n 1, 1) := dget dkX1_numberBy_0 27 rfl
theorem dX1_numberBy_76 : decode cX1_numberBy 76 = .ok (.bipush 8, 2) := dget dkX1_numberBy_0 28 rfl
theorem dX1_numberBy_78 : decode cX1_numberBy 78 = .ok (.isub, 1) := dget dkX1_numberBy_0 29 rfl
theorem dX1_numberBy_79 : decode cX1_numberBy 79 = .ok (.ireturn, 1) := dget dkX1_numberBy_0 30 rfl
theorem dX1_numberBy_80 : decode cX1_numberBy 80 = .ok (.iload_n 1, 1) := dget dkX1_numberBy_0 31 rfl
theorem dX1_numberBy_81 : decode cX1_numberBy 81 = .ok (.invokestatic 33, 3) := dget dkX1_numberBy_0 32 rfl
theorem dX1_numberBy_84 : decode cX1_numberBy 84 = .ok (.ireturn, 1) := dget dkX1_numberBy_0 33 rfl
theorem dX1_numberBy_85 : decode cX1_numberBy 85 = .ok (.iconst 0, 1) := dget dkX1_numberBy_0 34 rfl
theorem dX1_numberBy_86 : decode cX1_numberBy 86 = .ok (.ireturn, 1) := dget dkX1_numberBy_0 35 rfl
theorem dkX1_length_0 : ([(0, (.aload_n 0, 1)), (1, (.getfield 26, 3)), (4, (.ireturn, 1))] : List (Nat × (Jvm.ClassFile.Instr × Nat))).all (dcB cX1_length) = true := by decide +kernel
theorem dX1_length_0 : decode cX1_length 0 = .ok (.aload_n 0, 1) := dget dkX1_length_0 0 rfl
theorem dX1_length_1 : decode cX1_length 1 = .ok (.getfield 26, 3) := dget dkX1_length_0 1 rfl
theorem dX1_length_4 : decode cX1_length 4 = .ok (.ireturn, 1) := dget dkX1_length_0 2 rfl
theorem dkX1_keyOn_0 : ([(0, (.iload_n 1, 1)), (1, (.ifCond .lt 21, 3)), (4, (.iload_n 1, 1)), (5, (.aload_n 0, 1)), (6, (.getfield 11, 3)), (9, (.arraylength, 1)), (10, (.if_icmp .ge 12, 3)), (13, (.aload_n 0, 1)), (14, (.getfield 11, 3)), (17, (.iload_n 1, 1)), (18, (.iaload, 1)), (19, (.goto 4, 3)), (22, (.iconst 0, 1)), (23, (.ireturn, 1))] : List (Nat × (Jvm.ClassFile.Instr × Nat))).all (dcB cX1_keyOn) = true := by decide +kernel
theorem dX1_keyOn_0 : decode cX1_keyOn 0 = .ok (.iload_n 1, 1) := dget dkX1_keyOn_0 0 rfl
theorem dX1_keyOn_1 : decode cX1_keyOn 1 = .ok (.ifCond .lt 21, 3) := dget dkX1_keyOn_0 1 rfl
theorem dX1_keyOn_4 : decode cX1_keyOn 4 = .ok (.iload_n 1, 1) := dget dkX1_keyOn_0 2 rfl
theorem dX1_keyOn_5 : decode cX1_keyOn 5 = .ok (.aload_n 0, 1) := dget dkX1_keyOn_0 3 rfl
theorem dX1_keyOn_6 : decode cX1_keyOn 6 = .ok (.getfield 11, 3) := dget dkX1_keyOn_0 4 rfl
theorem dX1_keyOn_9 : decode cX1_keyOn 9 = .ok (.arraylength, 1) := dget dkX1_keyOn_0 5 rfl
theorem dX1_keyOn_10 : decode cX1_keyOn 10 = .ok (.if_icmp .ge 12, 3) := dget dkX1_keyOn_0 6 rfl
theorem dX1_keyOn_13 : decode cX1_keyOn 13 = .ok (.aload_n 0, 1) := dget dkX1_keyOn_0 7 rfl
theorem dX1_keyOn_14 : decode cX1_keyOn 14 = .ok (.getfield 11, 3) := dget dkX1_keyOn_0 8 rfl
theorem dX1_keyOn_17 : decode cX1_keyOn 17 = .ok (.iload_n 1, 1) := dget dkX1_keyOn_0 9 rfl
theorem dX1_keyOn_18 : decode cX1_keyOn 18 = .ok (.iaload, 1) := dget dkX1_keyOn_0 10 rfl
theorem dX1_keyOn_19 : decode cX1_keyOn 19 = .ok (.goto 4, 3) := dget dkX1_keyOn_0 11 rfl
theorem dX1_keyOn_23 : decode cX1_keyOn 23 = .ok (.ireturn, 1) := dget dkX1_keyOn_0 13 rfl
theorem dkX1_isDownOn_0 : ([(0, (.iload_n 1, 1)), (1, (.ifCond .lt 25, 3)), (4, (.iload_n 1, 1)), (5, (.aload_n 0, 1)), (6, (.getfield 15, 3)), (9, (.arraylength, 1)), (10, (.if_icmp .ge 16, 3)), (13, (.aload_n 0, 1)), (14, (.getfield 15, 3)), (17, (.iload_n 1, 1)), (18, (.baload, 1)), (19, (.ifCond .eq 7, 3)), (22, (.iconst 1, 1)), (23, (.goto 4, 3)), (26, (.iconst 0, 1)), (27, (.ireturn, 1))] : List (Nat × (Jvm.ClassFile.Instr × Nat))).all (dcB cX1_isDownOn) = true := by decide +kernel
theorem dX1_isDownOn_0 : decode cX1_isDownOn 0 = .ok (.iload_n 1, 1) := dget dkX1_isDownOn_0 0 rfl
theorem dX1_isDownOn_1 : decode cX1_isDownOn 1 = .ok (.ifCond .lt 25, 3) := dget dkX1_isDownOn_0 1 rfl
theorem dX1_isDownOn_4 : decode cX1_isDownOn 4 = .ok (.iload_n 1, 1) := dget dkX1_isDownOn_0 2 rfl
theorem dX1_isDownOn_5 : decode cX1_isDownOn 5 = .ok (.aload_n 0, 1) := dget dkX1_isDownOn_0 3 rfl
theorem dX1_isDownOn_6 : decode cX1_isDownOn 6 = .ok (.getfield 15, 3) := dget dkX1_isDownOn_0 4 rfl
theorem dX1_isDownOn_9 : decode cX1_isDownOn 9 = .ok (.arraylength, 1) := dget dkX1_isDownOn_0 5 rfl
theorem dX1_isDownOn_10 : decode cX1_isDownOn 10 = .ok (.if_icmp .ge 16, 3) := dget dkX1_isDownOn_0 6 rfl
theorem dX1_isDownOn_13 : decode cX1_isDownOn 13 = .ok (.aload_n 0, 1) := dget dkX1_isDownOn_0 7 rfl
theorem dX1_isDownOn_14 : decode cX1_isDownOn 14 = .ok (.getfield 15, 3) := dget dkX1_isDownOn_0 8 rfl
theorem dX1_isDownOn_17 : decode cX1_isDownOn 17 = .ok (.iload_n 1, 1) := dget dkX1_isDownOn_0 9 rfl
theorem dX1_isDownOn_18 : decode cX1_isDownOn 18 = .ok (.baload, 1) := dget dkX1_isDownOn_0 10 rfl
theorem dX1_isDownOn_19 : decode cX1_isDownOn 19 = .ok (.ifCond .eq 7, 3) := dget dkX1_isDownOn_0 11 rfl
theorem dX1_isDownOn_22 : decode cX1_isDownOn 22 = .ok (.iconst 1, 1) := dget dkX1_isDownOn_0 12 rfl
theorem dX1_isDownOn_23 : decode cX1_isDownOn 23 = .ok (.goto 4, 3) := dget dkX1_isDownOn_0 13 rfl
theorem dX1_isDownOn_26 : decode cX1_isDownOn 26 = .ok (.iconst 0, 1) := dget dkX1_isDownOn_0 14 rfl
theorem dX1_isDownOn_27 : decode cX1_isDownOn 27 = .ok (.ireturn, 1) := dget dkX1_isDownOn_0 15 rfl
theorem ggX1_downSteps_X1_isDownOn : GoodIn wsX1_downSteps wsX1_isDownOn := tgCall 77 e_X1_isDownOn (by decide +kernel)
theorem gX1_downSteps_X1_isDownOn : GoodIn wsX1_downSteps (wsV RX1 39 RX1 yX1_isDownOn wsX1_isDownOn) := goodIn_app (tgIn [74, 75, 76, 14] (by decide +kernel) rfl) ggX1_downSteps_X1_isDownOn
theorem dkX1_downSteps_0 : ([(0, (.iconst 0, 1)), (1, (.istore_n 1, 1)), (2, (.iconst 0, 1)), (3, (.istore_n 2, 1)), (4, (.iload_n 2, 1)), (5, (.aload_n 0, 1)), (6, (.getfield 26, 3)), (9, (.if_icmp .ge 20, 3)), (12, (.aload_n 0, 1)), (13, (.iload_n 2, 1)), (14, (.invokevirtual 39, 3)), (17, (.ifCond .eq 6, 3)), (20, (.iinc 1 1, 3)), (23, (.iinc 2 1, 3)), (26, (.goto (-22), 3)), (29, (.iload_n 1, 1)), (30, (.ireturn, 1))] : List (Nat × (Jvm.ClassFile.Instr × Nat))).all (dcB cX1_downSteps) = true := by decide +kernel
theorem dX1_downSteps_0 : decode cX1_downSteps 0 = .ok (.iconst 0, 1) := dget dkX1_downSteps_0 0 rfl
theorem dX1_downSteps_1 : decode cX1_downSteps 1 = .ok (.istore_n 1, 1) := dget dkX1_downSteps_0 1 rfl
theorem dX1_downSteps_2 : decode cX1_downSteps 2 = .ok (.iconst 0, 1) := dget dkX1_downSteps_0 2 rfl
theorem dX1_downSteps_3 : decode cX1_downSteps 3 = .ok (.istore_n 2, 1) := dget dkX1_downSteps_0 3 rfl
theorem dX1_downSteps_4 : decode cX1_downSteps 4 = .ok (.iload_n 2, 1) := dget dkX1_downSteps_0 4 rfl
theorem dX1_downSteps_5 : decode cX1_downSteps 5 = .ok (.aload_n 0, 1) := dget dkX1_downSteps_0 5 rfl
theorem dX1_downSteps_6 : decode cX1_downSteps 6 = .ok (.getfield 26, 3) := dget dkX1_downSteps_0 6 rfl
theorem dX1_downSteps_9 : decode cX1_downSteps 9 = .ok (.if_icmp .ge 20, 3) := dget dkX1_downSteps_0 7 rfl
theorem dX1_downSteps_12 : decode cX1_downSteps 12 = .ok (.aload_n 0, 1) := dget dkX1_downSteps_0 8 rfl
theorem dX1_downSteps_13 : decode cX1_downSteps 13 = .ok (.iload_n 2, 1) := dget dkX1_downSteps_0 9 rfl
theorem dX1_downSteps_14 : decode cX1_downSteps 14 = .ok (.invokevirtual 39, 3) := dget dkX1_downSteps_0 10 rfl
theorem dX1_downSteps_17 : decode cX1_downSteps 17 = .ok (.ifCond .eq 6, 3) := dget dkX1_downSteps_0 11 rfl
theorem dX1_downSteps_20 : decode cX1_downSteps 20 = .ok (.iinc 1 1, 3) := dget dkX1_downSteps_0 12 rfl
theorem dX1_downSteps_23 : decode cX1_downSteps 23 = .ok (.iinc 2 1, 3) := dget dkX1_downSteps_0 13 rfl
theorem dX1_downSteps_26 : decode cX1_downSteps 26 = .ok (.goto (-22), 3) := dget dkX1_downSteps_0 14 rfl
theorem dX1_downSteps_29 : decode cX1_downSteps 29 = .ok (.iload_n 1, 1) := dget dkX1_downSteps_0 15 rfl
theorem dX1_downSteps_30 : decode cX1_downSteps 30 = .ok (.ireturn, 1) := dget dkX1_downSteps_0 16 rfl
theorem ggX1_append_X1_addStep : GoodIn wsX1_append wsX1_addStep := tgCall 81 e_X1_addStep (by decide +kernel)
theorem gX1_append_X1_addStep : GoodIn wsX1_append (wsV RX1 43 RX1 yX1_addStep wsX1_addStep) := goodIn_app (tgIn [78, 79, 80, 14] (by decide +kernel) rfl) ggX1_append_X1_addStep
theorem ggX1_append_X1_settle : GoodIn wsX1_append wsX1_settle := tgCall 85 e_X1_settle (by decide +kernel)
theorem gX1_append_X1_settle : GoodIn wsX1_append (wsV RX1 47 RX1 yX1_settle wsX1_settle) := goodIn_app (tgIn [82, 83, 84, 14] (by decide +kernel) rfl) ggX1_append_X1_settle
theorem dkX1_append_0 : ([(0, (.aload_n 0, 1)), (1, (.iload_n 1, 1)), (2, (.iload_n 2, 1)), (3, (.invokevirtual 43, 3)), (6, (.aload_n 0, 1)), (7, (.invokevirtual 47, 3)), (10, (.return_, 1))] : List (Nat × (Jvm.ClassFile.Instr × Nat))).all (dcB cX1_append) = true := by decide +kernel
theorem dX1_append_0 : decode cX1_append 0 = .ok (.aload_n 0, 1) := dget dkX1_append_0 0 rfl
theorem dX1_append_1 : decode cX1_append 1 = .ok (.iload_n 1, 1) := dget dkX1_append_0 1 rfl
theorem dX1_append_2 : decode cX1_append 2 = .ok (.iload_n 2, 1) := dget dkX1_append_0 2 rfl
theorem dX1_append_3 : decode cX1_append 3 = .ok (.invokevirtual 43, 3) := dget dkX1_append_0 3 rfl
theorem dX1_append_6 : decode cX1_append 6 = .ok (.aload_n 0, 1) := dget dkX1_append_0 4 rfl
theorem dX1_append_7 : decode cX1_append 7 = .ok (.invokevirtual 47, 3) := dget dkX1_append_0 5 rfl
theorem dX1_append_10 : decode cX1_append 10 = .ok (.return_, 1) := dget dkX1_append_0 6 rfl
theorem ggX1_removeLast_X1_settle : GoodIn wsX1_removeLast wsX1_settle := tgCall 85 e_X1_settle (by decide +kernel)
theorem gX1_removeLast_X1_settle : GoodIn wsX1_removeLast (wsV RX1 47 RX1 yX1_settle wsX1_settle) := goodIn_app (tgIn [82, 83, 84, 14] (by decide +kernel) rfl) ggX1_removeLast_X1_settle
theorem dkX1_removeLast_0 : ([(0, (.aload_n 0, 1)), (1, (.getfield 26, 3)), (4, (.ifCond .le 17, 3)), (7, (.aload_n 0, 1)), (8, (.dup, 1)), (9, (.getfield 26, 3)), (12, (.iconst 1, 1)), (13, (.isub, 1)), (14, (.putfield 26, 3)), (17, (.aload_n 0, 1)), (18, (.invokevirtual 47, 3)), (21, (.return_, 1))] : List (Nat × (Jvm.ClassFile.Instr × Nat))).all (dcB cX1_removeLast) = true := by decide +kernel
theorem dX1_removeLast_0 : decode cX1_removeLast 0 = .ok (.aload_n 0, 1) := dget dkX1_removeLast_0 0 rfl
theorem dX1_removeLast_1 : decode cX1_removeLast 1 = .ok (.getfield 26, 3) := dget dkX1_removeLast_0 1 rfl
theorem dX1_removeLast_4 : decode cX1_removeLast 4 = .ok (.ifCond .le 17, 3) := dget dkX1_removeLast_0 2 rfl
theorem dX1_removeLast_7 : decode cX1_removeLast 7 = .ok (.aload_n 0, 1) := dget dkX1_removeLast_0 3 rfl
theorem dX1_removeLast_8 : decode cX1_removeLast 8 = .ok (.dup, 1) := dget dkX1_removeLast_0 4 rfl
theorem dX1_removeLast_9 : decode cX1_removeLast 9 = .ok (.getfield 26, 3) := dget dkX1_removeLast_0 5 rfl
theorem dX1_removeLast_12 : decode cX1_removeLast 12 = .ok (.iconst 1, 1) := dget dkX1_removeLast_0 6 rfl
theorem dX1_removeLast_13 : decode cX1_removeLast 13 = .ok (.isub, 1) := dget dkX1_removeLast_0 7 rfl
theorem dX1_removeLast_14 : decode cX1_removeLast 14 = .ok (.putfield 26, 3) := dget dkX1_removeLast_0 8 rfl
theorem dX1_removeLast_17 : decode cX1_removeLast 17 = .ok (.aload_n 0, 1) := dget dkX1_removeLast_0 9 rfl
theorem dX1_removeLast_18 : decode cX1_removeLast 18 = .ok (.invokevirtual 47, 3) := dget dkX1_removeLast_0 10 rfl
theorem dX1_removeLast_21 : decode cX1_removeLast 21 = .ok (.return_, 1) := dget dkX1_removeLast_0 11 rfl
theorem ggX1_empty_X1_settle : GoodIn wsX1_empty wsX1_settle := tgCall 85 e_X1_settle (by decide +kernel)
theorem gX1_empty_X1_settle : GoodIn wsX1_empty (wsV RX1 47 RX1 yX1_settle wsX1_settle) := goodIn_app (tgIn [82, 83, 84, 14] (by decide +kernel) rfl) ggX1_empty_X1_settle
theorem dkX1_empty_0 : ([(0, (.aload_n 0, 1)), (1, (.iconst 0, 1)), (2, (.putfield 26, 3)), (5, (.aload_n 0, 1)), (6, (.invokevirtual 47, 3)), (9, (.return_, 1))] : List (Nat × (Jvm.ClassFile.Instr × Nat))).all (dcB cX1_empty) = true := by decide +kernel
theorem dX1_empty_0 : decode cX1_empty 0 = .ok (.aload_n 0, 1) := dget dkX1_empty_0 0 rfl
theorem dX1_empty_1 : decode cX1_empty 1 = .ok (.iconst 0, 1) := dget dkX1_empty_0 1 rfl
theorem dX1_empty_2 : decode cX1_empty 2 = .ok (.putfield 26, 3) := dget dkX1_empty_0 2 rfl
theorem dX1_empty_5 : decode cX1_empty 5 = .ok (.aload_n 0, 1) := dget dkX1_empty_0 3 rfl
theorem dX1_empty_6 : decode cX1_empty 6 = .ok (.invokevirtual 47, 3) := dget dkX1_empty_0 4 rfl
theorem dX1_empty_9 : decode cX1_empty 9 = .ok (.return_, 1) := dget dkX1_empty_0 5 rfl
theorem ggX1_reverse_X1_settle : GoodIn wsX1_reverse wsX1_settle := tgCall 85 e_X1_settle (by decide +kernel)
theorem gX1_reverse_X1_settle : GoodIn wsX1_reverse (wsV RX1 47 RX1 yX1_settle wsX1_settle) := goodIn_app (tgIn [82, 83, 84, 14] (by decide +kernel) rfl) ggX1_reverse_X1_settle
theorem dkX1_reverse_0 : ([(0, (.iconst 0, 1)), (1, (.istore_n 1, 1)), (2, (.iload_n 1, 1)), (3, (.aload_n 0, 1)), (4, (.getfield 26, 3)), (7, (.if_icmp .ge 38, 3)), (10, (.iload_n 1, 1)), (11, (.aload_n 0, 1)), (12, (.getfield 15, 3)), (15, (.arraylength, 1)), (16, (.if_icmp .ge 29, 3)), (19, (.aload_n 0, 1)), (20, (.getfield 15, 3)), (23, (.iload_n 1, 1)), (24, (.aload_n 0, 1)), (25, (.getfield 15, 3)), (28, (.iload_n 1, 1)), (29, (.baload, 1)), (30, (.ifCond .ne 7, 3)), (33, (.iconst 1, 1)), (34, (.goto 4, 3)), (37, (.iconst 0, 1)), (38, (.bastore, 1)), (39, (.iinc 1 1, 3)), (42, (.goto (-40), 3)), (45, (.aload_n 0, 1)), (46, (.invokevirtual 47, 3)), (49, (.return_, 1))] : List (Nat × (Jvm.ClassFile.Instr × Nat))).all (dcB cX1_reverse) = true := by decide +kernel
theorem dX1_reverse_0 : decode cX1_reverse 0 = .ok (.iconst 0, 1) := dget dkX1_reverse_0 0 rfl
theorem dX1_reverse_1 : decode cX1_reverse 1 = .ok (.istore_n 1, 1) := dget dkX1_reverse_0 1 rfl
theorem dX1_reverse_2 : decode cX1_reverse 2 = .ok (.iload_n 1, 1) := dget dkX1_reverse_0 2 rfl
theorem dX1_reverse_3 : decode cX1_reverse 3 = .ok (.aload_n 0, 1) := dget dkX1_reverse_0 3 rfl
theorem dX1_reverse_4 : decode cX1_reverse 4 = .ok (.getfield 26, 3) := dget dkX1_reverse_0 4 rfl
theorem dX1_reverse_7 : decode cX1_reverse 7 = .ok (.if_icmp .ge 38, 3) := dget dkX1_reverse_0 5 rfl
theorem dX1_reverse_10 : decode cX1_reverse 10 = .ok (.iload_n 1, 1) := dget dkX1_reverse_0 6 rfl
theorem dX1_reverse_11 : decode cX1_reverse 11 = .ok (.aload_n 0, 1) := dget dkX1_reverse_0 7 rfl
theorem dX1_reverse_12 : decode cX1_reverse 12 = .ok (.getfield 15, 3) := dget dkX1_reverse_0 8 rfl
theorem dX1_reverse_15 : decode cX1_reverse 15 = .ok (.arraylength, 1) := dget dkX1_reverse_0 9 rfl
theorem dX1_reverse_16 : decode cX1_reverse 16 = .ok (.if_icmp .ge 29, 3) := dget dkX1_reverse_0 10 rfl
theorem dX1_reverse_19 : decode cX1_reverse 19 = .ok (.aload_n 0, 1) := dget dkX1_reverse_0 11 rfl
theorem dX1_reverse_20 : decode cX1_reverse 20 = .ok (.getfield 15, 3) := dget dkX1_reverse_0 12 rfl
theorem dX1_reverse_23 : decode cX1_reverse 23 = .ok (.iload_n 1, 1) := dget dkX1_reverse_0 13 rfl
theorem dX1_reverse_24 : decode cX1_reverse 24 = .ok (.aload_n 0, 1) := dget dkX1_reverse_0 14 rfl
theorem dX1_reverse_25 : decode cX1_reverse 25 = .ok (.getfield 15, 3) := dget dkX1_reverse_0 15 rfl
theorem dX1_reverse_28 : decode cX1_reverse 28 = .ok (.iload_n 1, 1) := dget dkX1_reverse_0 16 rfl
theorem dX1_reverse_29 : decode cX1_reverse 29 = .ok (.baload, 1) := dget dkX1_reverse_0 17 rfl
theorem dX1_reverse_30 : decode cX1_reverse 30 = .ok (.ifCond .ne 7, 3) := dget dkX1_reverse_0 18 rfl
theorem dX1_reverse_33 : decode cX1_reverse 33 = .ok (.iconst 1, 1) := dget dkX1_reverse_0 19 rfl
theorem dX1_reverse_34 : decode cX1_reverse 34 = .ok (.goto 4, 3) := dget dkX1_reverse_0 20 rfl
theorem dX1_reverse_37 : decode cX1_reverse 37 = .ok (.iconst 0, 1) := dget dkX1_reverse_0 21 rfl
theorem dX1_reverse_38 : decode cX1_reverse 38 = .ok (.bastore, 1) := dget dkX1_reverse_0 22 rfl
theorem dX1_reverse_39 : decode cX1_reverse 39 = .ok (.iinc 1 1, 3) := dget dkX1_reverse_0 23 rfl
theorem dX1_reverse_42 : decode cX1_reverse 42 = .ok (.goto (-40), 3) := dget dkX1_reverse_0 24 rfl
theorem dX1_reverse_45 : decode cX1_reverse 45 = .ok (.aload_n 0, 1) := dget dkX1_reverse_0 25 rfl
theorem dX1_reverse_46 : decode cX1_reverse 46 = .ok (.invokevirtual 47, 3) := dget dkX1_reverse_0 26 rfl
theorem dX1_reverse_49 : decode cX1_reverse 49 = .ok (.return_, 1) := dget dkX1_reverse_0 27 rfl
theorem ggX1_becomeCopyOf_X1_length : GoodIn wsX1_becomeCopyOf wsX1_length := tgCall 65 e_X1_length (by decide +kernel)
theorem gX1_becomeCopyOf_X1_length : GoodIn wsX1_becomeCopyOf (wsV RX1 50 RX1 yX1_length wsX1_length) := goodIn_app (tgIn [62, 63, 64, 14] (by decide +kernel) rfl) ggX1_becomeCopyOf_X1_length
theorem ggX1_becomeCopyOf_X1_addSteps : GoodIn wsX1_becomeCopyOf wsX1_addSteps := tgCall 69 e_X1_addSteps (by decide +kernel)
theorem gX1_becomeCopyOf_X1_addSteps : GoodIn wsX1_becomeCopyOf (wsV RX1 54 RX1 yX1_addSteps wsX1_addSteps) := goodIn_app (tgIn [66, 67, 68, 14] (by decide +kernel) rfl) ggX1_becomeCopyOf_X1_addSteps
theorem ggX1_becomeCopyOf_X1_settle : GoodIn wsX1_becomeCopyOf wsX1_settle := tgCall 85 e_X1_settle (by decide +kernel)
theorem gX1_becomeCopyOf_X1_settle : GoodIn wsX1_becomeCopyOf (wsV RX1 47 RX1 yX1_settle wsX1_settle) := goodIn_app (tgIn [82, 83, 84, 14] (by decide +kernel) rfl) ggX1_becomeCopyOf_X1_settle
theorem dkX1_becomeCopyOf_0 : ([(0, (.aload_n 1, 1)), (1, (.invokevirtual 50, 3)), (4, (.istore_n 2, 1)), (5, (.aload_n 0, 1)), (6, (.iconst 0, 1)), (7, (.putfield 26, 3)), (10, (.aload_n 0, 1)), (11, (.aload_n 1, 1)), (12, (.iload_n 2, 1)), (13, (.invokevirtual 54, 3)), (16, (.aload_n 0, 1)), (17, (.invokevirtual 47, 3)), (20, (.return_, 1))] : List (Nat × (Jvm.ClassFile.Instr × Nat))).all (dcB cX1_becomeCopyOf) = true := by decide +kernel
theorem dX1_becomeCopyOf_0 : decode cX1_becomeCopyOf 0 = .ok (.aload_n 1, 1) := dget dkX1_becomeCopyOf_0 0 rfl
theorem dX1_becomeCopyOf_1 : decode cX1_becomeCopyOf 1 = .ok (.invokevirtual 50, 3) := dget dkX1_becomeCopyOf_0 1 rfl
theorem dX1_becomeCopyOf_4 : decode cX1_becomeCopyOf 4 = .ok (.istore_n 2, 1) := dget dkX1_becomeCopyOf_0 2 rfl
theorem dX1_becomeCopyOf_5 : decode cX1_becomeCopyOf 5 = .ok (.aload_n 0, 1) := dget dkX1_becomeCopyOf_0 3 rfl
theorem dX1_becomeCopyOf_6 : decode cX1_becomeCopyOf 6 = .ok (.iconst 0, 1) := dget dkX1_becomeCopyOf_0 4 rfl
theorem dX1_becomeCopyOf_7 : decode cX1_becomeCopyOf 7 = .ok (.putfield 26, 3) := dget dkX1_becomeCopyOf_0 5 rfl
theorem dX1_becomeCopyOf_10 : decode cX1_becomeCopyOf 10 = .ok (.aload_n 0, 1) := dget dkX1_becomeCopyOf_0 6 rfl
theorem dX1_becomeCopyOf_11 : decode cX1_becomeCopyOf 11 = .ok (.aload_n 1, 1) := dget dkX1_becomeCopyOf_0 7 rfl
theorem dX1_becomeCopyOf_12 : decode cX1_becomeCopyOf 12 = .ok (.iload_n 2, 1) := dget dkX1_becomeCopyOf_0 8 rfl
theorem dX1_becomeCopyOf_13 : decode cX1_becomeCopyOf 13 = .ok (.invokevirtual 54, 3) := dget dkX1_becomeCopyOf_0 9 rfl
theorem dX1_becomeCopyOf_16 : decode cX1_becomeCopyOf 16 = .ok (.aload_n 0, 1) := dget dkX1_becomeCopyOf_0 10 rfl
theorem dX1_becomeCopyOf_17 : decode cX1_becomeCopyOf 17 = .ok (.invokevirtual 47, 3) := dget dkX1_becomeCopyOf_0 11 rfl
theorem dX1_becomeCopyOf_20 : decode cX1_becomeCopyOf 20 = .ok (.return_, 1) := dget dkX1_becomeCopyOf_0 12 rfl
theorem ggX1_becomeProductOf_X1_length : GoodIn wsX1_becomeProductOf wsX1_length := tgCall 65 e_X1_length (by decide +kernel)
theorem gX1_becomeProductOf_X1_length : GoodIn wsX1_becomeProductOf (wsV RX1 50 RX1 yX1_length wsX1_length) := goodIn_app (tgIn [62, 63, 64, 14] (by decide +kernel) rfl) ggX1_becomeProductOf_X1_length
theorem ggX1_becomeProductOf_X1_addSteps : GoodIn wsX1_becomeProductOf wsX1_addSteps := tgCall 69 e_X1_addSteps (by decide +kernel)
theorem gX1_becomeProductOf_X1_addSteps : GoodIn wsX1_becomeProductOf (wsV RX1 54 RX1 yX1_addSteps wsX1_addSteps) := goodIn_app (tgIn [66, 67, 68, 14] (by decide +kernel) rfl) ggX1_becomeProductOf_X1_addSteps
theorem ggX1_becomeProductOf_X1_settle : GoodIn wsX1_becomeProductOf wsX1_settle := tgCall 85 e_X1_settle (by decide +kernel)
theorem gX1_becomeProductOf_X1_settle : GoodIn wsX1_becomeProductOf (wsV RX1 47 RX1 yX1_settle wsX1_settle) := goodIn_app (tgIn [82, 83, 84, 14] (by decide +kernel) rfl) ggX1_becomeProductOf_X1_settle
theorem dkX1_becomeProductOf_0 : ([(0, (.aload_n 0, 1)), (1, (.iconst 0, 1)), (2, (.putfield 26, 3)), (5, (.aload_n 0, 1)), (6, (.aload_n 1, 1)), (7, (.aload_n 1, 1)), (8, (.invokevirtual 50, 3)), (11, (.invokevirtual 54, 3)), (14, (.aload_n 0, 1)), (15, (.aload_n 2, 1)), (16, (.aload_n 2, 1)), (17, (.invokevirtual 50, 3)), (20, (.invokevirtual 54, 3)), (23, (.aload_n 0, 1)), (24, (.invokevirtual 47, 3)), (27, (.return_, 1))] : List (Nat × (Jvm.ClassFile.Instr × Nat))).all (dcB cX1_becomeProductOf) = true := by decide +kernel
theorem dX1_becomeProductOf_0 : decode cX1_becomeProductOf 0 = .ok (.aload_n 0, 1) := dget dkX1_becomeProductOf_0 0 rfl
theorem dX1_becomeProductOf_1 : decode cX1_becomeProductOf 1 = .ok (.iconst 0, 1) := dget dkX1_becomeProductOf_0 1 rfl
theorem dX1_becomeProductOf_2 : decode cX1_becomeProductOf 2 = .ok (.putfield 26, 3) := dget dkX1_becomeProductOf_0 2 rfl
theorem dX1_becomeProductOf_5 : decode cX1_becomeProductOf 5 = .ok (.aload_n 0, 1) := dget dkX1_becomeProductOf_0 3 rfl
theorem dX1_becomeProductOf_6 : decode cX1_becomeProductOf 6 = .ok (.aload_n 1, 1) := dget dkX1_becomeProductOf_0 4 rfl
theorem dX1_becomeProductOf_7 : decode cX1_becomeProductOf 7 = .ok (.aload_n 1, 1) := dget dkX1_becomeProductOf_0 5 rfl
theorem dX1_becomeProductOf_8 : decode cX1_becomeProductOf 8 = .ok (.invokevirtual 50, 3) := dget dkX1_becomeProductOf_0 6 rfl
theorem dX1_becomeProductOf_11 : decode cX1_becomeProductOf 11 = .ok (.invokevirtual 54, 3) := dget dkX1_becomeProductOf_0 7 rfl
theorem dX1_becomeProductOf_14 : decode cX1_becomeProductOf 14 = .ok (.aload_n 0, 1) := dget dkX1_becomeProductOf_0 8 rfl
theorem dX1_becomeProductOf_15 : decode cX1_becomeProductOf 15 = .ok (.aload_n 2, 1) := dget dkX1_becomeProductOf_0 9 rfl
theorem dX1_becomeProductOf_16 : decode cX1_becomeProductOf 16 = .ok (.aload_n 2, 1) := dget dkX1_becomeProductOf_0 10 rfl
theorem dX1_becomeProductOf_17 : decode cX1_becomeProductOf 17 = .ok (.invokevirtual 50, 3) := dget dkX1_becomeProductOf_0 11 rfl
theorem dX1_becomeProductOf_20 : decode cX1_becomeProductOf 20 = .ok (.invokevirtual 54, 3) := dget dkX1_becomeProductOf_0 12 rfl
theorem dX1_becomeProductOf_23 : decode cX1_becomeProductOf 23 = .ok (.aload_n 0, 1) := dget dkX1_becomeProductOf_0 13 rfl
theorem dX1_becomeProductOf_24 : decode cX1_becomeProductOf 24 = .ok (.invokevirtual 47, 3) := dget dkX1_becomeProductOf_0 14 rfl
theorem dX1_becomeProductOf_27 : decode cX1_becomeProductOf 27 = .ok (.return_, 1) := dget dkX1_becomeProductOf_0 15 rfl
theorem dkX1_compared_0 : ([(0, (.iload_n 1, 1)), (1, (.ifCond .lt 21, 3)), (4, (.iload_n 1, 1)), (5, (.aload_n 0, 1)), (6, (.getfield 19, 3)), (9, (.arraylength, 1)), (10, (.if_icmp .ge 12, 3)), (13, (.aload_n 0, 1)), (14, (.getfield 19, 3)), (17, (.iload_n 1, 1)), (18, (.laload, 1)), (19, (.goto 4, 3)), (22, (.lconst 0, 1)), (23, (.lstore_n 3, 1)), (24, (.iload_n 2, 1)), (25, (.ifCond .lt 21, 3)), (28, (.iload_n 2, 1)), (29, (.aload_n 0, 1)), (30, (.getfield 19, 3)), (33, (.arraylength, 1)), (34, (.if_icmp .ge 12, 3)), (37, (.aload_n 0, 1)), (38, (.getfield 19, 3)), (41, (.iload_n 2, 1)), (42, (.laload, 1)), (43, (.goto 4, 3)), (46, (.lconst 0, 1)), (47, (.lstore 5, 2)), (49, (.lload_n 3, 1)), (50, (.lload 5, 2)), (52, (.lcmp, 1)), (53, (.ifCond .ge 7, 3)), (56, (.iconst (-1), 1)), (57, (.goto 15, 3)), (60, (.lload_n 3, 1)), (61, (.lload 5, 2)), (63, (.lcmp, 1)), (64, (.ifCond .le 7, 3)), (67, (.iconst 1, 1)), (68, (.goto 4, 3))] : List (Nat × (Jvm.ClassFile.Instr × Nat))).all (dcB cX1_compared) = true := by decide +kernel
theorem dX1_compared_0 : decode cX1_compared 0 = .ok (.iload_n 1, 1) := dget dkX1_compared_0 0 rfl
theorem dX1_compared_1 : decode cX1_compared 1 = .ok (.ifCond .lt 21, 3) := dget dkX1_compared_0 1 rfl
theorem dX1_compared_4 : decode cX1_compared 4 = .ok (.iload_n 1, 1) := dget dkX1_compared_0 2 rfl
theorem dX1_compared_5 : decode cX1_compared 5 = .ok (.aload_n 0, 1) := dget dkX1_compared_0 3 rfl
theorem dX1_compared_6 : decode cX1_compared 6 = .ok (.getfield 19, 3) := dget dkX1_compared_0 4 rfl
theorem dX1_compared_9 : decode cX1_compared 9 = .ok (.arraylength, 1) := dget dkX1_compared_0 5 rfl
theorem dX1_compared_10 : decode cX1_compared 10 = .ok (.if_icmp .ge 12, 3) := dget dkX1_compared_0 6 rfl
theorem dX1_compared_13 : decode cX1_compared 13 = .ok (.aload_n 0, 1) := dget dkX1_compared_0 7 rfl
theorem dX1_compared_14 : decode cX1_compared 14 = .ok (.getfield 19, 3) := dget dkX1_compared_0 8 rfl
theorem dX1_compared_17 : decode cX1_compared 17 = .ok (.iload_n 1, 1) := dget dkX1_compared_0 9 rfl
theorem dX1_compared_18 : decode cX1_compared 18 = .ok (.laload, 1) := dget dkX1_compared_0 10 rfl
theorem dX1_compared_19 : decode cX1_compared 19 = .ok (.goto 4, 3) := dget dkX1_compared_0 11 rfl
theorem dX1_compared_23 : decode cX1_compared 23 = .ok (.lstore_n 3, 1) := dget dkX1_compared_0 13 rfl
theorem dX1_compared_24 : decode cX1_compared 24 = .ok (.iload_n 2, 1) := dget dkX1_compared_0 14 rfl
theorem dX1_compared_25 : decode cX1_compared 25 = .ok (.ifCond .lt 21, 3) := dget dkX1_compared_0 15 rfl
theorem dX1_compared_28 : decode cX1_compared 28 = .ok (.iload_n 2, 1) := dget dkX1_compared_0 16 rfl
theorem dX1_compared_29 : decode cX1_compared 29 = .ok (.aload_n 0, 1) := dget dkX1_compared_0 17 rfl
theorem dX1_compared_30 : decode cX1_compared 30 = .ok (.getfield 19, 3) := dget dkX1_compared_0 18 rfl
theorem dX1_compared_33 : decode cX1_compared 33 = .ok (.arraylength, 1) := dget dkX1_compared_0 19 rfl
theorem dX1_compared_34 : decode cX1_compared 34 = .ok (.if_icmp .ge 12, 3) := dget dkX1_compared_0 20 rfl
theorem dX1_compared_37 : decode cX1_compared 37 = .ok (.aload_n 0, 1) := dget dkX1_compared_0 21 rfl
theorem dX1_compared_38 : decode cX1_compared 38 = .ok (.getfield 19, 3) := dget dkX1_compared_0 22 rfl
theorem dX1_compared_41 : decode cX1_compared 41 = .ok (.iload_n 2, 1) := dget dkX1_compared_0 23 rfl
theorem dX1_compared_42 : decode cX1_compared 42 = .ok (.laload, 1) := dget dkX1_compared_0 24 rfl
theorem dX1_compared_43 : decode cX1_compared 43 = .ok (.goto 4, 3) := dget dkX1_compared_0 25 rfl
theorem dX1_compared_47 : decode cX1_compared 47 = .ok (.lstore 5, 2) := dget dkX1_compared_0 27 rfl
theorem dX1_compared_49 : decode cX1_compared 49 = .ok (.lload_n 3, 1) := dget dkX1_compared_0 28 rfl
theorem dX1_compared_50 : decode cX1_compared 50 = .ok (.lload 5, 2) := dget dkX1_compared_0 29 rfl
theorem dX1_compared_52 : decode cX1_compared 52 = .ok (.lcmp, 1) := dget dkX1_compared_0 30 rfl
theorem dX1_compared_53 : decode cX1_compared 53 = .ok (.ifCond .ge 7, 3) := dget dkX1_compared_0 31 rfl
theorem dX1_compared_56 : decode cX1_compared 56 = .ok (.iconst (-1), 1) := dget dkX1_compared_0 32 rfl
theorem dX1_compared_57 : decode cX1_compared 57 = .ok (.goto 15, 3) := dget dkX1_compared_0 33 rfl
theorem dX1_compared_60 : decode cX1_compared 60 = .ok (.lload_n 3, 1) := dget dkX1_compared_0 34 rfl
theorem dX1_compared_61 : decode cX1_compared 61 = .ok (.lload 5, 2) := dget dkX1_compared_0 35 rfl
theorem dX1_compared_63 : decode cX1_compared 63 = .ok (.lcmp, 1) := dget dkX1_compared_0 36 rfl
theorem dX1_compared_64 : decode cX1_compared 64 = .ok (.ifCond .le 7, 3) := dget dkX1_compared_0 37 rfl
theorem dX1_compared_67 : decode cX1_compared 67 = .ok (.iconst 1, 1) := dget dkX1_compared_0 38 rfl
theorem dX1_compared_68 : decode cX1_compared 68 = .ok (.goto 4, 3) := dget dkX1_compared_0 39 rfl
theorem dkX1_compared_1 : ([(71, (.iconst 0, 1)), (72, (.ireturn, 1))] : List (Nat × (Jvm.ClassFile.Instr × Nat))).all (dcB cX1_compared) = true := by decide +kernel
theorem dX1_compared_71 : decode cX1_compared 71 = .ok (.iconst 0, 1) := dget dkX1_compared_1 0 rfl
theorem dX1_compared_72 : decode cX1_compared 72 = .ok (.ireturn, 1) := dget dkX1_compared_1 1 rfl
theorem dkX1_classCount_0 : ([(0, (.aload_n 0, 1)), (1, (.getfield 30, 3)), (4, (.ireturn, 1))] : List (Nat × (Jvm.ClassFile.Instr × Nat))).all (dcB cX1_classCount) = true := by decide +kernel
theorem dX1_classCount_0 : decode cX1_classCount 0 = .ok (.aload_n 0, 1) := dget dkX1_classCount_0 0 rfl
theorem dX1_classCount_1 : decode cX1_classCount 1 = .ok (.getfield 30, 3) := dget dkX1_classCount_0 1 rfl
theorem dX1_classCount_4 : decode cX1_classCount 4 = .ok (.ireturn, 1) := dget dkX1_classCount_0 2 rfl
theorem dkX1_rankOf_0 : ([(0, (.iload_n 1, 1)), (1, (.ifCond .lt 21, 3)), (4, (.iload_n 1, 1)), (5, (.aload_n 0, 1)), (6, (.getfield 23, 3)), (9, (.arraylength, 1)), (10, (.if_icmp .ge 12, 3)), (13, (.aload_n 0, 1)), (14, (.getfield 23, 3)), (17, (.iload_n 1, 1)), (18, (.iaload, 1)), (19, (.goto 4, 3)), (22, (.iconst 0, 1)), (23, (.ireturn, 1))] : List (Nat × (Jvm.ClassFile.Instr × Nat))).all (dcB cX1_rankOf) = true := by decide +kernel
theorem dX1_rankOf_0 : decode cX1_rankOf 0 = .ok (.iload_n 1, 1) := dget dkX1_rankOf_0 0 rfl
theorem dX1_rankOf_1 : decode cX1_rankOf 1 = .ok (.ifCond .lt 21, 3) := dget dkX1_rankOf_0 1 rfl
theorem dX1_rankOf_4 : decode cX1_rankOf 4 = .ok (.iload_n 1, 1) := dget dkX1_rankOf_0 2 rfl
theorem dX1_rankOf_5 : decode cX1_rankOf 5 = .ok (.aload_n 0, 1) := dget dkX1_rankOf_0 3 rfl
theorem dX1_rankOf_6 : decode cX1_rankOf 6 = .ok (.getfield 23, 3) := dget dkX1_rankOf_0 4 rfl
theorem dX1_rankOf_9 : decode cX1_rankOf 9 = .ok (.arraylength, 1) := dget dkX1_rankOf_0 5 rfl
theorem dX1_rankOf_10 : decode cX1_rankOf 10 = .ok (.if_icmp .ge 12, 3) := dget dkX1_rankOf_0 6 rfl
theorem dX1_rankOf_13 : decode cX1_rankOf 13 = .ok (.aload_n 0, 1) := dget dkX1_rankOf_0 7 rfl
theorem dX1_rankOf_14 : decode cX1_rankOf 14 = .ok (.getfield 23, 3) := dget dkX1_rankOf_0 8 rfl
theorem dX1_rankOf_17 : decode cX1_rankOf 17 = .ok (.iload_n 1, 1) := dget dkX1_rankOf_0 9 rfl
theorem dX1_rankOf_18 : decode cX1_rankOf 18 = .ok (.iaload, 1) := dget dkX1_rankOf_0 10 rfl
theorem dX1_rankOf_19 : decode cX1_rankOf 19 = .ok (.goto 4, 3) := dget dkX1_rankOf_0 11 rfl
theorem dX1_rankOf_23 : decode cX1_rankOf 23 = .ok (.ireturn, 1) := dget dkX1_rankOf_0 13 rfl
theorem ggX1_isFinerThan_X1_compared : GoodIn wsX1_isFinerThan wsX1_compared := tgCall 93 e_X1_compared (by decide +kernel)
theorem gX1_isFinerThan_X1_compared : GoodIn wsX1_isFinerThan (wsV RX1 58 RX1 yX1_compared wsX1_compared) := goodIn_app (tgIn [137, 91, 92, 14] (by decide +kernel) rfl) ggX1_isFinerThan_X1_compared
theorem dkX1_isFinerThan_0 : ([(0, (.iconst 0, 1)), (1, (.istore_n 2, 1)), (2, (.iload_n 2, 1)), (3, (.bipush 16, 2)), (5, (.if_icmp .ge 43, 3)), (8, (.iconst 0, 1)), (9, (.istore_n 3, 1)), (10, (.iload_n 3, 1)), (11, (.bipush 16, 2)), (13, (.if_icmp .ge 29, 3)), (16, (.aload_n 1, 1)), (17, (.iload_n 2, 1)), (18, (.iload_n 3, 1)), (19, (.invokevirtual 58, 3)), (22, (.ifCond .ge 14, 3)), (25, (.aload_n 0, 1)), (26, (.iload_n 2, 1)), (27, (.iload_n 3, 1)), (28, (.invokevirtual 58, 3)), (31, (.ifCond .lt 5, 3)), (34, (.iconst 0, 1)), (35, (.ireturn, 1)), (36, (.iinc 3 1, 3)), (39, (.goto (-29), 3)), (42, (.iinc 2 1, 3)), (45, (.goto (-43), 3)), (48, (.iconst 1, 1)), (49, (.ireturn, 1))] : List (Nat × (Jvm.ClassFile.Instr × Nat))).all (dcB cX1_isFinerThan) = true := by decide +kernel
theorem dX1_isFinerThan_0 : decode cX1_isFinerThan 0 = .ok (.iconst 0, 1) := dget dkX1_isFinerThan_0 0 rfl
theorem dX1_isFinerThan_1 : decode cX1_isFinerThan 1 = .ok (.istore_n 2, 1) := dget dkX1_isFinerThan_0 1 rfl
theorem dX1_isFinerThan_2 : decode cX1_isFinerThan 2 = .ok (.iload_n 2, 1) := dget dkX1_isFinerThan_0 2 rfl
theorem dX1_isFinerThan_3 : decode cX1_isFinerThan 3 = .ok (.bipush 16, 2) := dget dkX1_isFinerThan_0 3 rfl
theorem dX1_isFinerThan_5 : decode cX1_isFinerThan 5 = .ok (.if_icmp .ge 43, 3) := dget dkX1_isFinerThan_0 4 rfl
theorem dX1_isFinerThan_8 : decode cX1_isFinerThan 8 = .ok (.iconst 0, 1) := dget dkX1_isFinerThan_0 5 rfl
theorem dX1_isFinerThan_9 : decode cX1_isFinerThan 9 = .ok (.istore_n 3, 1) := dget dkX1_isFinerThan_0 6 rfl
theorem dX1_isFinerThan_10 : decode cX1_isFinerThan 10 = .ok (.iload_n 3, 1) := dget dkX1_isFinerThan_0 7 rfl
theorem dX1_isFinerThan_11 : decode cX1_isFinerThan 11 = .ok (.bipush 16, 2) := dget dkX1_isFinerThan_0 8 rfl
theorem dX1_isFinerThan_13 : decode cX1_isFinerThan 13 = .ok (.if_icmp .ge 29, 3) := dget dkX1_isFinerThan_0 9 rfl
theorem dX1_isFinerThan_16 : decode cX1_isFinerThan 16 = .ok (.aload_n 1, 1) := dget dkX1_isFinerThan_0 10 rfl
theorem dX1_isFinerThan_17 : decode cX1_isFinerThan 17 = .ok (.iload_n 2, 1) := dget dkX1_isFinerThan_0 11 rfl
theorem dX1_isFinerThan_18 : decode cX1_isFinerThan 18 = .ok (.iload_n 3, 1) := dget dkX1_isFinerThan_0 12 rfl
theorem dX1_isFinerThan_19 : decode cX1_isFinerThan 19 = .ok (.invokevirtual 58, 3) := dget dkX1_isFinerThan_0 13 rfl
theorem dX1_isFinerThan_22 : decode cX1_isFinerThan 22 = .ok (.ifCond .ge 14, 3) := dget dkX1_isFinerThan_0 14 rfl
theorem dX1_isFinerThan_25 : decode cX1_isFinerThan 25 = .ok (.aload_n 0, 1) := dget dkX1_isFinerThan_0 15 rfl
theorem dX1_isFinerThan_26 : decode cX1_isFinerThan 26 = .ok (.iload_n 2, 1) := dget dkX1_isFinerThan_0 16 rfl
theorem dX1_isFinerThan_27 : decode cX1_isFinerThan 27 = .ok (.iload_n 3, 1) := dget dkX1_isFinerThan_0 17 rfl
theorem dX1_isFinerThan_28 : decode cX1_isFinerThan 28 = .ok (.invokevirtual 58, 3) := dget dkX1_isFinerThan_0 18 rfl
theorem dX1_isFinerThan_31 : decode cX1_isFinerThan 31 = .ok (.ifCond .lt 5, 3) := dget dkX1_isFinerThan_0 19 rfl
theorem dX1_isFinerThan_34 : decode cX1_isFinerThan 34 = .ok (.iconst 0, 1) := dget dkX1_isFinerThan_0 20 rfl
theorem dX1_isFinerThan_35 : decode cX1_isFinerThan 35 = .ok (.ireturn, 1) := dget dkX1_isFinerThan_0 21 rfl
theorem dX1_isFinerThan_36 : decode cX1_isFinerThan 36 = .ok (.iinc 3 1, 3) := dget dkX1_isFinerThan_0 22 rfl
theorem dX1_isFinerThan_39 : decode cX1_isFinerThan 39 = .ok (.goto (-29), 3) := dget dkX1_isFinerThan_0 23 rfl
theorem dX1_isFinerThan_42 : decode cX1_isFinerThan 42 = .ok (.iinc 2 1, 3) := dget dkX1_isFinerThan_0 24 rfl
theorem dX1_isFinerThan_45 : decode cX1_isFinerThan 45 = .ok (.goto (-43), 3) := dget dkX1_isFinerThan_0 25 rfl
theorem dX1_isFinerThan_48 : decode cX1_isFinerThan 48 = .ok (.iconst 1, 1) := dget dkX1_isFinerThan_0 26 rfl
theorem dX1_isFinerThan_49 : decode cX1_isFinerThan 49 = .ok (.ireturn, 1) := dget dkX1_isFinerThan_0 27 rfl
theorem ggX1_comparesLike_X1_compared : GoodIn wsX1_comparesLike wsX1_compared := tgCall 93 e_X1_compared (by decide +kernel)
theorem gX1_comparesLike_X1_compared : GoodIn wsX1_comparesLike (wsV RX1 58 RX1 yX1_compared wsX1_compared) := goodIn_app (tgIn [137, 91, 92, 14] (by decide +kernel) rfl) ggX1_comparesLike_X1_compared
theorem dkX1_comparesLike_0 : ([(0, (.iconst 0, 1)), (1, (.istore_n 2, 1)), (2, (.iload_n 2, 1)), (3, (.bipush 16, 2)), (5, (.if_icmp .ge 42, 3)), (8, (.iload_n 2, 1)), (9, (.iconst 1, 1)), (10, (.iadd, 1)), (11, (.istore_n 3, 1)), (12, (.iload_n 3, 1)), (13, (.bipush 16, 2)), (15, (.if_icmp .ge 26, 3)), (18, (.aload_n 0, 1)), (19, (.iload_n 2, 1)), (20, (.iload_n 3, 1)), (21, (.invokevirtual 58, 3)), (24, (.aload_n 1, 1)), (25, (.iload_n 2, 1)), (26, (.iload_n 3, 1)), (27, (.invokevirtual 58, 3)), (30, (.if_icmp .eq 5, 3)), (33, (.iconst 0, 1)), (34, (.ireturn, 1)), (35, (.iinc 3 1, 3)), (38, (.goto (-26), 3)), (41, (.iinc 2 1, 3)), (44, (.goto (-42), 3)), (47, (.iconst 1, 1)), (48, (.ireturn, 1))] : List (Nat × (Jvm.ClassFile.Instr × Nat))).all (dcB cX1_comparesLike) = true := by decide +kernel
theorem dX1_comparesLike_0 : decode cX1_comparesLike 0 = .ok (.iconst 0, 1) := dget dkX1_comparesLike_0 0 rfl
theorem dX1_comparesLike_1 : decode cX1_comparesLike 1 = .ok (.istore_n 2, 1) := dget dkX1_comparesLike_0 1 rfl
theorem dX1_comparesLike_2 : decode cX1_comparesLike 2 = .ok (.iload_n 2, 1) := dget dkX1_comparesLike_0 2 rfl
theorem dX1_comparesLike_3 : decode cX1_comparesLike 3 = .ok (.bipush 16, 2) := dget dkX1_comparesLike_0 3 rfl
theorem dX1_comparesLike_5 : decode cX1_comparesLike 5 = .ok (.if_icmp .ge 42, 3) := dget dkX1_comparesLike_0 4 rfl
theorem dX1_comparesLike_8 : decode cX1_comparesLike 8 = .ok (.iload_n 2, 1) := dget dkX1_comparesLike_0 5 rfl
theorem dX1_comparesLike_9 : decode cX1_comparesLike 9 = .ok (.iconst 1, 1) := dget dkX1_comparesLike_0 6 rfl
theorem dX1_comparesLike_10 : decode cX1_comparesLike 10 = .ok (.iadd, 1) := dget dkX1_comparesLike_0 7 rfl
theorem dX1_comparesLike_11 : decode cX1_comparesLike 11 = .ok (.istore_n 3, 1) := dget dkX1_comparesLike_0 8 rfl
theorem dX1_comparesLike_12 : decode cX1_comparesLike 12 = .ok (.iload_n 3, 1) := dget dkX1_comparesLike_0 9 rfl
theorem dX1_comparesLike_13 : decode cX1_comparesLike 13 = .ok (.bipush 16, 2) := dget dkX1_comparesLike_0 10 rfl
theorem dX1_comparesLike_15 : decode cX1_comparesLike 15 = .ok (.if_icmp .ge 26, 3) := dget dkX1_comparesLike_0 11 rfl
theorem dX1_comparesLike_18 : decode cX1_comparesLike 18 = .ok (.aload_n 0, 1) := dget dkX1_comparesLike_0 12 rfl
theorem dX1_comparesLike_19 : decode cX1_comparesLike 19 = .ok (.iload_n 2, 1) := dget dkX1_comparesLike_0 13 rfl
theorem dX1_comparesLike_20 : decode cX1_comparesLike 20 = .ok (.iload_n 3, 1) := dget dkX1_comparesLike_0 14 rfl
theorem dX1_comparesLike_21 : decode cX1_comparesLike 21 = .ok (.invokevirtual 58, 3) := dget dkX1_comparesLike_0 15 rfl
theorem dX1_comparesLike_24 : decode cX1_comparesLike 24 = .ok (.aload_n 1, 1) := dget dkX1_comparesLike_0 16 rfl
theorem dX1_comparesLike_25 : decode cX1_comparesLike 25 = .ok (.iload_n 2, 1) := dget dkX1_comparesLike_0 17 rfl
theorem dX1_comparesLike_26 : decode cX1_comparesLike 26 = .ok (.iload_n 3, 1) := dget dkX1_comparesLike_0 18 rfl
theorem dX1_comparesLike_27 : decode cX1_comparesLike 27 = .ok (.invokevirtual 58, 3) := dget dkX1_comparesLike_0 19 rfl
theorem dX1_comparesLike_30 : decode cX1_comparesLike 30 = .ok (.if_icmp .eq 5, 3) := dget dkX1_comparesLike_0 20 rfl
theorem dX1_comparesLike_33 : decode cX1_comparesLike 33 = .ok (.iconst 0, 1) := dget dkX1_comparesLike_0 21 rfl
theorem dX1_comparesLike_34 : decode cX1_comparesLike 34 = .ok (.ireturn, 1) := dget dkX1_comparesLike_0 22 rfl
theorem dX1_comparesLike_35 : decode cX1_comparesLike 35 = .ok (.iinc 3 1, 3) := dget dkX1_comparesLike_0 23 rfl
theorem dX1_comparesLike_38 : decode cX1_comparesLike 38 = .ok (.goto (-26), 3) := dget dkX1_comparesLike_0 24 rfl
theorem dX1_comparesLike_41 : decode cX1_comparesLike 41 = .ok (.iinc 2 1, 3) := dget dkX1_comparesLike_0 25 rfl
theorem dX1_comparesLike_44 : decode cX1_comparesLike 44 = .ok (.goto (-42), 3) := dget dkX1_comparesLike_0 26 rfl
theorem dX1_comparesLike_47 : decode cX1_comparesLike 47 = .ok (.iconst 1, 1) := dget dkX1_comparesLike_0 27 rfl
theorem dX1_comparesLike_48 : decode cX1_comparesLike 48 = .ok (.ireturn, 1) := dget dkX1_comparesLike_0 28 rfl
theorem ggX1_told_J4_init_da8c8 : GoodIn wsX1_told wsJ4_init_da8c8 := tgCall 415 e_J4_init_da8c8 (by decide +kernel)
theorem gX1_told_J4_init_da8c8 : GoodIn wsX1_told (wsJ4_init_da8c8) := ggX1_told_J4_init_da8c8
theorem ggX1_told_X4_appendGap : GoodIn wsX1_told wsX4_appendGap := tgCall 422 e_X4_appendGap (by decide +kernel)
theorem gX1_told_X4_appendGap_n65 : GoodIn wsX1_told (wsX4_appendGap) := ggX1_told_X4_appendGap
theorem ggX1_told_X1_keyOn : GoodIn wsX1_told wsX1_keyOn := tgCall 73 e_X1_keyOn (by decide +kernel)
theorem gX1_told_X1_keyOn : GoodIn wsX1_told (wsV RX1 69 RX1 yX1_keyOn wsX1_keyOn) := goodIn_app (tgIn [70, 71, 72, 14] (by decide +kernel) rfl) ggX1_told_X1_keyOn
theorem ggX1_told_J4_append_bf812 : GoodIn wsX1_told wsJ4_append_bf812 := tgCall 426 e_J4_append_bf812 (by decide +kernel)
theorem gX1_told_J4_append_bf812 : GoodIn wsX1_told (wsV RX1 72 RJ4 yJ4_append_bf812 wsJ4_append_bf812) := goodIn_app (tgIn [423, 424, 425, 328] (by decide +kernel) rfl) ggX1_told_J4_append_bf812
theorem ggX1_told_X1_isDownOn : GoodIn wsX1_told wsX1_isDownOn := tgCall 77 e_X1_isDownOn (by decide +kernel)
theorem gX1_told_X1_isDownOn : GoodIn wsX1_told (wsV RX1 39 RX1 yX1_isDownOn wsX1_isDownOn) := goodIn_app (tgIn [74, 75, 76, 14] (by decide +kernel) rfl) ggX1_told_X1_isDownOn
theorem ggX1_told_J4_append_cf468 : GoodIn wsX1_told wsJ4_append_cf468 := tgCall 337 e_J4_append_cf468 (by decide +kernel)
theorem gX1_told_J4_append_cf468 : GoodIn wsX1_told (wsV RX1 76 RJ4 yJ4_append_cf468 wsJ4_append_cf468) := goodIn_app (tgIn [427, 335, 336, 328] (by decide +kernel) rfl) ggX1_told_J4_append_cf468
theorem ggX1_told_J4_toString_0e30d : GoodIn wsX1_told wsJ4_toString_0e30d := tgCall 431 e_J4_toString_0e30d (by decide +kernel)
theorem gX1_told_J4_toString_0e30d : GoodIn wsX1_told (wsV RX1 79 RJ4 yJ4_toString_0e30d wsJ4_toString_0e30d) := goodIn_app (tgIn [428, 429, 430, 328] (by decide +kernel) rfl) ggX1_told_J4_toString_0e30d
theorem dkX1_told_0 : ([(0, (.new 62, 3)), (3, (.dup, 1)), (4, (.invokespecial 64, 3)), (7, (.astore_n 1, 1)), (8, (.iconst 0, 1)), (9, (.istore_n 2, 1)), (10, (.iload_n 2, 1)), (11, (.aload_n 0, 1)), (12, (.getfield 26, 3)), (15, (.if_icmp .ge 41, 3)), (18, (.aload_n 1, 1)), (19, (.invokestatic 65, 3)), (22, (.aload_n 1, 1)), (23, (.aload_n 0, 1)), (24, (.iload_n 2, 1)), (25, (.invokevirtual 69, 3)), (28, (.invokevirtual 72, 3)), (31, (.aload_n 0, 1)), (32, (.iload_n 2, 1)), (33, (.invokevirtual 39, 3)), (36, (.ifCond .eq 8, 3)), (39, (.bipush 45, 2)), (41, (.goto 5, 3)), (44, (.bipush 43, 2)), (46, (.invokevirtual 76, 3)), (49, (.pop, 1)), (50, (.iinc 2 1, 3)), (53, (.goto (-43), 3)), (56, (.aload_n 1, 1)), (57, (.invokevirtual 79, 3)), (60, (.areturn, 1))] : List (Nat × (Jvm.ClassFile.Instr × Nat))).all (dcB cX1_told) = true := by decide +kernel
theorem dX1_told_0 : decode cX1_told 0 = .ok (.new 62, 3) := dget dkX1_told_0 0 rfl
theorem dX1_told_3 : decode cX1_told 3 = .ok (.dup, 1) := dget dkX1_told_0 1 rfl
theorem dX1_told_4 : decode cX1_told 4 = .ok (.invokespecial 64, 3) := dget dkX1_told_0 2 rfl
theorem dX1_told_7 : decode cX1_told 7 = .ok (.astore_n 1, 1) := dget dkX1_told_0 3 rfl
theorem dX1_told_8 : decode cX1_told 8 = .ok (.iconst 0, 1) := dget dkX1_told_0 4 rfl
theorem dX1_told_9 : decode cX1_told 9 = .ok (.istore_n 2, 1) := dget dkX1_told_0 5 rfl
theorem dX1_told_10 : decode cX1_told 10 = .ok (.iload_n 2, 1) := dget dkX1_told_0 6 rfl
theorem dX1_told_11 : decode cX1_told 11 = .ok (.aload_n 0, 1) := dget dkX1_told_0 7 rfl
theorem dX1_told_12 : decode cX1_told 12 = .ok (.getfield 26, 3) := dget dkX1_told_0 8 rfl
theorem dX1_told_15 : decode cX1_told 15 = .ok (.if_icmp .ge 41, 3) := dget dkX1_told_0 9 rfl
theorem dX1_told_18 : decode cX1_told 18 = .ok (.aload_n 1, 1) := dget dkX1_told_0 10 rfl
theorem dX1_told_19 : decode cX1_told 19 = .ok (.invokestatic 65, 3) := dget dkX1_told_0 11 rfl
theorem dX1_told_22 : decode cX1_told 22 = .ok (.aload_n 1, 1) := dget dkX1_told_0 12 rfl
theorem dX1_told_23 : decode cX1_told 23 = .ok (.aload_n 0, 1) := dget dkX1_told_0 13 rfl
theorem dX1_told_24 : decode cX1_told 24 = .ok (.iload_n 2, 1) := dget dkX1_told_0 14 rfl
theorem dX1_told_25 : decode cX1_told 25 = .ok (.invokevirtual 69, 3) := dget dkX1_told_0 15 rfl
theorem dX1_told_28 : decode cX1_told 28 = .ok (.invokevirtual 72, 3) := dget dkX1_told_0 16 rfl
theorem dX1_told_31 : decode cX1_told 31 = .ok (.aload_n 0, 1) := dget dkX1_told_0 17 rfl
theorem dX1_told_32 : decode cX1_told 32 = .ok (.iload_n 2, 1) := dget dkX1_told_0 18 rfl
theorem dX1_told_33 : decode cX1_told 33 = .ok (.invokevirtual 39, 3) := dget dkX1_told_0 19 rfl
theorem dX1_told_36 : decode cX1_told 36 = .ok (.ifCond .eq 8, 3) := dget dkX1_told_0 20 rfl
theorem dX1_told_39 : decode cX1_told 39 = .ok (.bipush 45, 2) := dget dkX1_told_0 21 rfl
theorem dX1_told_41 : decode cX1_told 41 = .ok (.goto 5, 3) := dget dkX1_told_0 22 rfl
theorem dX1_told_44 : decode cX1_told 44 = .ok (.bipush 43, 2) := dget dkX1_told_0 23 rfl
theorem dX1_told_46 : decode cX1_told 46 = .ok (.invokevirtual 76, 3) := dget dkX1_told_0 24 rfl
theorem dX1_told_49 : decode cX1_told 49 = .ok (.pop, 1) := dget dkX1_told_0 25 rfl
theorem dX1_told_50 : decode cX1_told 50 = .ok (.iinc 2 1, 3) := dget dkX1_told_0 26 rfl
theorem dX1_told_53 : decode cX1_told 53 = .ok (.goto (-43), 3) := dget dkX1_told_0 27 rfl
theorem dX1_told_56 : decode cX1_told 56 = .ok (.aload_n 1, 1) := dget dkX1_told_0 28 rfl
theorem dX1_told_57 : decode cX1_told 57 = .ok (.invokevirtual 79, 3) := dget dkX1_told_0 29 rfl
theorem dX1_told_60 : decode cX1_told 60 = .ok (.areturn, 1) := dget dkX1_told_0 30 rfl
theorem dkX1_addStep_0 : ([(0, (.aload_n 0, 1)), (1, (.getfield 26, 3)), (4, (.ifCond .lt 57, 3)), (7, (.aload_n 0, 1)), (8, (.getfield 26, 3)), (11, (.aload_n 0, 1)), (12, (.getfield 11, 3)), (15, (.arraylength, 1)), (16, (.if_icmp .ge 45, 3)), (19, (.aload_n 0, 1)), (20, (.getfield 26, 3)), (23, (.aload_n 0, 1)), (24, (.getfield 15, 3)), (27, (.arraylength, 1)), (28, (.if_icmp .ge 33, 3)), (31, (.aload_n 0, 1)), (32, (.getfield 11, 3)), (35, (.aload_n 0, 1)), (36, (.getfield 26, 3)), (39, (.iload_n 1, 1)), (40, (.iastore, 1)), (41, (.aload_n 0, 1)), (42, (.getfield 15, 3)), (45, (.aload_n 0, 1)), (46, (.getfield 26, 3)), (49, (.iload_n 2, 1)), (50, (.bastore, 1)), (51, (.aload_n 0, 1)), (52, (.dup, 1)), (53, (.getfield 26, 3)), (56, (.iconst 1, 1)), (57, (.iadd, 1)), (58, (.putfield 26, 3)), (61, (.return_, 1))] : List (Nat × (Jvm.ClassFile.Instr × Nat))).all (dcB cX1_addStep) = true := by decide +kernel
theorem dX1_addStep_0 : decode cX1_addStep 0 = .ok (.aload_n 0, 1) := dget dkX1_addStep_0 0 rfl
theorem dX1_addStep_1 : decode cX1_addStep 1 = .ok (.getfield 26, 3) := dget dkX1_addStep_0 1 rfl
theorem dX1_addStep_4 : decode cX1_addStep 4 = .ok (.ifCond .lt 57, 3) := dget dkX1_addStep_0 2 rfl
theorem dX1_addStep_7 : decode cX1_addStep 7 = .ok (.aload_n 0, 1) := dget dkX1_addStep_0 3 rfl
theorem dX1_addStep_8 : decode cX1_addStep 8 = .ok (.getfield 26, 3) := dget dkX1_addStep_0 4 rfl
theorem dX1_addStep_11 : decode cX1_addStep 11 = .ok (.aload_n 0, 1) := dget dkX1_addStep_0 5 rfl
theorem dX1_addStep_12 : decode cX1_addStep 12 = .ok (.getfield 11, 3) := dget dkX1_addStep_0 6 rfl
theorem dX1_addStep_15 : decode cX1_addStep 15 = .ok (.arraylength, 1) := dget dkX1_addStep_0 7 rfl
theorem dX1_addStep_16 : decode cX1_addStep 16 = .ok (.if_icmp .ge 45, 3) := dget dkX1_addStep_0 8 rfl
theorem dX1_addStep_19 : decode cX1_addStep 19 = .ok (.aload_n 0, 1) := dget dkX1_addStep_0 9 rfl
theorem dX1_addStep_20 : decode cX1_addStep 20 = .ok (.getfield 26, 3) := dget dkX1_addStep_0 10 rfl
theorem dX1_addStep_23 : decode cX1_addStep 23 = .ok (.aload_n 0, 1) := dget dkX1_addStep_0 11 rfl
theorem dX1_addStep_24 : decode cX1_addStep 24 = .ok (.getfield 15, 3) := dget dkX1_addStep_0 12 rfl
theorem dX1_addStep_27 : decode cX1_addStep 27 = .ok (.arraylength, 1) := dget dkX1_addStep_0 13 rfl
theorem dX1_addStep_28 : decode cX1_addStep 28 = .ok (.if_icmp .ge 33, 3) := dget dkX1_addStep_0 14 rfl
theorem dX1_addStep_31 : decode cX1_addStep 31 = .ok (.aload_n 0, 1) := dget dkX1_addStep_0 15 rfl
theorem dX1_addStep_32 : decode cX1_addStep 32 = .ok (.getfield 11, 3) := dget dkX1_addStep_0 16 rfl
theorem dX1_addStep_35 : decode cX1_addStep 35 = .ok (.aload_n 0, 1) := dget dkX1_addStep_0 17 rfl
theorem dX1_addStep_36 : decode cX1_addStep 36 = .ok (.getfield 26, 3) := dget dkX1_addStep_0 18 rfl
theorem dX1_addStep_39 : decode cX1_addStep 39 = .ok (.iload_n 1, 1) := dget dkX1_addStep_0 19 rfl
theorem dX1_addStep_40 : decode cX1_addStep 40 = .ok (.iastore, 1) := dget dkX1_addStep_0 20 rfl
theorem dX1_addStep_41 : decode cX1_addStep 41 = .ok (.aload_n 0, 1) := dget dkX1_addStep_0 21 rfl
theorem dX1_addStep_42 : decode cX1_addStep 42 = .ok (.getfield 15, 3) := dget dkX1_addStep_0 22 rfl
theorem dX1_addStep_45 : decode cX1_addStep 45 = .ok (.aload_n 0, 1) := dget dkX1_addStep_0 23 rfl
theorem dX1_addStep_46 : decode cX1_addStep 46 = .ok (.getfield 26, 3) := dget dkX1_addStep_0 24 rfl
theorem dX1_addStep_49 : decode cX1_addStep 49 = .ok (.iload_n 2, 1) := dget dkX1_addStep_0 25 rfl
theorem dX1_addStep_50 : decode cX1_addStep 50 = .ok (.bastore, 1) := dget dkX1_addStep_0 26 rfl
theorem dX1_addStep_51 : decode cX1_addStep 51 = .ok (.aload_n 0, 1) := dget dkX1_addStep_0 27 rfl
theorem dX1_addStep_52 : decode cX1_addStep 52 = .ok (.dup, 1) := dget dkX1_addStep_0 28 rfl
theorem dX1_addStep_53 : decode cX1_addStep 53 = .ok (.getfield 26, 3) := dget dkX1_addStep_0 29 rfl
theorem dX1_addStep_56 : decode cX1_addStep 56 = .ok (.iconst 1, 1) := dget dkX1_addStep_0 30 rfl
theorem dX1_addStep_57 : decode cX1_addStep 57 = .ok (.iadd, 1) := dget dkX1_addStep_0 31 rfl
theorem dX1_addStep_58 : decode cX1_addStep 58 = .ok (.putfield 26, 3) := dget dkX1_addStep_0 32 rfl
theorem dX1_addStep_61 : decode cX1_addStep 61 = .ok (.return_, 1) := dget dkX1_addStep_0 33 rfl
theorem ggX1_addSteps_X1_keyOn : GoodIn wsX1_addSteps wsX1_keyOn := tgCall 73 e_X1_keyOn (by decide +kernel)
theorem gX1_addSteps_X1_keyOn : GoodIn wsX1_addSteps (wsV RX1 69 RX1 yX1_keyOn wsX1_keyOn) := goodIn_app (tgIn [70, 71, 72, 14] (by decide +kernel) rfl) ggX1_addSteps_X1_keyOn
theorem ggX1_addSteps_X1_isDownOn : GoodIn wsX1_addSteps wsX1_isDownOn := tgCall 77 e_X1_isDownOn (by decide +kernel)
theorem gX1_addSteps_X1_isDownOn : GoodIn wsX1_addSteps (wsV RX1 39 RX1 yX1_isDownOn wsX1_isDownOn) := goodIn_app (tgIn [74, 75, 76, 14] (by decide +kernel) rfl) ggX1_addSteps_X1_isDownOn
theorem ggX1_addSteps_X1_addStep : GoodIn wsX1_addSteps wsX1_addStep := tgCall 81 e_X1_addStep (by decide +kernel)
theorem gX1_addSteps_X1_addStep : GoodIn wsX1_addSteps (wsV RX1 43 RX1 yX1_addStep wsX1_addStep) := goodIn_app (tgIn [78, 79, 80, 14] (by decide +kernel) rfl) ggX1_addSteps_X1_addStep
theorem dkX1_addSteps_0 : ([(0, (.iconst 0, 1)), (1, (.istore_n 3, 1)), (2, (.iload_n 3, 1)), (3, (.iload_n 2, 1)), (4, (.if_icmp .ge 23, 3)), (7, (.aload_n 0, 1)), (8, (.aload_n 1, 1)), (9, (.iload_n 3, 1)), (10, (.invokevirtual 69, 3)), (13, (.aload_n 1, 1)), (14, (.iload_n 3, 1)), (15, (.invokevirtual 39, 3)), (18, (.invokevirtual 43, 3)), (21, (.iinc 3 1, 3)), (24, (.goto (-22), 3)), (27, (.return_, 1))] : List (Nat × (Jvm.ClassFile.Instr × Nat))).all (dcB cX1_addSteps) = true := by decide +kernel
theorem dX1_addSteps_0 : decode cX1_addSteps 0 = .ok (.iconst 0, 1) := dget dkX1_addSteps_0 0 rfl
theorem dX1_addSteps_1 : decode cX1_addSteps 1 = .ok (.istore_n 3, 1) := dget dkX1_addSteps_0 1 rfl
theorem dX1_addSteps_2 : decode cX1_addSteps 2 = .ok (.iload_n 3, 1) := dget dkX1_addSteps_0 2 rfl
theorem dX1_addSteps_3 : decode cX1_addSteps 3 = .ok (.iload_n 2, 1) := dget dkX1_addSteps_0 3 rfl
theorem dX1_addSteps_4 : decode cX1_addSteps 4 = .ok (.if_icmp .ge 23, 3) := dget dkX1_addSteps_0 4 rfl
theorem dX1_addSteps_7 : decode cX1_addSteps 7 = .ok (.aload_n 0, 1) := dget dkX1_addSteps_0 5 rfl
theorem dX1_addSteps_8 : decode cX1_addSteps 8 = .ok (.aload_n 1, 1) := dget dkX1_addSteps_0 6 rfl
theorem dX1_addSteps_9 : decode cX1_addSteps 9 = .ok (.iload_n 3, 1) := dget dkX1_addSteps_0 7 rfl
theorem dX1_addSteps_10 : decode cX1_addSteps 10 = .ok (.invokevirtual 69, 3) := dget dkX1_addSteps_0 8 rfl
theorem dX1_addSteps_13 : decode cX1_addSteps 13 = .ok (.aload_n 1, 1) := dget dkX1_addSteps_0 9 rfl
theorem dX1_addSteps_14 : decode cX1_addSteps 14 = .ok (.iload_n 3, 1) := dget dkX1_addSteps_0 10 rfl
theorem dX1_addSteps_15 : decode cX1_addSteps 15 = .ok (.invokevirtual 39, 3) := dget dkX1_addSteps_0 11 rfl
theorem dX1_addSteps_18 : decode cX1_addSteps 18 = .ok (.invokevirtual 43, 3) := dget dkX1_addSteps_0 12 rfl
theorem dX1_addSteps_21 : decode cX1_addSteps 21 = .ok (.iinc 3 1, 3) := dget dkX1_addSteps_0 13 rfl
theorem dX1_addSteps_24 : decode cX1_addSteps 24 = .ok (.goto (-22), 3) := dget dkX1_addSteps_0 14 rfl
theorem dX1_addSteps_27 : decode cX1_addSteps 27 = .ok (.return_, 1) := dget dkX1_addSteps_0 15 rfl
theorem ggX1_settle_X1_numberBy : GoodIn wsX1_settle wsX1_numberBy := tgCall 42 e_X1_numberBy (by decide +kernel)
theorem gX1_settle_X1_numberBy : GoodIn wsX1_settle (va_wsS RX1 83 yX1_numberBy wsX1_numberBy) := goodIn_app (tgIn [40, 41, 14] (by decide +kernel) rfl) ggX1_settle_X1_numberBy
theorem ggX1_settle_X1_rankAll : GoodIn wsX1_settle wsX1_rankAll := tgCall 53 e_X1_rankAll (by decide +kernel)
theorem gX1_settle_X1_rankAll : GoodIn wsX1_settle (wsV RX1 88 RX1 yX1_rankAll wsX1_rankAll) := goodIn_app (tgIn [50, 51, 52, 14] (by decide +kernel) rfl) ggX1_settle_X1_rankAll
theorem dkX1_settle_0 : ([(0, (.iconst 0, 1)), (1, (.istore_n 1, 1)), (2, (.iload_n 1, 1)), (3, (.aload_n 0, 1)), (4, (.getfield 19, 3)), (7, (.arraylength, 1)), (8, (.if_icmp .ge 97, 3)), (11, (.lconst 0, 1)), (12, (.lstore_n 2, 1)), (13, (.iconst 0, 1)), (14, (.istore 4, 2)), (16, (.iload 4, 2)), (18, (.aload_n 0, 1)), (19, (.getfield 26, 3)), (22, (.if_icmp .ge 70, 3)), (25, (.iload 4, 2)), (27, (.aload_n 0, 1)), (28, (.getfield 11, 3)), (31, (.arraylength, 1)), (32, (.if_icmp .ge 60, 3)), (35, (.iload 4, 2)), (37, (.aload_n 0, 1)), (38, (.getfield 15, 3)), (41, (.arraylength, 1)), (42, (.if_icmp .ge 50, 3)), (45, (.aload_n 0, 1)), (46, (.getfield 11, 3)), (49, (.iload 4, 2)), (51, (.iaload, 1)), (52, (.iload_n 1, 1)), (53, (.invokestatic 83, 3)), (56, (.istore 5, 2)), (58, (.lload_n 2, 1)), (59, (.ldc2_w 86, 3)), (62, (.lmul, 1)), (63, (.aload_n 0, 1)), (64, (.getfield 15, 3)), (67, (.iload 4, 2)), (69, (.baload, 1)), (70, (.ifCond .eq 11, 3))] : List (Nat × (Jvm.ClassFile.Instr × Nat))).all (dcB cX1_settle) = true := by decide +kernel
theorem dX1_settle_0 : decode cX1_settle 0 = .ok (.iconst 0, 1) := dget dkX1_settle_0 0 rfl
theorem dX1_settle_1 : decode cX1_settle 1 = .ok (.istore_n 1, 1) := dget dkX1_settle_0 1 rfl
theorem dX1_settle_2 : decode cX1_settle 2 = .ok (.iload_n 1, 1) := dget dkX1_settle_0 2 rfl
theorem dX1_settle_3 : decode cX1_settle 3 = .ok (.aload_n 0, 1) := dget dkX1_settle_0 3 rfl
theorem dX1_settle_4 : decode cX1_settle 4 = .ok (.getfield 19, 3) := dget dkX1_settle_0 4 rfl
theorem dX1_settle_7 : decode cX1_settle 7 = .ok (.arraylength, 1) := dget dkX1_settle_0 5 rfl
theorem dX1_settle_8 : decode cX1_settle 8 = .ok (.if_icmp .ge 97, 3) := dget dkX1_settle_0 6 rfl
theorem dX1_settle_11 : decode cX1_settle 11 = .ok (.lconst 0, 1) := dget dkX1_settle_0 7 rfl
theorem dX1_settle_12 : decode cX1_settle 12 = .ok (.lstore_n 2, 1) := dget dkX1_settle_0 8 rfl
theorem dX1_settle_13 : decode cX1_settle 13 = .ok (.iconst 0, 1) := dget dkX1_settle_0 9 rfl
theorem dX1_settle_14 : decode cX1_settle 14 = .ok (.istore 4, 2) := dget dkX1_settle_0 10 rfl
theorem dX1_settle_16 : decode cX1_settle 16 = .ok (.iload 4, 2) := dget dkX1_settle_0 11 rfl
theorem dX1_settle_18 : decode cX1_settle 18 = .ok (.aload_n 0, 1) := dget dkX1_settle_0 12 rfl
theorem dX1_settle_19 : decode cX1_settle 19 = .ok (.getfield 26, 3) := dget dkX1_settle_0 13 rfl
theorem dX1_settle_22 : decode cX1_settle 22 = .ok (.if_icmp .ge 70, 3) := dget dkX1_settle_0 14 rfl
theorem dX1_settle_25 : decode cX1_settle 25 = .ok (.iload 4, 2) := dget dkX1_settle_0 15 rfl
theorem dX1_settle_27 : decode cX1_settle 27 = .ok (.aload_n 0, 1) := dget dkX1_settle_0 16 rfl
theorem dX1_settle_28 : decode cX1_settle 28 = .ok (.getfield 11, 3) := dget dkX1_settle_0 17 rfl
theorem dX1_settle_31 : decode cX1_settle 31 = .ok (.arraylength, 1) := dget dkX1_settle_0 18 rfl
theorem dX1_settle_32 : decode cX1_settle 32 = .ok (.if_icmp .ge 60, 3) := dget dkX1_settle_0 19 rfl
theorem dX1_settle_35 : decode cX1_settle 35 = .ok (.iload 4, 2) := dget dkX1_settle_0 20 rfl
theorem dX1_settle_37 : decode cX1_settle 37 = .ok (.aload_n 0, 1) := dget dkX1_settle_0 21 rfl
theorem dX1_settle_38 : decode cX1_settle 38 = .ok (.getfield 15, 3) := dget dkX1_settle_0 22 rfl
theorem dX1_settle_41 : decode cX1_settle 41 = .ok (.arraylength, 1) := dget dkX1_settle_0 23 rfl
theorem dX1_settle_42 : decode cX1_settle 42 = .ok (.if_icmp .ge 50, 3) := dget dkX1_settle_0 24 rfl
theorem dX1_settle_45 : decode cX1_settle 45 = .ok (.aload_n 0, 1) := dget dkX1_settle_0 25 rfl
theorem dX1_settle_46 : decode cX1_settle 46 = .ok (.getfield 11, 3) := dget dkX1_settle_0 26 rfl
theorem dX1_settle_49 : decode cX1_settle 49 = .ok (.iload 4, 2) := dget dkX1_settle_0 27 rfl
theorem dX1_settle_51 : decode cX1_settle 51 = .ok (.iaload, 1) := dget dkX1_settle_0 28 rfl
theorem dX1_settle_52 : decode cX1_settle 52 = .ok (.iload_n 1, 1) := dget dkX1_settle_0 29 rfl
theorem dX1_settle_53 : decode cX1_settle 53 = .ok (.invokestatic 83, 3) := dget dkX1_settle_0 30 rfl
theorem dX1_settle_56 : decode cX1_settle 56 = .ok (.istore 5, 2) := dget dkX1_settle_0 31 rfl
theorem dX1_settle_58 : decode cX1_settle 58 = .ok (.lload_n 2, 1) := dget dkX1_settle_0 32 rfl
theorem dX1_settle_59 : decode cX1_settle 59 = .ok (.ldc2_w 86, 3) := dget dkX1_settle_0 33 rfl
theorem dX1_settle_62 : decode cX1_settle 62 = .ok (.lmul, 1) := dget dkX1_settle_0 34 rfl
theorem dX1_settle_63 : decode cX1_settle 63 = .ok (.aload_n 0, 1) := dget dkX1_settle_0 35 rfl
theorem dX1_settle_64 : decode cX1_settle 64 = .ok (.getfield 15, 3) := dget dkX1_settle_0 36 rfl
theorem dX1_settle_67 : decode cX1_settle 67 = .ok (.iload 4, 2) := dget dkX1_settle_0 37 rfl
theorem dX1_settle_69 : decode cX1_settle 69 = .ok (.baload, 1) := dget dkX1_settle_0 38 rfl
theorem dX1_settle_70 : decode cX1_settle 70 = .ok (.ifCond .eq 11, 3) := dget dkX1_settle_0 39 rfl
theorem dkX1_settle_1 : ([(73, (.bipush 15, 2)), (75, (.iload 5, 2)), (77, (.isub, 1)), (78, (.goto 5, 3)), (81, (.iload 5, 2)), (83, (.i2l, 1)), (84, (.ladd, 1)), (85, (.lstore_n 2, 1)), (86, (.iinc 4 1, 3)), (89, (.goto (-73), 3)), (92, (.aload_n 0, 1)), (93, (.getfield 19, 3)), (96, (.iload_n 1, 1)), (97, (.lload_n 2, 1)), (98, (.lastore, 1)), (99, (.iinc 1 1, 3)), (102, (.goto (-100), 3)), (105, (.aload_n 0, 1)), (106, (.invokevirtual 88, 3)), (109, (.return_, 1))] : List (Nat × (Jvm.ClassFile.Instr × Nat))).all (dcB cX1_settle) = true := by decide +kernel
theorem dX1_settle_73 : decode cX1_settle 73 = .ok (.bipush 15, 2) := dget dkX1_settle_1 0 rfl
theorem dX1_settle_75 : decode cX1_settle 75 = .ok (.iload 5, 2) := dget dkX1_settle_1 1 rfl
theorem dX1_settle_77 : decode cX1_settle 77 = .ok (.isub, 1) := dget dkX1_settle_1 2 rfl
theorem dX1_settle_78 : decode cX1_settle 78 = .ok (.goto 5, 3) := dget dkX1_settle_1 3 rfl
theorem dX1_settle_81 : decode cX1_settle 81 = .ok (.iload 5, 2) := dget dkX1_settle_1 4 rfl
theorem dX1_settle_83 : decode cX1_settle 83 = .ok (.i2l, 1) := dget dkX1_settle_1 5 rfl
theorem dX1_settle_84 : decode cX1_settle 84 = .ok (.ladd, 1) := dget dkX1_settle_1 6 rfl
theorem dX1_settle_85 : decode cX1_settle 85 = .ok (.lstore_n 2, 1) := dget dkX1_settle_1 7 rfl
theorem dX1_settle_86 : decode cX1_settle 86 = .ok (.iinc 4 1, 3) := dget dkX1_settle_1 8 rfl
theorem dX1_settle_89 : decode cX1_settle 89 = .ok (.goto (-73), 3) := dget dkX1_settle_1 9 rfl
theorem dX1_settle_92 : decode cX1_settle 92 = .ok (.aload_n 0, 1) := dget dkX1_settle_1 10 rfl
theorem dX1_settle_93 : decode cX1_settle 93 = .ok (.getfield 19, 3) := dget dkX1_settle_1 11 rfl
theorem dX1_settle_96 : decode cX1_settle 96 = .ok (.iload_n 1, 1) := dget dkX1_settle_1 12 rfl
theorem dX1_settle_97 : decode cX1_settle 97 = .ok (.lload_n 2, 1) := dget dkX1_settle_1 13 rfl
theorem dX1_settle_98 : decode cX1_settle 98 = .ok (.lastore, 1) := dget dkX1_settle_1 14 rfl
theorem dX1_settle_99 : decode cX1_settle 99 = .ok (.iinc 1 1, 3) := dget dkX1_settle_1 15 rfl
theorem dX1_settle_102 : decode cX1_settle 102 = .ok (.goto (-100), 3) := dget dkX1_settle_1 16 rfl
theorem dX1_settle_105 : decode cX1_settle 105 = .ok (.aload_n 0, 1) := dget dkX1_settle_1 17 rfl
theorem dX1_settle_106 : decode cX1_settle 106 = .ok (.invokevirtual 88, 3) := dget dkX1_settle_1 18 rfl
theorem dX1_settle_109 : decode cX1_settle 109 = .ok (.return_, 1) := dget dkX1_settle_1 19 rfl
theorem ggX1_rankAll_X1_isFirstOfClass : GoodIn wsX1_rankAll wsX1_isFirstOfClass := tgCall 57 e_X1_isFirstOfClass (by decide +kernel)
theorem gX1_rankAll_X1_isFirstOfClass : GoodIn wsX1_rankAll (wsV RX1 91 RX1 yX1_isFirstOfClass wsX1_isFirstOfClass) := goodIn_app (tgIn [54, 55, 56, 14] (by decide +kernel) rfl) ggX1_rankAll_X1_isFirstOfClass
theorem ggX1_rankAll_X1_pushBackBehind : GoodIn wsX1_rankAll wsX1_pushBackBehind := tgCall 61 e_X1_pushBackBehind (by decide +kernel)
theorem gX1_rankAll_X1_pushBackBehind : GoodIn wsX1_rankAll (wsV RX1 94 RX1 yX1_pushBackBehind wsX1_pushBackBehind) := goodIn_app (tgIn [58, 59, 60, 14] (by decide +kernel) rfl) ggX1_rankAll_X1_pushBackBehind
theorem dkX1_rankAll_0 : ([(0, (.aload_n 0, 1)), (1, (.iconst 0, 1)), (2, (.putfield 30, 3)), (5, (.iconst 0, 1)), (6, (.istore_n 1, 1)), (7, (.iload_n 1, 1)), (8, (.aload_n 0, 1)), (9, (.getfield 23, 3)), (12, (.arraylength, 1)), (13, (.if_icmp .ge 16, 3)), (16, (.aload_n 0, 1)), (17, (.getfield 23, 3)), (20, (.iload_n 1, 1)), (21, (.iconst 0, 1)), (22, (.iastore, 1)), (23, (.iinc 1 1, 3)), (26, (.goto (-19), 3)), (29, (.iconst 0, 1)), (30, (.istore_n 1, 1)), (31, (.iload_n 1, 1)), (32, (.aload_n 0, 1)), (33, (.getfield 19, 3)), (36, (.arraylength, 1)), (37, (.if_icmp .ge 37, 3)), (40, (.aload_n 0, 1)), (41, (.iload_n 1, 1)), (42, (.invokevirtual 91, 3)), (45, (.ifCond .eq 23, 3)), (48, (.aload_n 0, 1)), (49, (.dup, 1)), (50, (.getfield 30, 3)), (53, (.iconst 1, 1)), (54, (.iadd, 1)), (55, (.putfield 30, 3)), (58, (.aload_n 0, 1)), (59, (.aload_n 0, 1)), (60, (.getfield 19, 3)), (63, (.iload_n 1, 1)), (64, (.laload, 1)), (65, (.invokevirtual 94, 3))] : List (Nat × (Jvm.ClassFile.Instr × Nat))).all (dcB cX1_rankAll) = true := by decide +kernel
theorem dX1_rankAll_0 : decode cX1_rankAll 0 = .ok (.aload_n 0, 1) := dget dkX1_rankAll_0 0 rfl
theorem dX1_rankAll_1 : decode cX1_rankAll 1 = .ok (.iconst 0, 1) := dget dkX1_rankAll_0 1 rfl
theorem dX1_rankAll_2 : decode cX1_rankAll 2 = .ok (.putfield 30, 3) := dget dkX1_rankAll_0 2 rfl
theorem dX1_rankAll_5 : decode cX1_rankAll 5 = .ok (.iconst 0, 1) := dget dkX1_rankAll_0 3 rfl
theorem dX1_rankAll_6 : decode cX1_rankAll 6 = .ok (.istore_n 1, 1) := dget dkX1_rankAll_0 4 rfl
theorem dX1_rankAll_7 : decode cX1_rankAll 7 = .ok (.iload_n 1, 1) := dget dkX1_rankAll_0 5 rfl
theorem dX1_rankAll_8 : decode cX1_rankAll 8 = .ok (.aload_n 0, 1) := dget dkX1_rankAll_0 6 rfl
theorem dX1_rankAll_9 : decode cX1_rankAll 9 = .ok (.getfield 23, 3) := dget dkX1_rankAll_0 7 rfl
theorem dX1_rankAll_12 : decode cX1_rankAll 12 = .ok (.arraylength, 1) := dget dkX1_rankAll_0 8 rfl
theorem dX1_rankAll_13 : decode cX1_rankAll 13 = .ok (.if_icmp .ge 16, 3) := dget dkX1_rankAll_0 9 rfl
theorem dX1_rankAll_16 : decode cX1_rankAll 16 = .ok (.aload_n 0, 1) := dget dkX1_rankAll_0 10 rfl
theorem dX1_rankAll_17 : decode cX1_rankAll 17 = .ok (.getfield 23, 3) := dget dkX1_rankAll_0 11 rfl
theorem dX1_rankAll_20 : decode cX1_rankAll 20 = .ok (.iload_n 1, 1) := dget dkX1_rankAll_0 12 rfl
theorem dX1_rankAll_21 : decode cX1_rankAll 21 = .ok (.iconst 0, 1) := dget dkX1_rankAll_0 13 rfl
theorem dX1_rankAll_22 : decode cX1_rankAll 22 = .ok (.iastore, 1) := dget dkX1_rankAll_0 14 rfl
theorem dX1_rankAll_23 : decode cX1_rankAll 23 = .ok (.iinc 1 1, 3) := dget dkX1_rankAll_0 15 rfl
theorem dX1_rankAll_26 : decode cX1_rankAll 26 = .ok (.goto (-19), 3) := dget dkX1_rankAll_0 16 rfl
theorem dX1_rankAll_29 : decode cX1_rankAll 29 = .ok (.iconst 0, 1) := dget dkX1_rankAll_0 17 rfl
theorem dX1_rankAll_30 : decode cX1_rankAll 30 = .ok (.istore_n 1, 1) := dget dkX1_rankAll_0 18 rfl
theorem dX1_rankAll_31 : decode cX1_rankAll 31 = .ok (.iload_n 1, 1) := dget dkX1_rankAll_0 19 rfl
theorem dX1_rankAll_32 : decode cX1_rankAll 32 = .ok (.aload_n 0, 1) := dget dkX1_rankAll_0 20 rfl
theorem dX1_rankAll_33 : decode cX1_rankAll 33 = .ok (.getfield 19, 3) := dget dkX1_rankAll_0 21 rfl
theorem dX1_rankAll_36 : decode cX1_rankAll 36 = .ok (.arraylength, 1) := dget dkX1_rankAll_0 22 rfl
theorem dX1_rankAll_37 : decode cX1_rankAll 37 = .ok (.if_icmp .ge 37, 3) := dget dkX1_rankAll_0 23 rfl
theorem dX1_rankAll_40 : decode cX1_rankAll 40 = .ok (.aload_n 0, 1) := dget dkX1_rankAll_0 24 rfl
theorem dX1_rankAll_41 : decode cX1_rankAll 41 = .ok (.iload_n 1, 1) := dget dkX1_rankAll_0 25 rfl
theorem dX1_rankAll_42 : decode cX1_rankAll 42 = .ok (.invokevirtual 91, 3) := dget dkX1_rankAll_0 26 rfl
theorem dX1_rankAll_45 : decode cX1_rankAll 45 = .ok (.ifCond .eq 23, 3) := dget dkX1_rankAll_0 27 rfl
theorem dX1_rankAll_48 : decode cX1_rankAll 48 = .ok (.aload_n 0, 1) := dget dkX1_rankAll_0 28 rfl
theorem dX1_rankAll_49 : decode cX1_rankAll 49 = .ok (.dup, 1) := dget dkX1_rankAll_0 29 rfl
theorem dX1_rankAll_50 : decode cX1_rankAll 50 = .ok (.getfield 30, 3) := dget dkX1_rankAll_0 30 rfl
theorem dX1_rankAll_53 : decode cX1_rankAll 53 = .ok (.iconst 1, 1) := dget dkX1_rankAll_0 31 rfl
theorem dX1_rankAll_54 : decode cX1_rankAll 54 = .ok (.iadd, 1) := dget dkX1_rankAll_0 32 rfl
theorem dX1_rankAll_55 : decode cX1_rankAll 55 = .ok (.putfield 30, 3) := dget dkX1_rankAll_0 33 rfl
theorem dX1_rankAll_58 : decode cX1_rankAll 58 = .ok (.aload_n 0, 1) := dget dkX1_rankAll_0 34 rfl
theorem dX1_rankAll_59 : decode cX1_rankAll 59 = .ok (.aload_n 0, 1) := dget dkX1_rankAll_0 35 rfl
theorem dX1_rankAll_60 : decode cX1_rankAll 60 = .ok (.getfield 19, 3) := dget dkX1_rankAll_0 36 rfl
theorem dX1_rankAll_63 : decode cX1_rankAll 63 = .ok (.iload_n 1, 1) := dget dkX1_rankAll_0 37 rfl
theorem dX1_rankAll_64 : decode cX1_rankAll 64 = .ok (.laload, 1) := dget dkX1_rankAll_0 38 rfl
theorem dX1_rankAll_65 : decode cX1_rankAll 65 = .ok (.invokevirtual 94, 3) := dget dkX1_rankAll_0 39 rfl
theorem dkX1_rankAll_1 : ([(68, (.iinc 1 1, 3)), (71, (.goto (-40), 3)), (74, (.return_, 1))] : List (Nat × (Jvm.ClassFile.Instr × Nat))).all (dcB cX1_rankAll) = true := by decide +kernel
theorem dX1_rankAll_68 : decode cX1_rankAll 68 = .ok (.iinc 1 1, 3) := dget dkX1_rankAll_1 0 rfl
theorem dX1_rankAll_71 : decode cX1_rankAll 71 = .ok (.goto (-40), 3) := dget dkX1_rankAll_1 1 rfl
theorem dX1_rankAll_74 : decode cX1_rankAll 74 = .ok (.return_, 1) := dget dkX1_rankAll_1 2 rfl
theorem dkX1_isFirstOfClass_0 : ([(0, (.iconst 0, 1)), (1, (.istore_n 2, 1)), (2, (.iload_n 2, 1)), (3, (.iload_n 1, 1)), (4, (.if_icmp .ge 36, 3)), (7, (.iload_n 1, 1)), (8, (.aload_n 0, 1)), (9, (.getfield 19, 3)), (12, (.arraylength, 1)), (13, (.if_icmp .ge 27, 3)), (16, (.aload_n 0, 1)), (17, (.getfield 19, 3)), (20, (.iload_n 2, 1)), (21, (.laload, 1)), (22, (.aload_n 0, 1)), (23, (.getfield 19, 3)), (26, (.iload_n 1, 1)), (27, (.laload, 1)), (28, (.lcmp, 1)), (29, (.ifCond .ne 5, 3)), (32, (.iconst 0, 1)), (33, (.ireturn, 1)), (34, (.iinc 2 1, 3)), (37, (.goto (-35), 3)), (40, (.iconst 1, 1)), (41, (.ireturn, 1))] : List (Nat × (Jvm.ClassFile.Instr × Nat))).all (dcB cX1_isFirstOfClass) = true := by decide +kernel
theorem dX1_isFirstOfClass_0 : decode cX1_isFirstOfClass 0 = .ok (.iconst 0, 1) := dget dkX1_isFirstOfClass_0 0 rfl
theorem dX1_isFirstOfClass_1 : decode cX1_isFirstOfClass 1 = .ok (.istore_n 2, 1) := dget dkX1_isFirstOfClass_0 1 rfl
theorem dX1_isFirstOfClass_2 : decode cX1_isFirstOfClass 2 = .ok (.iload_n 2, 1) := dget dkX1_isFirstOfClass_0 2 rfl
theorem dX1_isFirstOfClass_3 : decode cX1_isFirstOfClass 3 = .ok (.iload_n 1, 1) := dget dkX1_isFirstOfClass_0 3 rfl
theorem dX1_isFirstOfClass_4 : decode cX1_isFirstOfClass 4 = .ok (.if_icmp .ge 36, 3) := dget dkX1_isFirstOfClass_0 4 rfl
theorem dX1_isFirstOfClass_7 : decode cX1_isFirstOfClass 7 = .ok (.iload_n 1, 1) := dget dkX1_isFirstOfClass_0 5 rfl
theorem dX1_isFirstOfClass_8 : decode cX1_isFirstOfClass 8 = .ok (.aload_n 0, 1) := dget dkX1_isFirstOfClass_0 6 rfl
theorem dX1_isFirstOfClass_9 : decode cX1_isFirstOfClass 9 = .ok (.getfield 19, 3) := dget dkX1_isFirstOfClass_0 7 rfl
theorem dX1_isFirstOfClass_12 : decode cX1_isFirstOfClass 12 = .ok (.arraylength, 1) := dget dkX1_isFirstOfClass_0 8 rfl
theorem dX1_isFirstOfClass_13 : decode cX1_isFirstOfClass 13 = .ok (.if_icmp .ge 27, 3) := dget dkX1_isFirstOfClass_0 9 rfl
theorem dX1_isFirstOfClass_16 : decode cX1_isFirstOfClass 16 = .ok (.aload_n 0, 1) := dget dkX1_isFirstOfClass_0 10 rfl
theorem dX1_isFirstOfClass_17 : decode cX1_isFirstOfClass 17 = .ok (.getfield 19, 3) := dget dkX1_isFirstOfClass_0 11 rfl
theorem dX1_isFirstOfClass_20 : decode cX1_isFirstOfClass 20 = .ok (.iload_n 2, 1) := dget dkX1_isFirstOfClass_0 12 rfl
theorem dX1_isFirstOfClass_21 : decode cX1_isFirstOfClass 21 = .ok (.laload, 1) := dget dkX1_isFirstOfClass_0 13 rfl
theorem dX1_isFirstOfClass_22 : decode cX1_isFirstOfClass 22 = .ok (.aload_n 0, 1) := dget dkX1_isFirstOfClass_0 14 rfl
theorem dX1_isFirstOfClass_23 : decode cX1_isFirstOfClass 23 = .ok (.getfield 19, 3) := dget dkX1_isFirstOfClass_0 15 rfl
theorem dX1_isFirstOfClass_26 : decode cX1_isFirstOfClass 26 = .ok (.iload_n 1, 1) := dget dkX1_isFirstOfClass_0 16 rfl
theorem dX1_isFirstOfClass_27 : decode cX1_isFirstOfClass 27 = .ok (.laload, 1) := dget dkX1_isFirstOfClass_0 17 rfl
theorem dX1_isFirstOfClass_28 : decode cX1_isFirstOfClass 28 = .ok (.lcmp, 1) := dget dkX1_isFirstOfClass_0 18 rfl
theorem dX1_isFirstOfClass_29 : decode cX1_isFirstOfClass 29 = .ok (.ifCond .ne 5, 3) := dget dkX1_isFirstOfClass_0 19 rfl
theorem dX1_isFirstOfClass_32 : decode cX1_isFirstOfClass 32 = .ok (.iconst 0, 1) := dget dkX1_isFirstOfClass_0 20 rfl
theorem dX1_isFirstOfClass_33 : decode cX1_isFirstOfClass 33 = .ok (.ireturn, 1) := dget dkX1_isFirstOfClass_0 21 rfl
theorem dX1_isFirstOfClass_34 : decode cX1_isFirstOfClass 34 = .ok (.iinc 2 1, 3) := dget dkX1_isFirstOfClass_0 22 rfl
theorem dX1_isFirstOfClass_37 : decode cX1_isFirstOfClass 37 = .ok (.goto (-35), 3) := dget dkX1_isFirstOfClass_0 23 rfl
theorem dX1_isFirstOfClass_40 : decode cX1_isFirstOfClass 40 = .ok (.iconst 1, 1) := dget dkX1_isFirstOfClass_0 24 rfl
theorem dX1_isFirstOfClass_41 : decode cX1_isFirstOfClass 41 = .ok (.ireturn, 1) := dget dkX1_isFirstOfClass_0 25 rfl
theorem dkX1_pushBackBehind_0 : ([(0, (.iconst 0, 1)), (1, (.istore_n 3, 1)), (2, (.iload_n 3, 1)), (3, (.aload_n 0, 1)), (4, (.getfield 23, 3)), (7, (.arraylength, 1)), (8, (.if_icmp .ge 39, 3)), (11, (.iload_n 3, 1)), (12, (.aload_n 0, 1)), (13, (.getfield 19, 3)), (16, (.arraylength, 1)), (17, (.if_icmp .ge 30, 3)), (20, (.lload_n 1, 1)), (21, (.aload_n 0, 1)), (22, (.getfield 19, 3)), (25, (.iload_n 3, 1)), (26, (.laload, 1)), (27, (.lcmp, 1)), (28, (.ifCond .ge 13, 3)), (31, (.aload_n 0, 1)), (32, (.getfield 23, 3)), (35, (.iload_n 3, 1)), (36, (.dup2, 1)), (37, (.iaload, 1)), (38, (.iconst 1, 1)), (39, (.iadd, 1)), (40, (.iastore, 1)), (41, (.iinc 3 1, 3)), (44, (.goto (-42), 3)), (47, (.return_, 1))] : List (Nat × (Jvm.ClassFile.Instr × Nat))).all (dcB cX1_pushBackBehind) = true := by decide +kernel
theorem dX1_pushBackBehind_0 : decode cX1_pushBackBehind 0 = .ok (.iconst 0, 1) := dget dkX1_pushBackBehind_0 0 rfl
theorem dX1_pushBackBehind_1 : decode cX1_pushBackBehind 1 = .ok (.istore_n 3, 1) := dget dkX1_pushBackBehind_0 1 rfl
theorem dX1_pushBackBehind_2 : decode cX1_pushBackBehind 2 = .ok (.iload_n 3, 1) := dget dkX1_pushBackBehind_0 2 rfl
theorem dX1_pushBackBehind_3 : decode cX1_pushBackBehind 3 = .ok (.aload_n 0, 1) := dget dkX1_pushBackBehind_0 3 rfl
theorem dX1_pushBackBehind_4 : decode cX1_pushBackBehind 4 = .ok (.getfield 23, 3) := dget dkX1_pushBackBehind_0 4 rfl
theorem dX1_pushBackBehind_7 : decode cX1_pushBackBehind 7 = .ok (.arraylength, 1) := dget dkX1_pushBackBehind_0 5 rfl
theorem dX1_pushBackBehind_8 : decode cX1_pushBackBehind 8 = .ok (.if_icmp .ge 39, 3) := dget dkX1_pushBackBehind_0 6 rfl
theorem dX1_pushBackBehind_11 : decode cX1_pushBackBehind 11 = .ok (.iload_n 3, 1) := dget dkX1_pushBackBehind_0 7 rfl
theorem dX1_pushBackBehind_12 : decode cX1_pushBackBehind 12 = .ok (.aload_n 0, 1) := dget dkX1_pushBackBehind_0 8 rfl
theorem dX1_pushBackBehind_13 : decode cX1_pushBackBehind 13 = .ok (.getfield 19, 3) := dget dkX1_pushBackBehind_0 9 rfl
theorem dX1_pushBackBehind_16 : decode cX1_pushBackBehind 16 = .ok (.arraylength, 1) := dget dkX1_pushBackBehind_0 10 rfl
theorem dX1_pushBackBehind_17 : decode cX1_pushBackBehind 17 = .ok (.if_icmp .ge 30, 3) := dget dkX1_pushBackBehind_0 11 rfl
theorem dX1_pushBackBehind_20 : decode cX1_pushBackBehind 20 = .ok (.lload_n 1, 1) := dget dkX1_pushBackBehind_0 12 rfl
theorem dX1_pushBackBehind_21 : decode cX1_pushBackBehind 21 = .ok (.aload_n 0, 1) := dget dkX1_pushBackBehind_0 13 rfl
theorem dX1_pushBackBehind_22 : decode cX1_pushBackBehind 22 = .ok (.getfield 19, 3) := dget dkX1_pushBackBehind_0 14 rfl
theorem dX1_pushBackBehind_25 : decode cX1_pushBackBehind 25 = .ok (.iload_n 3, 1) := dget dkX1_pushBackBehind_0 15 rfl
theorem dX1_pushBackBehind_26 : decode cX1_pushBackBehind 26 = .ok (.laload, 1) := dget dkX1_pushBackBehind_0 16 rfl
theorem dX1_pushBackBehind_27 : decode cX1_pushBackBehind 27 = .ok (.lcmp, 1) := dget dkX1_pushBackBehind_0 17 rfl
theorem dX1_pushBackBehind_28 : decode cX1_pushBackBehind 28 = .ok (.ifCond .ge 13, 3) := dget dkX1_pushBackBehind_0 18 rfl
theorem dX1_pushBackBehind_31 : decode cX1_pushBackBehind 31 = .ok (.aload_n 0, 1) := dget dkX1_pushBackBehind_0 19 rfl
theorem dX1_pushBackBehind_32 : decode cX1_pushBackBehind 32 = .ok (.getfield 23, 3) := dget dkX1_pushBackBehind_0 20 rfl
theorem dX1_pushBackBehind_35 : decode cX1_pushBackBehind 35 = .ok (.iload_n 3, 1) := dget dkX1_pushBackBehind_0 21 rfl
theorem dX1_pushBackBehind_36 : decode cX1_pushBackBehind 36 = .ok (.dup2, 1) := dget dkX1_pushBackBehind_0 22 rfl
theorem dX1_pushBackBehind_37 : decode cX1_pushBackBehind 37 = .ok (.iaload, 1) := dget dkX1_pushBackBehind_0 23 rfl
theorem dX1_pushBackBehind_38 : decode cX1_pushBackBehind 38 = .ok (.iconst 1, 1) := dget dkX1_pushBackBehind_0 24 rfl
theorem dX1_pushBackBehind_39 : decode cX1_pushBackBehind 39 = .ok (.iadd, 1) := dget dkX1_pushBackBehind_0 25 rfl
theorem dX1_pushBackBehind_40 : decode cX1_pushBackBehind 40 = .ok (.iastore, 1) := dget dkX1_pushBackBehind_0 26 rfl
theorem dX1_pushBackBehind_41 : decode cX1_pushBackBehind 41 = .ok (.iinc 3 1, 3) := dget dkX1_pushBackBehind_0 27 rfl
theorem dX1_pushBackBehind_44 : decode cX1_pushBackBehind 44 = .ok (.goto (-42), 3) := dget dkX1_pushBackBehind_0 28 rfl
theorem dX1_pushBackBehind_47 : decode cX1_pushBackBehind 47 = .ok (.return_, 1) := dget dkX1_pushBackBehind_0 29 rfl
theorem dkX2_init_0 : ([(0, (.aload_n 0, 1)), (1, (.invokespecial 3, 3)), (4, (.aload_n 0, 1)), (5, (.bipush 16, 2)), (7, (.newarray .int, 2)), (9, (.putfield 11, 3)), (12, (.aload_n 0, 1)), (13, (.bipush 16, 2)), (15, (.newarray .int, 2)), (17, (.putfield 15, 3)), (20, (.aload_n 0, 1)), (21, (.iconst 0, 1)), (22, (.putfield 18, 3)), (25, (.return_, 1))] : List (Nat × (Jvm.ClassFile.Instr × Nat))).all (dcB cX2_init) = true := by decide +kernel
theorem dX2_init_0 : decode cX2_init 0 = .ok (.aload_n 0, 1) := dget dkX2_init_0 0 rfl
theorem dX2_init_1 : decode cX2_init 1 = .ok (.invokespecial 3, 3) := dget dkX2_init_0 1 rfl
theorem dX2_init_4 : decode cX2_init 4 = .ok (.aload_n 0, 1) := dget dkX2_init_0 2 rfl
theorem dX2_init_5 : decode cX2_init 5 = .ok (.bipush 16, 2) := dget dkX2_init_0 3 rfl
theorem dX2_init_7 : decode cX2_init 7 = .ok (.newarray .int, 2) := dget dkX2_init_0 4 rfl
theorem dX2_init_9 : decode cX2_init 9 = .ok (.putfield 11, 3) := dget dkX2_init_0 5 rfl
theorem dX2_init_12 : decode cX2_init 12 = .ok (.aload_n 0, 1) := dget dkX2_init_0 6 rfl
theorem dX2_init_13 : decode cX2_init 13 = .ok (.bipush 16, 2) := dget dkX2_init_0 7 rfl
theorem dX2_init_15 : decode cX2_init 15 = .ok (.newarray .int, 2) := dget dkX2_init_0 8 rfl
theorem dX2_init_17 : decode cX2_init 17 = .ok (.putfield 15, 3) := dget dkX2_init_0 9 rfl
theorem dX2_init_20 : decode cX2_init 20 = .ok (.aload_n 0, 1) := dget dkX2_init_0 10 rfl
theorem dX2_init_21 : decode cX2_init 21 = .ok (.iconst 0, 1) := dget dkX2_init_0 11 rfl
theorem dX2_init_22 : decode cX2_init 22 = .ok (.putfield 18, 3) := dget dkX2_init_0 12 rfl
theorem dX2_init_25 : decode cX2_init 25 = .ok (.return_, 1) := dget dkX2_init_0 13 rfl
theorem dkX2_length_0 : ([(0, (.aload_n 0, 1)), (1, (.getfield 18, 3)), (4, (.ireturn, 1))] : List (Nat × (Jvm.ClassFile.Instr × Nat))).all (dcB cX2_length) = true := by decide +kernel
theorem dX2_length_0 : decode cX2_length 0 = .ok (.aload_n 0, 1) := dget dkX2_length_0 0 rfl
theorem dX2_length_1 : decode cX2_length 1 = .ok (.getfield 18, 3) := dget dkX2_length_0 1 rfl
theorem dX2_length_4 : decode cX2_length 4 = .ok (.ireturn, 1) := dget dkX2_length_0 2 rfl
theorem dkX2_valueOn_0 : ([(0, (.iload_n 1, 1)), (1, (.ifCond .lt 21, 3)), (4, (.iload_n 1, 1)), (5, (.aload_n 0, 1)), (6, (.getfield 11, 3)), (9, (.arraylength, 1)), (10, (.if_icmp .ge 12, 3)), (13, (.aload_n 0, 1)), (14, (.getfield 11, 3)), (17, (.iload_n 1, 1)), (18, (.iaload, 1)), (19, (.goto 4, 3)), (22, (.iconst 0, 1)), (23, (.ireturn, 1))] : List (Nat × (Jvm.ClassFile.Instr × Nat))).all (dcB cX2_valueOn) = true := by decide +kernel
theorem dX2_valueOn_0 : decode cX2_valueOn 0 = .ok (.iload_n 1, 1) := dget dkX2_valueOn_0 0 rfl
theorem dX2_valueOn_1 : decode cX2_valueOn 1 = .ok (.ifCond .lt 21, 3) := dget dkX2_valueOn_0 1 rfl
theorem dX2_valueOn_4 : decode cX2_valueOn 4 = .ok (.iload_n 1, 1) := dget dkX2_valueOn_0 2 rfl
theorem dX2_valueOn_5 : decode cX2_valueOn 5 = .ok (.aload_n 0, 1) := dget dkX2_valueOn_0 3 rfl
theorem dX2_valueOn_6 : decode cX2_valueOn 6 = .ok (.getfield 11, 3) := dget dkX2_valueOn_0 4 rfl
theorem dX2_valueOn_9 : decode cX2_valueOn 9 = .ok (.arraylength, 1) := dget dkX2_valueOn_0 5 rfl
theorem dX2_valueOn_10 : decode cX2_valueOn 10 = .ok (.if_icmp .ge 12, 3) := dget dkX2_valueOn_0 6 rfl
theorem dX2_valueOn_13 : decode cX2_valueOn 13 = .ok (.aload_n 0, 1) := dget dkX2_valueOn_0 7 rfl
theorem dX2_valueOn_14 : decode cX2_valueOn 14 = .ok (.getfield 11, 3) := dget dkX2_valueOn_0 8 rfl
theorem dX2_valueOn_17 : decode cX2_valueOn 17 = .ok (.iload_n 1, 1) := dget dkX2_valueOn_0 9 rfl
theorem dX2_valueOn_18 : decode cX2_valueOn 18 = .ok (.iaload, 1) := dget dkX2_valueOn_0 10 rfl
theorem dX2_valueOn_19 : decode cX2_valueOn 19 = .ok (.goto 4, 3) := dget dkX2_valueOn_0 11 rfl
theorem dX2_valueOn_23 : decode cX2_valueOn 23 = .ok (.ireturn, 1) := dget dkX2_valueOn_0 13 rfl
theorem dkX2_markOn_0 : ([(0, (.iload_n 1, 1)), (1, (.ifCond .lt 21, 3)), (4, (.iload_n 1, 1)), (5, (.aload_n 0, 1)), (6, (.getfield 15, 3)), (9, (.arraylength, 1)), (10, (.if_icmp .ge 12, 3)), (13, (.aload_n 0, 1)), (14, (.getfield 15, 3)), (17, (.iload_n 1, 1)), (18, (.iaload, 1)), (19, (.goto 4, 3)), (22, (.iconst (-1), 1)), (23, (.ireturn, 1))] : List (Nat × (Jvm.ClassFile.Instr × Nat))).all (dcB cX2_markOn) = true := by decide +kernel
theorem dX2_markOn_0 : decode cX2_markOn 0 = .ok (.iload_n 1, 1) := dget dkX2_markOn_0 0 rfl
theorem dX2_markOn_1 : decode cX2_markOn 1 = .ok (.ifCond .lt 21, 3) := dget dkX2_markOn_0 1 rfl
theorem dX2_markOn_4 : decode cX2_markOn 4 = .ok (.iload_n 1, 1) := dget dkX2_markOn_0 2 rfl
theorem dX2_markOn_5 : decode cX2_markOn 5 = .ok (.aload_n 0, 1) := dget dkX2_markOn_0 3 rfl
theorem dX2_markOn_6 : decode cX2_markOn 6 = .ok (.getfield 15, 3) := dget dkX2_markOn_0 4 rfl
theorem dX2_markOn_9 : decode cX2_markOn 9 = .ok (.arraylength, 1) := dget dkX2_markOn_0 5 rfl
theorem dX2_markOn_10 : decode cX2_markOn 10 = .ok (.if_icmp .ge 12, 3) := dget dkX2_markOn_0 6 rfl
theorem dX2_markOn_13 : decode cX2_markOn 13 = .ok (.aload_n 0, 1) := dget dkX2_markOn_0 7 rfl
theorem dX2_markOn_14 : decode cX2_markOn 14 = .ok (.getfield 15, 3) := dget dkX2_markOn_0 8 rfl
theorem dX2_markOn_17 : decode cX2_markOn 17 = .ok (.iload_n 1, 1) := dget dkX2_markOn_0 9 rfl
theorem dX2_markOn_18 : decode cX2_markOn 18 = .ok (.iaload, 1) := dget dkX2_markOn_0 10 rfl
theorem dX2_markOn_19 : decode cX2_markOn 19 = .ok (.goto 4, 3) := dget dkX2_markOn_0 11 rfl
theorem dX2_markOn_23 : decode cX2_markOn 23 = .ok (.ireturn, 1) := dget dkX2_markOn_0 13 rfl
theorem dkX2_replace_0 : ([(0, (.iload_n 1, 1)), (1, (.ifCond .lt 35, 3)), (4, (.iload_n 1, 1)), (5, (.aload_n 0, 1)), (6, (.getfield 11, 3)), (9, (.arraylength, 1)), (10, (.if_icmp .ge 26, 3)), (13, (.iload_n 1, 1)), (14, (.aload_n 0, 1)), (15, (.getfield 15, 3)), (18, (.arraylength, 1)), (19, (.if_icmp .ge 17, 3)), (22, (.aload_n 0, 1)), (23, (.getfield 11, 3)), (26, (.iload_n 1, 1)), (27, (.iload_n 2, 1)), (28, (.iastore, 1)), (29, (.aload_n 0, 1)), (30, (.getfield 15, 3)), (33, (.iload_n 1, 1)), (34, (.iload_n 3, 1)), (35, (.iastore, 1)), (36, (.return_, 1))] : List (Nat × (Jvm.ClassFile.Instr × Nat))).all (dcB cX2_replace) = true := by decide +kernel
theorem dX2_replace_0 : decode cX2_replace 0 = .ok (.iload_n 1, 1) := dget dkX2_replace_0 0 rfl
theorem dX2_replace_1 : decode cX2_replace 1 = .ok (.ifCond .lt 35, 3) := dget dkX2_replace_0 1 rfl
theorem dX2_replace_4 : decode cX2_replace 4 = .ok (.iload_n 1, 1) := dget dkX2_replace_0 2 rfl
theorem dX2_replace_5 : decode cX2_replace 5 = .ok (.aload_n 0, 1) := dget dkX2_replace_0 3 rfl
theorem dX2_replace_6 : decode cX2_replace 6 = .ok (.getfield 11, 3) := dget dkX2_replace_0 4 rfl
theorem dX2_replace_9 : decode cX2_replace 9 = .ok (.arraylength, 1) := dget dkX2_replace_0 5 rfl
theorem dX2_replace_10 : decode cX2_replace 10 = .ok (.if_icmp .ge 26, 3) := dget dkX2_replace_0 6 rfl
theorem dX2_replace_13 : decode cX2_replace 13 = .ok (.iload_n 1, 1) := dget dkX2_replace_0 7 rfl
theorem dX2_replace_14 : decode cX2_replace 14 = .ok (.aload_n 0, 1) := dget dkX2_replace_0 8 rfl
theorem dX2_replace_15 : decode cX2_replace 15 = .ok (.getfield 15, 3) := dget dkX2_replace_0 9 rfl
theorem dX2_replace_18 : decode cX2_replace 18 = .ok (.arraylength, 1) := dget dkX2_replace_0 10 rfl
theorem dX2_replace_19 : decode cX2_replace 19 = .ok (.if_icmp .ge 17, 3) := dget dkX2_replace_0 11 rfl
theorem dX2_replace_22 : decode cX2_replace 22 = .ok (.aload_n 0, 1) := dget dkX2_replace_0 12 rfl
theorem dX2_replace_23 : decode cX2_replace 23 = .ok (.getfield 11, 3) := dget dkX2_replace_0 13 rfl
theorem dX2_replace_26 : decode cX2_replace 26 = .ok (.iload_n 1, 1) := dget dkX2_replace_0 14 rfl
theorem dX2_replace_27 : decode cX2_replace 27 = .ok (.iload_n 2, 1) := dget dkX2_replace_0 15 rfl
theorem dX2_replace_28 : decode cX2_replace 28 = .ok (.iastore, 1) := dget dkX2_replace_0 16 rfl
theorem dX2_replace_29 : decode cX2_replace 29 = .ok (.aload_n 0, 1) := dget dkX2_replace_0 17 rfl
theorem dX2_replace_30 : decode cX2_replace 30 = .ok (.getfield 15, 3) := dget dkX2_replace_0 18 rfl
theorem dX2_replace_33 : decode cX2_replace 33 = .ok (.iload_n 1, 1) := dget dkX2_replace_0 19 rfl
theorem dX2_replace_34 : decode cX2_replace 34 = .ok (.iload_n 3, 1) := dget dkX2_replace_0 20 rfl
theorem dX2_replace_35 : decode cX2_replace 35 = .ok (.iastore, 1) := dget dkX2_replace_0 21 rfl
theorem dX2_replace_36 : decode cX2_replace 36 = .ok (.return_, 1) := dget dkX2_replace_0 22 rfl
theorem dkX2_append_0 : ([(0, (.aload_n 0, 1)), (1, (.getfield 18, 3)), (4, (.ifCond .lt 57, 3)), (7, (.aload_n 0, 1)), (8, (.getfield 18, 3)), (11, (.aload_n 0, 1)), (12, (.getfield 11, 3)), (15, (.arraylength, 1)), (16, (.if_icmp .ge 45, 3)), (19, (.aload_n 0, 1)), (20, (.getfield 18, 3)), (23, (.aload_n 0, 1)), (24, (.getfield 15, 3)), (27, (.arraylength, 1)), (28, (.if_icmp .ge 33, 3)), (31, (.aload_n 0, 1)), (32, (.getfield 11, 3)), (35, (.aload_n 0, 1)), (36, (.getfield 18, 3)), (39, (.iload_n 1, 1)), (40, (.iastore, 1)), (41, (.aload_n 0, 1)), (42, (.getfield 15, 3)), (45, (.aload_n 0, 1)), (46, (.getfield 18, 3)), (49, (.iload_n 2, 1)), (50, (.iastore, 1)), (51, (.aload_n 0, 1)), (52, (.dup, 1)), (53, (.getfield 18, 3)), (56, (.iconst 1, 1)), (57, (.iadd, 1)), (58, (.putfield 18, 3)), (61, (.return_, 1))] : List (Nat × (Jvm.ClassFile.Instr × Nat))).all (dcB cX2_append) = true := by decide +kernel
theorem dX2_append_0 : decode cX2_append 0 = .ok (.aload_n 0, 1) := dget dkX2_append_0 0 rfl
theorem dX2_append_1 : decode cX2_append 1 = .ok (.getfield 18, 3) := dget dkX2_append_0 1 rfl
theorem dX2_append_4 : decode cX2_append 4 = .ok (.ifCond .lt 57, 3) := dget dkX2_append_0 2 rfl
theorem dX2_append_7 : decode cX2_append 7 = .ok (.aload_n 0, 1) := dget dkX2_append_0 3 rfl
theorem dX2_append_8 : decode cX2_append 8 = .ok (.getfield 18, 3) := dget dkX2_append_0 4 rfl
theorem dX2_append_11 : decode cX2_append 11 = .ok (.aload_n 0, 1) := dget dkX2_append_0 5 rfl
theorem dX2_append_12 : decode cX2_append 12 = .ok (.getfield 11, 3) := dget dkX2_append_0 6 rfl
theorem dX2_append_15 : decode cX2_append 15 = .ok (.arraylength, 1) := dget dkX2_append_0 7 rfl
theorem dX2_append_16 : decode cX2_append 16 = .ok (.if_icmp .ge 45, 3) := dget dkX2_append_0 8 rfl
theorem dX2_append_19 : decode cX2_append 19 = .ok (.aload_n 0, 1) := dget dkX2_append_0 9 rfl
theorem dX2_append_20 : decode cX2_append 20 = .ok (.getfield 18, 3) := dget dkX2_append_0 10 rfl
theorem dX2_append_23 : decode cX2_append 23 = .ok (.aload_n 0, 1) := dget dkX2_append_0 11 rfl
theorem dX2_append_24 : decode cX2_append 24 = .ok (.getfield 15, 3) := dget dkX2_append_0 12 rfl
theorem dX2_append_27 : decode cX2_append 27 = .ok (.arraylength, 1) := dget dkX2_append_0 13 rfl
theorem dX2_append_28 : decode cX2_append 28 = .ok (.if_icmp .ge 33, 3) := dget dkX2_append_0 14 rfl
theorem dX2_append_31 : decode cX2_append 31 = .ok (.aload_n 0, 1) := dget dkX2_append_0 15 rfl
theorem dX2_append_32 : decode cX2_append 32 = .ok (.getfield 11, 3) := dget dkX2_append_0 16 rfl
theorem dX2_append_35 : decode cX2_append 35 = .ok (.aload_n 0, 1) := dget dkX2_append_0 17 rfl
theorem dX2_append_36 : decode cX2_append 36 = .ok (.getfield 18, 3) := dget dkX2_append_0 18 rfl
theorem dX2_append_39 : decode cX2_append 39 = .ok (.iload_n 1, 1) := dget dkX2_append_0 19 rfl
theorem dX2_append_40 : decode cX2_append 40 = .ok (.iastore, 1) := dget dkX2_append_0 20 rfl
theorem dX2_append_41 : decode cX2_append 41 = .ok (.aload_n 0, 1) := dget dkX2_append_0 21 rfl
theorem dX2_append_42 : decode cX2_append 42 = .ok (.getfield 15, 3) := dget dkX2_append_0 22 rfl
theorem dX2_append_45 : decode cX2_append 45 = .ok (.aload_n 0, 1) := dget dkX2_append_0 23 rfl
theorem dX2_append_46 : decode cX2_append 46 = .ok (.getfield 18, 3) := dget dkX2_append_0 24 rfl
theorem dX2_append_49 : decode cX2_append 49 = .ok (.iload_n 2, 1) := dget dkX2_append_0 25 rfl
theorem dX2_append_50 : decode cX2_append 50 = .ok (.iastore, 1) := dget dkX2_append_0 26 rfl
theorem dX2_append_51 : decode cX2_append 51 = .ok (.aload_n 0, 1) := dget dkX2_append_0 27 rfl
theorem dX2_append_52 : decode cX2_append 52 = .ok (.dup, 1) := dget dkX2_append_0 28 rfl
theorem dX2_append_53 : decode cX2_append 53 = .ok (.getfield 18, 3) := dget dkX2_append_0 29 rfl
theorem dX2_append_56 : decode cX2_append 56 = .ok (.iconst 1, 1) := dget dkX2_append_0 30 rfl
theorem dX2_append_57 : decode cX2_append 57 = .ok (.iadd, 1) := dget dkX2_append_0 31 rfl
theorem dX2_append_58 : decode cX2_append 58 = .ok (.putfield 18, 3) := dget dkX2_append_0 32 rfl
theorem dX2_append_61 : decode cX2_append 61 = .ok (.return_, 1) := dget dkX2_append_0 33 rfl
theorem ggX2_insert_X2_valueOn : GoodIn wsX2_insert wsX2_valueOn := tgCall 89 e_X2_valueOn (by decide +kernel)
theorem gX2_insert_X2_valueOn : GoodIn wsX2_insert (wsV RX2 22 RX2 yX2_valueOn wsX2_valueOn) := goodIn_app (tgIn [98, 87, 88, 9] (by decide +kernel) rfl) ggX2_insert_X2_valueOn
theorem ggX2_insert_X2_markOn : GoodIn wsX2_insert wsX2_markOn := tgCall 102 e_X2_markOn (by decide +kernel)
theorem gX2_insert_X2_markOn : GoodIn wsX2_insert (wsV RX2 26 RX2 yX2_markOn wsX2_markOn) := goodIn_app (tgIn [99, 100, 101, 9] (by decide +kernel) rfl) ggX2_insert_X2_markOn
theorem ggX2_insert_X2_replace : GoodIn wsX2_insert wsX2_replace := tgCall 106 e_X2_replace (by decide +kernel)
theorem gX2_insert_X2_replace : GoodIn wsX2_insert (wsV RX2 29 RX2 yX2_replace wsX2_replace) := goodIn_app (tgIn [103, 104, 105, 9] (by decide +kernel) rfl) ggX2_insert_X2_replace
theorem dkX2_insert_0 : ([(0, (.aload_n 0, 1)), (1, (.getfield 18, 3)), (4, (.bipush 16, 2)), (6, (.if_icmp .lt 4, 3)), (9, (.return_, 1)), (10, (.aload_n 0, 1)), (11, (.getfield 18, 3)), (14, (.istore 4, 2)), (16, (.iload 4, 2)), (18, (.iload_n 1, 1)), (19, (.if_icmp .le 31, 3)), (22, (.aload_n 0, 1)), (23, (.iload 4, 2)), (25, (.aload_n 0, 1)), (26, (.iload 4, 2)), (28, (.iconst 1, 1)), (29, (.isub, 1)), (30, (.invokevirtual 22, 3)), (33, (.aload_n 0, 1)), (34, (.iload 4, 2)), (36, (.iconst 1, 1)), (37, (.isub, 1)), (38, (.invokevirtual 26, 3)), (41, (.invokevirtual 29, 3)), (44, (.iinc 4 (-1), 3)), (47, (.goto (-31), 3)), (50, (.aload_n 0, 1)), (51, (.iload_n 1, 1)), (52, (.iload_n 2, 1)), (53, (.iload_n 3, 1)), (54, (.invokevirtual 29, 3)), (57, (.aload_n 0, 1)), (58, (.dup, 1)), (59, (.getfield 18, 3)), (62, (.iconst 1, 1)), (63, (.iadd, 1)), (64, (.putfield 18, 3)), (67, (.return_, 1))] : List (Nat × (Jvm.ClassFile.Instr × Nat))).all (dcB cX2_insert) = true := by decide +kernel
theorem dX2_insert_0 : decode cX2_insert 0 = .ok (.aload_n 0, 1) := dget dkX2_insert_0 0 rfl
theorem dX2_insert_1 : decode cX2_insert 1 = .ok (.getfield 18, 3) := dget dkX2_insert_0 1 rfl
theorem dX2_insert_4 : decode cX2_insert 4 = .ok (.bipush 16, 2) := dget dkX2_insert_0 2 rfl
theorem dX2_insert_6 : decode cX2_insert 6 = .ok (.if_icmp .lt 4, 3) := dget dkX2_insert_0 3 rfl
theorem dX2_insert_10 : decode cX2_insert 10 = .ok (.aload_n 0, 1) := dget dkX2_insert_0 5 rfl
theorem dX2_insert_11 : decode cX2_insert 11 = .ok (.getfield 18, 3) := dget dkX2_insert_0 6 rfl
theorem dX2_insert_14 : decode cX2_insert 14 = .ok (.istore 4, 2) := dget dkX2_insert_0 7 rfl
theorem dX2_insert_16 : decode cX2_insert 16 = .ok (.iload 4, 2) := dget dkX2_insert_0 8 rfl
theorem dX2_insert_18 : decode cX2_insert 18 = .ok (.iload_n 1, 1) := dget dkX2_insert_0 9 rfl
theorem dX2_insert_19 : decode cX2_insert 19 = .ok (.if_icmp .le 31, 3) := dget dkX2_insert_0 10 rfl
theorem dX2_insert_22 : decode cX2_insert 22 = .ok (.aload_n 0, 1) := dget dkX2_insert_0 11 rfl
theorem dX2_insert_23 : decode cX2_insert 23 = .ok (.iload 4, 2) := dget dkX2_insert_0 12 rfl
theorem dX2_insert_25 : decode cX2_insert 25 = .ok (.aload_n 0, 1) := dget dkX2_insert_0 13 rfl
theorem dX2_insert_26 : decode cX2_insert 26 = .ok (.iload 4, 2) := dget dkX2_insert_0 14 rfl
theorem dX2_insert_28 : decode cX2_insert 28 = .ok (.iconst 1, 1) := dget dkX2_insert_0 15 rfl
theorem dX2_insert_29 : decode cX2_insert 29 = .ok (.isub, 1) := dget dkX2_insert_0 16 rfl
theorem dX2_insert_30 : decode cX2_insert 30 = .ok (.invokevirtual 22, 3) := dget dkX2_insert_0 17 rfl
theorem dX2_insert_33 : decode cX2_insert 33 = .ok (.aload_n 0, 1) := dget dkX2_insert_0 18 rfl
theorem dX2_insert_34 : decode cX2_insert 34 = .ok (.iload 4, 2) := dget dkX2_insert_0 19 rfl
theorem dX2_insert_36 : decode cX2_insert 36 = .ok (.iconst 1, 1) := dget dkX2_insert_0 20 rfl
theorem dX2_insert_37 : decode cX2_insert 37 = .ok (.isub, 1) := dget dkX2_insert_0 21 rfl
theorem dX2_insert_38 : decode cX2_insert 38 = .ok (.invokevirtual 26, 3) := dget dkX2_insert_0 22 rfl
theorem dX2_insert_41 : decode cX2_insert 41 = .ok (.invokevirtual 29, 3) := dget dkX2_insert_0 23 rfl
theorem dX2_insert_44 : decode cX2_insert 44 = .ok (.iinc 4 (-1), 3) := dget dkX2_insert_0 24 rfl
theorem dX2_insert_47 : decode cX2_insert 47 = .ok (.goto (-31), 3) := dget dkX2_insert_0 25 rfl
theorem dX2_insert_50 : decode cX2_insert 50 = .ok (.aload_n 0, 1) := dget dkX2_insert_0 26 rfl
theorem dX2_insert_51 : decode cX2_insert 51 = .ok (.iload_n 1, 1) := dget dkX2_insert_0 27 rfl
theorem dX2_insert_52 : decode cX2_insert 52 = .ok (.iload_n 2, 1) := dget dkX2_insert_0 28 rfl
theorem dX2_insert_53 : decode cX2_insert 53 = .ok (.iload_n 3, 1) := dget dkX2_insert_0 29 rfl
theorem dX2_insert_54 : decode cX2_insert 54 = .ok (.invokevirtual 29, 3) := dget dkX2_insert_0 30 rfl
theorem dX2_insert_57 : decode cX2_insert 57 = .ok (.aload_n 0, 1) := dget dkX2_insert_0 31 rfl
theorem dX2_insert_58 : decode cX2_insert 58 = .ok (.dup, 1) := dget dkX2_insert_0 32 rfl
theorem dX2_insert_59 : decode cX2_insert 59 = .ok (.getfield 18, 3) := dget dkX2_insert_0 33 rfl
theorem dX2_insert_62 : decode cX2_insert 62 = .ok (.iconst 1, 1) := dget dkX2_insert_0 34 rfl
theorem dX2_insert_63 : decode cX2_insert 63 = .ok (.iadd, 1) := dget dkX2_insert_0 35 rfl
theorem dX2_insert_64 : decode cX2_insert 64 = .ok (.putfield 18, 3) := dget dkX2_insert_0 36 rfl
theorem dX2_insert_67 : decode cX2_insert 67 = .ok (.return_, 1) := dget dkX2_insert_0 37 rfl
theorem ggX2_remove_X2_valueOn : GoodIn wsX2_remove wsX2_valueOn := tgCall 89 e_X2_valueOn (by decide +kernel)
theorem gX2_remove_X2_valueOn : GoodIn wsX2_remove (wsV RX2 22 RX2 yX2_valueOn wsX2_valueOn) := goodIn_app (tgIn [98, 87, 88, 9] (by decide +kernel) rfl) ggX2_remove_X2_valueOn
theorem ggX2_remove_X2_markOn : GoodIn wsX2_remove wsX2_markOn := tgCall 102 e_X2_markOn (by decide +kernel)
theorem gX2_remove_X2_markOn : GoodIn wsX2_remove (wsV RX2 26 RX2 yX2_markOn wsX2_markOn) := goodIn_app (tgIn [99, 100, 101, 9] (by decide +kernel) rfl) ggX2_remove_X2_markOn
theorem ggX2_remove_X2_replace : GoodIn wsX2_remove wsX2_replace := tgCall 106 e_X2_replace (by decide +kernel)
theorem gX2_remove_X2_replace : GoodIn wsX2_remove (wsV RX2 29 RX2 yX2_replace wsX2_replace) := goodIn_app (tgIn [103, 104, 105, 9] (by decide +kernel) rfl) ggX2_remove_X2_replace
theorem dkX2_remove_0 : ([(0, (.iload_n 1, 1)), (1, (.ifCond .lt 11, 3)), (4, (.iload_n 1, 1)), (5, (.aload_n 0, 1)), (6, (.getfield 18, 3)), (9, (.if_icmp .lt 4, 3)), (12, (.return_, 1)), (13, (.aload_n 0, 1)), (14, (.dup, 1)), (15, (.getfield 18, 3)), (18, (.iconst 1, 1)), (19, (.isub, 1)), (20, (.putfield 18, 3)), (23, (.iload_n 1, 1)), (24, (.istore_n 2, 1)), (25, (.iload_n 2, 1)), (26, (.aload_n 0, 1)), (27, (.getfield 18, 3)), (30, (.if_icmp .ge 28, 3)), (33, (.aload_n 0, 1)), (34, (.iload_n 2, 1)), (35, (.aload_n 0, 1)), (36, (.iload_n 2, 1)), (37, (.iconst 1, 1)), (38, (.iadd, 1)), (39, (.invokevirtual 22, 3)), (42, (.aload_n 0, 1)), (43, (.iload_n 2, 1)), (44, (.iconst 1, 1)), (45, (.iadd, 1)), (46, (.invokevirtual 26, 3)), (49, (.invokevirtual 29, 3)), (52, (.iinc 2 1, 3)), (55, (.goto (-30), 3)), (58, (.return_, 1))] : List (Nat × (Jvm.ClassFile.Instr × Nat))).all (dcB cX2_remove) = true := by decide +kernel
theorem dX2_remove_0 : decode cX2_remove 0 = .ok (.iload_n 1, 1) := dget dkX2_remove_0 0 rfl
theorem dX2_remove_1 : decode cX2_remove 1 = .ok (.ifCond .lt 11, 3) := dget dkX2_remove_0 1 rfl
theorem dX2_remove_4 : decode cX2_remove 4 = .ok (.iload_n 1, 1) := dget dkX2_remove_0 2 rfl
theorem dX2_remove_5 : decode cX2_remove 5 = .ok (.aload_n 0, 1) := dget dkX2_remove_0 3 rfl
theorem dX2_remove_6 : decode cX2_remove 6 = .ok (.getfield 18, 3) := dget dkX2_remove_0 4 rfl
theorem dX2_remove_9 : decode cX2_remove 9 = .ok (.if_icmp .lt 4, 3) := dget dkX2_remove_0 5 rfl
theorem dX2_remove_13 : decode cX2_remove 13 = .ok (.aload_n 0, 1) := dget dkX2_remove_0 7 rfl
theorem dX2_remove_14 : decode cX2_remove 14 = .ok (.dup, 1) := dget dkX2_remove_0 8 rfl
theorem dX2_remove_15 : decode cX2_remove 15 = .ok (.getfield 18, 3) := dget dkX2_remove_0 9 rfl
theorem dX2_remove_18 : decode cX2_remove 18 = .ok (.iconst 1, 1) := dget dkX2_remove_0 10 rfl
theorem dX2_remove_19 : decode cX2_remove 19 = .ok (.isub, 1) := dget dkX2_remove_0 11 rfl
theorem dX2_remove_20 : decode cX2_remove 20 = .ok (.putfield 18, 3) := dget dkX2_remove_0 12 rfl
theorem dX2_remove_23 : decode cX2_remove 23 = .ok (.iload_n 1, 1) := dget dkX2_remove_0 13 rfl
theorem dX2_remove_24 : decode cX2_remove 24 = .ok (.istore_n 2, 1) := dget dkX2_remove_0 14 rfl
theorem dX2_remove_25 : decode cX2_remove 25 = .ok (.iload_n 2, 1) := dget dkX2_remove_0 15 rfl
theorem dX2_remove_26 : decode cX2_remove 26 = .ok (.aload_n 0, 1) := dget dkX2_remove_0 16 rfl
theorem dX2_remove_27 : decode cX2_remove 27 = .ok (.getfield 18, 3) := dget dkX2_remove_0 17 rfl
theorem dX2_remove_30 : decode cX2_remove 30 = .ok (.if_icmp .ge 28, 3) := dget dkX2_remove_0 18 rfl
theorem dX2_remove_33 : decode cX2_remove 33 = .ok (.aload_n 0, 1) := dget dkX2_remove_0 19 rfl
theorem dX2_remove_34 : decode cX2_remove 34 = .ok (.iload_n 2, 1) := dget dkX2_remove_0 20 rfl
theorem dX2_remove_35 : decode cX2_remove 35 = .ok (.aload_n 0, 1) := dget dkX2_remove_0 21 rfl
theorem dX2_remove_36 : decode cX2_remove 36 = .ok (.iload_n 2, 1) := dget dkX2_remove_0 22 rfl
theorem dX2_remove_37 : decode cX2_remove 37 = .ok (.iconst 1, 1) := dget dkX2_remove_0 23 rfl
theorem dX2_remove_38 : decode cX2_remove 38 = .ok (.iadd, 1) := dget dkX2_remove_0 24 rfl
theorem dX2_remove_39 : decode cX2_remove 39 = .ok (.invokevirtual 22, 3) := dget dkX2_remove_0 25 rfl
theorem dX2_remove_42 : decode cX2_remove 42 = .ok (.aload_n 0, 1) := dget dkX2_remove_0 26 rfl
theorem dX2_remove_43 : decode cX2_remove 43 = .ok (.iload_n 2, 1) := dget dkX2_remove_0 27 rfl
theorem dX2_remove_44 : decode cX2_remove 44 = .ok (.iconst 1, 1) := dget dkX2_remove_0 28 rfl
theorem dX2_remove_45 : decode cX2_remove 45 = .ok (.iadd, 1) := dget dkX2_remove_0 29 rfl
theorem dX2_remove_46 : decode cX2_remove 46 = .ok (.invokevirtual 26, 3) := dget dkX2_remove_0 30 rfl
theorem dX2_remove_49 : decode cX2_remove 49 = .ok (.invokevirtual 29, 3) := dget dkX2_remove_0 31 rfl
theorem dX2_remove_52 : decode cX2_remove 52 = .ok (.iinc 2 1, 3) := dget dkX2_remove_0 32 rfl
theorem dX2_remove_55 : decode cX2_remove 55 = .ok (.goto (-30), 3) := dget dkX2_remove_0 33 rfl
theorem dX2_remove_58 : decode cX2_remove 58 = .ok (.return_, 1) := dget dkX2_remove_0 34 rfl
theorem dkX2_empty_0 : ([(0, (.aload_n 0, 1)), (1, (.iconst 0, 1)), (2, (.putfield 18, 3)), (5, (.return_, 1))] : List (Nat × (Jvm.ClassFile.Instr × Nat))).all (dcB cX2_empty) = true := by decide +kernel
theorem dX2_empty_0 : decode cX2_empty 0 = .ok (.aload_n 0, 1) := dget dkX2_empty_0 0 rfl
theorem dX2_empty_1 : decode cX2_empty 1 = .ok (.iconst 0, 1) := dget dkX2_empty_0 1 rfl
theorem dX2_empty_2 : decode cX2_empty 2 = .ok (.putfield 18, 3) := dget dkX2_empty_0 2 rfl
theorem dX2_empty_5 : decode cX2_empty 5 = .ok (.return_, 1) := dget dkX2_empty_0 3 rfl
theorem ggX2_becomeCopyOf_X2_length : GoodIn wsX2_becomeCopyOf wsX2_length := tgCall 118 e_X2_length (by decide +kernel)
theorem gX2_becomeCopyOf_X2_length : GoodIn wsX2_becomeCopyOf (wsV RX2 33 RX2 yX2_length wsX2_length) := goodIn_app (tgIn [169, 116, 117, 9] (by decide +kernel) rfl) ggX2_becomeCopyOf_X2_length
theorem ggX2_becomeCopyOf_X2_valueOn : GoodIn wsX2_becomeCopyOf wsX2_valueOn := tgCall 89 e_X2_valueOn (by decide +kernel)
theorem gX2_becomeCopyOf_X2_valueOn : GoodIn wsX2_becomeCopyOf (wsV RX2 22 RX2 yX2_valueOn wsX2_valueOn) := goodIn_app (tgIn [98, 87, 88, 9] (by decide +kernel) rfl) ggX2_becomeCopyOf_X2_valueOn
theorem ggX2_becomeCopyOf_X2_markOn : GoodIn wsX2_becomeCopyOf wsX2_markOn := tgCall 102 e_X2_markOn (by decide +kernel)
theorem gX2_becomeCopyOf_X2_markOn : GoodIn wsX2_becomeCopyOf (wsV RX2 26 RX2 yX2_markOn wsX2_markOn) := goodIn_app (tgIn [99, 100, 101, 9] (by decide +kernel) rfl) ggX2_becomeCopyOf_X2_markOn
theorem ggX2_becomeCopyOf_X2_replace : GoodIn wsX2_becomeCopyOf wsX2_replace := tgCall 106 e_X2_replace (by decide +kernel)
theorem gX2_becomeCopyOf_X2_replace : GoodIn wsX2_becomeCopyOf (wsV RX2 29 RX2 yX2_replace wsX2_replace) := goodIn_app (tgIn [103, 104, 105, 9] (by decide +kernel) rfl) ggX2_becomeCopyOf_X2_replace
theorem dkX2_becomeCopyOf_0 : ([(0, (.aload_n 1, 1)), (1, (.invokevirtual 33, 3)), (4, (.istore_n 2, 1)), (5, (.iconst 0, 1)), (6, (.istore_n 3, 1)), (7, (.iload_n 3, 1)), (8, (.iload_n 2, 1)), (9, (.if_icmp .ge 24, 3)), (12, (.aload_n 0, 1)), (13, (.iload_n 3, 1)), (14, (.aload_n 1, 1)), (15, (.iload_n 3, 1)), (16, (.invokevirtual 22, 3)), (19, (.aload_n 1, 1)), (20, (.iload_n 3, 1)), (21, (.invokevirtual 26, 3)), (24, (.invokevirtual 29, 3)), (27, (.iinc 3 1, 3)), (30, (.goto (-23), 3)), (33, (.aload_n 0, 1)), (34, (.iload_n 2, 1)), (35, (.putfield 18, 3)), (38, (.return_, 1))] : List (Nat × (Jvm.ClassFile.Instr × Nat))).all (dcB cX2_becomeCopyOf) = true := by decide +kernel
theorem dX2_becomeCopyOf_0 : decode cX2_becomeCopyOf 0 = .ok (.aload_n 1, 1) := dget dkX2_becomeCopyOf_0 0 rfl
theorem dX2_becomeCopyOf_1 : decode cX2_becomeCopyOf 1 = .ok (.invokevirtual 33, 3) := dget dkX2_becomeCopyOf_0 1 rfl
theorem dX2_becomeCopyOf_4 : decode cX2_becomeCopyOf 4 = .ok (.istore_n 2, 1) := dget dkX2_becomeCopyOf_0 2 rfl
theorem dX2_becomeCopyOf_5 : decode cX2_becomeCopyOf 5 = .ok (.iconst 0, 1) := dget dkX2_becomeCopyOf_0 3 rfl
theorem dX2_becomeCopyOf_6 : decode cX2_becomeCopyOf 6 = .ok (.istore_n 3, 1) := dget dkX2_becomeCopyOf_0 4 rfl
theorem dX2_becomeCopyOf_7 : decode cX2_becomeCopyOf 7 = .ok (.iload_n 3, 1) := dget dkX2_becomeCopyOf_0 5 rfl
theorem dX2_becomeCopyOf_8 : decode cX2_becomeCopyOf 8 = .ok (.iload_n 2, 1) := dget dkX2_becomeCopyOf_0 6 rfl
theorem dX2_becomeCopyOf_9 : decode cX2_becomeCopyOf 9 = .ok (.if_icmp .ge 24, 3) := dget dkX2_becomeCopyOf_0 7 rfl
theorem dX2_becomeCopyOf_12 : decode cX2_becomeCopyOf 12 = .ok (.aload_n 0, 1) := dget dkX2_becomeCopyOf_0 8 rfl
theorem dX2_becomeCopyOf_13 : decode cX2_becomeCopyOf 13 = .ok (.iload_n 3, 1) := dget dkX2_becomeCopyOf_0 9 rfl
theorem dX2_becomeCopyOf_14 : decode cX2_becomeCopyOf 14 = .ok (.aload_n 1, 1) := dget dkX2_becomeCopyOf_0 10 rfl
theorem dX2_becomeCopyOf_15 : decode cX2_becomeCopyOf 15 = .ok (.iload_n 3, 1) := dget dkX2_becomeCopyOf_0 11 rfl
theorem dX2_becomeCopyOf_16 : decode cX2_becomeCopyOf 16 = .ok (.invokevirtual 22, 3) := dget dkX2_becomeCopyOf_0 12 rfl
theorem dX2_becomeCopyOf_19 : decode cX2_becomeCopyOf 19 = .ok (.aload_n 1, 1) := dget dkX2_becomeCopyOf_0 13 rfl
theorem dX2_becomeCopyOf_20 : decode cX2_becomeCopyOf 20 = .ok (.iload_n 3, 1) := dget dkX2_becomeCopyOf_0 14 rfl
theorem dX2_becomeCopyOf_21 : decode cX2_becomeCopyOf 21 = .ok (.invokevirtual 26, 3) := dget dkX2_becomeCopyOf_0 15 rfl
theorem dX2_becomeCopyOf_24 : decode cX2_becomeCopyOf 24 = .ok (.invokevirtual 29, 3) := dget dkX2_becomeCopyOf_0 16 rfl
theorem dX2_becomeCopyOf_27 : decode cX2_becomeCopyOf 27 = .ok (.iinc 3 1, 3) := dget dkX2_becomeCopyOf_0 17 rfl
theorem dX2_becomeCopyOf_30 : decode cX2_becomeCopyOf 30 = .ok (.goto (-23), 3) := dget dkX2_becomeCopyOf_0 18 rfl
theorem dX2_becomeCopyOf_33 : decode cX2_becomeCopyOf 33 = .ok (.aload_n 0, 1) := dget dkX2_becomeCopyOf_0 19 rfl
theorem dX2_becomeCopyOf_34 : decode cX2_becomeCopyOf 34 = .ok (.iload_n 2, 1) := dget dkX2_becomeCopyOf_0 20 rfl
theorem dX2_becomeCopyOf_35 : decode cX2_becomeCopyOf 35 = .ok (.putfield 18, 3) := dget dkX2_becomeCopyOf_0 21 rfl
theorem dX2_becomeCopyOf_38 : decode cX2_becomeCopyOf 38 = .ok (.return_, 1) := dget dkX2_becomeCopyOf_0 22 rfl
theorem ggX2_becomeAllValues_X2_append : GoodIn wsX2_becomeAllValues wsX2_append := tgCall 114 e_X2_append (by decide +kernel)
theorem gX2_becomeAllValues_X2_append : GoodIn wsX2_becomeAllValues (wsV RX2 37 RX2 yX2_append wsX2_append) := goodIn_app (tgIn [111, 112, 113, 9] (by decide +kernel) rfl) ggX2_becomeAllValues_X2_append
theorem dkX2_becomeAllValues_0 : ([(0, (.aload_n 0, 1)), (1, (.iconst 0, 1)), (2, (.putfield 18, 3)), (5, (.iconst 0, 1)), (6, (.istore_n 1, 1)), (7, (.iload_n 1, 1)), (8, (.bipush 16, 2)), (10, (.if_icmp .ge 15, 3)), (13, (.aload_n 0, 1)), (14, (.iload_n 1, 1)), (15, (.iload_n 1, 1)), (16, (.invokevirtual 37, 3)), (19, (.iinc 1 1, 3)), (22, (.goto (-15), 3)), (25, (.return_, 1))] : List (Nat × (Jvm.ClassFile.Instr × Nat))).all (dcB cX2_becomeAllValues) = true := by decide +kernel
theorem dX2_becomeAllValues_0 : decode cX2_becomeAllValues 0 = .ok (.aload_n 0, 1) := dget dkX2_becomeAllValues_0 0 rfl
theorem dX2_becomeAllValues_1 : decode cX2_becomeAllValues 1 = .ok (.iconst 0, 1) := dget dkX2_becomeAllValues_0 1 rfl
theorem dX2_becomeAllValues_2 : decode cX2_becomeAllValues 2 = .ok (.putfield 18, 3) := dget dkX2_becomeAllValues_0 2 rfl
theorem dX2_becomeAllValues_5 : decode cX2_becomeAllValues 5 = .ok (.iconst 0, 1) := dget dkX2_becomeAllValues_0 3 rfl
theorem dX2_becomeAllValues_6 : decode cX2_becomeAllValues 6 = .ok (.istore_n 1, 1) := dget dkX2_becomeAllValues_0 4 rfl
theorem dX2_becomeAllValues_7 : decode cX2_becomeAllValues 7 = .ok (.iload_n 1, 1) := dget dkX2_becomeAllValues_0 5 rfl
theorem dX2_becomeAllValues_8 : decode cX2_becomeAllValues 8 = .ok (.bipush 16, 2) := dget dkX2_becomeAllValues_0 6 rfl
theorem dX2_becomeAllValues_10 : decode cX2_becomeAllValues 10 = .ok (.if_icmp .ge 15, 3) := dget dkX2_becomeAllValues_0 7 rfl
theorem dX2_becomeAllValues_13 : decode cX2_becomeAllValues 13 = .ok (.aload_n 0, 1) := dget dkX2_becomeAllValues_0 8 rfl
theorem dX2_becomeAllValues_14 : decode cX2_becomeAllValues 14 = .ok (.iload_n 1, 1) := dget dkX2_becomeAllValues_0 9 rfl
theorem dX2_becomeAllValues_15 : decode cX2_becomeAllValues 15 = .ok (.iload_n 1, 1) := dget dkX2_becomeAllValues_0 10 rfl
theorem dX2_becomeAllValues_16 : decode cX2_becomeAllValues 16 = .ok (.invokevirtual 37, 3) := dget dkX2_becomeAllValues_0 11 rfl
theorem dX2_becomeAllValues_19 : decode cX2_becomeAllValues 19 = .ok (.iinc 1 1, 3) := dget dkX2_becomeAllValues_0 12 rfl
theorem dX2_becomeAllValues_22 : decode cX2_becomeAllValues 22 = .ok (.goto (-15), 3) := dget dkX2_becomeAllValues_0 13 rfl
theorem dX2_becomeAllValues_25 : decode cX2_becomeAllValues 25 = .ok (.return_, 1) := dget dkX2_becomeAllValues_0 14 rfl
theorem ggX2_reverse_X2_exchange : GoodIn wsX2_reverse wsX2_exchange := tgCall 97 e_X2_exchange (by decide +kernel)
theorem gX2_reverse_X2_exchange : GoodIn wsX2_reverse (wsV RX2 41 RX2 yX2_exchange wsX2_exchange) := goodIn_app (tgIn [197, 95, 96, 9] (by decide +kernel) rfl) ggX2_reverse_X2_exchange
theorem dkX2_reverse_0 : ([(0, (.iconst 0, 1)), (1, (.istore_n 1, 1)), (2, (.aload_n 0, 1)), (3, (.getfield 18, 3)), (6, (.iconst 1, 1)), (7, (.isub, 1)), (8, (.istore_n 2, 1)), (9, (.iload_n 1, 1)), (10, (.iload_n 2, 1)), (11, (.if_icmp .ge 18, 3)), (14, (.aload_n 0, 1)), (15, (.iload_n 1, 1)), (16, (.iload_n 2, 1)), (17, (.invokevirtual 41, 3)), (20, (.iinc 1 1, 3)), (23, (.iinc 2 (-1), 3)), (26, (.goto (-17), 3)), (29, (.return_, 1))] : List (Nat × (Jvm.ClassFile.Instr × Nat))).all (dcB cX2_reverse) = true := by decide +kernel
theorem dX2_reverse_0 : decode cX2_reverse 0 = .ok (.iconst 0, 1) := dget dkX2_reverse_0 0 rfl
theorem dX2_reverse_1 : decode cX2_reverse 1 = .ok (.istore_n 1, 1) := dget dkX2_reverse_0 1 rfl
theorem dX2_reverse_2 : decode cX2_reverse 2 = .ok (.aload_n 0, 1) := dget dkX2_reverse_0 2 rfl
theorem dX2_reverse_3 : decode cX2_reverse 3 = .ok (.getfield 18, 3) := dget dkX2_reverse_0 3 rfl
theorem dX2_reverse_6 : decode cX2_reverse 6 = .ok (.iconst 1, 1) := dget dkX2_reverse_0 4 rfl
theorem dX2_reverse_7 : decode cX2_reverse 7 = .ok (.isub, 1) := dget dkX2_reverse_0 5 rfl
theorem dX2_reverse_8 : decode cX2_reverse 8 = .ok (.istore_n 2, 1) := dget dkX2_reverse_0 6 rfl
theorem dX2_reverse_9 : decode cX2_reverse 9 = .ok (.iload_n 1, 1) := dget dkX2_reverse_0 7 rfl
theorem dX2_reverse_10 : decode cX2_reverse 10 = .ok (.iload_n 2, 1) := dget dkX2_reverse_0 8 rfl
theorem dX2_reverse_11 : decode cX2_reverse 11 = .ok (.if_icmp .ge 18, 3) := dget dkX2_reverse_0 9 rfl
theorem dX2_reverse_14 : decode cX2_reverse 14 = .ok (.aload_n 0, 1) := dget dkX2_reverse_0 10 rfl
theorem dX2_reverse_15 : decode cX2_reverse 15 = .ok (.iload_n 1, 1) := dget dkX2_reverse_0 11 rfl
theorem dX2_reverse_16 : decode cX2_reverse 16 = .ok (.iload_n 2, 1) := dget dkX2_reverse_0 12 rfl
theorem dX2_reverse_17 : decode cX2_reverse 17 = .ok (.invokevirtual 41, 3) := dget dkX2_reverse_0 13 rfl
theorem dX2_reverse_20 : decode cX2_reverse 20 = .ok (.iinc 1 1, 3) := dget dkX2_reverse_0 14 rfl
theorem dX2_reverse_23 : decode cX2_reverse 23 = .ok (.iinc 2 (-1), 3) := dget dkX2_reverse_0 15 rfl
theorem dX2_reverse_26 : decode cX2_reverse 26 = .ok (.goto (-17), 3) := dget dkX2_reverse_0 16 rfl
theorem dX2_reverse_29 : decode cX2_reverse 29 = .ok (.return_, 1) := dget dkX2_reverse_0 17 rfl
theorem ggX2_exchange_X2_valueOn : GoodIn wsX2_exchange wsX2_valueOn := tgCall 89 e_X2_valueOn (by decide +kernel)
theorem gX2_exchange_X2_valueOn : GoodIn wsX2_exchange (wsV RX2 22 RX2 yX2_valueOn wsX2_valueOn) := goodIn_app (tgIn [98, 87, 88, 9] (by decide +kernel) rfl) ggX2_exchange_X2_valueOn
theorem ggX2_exchange_X2_markOn : GoodIn wsX2_exchange wsX2_markOn := tgCall 102 e_X2_markOn (by decide +kernel)
theorem gX2_exchange_X2_markOn : GoodIn wsX2_exchange (wsV RX2 26 RX2 yX2_markOn wsX2_markOn) := goodIn_app (tgIn [99, 100, 101, 9] (by decide +kernel) rfl) ggX2_exchange_X2_markOn
theorem ggX2_exchange_X2_replace : GoodIn wsX2_exchange wsX2_replace := tgCall 106 e_X2_replace (by decide +kernel)
theorem gX2_exchange_X2_replace : GoodIn wsX2_exchange (wsV RX2 29 RX2 yX2_replace wsX2_replace) := goodIn_app (tgIn [103, 104, 105, 9] (by decide +kernel) rfl) ggX2_exchange_X2_replace
theorem dkX2_exchange_0 : ([(0, (.aload_n 0, 1)), (1, (.iload_n 1, 1)), (2, (.invokevirtual 22, 3)), (5, (.istore_n 3, 1)), (6, (.aload_n 0, 1)), (7, (.iload_n 1, 1)), (8, (.invokevirtual 26, 3)), (11, (.istore 4, 2)), (13, (.aload_n 0, 1)), (14, (.iload_n 1, 1)), (15, (.aload_n 0, 1)), (16, (.iload_n 2, 1)), (17, (.invokevirtual 22, 3)), (20, (.aload_n 0, 1)), (21, (.iload_n 2, 1)), (22, (.invokevirtual 26, 3)), (25, (.invokevirtual 29, 3)), (28, (.aload_n 0, 1)), (29, (.iload_n 2, 1)), (30, (.iload_n 3, 1)), (31, (.iload 4, 2)), (33, (.invokevirtual 29, 3)), (36, (.return_, 1))] : List (Nat × (Jvm.ClassFile.Instr × Nat))).all (dcB cX2_exchange) = true := by decide +kernel
theorem dX2_exchange_0 : decode cX2_exchange 0 = .ok (.aload_n 0, 1) := dget dkX2_exchange_0 0 rfl
theorem dX2_exchange_1 : decode cX2_exchange 1 = .ok (.iload_n 1, 1) := dget dkX2_exchange_0 1 rfl
theorem dX2_exchange_2 : decode cX2_exchange 2 = .ok (.invokevirtual 22, 3) := dget dkX2_exchange_0 2 rfl
theorem dX2_exchange_5 : decode cX2_exchange 5 = .ok (.istore_n 3, 1) := dget dkX2_exchange_0 3 rfl
theorem dX2_exchange_6 : decode cX2_exchange 6 = .ok (.aload_n 0, 1) := dget dkX2_exchange_0 4 rfl
theorem dX2_exchange_7 : decode cX2_exchange 7 = .ok (.iload_n 1, 1) := dget dkX2_exchange_0 5 rfl
theorem dX2_exchange_8 : decode cX2_exchange 8 = .ok (.invokevirtual 26, 3) := dget dkX2_exchange_0 6 rfl
theorem dX2_exchange_11 : decode cX2_exchange 11 = .ok (.istore 4, 2) := dget dkX2_exchange_0 7 rfl
theorem dX2_exchange_13 : decode cX2_exchange 13 = .ok (.aload_n 0, 1) := dget dkX2_exchange_0 8 rfl
theorem dX2_exchange_14 : decode cX2_exchange 14 = .ok (.iload_n 1, 1) := dget dkX2_exchange_0 9 rfl
theorem dX2_exchange_15 : decode cX2_exchange 15 = .ok (.aload_n 0, 1) := dget dkX2_exchange_0 10 rfl
theorem dX2_exchange_16 : decode cX2_exchange 16 = .ok (.iload_n 2, 1) := dget dkX2_exchange_0 11 rfl
theorem dX2_exchange_17 : decode cX2_exchange 17 = .ok (.invokevirtual 22, 3) := dget dkX2_exchange_0 12 rfl
theorem dX2_exchange_20 : decode cX2_exchange 20 = .ok (.aload_n 0, 1) := dget dkX2_exchange_0 13 rfl
theorem dX2_exchange_21 : decode cX2_exchange 21 = .ok (.iload_n 2, 1) := dget dkX2_exchange_0 14 rfl
theorem dX2_exchange_22 : decode cX2_exchange 22 = .ok (.invokevirtual 26, 3) := dget dkX2_exchange_0 15 rfl
theorem dX2_exchange_25 : decode cX2_exchange 25 = .ok (.invokevirtual 29, 3) := dget dkX2_exchange_0 16 rfl
theorem dX2_exchange_28 : decode cX2_exchange 28 = .ok (.aload_n 0, 1) := dget dkX2_exchange_0 17 rfl
theorem dX2_exchange_29 : decode cX2_exchange 29 = .ok (.iload_n 2, 1) := dget dkX2_exchange_0 18 rfl
theorem dX2_exchange_30 : decode cX2_exchange 30 = .ok (.iload_n 3, 1) := dget dkX2_exchange_0 19 rfl
theorem dX2_exchange_31 : decode cX2_exchange 31 = .ok (.iload 4, 2) := dget dkX2_exchange_0 20 rfl
theorem dX2_exchange_33 : decode cX2_exchange 33 = .ok (.invokevirtual 29, 3) := dget dkX2_exchange_0 21 rfl
theorem dX2_exchange_36 : decode cX2_exchange 36 = .ok (.return_, 1) := dget dkX2_exchange_0 22 rfl
theorem ggX2_placesUnlike_X2_markOn : GoodIn wsX2_placesUnlike wsX2_markOn := tgCall 102 e_X2_markOn (by decide +kernel)
theorem gX2_placesUnlike_X2_markOn : GoodIn wsX2_placesUnlike (wsV RX2 26 RX2 yX2_markOn wsX2_markOn) := goodIn_app (tgIn [99, 100, 101, 9] (by decide +kernel) rfl) ggX2_placesUnlike_X2_markOn
theorem dkX2_placesUnlike_0 : ([(0, (.iconst 0, 1)), (1, (.istore_n 2, 1)), (2, (.iconst 0, 1)), (3, (.istore_n 3, 1)), (4, (.iload_n 3, 1)), (5, (.aload_n 0, 1)), (6, (.getfield 18, 3)), (9, (.if_icmp .ge 25, 3)), (12, (.aload_n 0, 1)), (13, (.iload_n 3, 1)), (14, (.invokevirtual 26, 3)), (17, (.aload_n 1, 1)), (18, (.iload_n 3, 1)), (19, (.invokevirtual 26, 3)), (22, (.if_icmp .eq 6, 3)), (25, (.iinc 2 1, 3)), (28, (.iinc 3 1, 3)), (31, (.goto (-27), 3)), (34, (.iload_n 2, 1)), (35, (.ireturn, 1))] : List (Nat × (Jvm.ClassFile.Instr × Nat))).all (dcB cX2_placesUnlike) = true := by decide +kernel
theorem dX2_placesUnlike_0 : decode cX2_placesUnlike 0 = .ok (.iconst 0, 1) := dget dkX2_placesUnlike_0 0 rfl
theorem dX2_placesUnlike_1 : decode cX2_placesUnlike 1 = .ok (.istore_n 2, 1) := dget dkX2_placesUnlike_0 1 rfl
theorem dX2_placesUnlike_2 : decode cX2_placesUnlike 2 = .ok (.iconst 0, 1) := dget dkX2_placesUnlike_0 2 rfl
theorem dX2_placesUnlike_3 : decode cX2_placesUnlike 3 = .ok (.istore_n 3, 1) := dget dkX2_placesUnlike_0 3 rfl
theorem dX2_placesUnlike_4 : decode cX2_placesUnlike 4 = .ok (.iload_n 3, 1) := dget dkX2_placesUnlike_0 4 rfl
theorem dX2_placesUnlike_5 : decode cX2_placesUnlike 5 = .ok (.aload_n 0, 1) := dget dkX2_placesUnlike_0 5 rfl
theorem dX2_placesUnlike_6 : decode cX2_placesUnlike 6 = .ok (.getfield 18, 3) := dget dkX2_placesUnlike_0 6 rfl
theorem dX2_placesUnlike_9 : decode cX2_placesUnlike 9 = .ok (.if_icmp .ge 25, 3) := dget dkX2_placesUnlike_0 7 rfl
theorem dX2_placesUnlike_12 : decode cX2_placesUnlike 12 = .ok (.aload_n 0, 1) := dget dkX2_placesUnlike_0 8 rfl
theorem dX2_placesUnlike_13 : decode cX2_placesUnlike 13 = .ok (.iload_n 3, 1) := dget dkX2_placesUnlike_0 9 rfl
theorem dX2_placesUnlike_14 : decode cX2_placesUnlike 14 = .ok (.invokevirtual 26, 3) := dget dkX2_placesUnlike_0 10 rfl
theorem dX2_placesUnlike_17 : decode cX2_placesUnlike 17 = .ok (.aload_n 1, 1) := dget dkX2_placesUnlike_0 11 rfl
theorem dX2_placesUnlike_18 : decode cX2_placesUnlike 18 = .ok (.iload_n 3, 1) := dget dkX2_placesUnlike_0 12 rfl
theorem dX2_placesUnlike_19 : decode cX2_placesUnlike 19 = .ok (.invokevirtual 26, 3) := dget dkX2_placesUnlike_0 13 rfl
theorem dX2_placesUnlike_22 : decode cX2_placesUnlike 22 = .ok (.if_icmp .eq 6, 3) := dget dkX2_placesUnlike_0 14 rfl
theorem dX2_placesUnlike_25 : decode cX2_placesUnlike 25 = .ok (.iinc 2 1, 3) := dget dkX2_placesUnlike_0 15 rfl
theorem dX2_placesUnlike_28 : decode cX2_placesUnlike 28 = .ok (.iinc 3 1, 3) := dget dkX2_placesUnlike_0 16 rfl
theorem dX2_placesUnlike_31 : decode cX2_placesUnlike 31 = .ok (.goto (-27), 3) := dget dkX2_placesUnlike_0 17 rfl
theorem dX2_placesUnlike_34 : decode cX2_placesUnlike 34 = .ok (.iload_n 2, 1) := dget dkX2_placesUnlike_0 18 rfl
theorem dX2_placesUnlike_35 : decode cX2_placesUnlike 35 = .ok (.ireturn, 1) := dget dkX2_placesUnlike_0 19 rfl
theorem ggX2_isLike_X2_length : GoodIn wsX2_isLike wsX2_length := tgCall 118 e_X2_length (by decide +kernel)
theorem gX2_isLike_X2_length : GoodIn wsX2_isLike (wsV RX2 33 RX2 yX2_length wsX2_length) := goodIn_app (tgIn [169, 116, 117, 9] (by decide +kernel) rfl) ggX2_isLike_X2_length
theorem ggX2_isLike_X2_markOn : GoodIn wsX2_isLike wsX2_markOn := tgCall 102 e_X2_markOn (by decide +kernel)
theorem gX2_isLike_X2_markOn : GoodIn wsX2_isLike (wsV RX2 26 RX2 yX2_markOn wsX2_markOn) := goodIn_app (tgIn [99, 100, 101, 9] (by decide +kernel) rfl) ggX2_isLike_X2_markOn
theorem ggX2_isLike_X2_valueOn : GoodIn wsX2_isLike wsX2_valueOn := tgCall 89 e_X2_valueOn (by decide +kernel)
theorem gX2_isLike_X2_valueOn : GoodIn wsX2_isLike (wsV RX2 22 RX2 yX2_valueOn wsX2_valueOn) := goodIn_app (tgIn [98, 87, 88, 9] (by decide +kernel) rfl) ggX2_isLike_X2_valueOn
theorem dkX2_isLike_0 : ([(0, (.aload_n 0, 1)), (1, (.getfield 18, 3)), (4, (.aload_n 1, 1)), (5, (.invokevirtual 33, 3)), (8, (.if_icmp .eq 5, 3)), (11, (.iconst 0, 1)), (12, (.ireturn, 1)), (13, (.iconst 0, 1)), (14, (.istore_n 2, 1)), (15, (.iload_n 2, 1)), (16, (.aload_n 0, 1)), (17, (.getfield 18, 3)), (20, (.if_icmp .ge 37, 3)), (23, (.aload_n 0, 1)), (24, (.iload_n 2, 1)), (25, (.invokevirtual 26, 3)), (28, (.aload_n 1, 1)), (29, (.iload_n 2, 1)), (30, (.invokevirtual 26, 3)), (33, (.if_icmp .ne 16, 3)), (36, (.aload_n 0, 1)), (37, (.iload_n 2, 1)), (38, (.invokevirtual 22, 3)), (41, (.aload_n 1, 1)), (42, (.iload_n 2, 1)), (43, (.invokevirtual 22, 3)), (46, (.if_icmp .eq 5, 3)), (49, (.iconst 0, 1)), (50, (.ireturn, 1)), (51, (.iinc 2 1, 3)), (54, (.goto (-39), 3)), (57, (.iconst 1, 1)), (58, (.ireturn, 1))] : List (Nat × (Jvm.ClassFile.Instr × Nat))).all (dcB cX2_isLike) = true := by decide +kernel
theorem dX2_isLike_0 : decode cX2_isLike 0 = .ok (.aload_n 0, 1) := dget dkX2_isLike_0 0 rfl
theorem dX2_isLike_1 : decode cX2_isLike 1 = .ok (.getfield 18, 3) := dget dkX2_isLike_0 1 rfl
theorem dX2_isLike_4 : decode cX2_isLike 4 = .ok (.aload_n 1, 1) := dget dkX2_isLike_0 2 rfl
theorem dX2_isLike_5 : decode cX2_isLike 5 = .ok (.invokevirtual 33, 3) := dget dkX2_isLike_0 3 rfl
theorem dX2_isLike_8 : decode cX2_isLike 8 = .ok (.if_icmp .eq 5, 3) := dget dkX2_isLike_0 4 rfl
theorem dX2_isLike_11 : decode cX2_isLike 11 = .ok (.iconst 0, 1) := dget dkX2_isLike_0 5 rfl
theorem dX2_isLike_12 : decode cX2_isLike 12 = .ok (.ireturn, 1) := dget dkX2_isLike_0 6 rfl
theorem dX2_isLike_13 : decode cX2_isLike 13 = .ok (.iconst 0, 1) := dget dkX2_isLike_0 7 rfl
theorem dX2_isLike_14 : decode cX2_isLike 14 = .ok (.istore_n 2, 1) := dget dkX2_isLike_0 8 rfl
theorem dX2_isLike_15 : decode cX2_isLike 15 = .ok (.iload_n 2, 1) := dget dkX2_isLike_0 9 rfl
theorem dX2_isLike_16 : decode cX2_isLike 16 = .ok (.aload_n 0, 1) := dget dkX2_isLike_0 10 rfl
theorem dX2_isLike_17 : decode cX2_isLike 17 = .ok (.getfield 18, 3) := dget dkX2_isLike_0 11 rfl
theorem dX2_isLike_20 : decode cX2_isLike 20 = .ok (.if_icmp .ge 37, 3) := dget dkX2_isLike_0 12 rfl
theorem dX2_isLike_23 : decode cX2_isLike 23 = .ok (.aload_n 0, 1) := dget dkX2_isLike_0 13 rfl
theorem dX2_isLike_24 : decode cX2_isLike 24 = .ok (.iload_n 2, 1) := dget dkX2_isLike_0 14 rfl
theorem dX2_isLike_25 : decode cX2_isLike 25 = .ok (.invokevirtual 26, 3) := dget dkX2_isLike_0 15 rfl
theorem dX2_isLike_28 : decode cX2_isLike 28 = .ok (.aload_n 1, 1) := dget dkX2_isLike_0 16 rfl
theorem dX2_isLike_29 : decode cX2_isLike 29 = .ok (.iload_n 2, 1) := dget dkX2_isLike_0 17 rfl
theorem dX2_isLike_30 : decode cX2_isLike 30 = .ok (.invokevirtual 26, 3) := dget dkX2_isLike_0 18 rfl
theorem dX2_isLike_33 : decode cX2_isLike 33 = .ok (.if_icmp .ne 16, 3) := dget dkX2_isLike_0 19 rfl
theorem dX2_isLike_36 : decode cX2_isLike 36 = .ok (.aload_n 0, 1) := dget dkX2_isLike_0 20 rfl
theorem dX2_isLike_37 : decode cX2_isLike 37 = .ok (.iload_n 2, 1) := dget dkX2_isLike_0 21 rfl
theorem dX2_isLike_38 : decode cX2_isLike 38 = .ok (.invokevirtual 22, 3) := dget dkX2_isLike_0 22 rfl
theorem dX2_isLike_41 : decode cX2_isLike 41 = .ok (.aload_n 1, 1) := dget dkX2_isLike_0 23 rfl
theorem dX2_isLike_42 : decode cX2_isLike 42 = .ok (.iload_n 2, 1) := dget dkX2_isLike_0 24 rfl
theorem dX2_isLike_43 : decode cX2_isLike 43 = .ok (.invokevirtual 22, 3) := dget dkX2_isLike_0 25 rfl
theorem dX2_isLike_46 : decode cX2_isLike 46 = .ok (.if_icmp .eq 5, 3) := dget dkX2_isLike_0 26 rfl
theorem dX2_isLike_49 : decode cX2_isLike 49 = .ok (.iconst 0, 1) := dget dkX2_isLike_0 27 rfl
theorem dX2_isLike_50 : decode cX2_isLike 50 = .ok (.ireturn, 1) := dget dkX2_isLike_0 28 rfl
theorem dX2_isLike_51 : decode cX2_isLike 51 = .ok (.iinc 2 1, 3) := dget dkX2_isLike_0 29 rfl
theorem dX2_isLike_54 : decode cX2_isLike 54 = .ok (.goto (-39), 3) := dget dkX2_isLike_0 30 rfl
theorem dX2_isLike_57 : decode cX2_isLike 57 = .ok (.iconst 1, 1) := dget dkX2_isLike_0 31 rfl
theorem dX2_isLike_58 : decode cX2_isLike 58 = .ok (.ireturn, 1) := dget dkX2_isLike_0 32 rfl
theorem ggX2_isInSequenceBy_X2_valueOn : GoodIn wsX2_isInSequenceBy wsX2_valueOn := tgCall 89 e_X2_valueOn (by decide +kernel)
theorem gX2_isInSequenceBy_X2_valueOn : GoodIn wsX2_isInSequenceBy (wsV RX2 22 RX2 yX2_valueOn wsX2_valueOn) := goodIn_app (tgIn [98, 87, 88, 9] (by decide +kernel) rfl) ggX2_isInSequenceBy_X2_valueOn
theorem ggX2_isInSequenceBy_X1_compared : GoodIn wsX2_isInSequenceBy wsX1_compared := tgCall 93 e_X1_compared (by decide +kernel)
theorem gX2_isInSequenceBy_X1_compared : GoodIn wsX2_isInSequenceBy (wsV RX2 44 RX1 yX1_compared wsX1_compared) := goodIn_app (tgIn [127, 91, 92, 14] (by decide +kernel) rfl) ggX2_isInSequenceBy_X1_compared
theorem dkX2_isInSequenceBy_0 : ([(0, (.iconst 1, 1)), (1, (.istore_n 2, 1)), (2, (.iload_n 2, 1)), (3, (.aload_n 0, 1)), (4, (.getfield 18, 3)), (7, (.if_icmp .ge 30, 3)), (10, (.aload_n 1, 1)), (11, (.aload_n 0, 1)), (12, (.iload_n 2, 1)), (13, (.invokevirtual 22, 3)), (16, (.aload_n 0, 1)), (17, (.iload_n 2, 1)), (18, (.iconst 1, 1)), (19, (.isub, 1)), (20, (.invokevirtual 22, 3)), (23, (.invokevirtual 44, 3)), (26, (.ifCond .ge 5, 3)), (29, (.iconst 0, 1)), (30, (.ireturn, 1)), (31, (.iinc 2 1, 3)), (34, (.goto (-32), 3)), (37, (.iconst 1, 1)), (38, (.ireturn, 1))] : List (Nat × (Jvm.ClassFile.Instr × Nat))).all (dcB cX2_isInSequenceBy) = true := by decide +kernel
theorem dX2_isInSequenceBy_0 : decode cX2_isInSequenceBy 0 = .ok (.iconst 1, 1) := dget dkX2_isInSequenceBy_0 0 rfl
theorem dX2_isInSequenceBy_1 : decode cX2_isInSequenceBy 1 = .ok (.istore_n 2, 1) := dget dkX2_isInSequenceBy_0 1 rfl
theorem dX2_isInSequenceBy_2 : decode cX2_isInSequenceBy 2 = .ok (.iload_n 2, 1) := dget dkX2_isInSequenceBy_0 2 rfl
theorem dX2_isInSequenceBy_3 : decode cX2_isInSequenceBy 3 = .ok (.aload_n 0, 1) := dget dkX2_isInSequenceBy_0 3 rfl
theorem dX2_isInSequenceBy_4 : decode cX2_isInSequenceBy 4 = .ok (.getfield 18, 3) := dget dkX2_isInSequenceBy_0 4 rfl
theorem dX2_isInSequenceBy_7 : decode cX2_isInSequenceBy 7 = .ok (.if_icmp .ge 30, 3) := dget dkX2_isInSequenceBy_0 5 rfl
theorem dX2_isInSequenceBy_10 : decode cX2_isInSequenceBy 10 = .ok (.aload_n 1, 1) := dget dkX2_isInSequenceBy_0 6 rfl
theorem dX2_isInSequenceBy_11 : decode cX2_isInSequenceBy 11 = .ok (.aload_n 0, 1) := dget dkX2_isInSequenceBy_0 7 rfl
theorem dX2_isInSequenceBy_12 : decode cX2_isInSequenceBy 12 = .ok (.iload_n 2, 1) := dget dkX2_isInSequenceBy_0 8 rfl
theorem dX2_isInSequenceBy_13 : decode cX2_isInSequenceBy 13 = .ok (.invokevirtual 22, 3) := dget dkX2_isInSequenceBy_0 9 rfl
theorem dX2_isInSequenceBy_16 : decode cX2_isInSequenceBy 16 = .ok (.aload_n 0, 1) := dget dkX2_isInSequenceBy_0 10 rfl
theorem dX2_isInSequenceBy_17 : decode cX2_isInSequenceBy 17 = .ok (.iload_n 2, 1) := dget dkX2_isInSequenceBy_0 11 rfl
theorem dX2_isInSequenceBy_18 : decode cX2_isInSequenceBy 18 = .ok (.iconst 1, 1) := dget dkX2_isInSequenceBy_0 12 rfl
theorem dX2_isInSequenceBy_19 : decode cX2_isInSequenceBy 19 = .ok (.isub, 1) := dget dkX2_isInSequenceBy_0 13 rfl
theorem dX2_isInSequenceBy_20 : decode cX2_isInSequenceBy 20 = .ok (.invokevirtual 22, 3) := dget dkX2_isInSequenceBy_0 14 rfl
theorem dX2_isInSequenceBy_23 : decode cX2_isInSequenceBy 23 = .ok (.invokevirtual 44, 3) := dget dkX2_isInSequenceBy_0 15 rfl
theorem dX2_isInSequenceBy_26 : decode cX2_isInSequenceBy 26 = .ok (.ifCond .ge 5, 3) := dget dkX2_isInSequenceBy_0 16 rfl
theorem dX2_isInSequenceBy_29 : decode cX2_isInSequenceBy 29 = .ok (.iconst 0, 1) := dget dkX2_isInSequenceBy_0 17 rfl
theorem dX2_isInSequenceBy_30 : decode cX2_isInSequenceBy 30 = .ok (.ireturn, 1) := dget dkX2_isInSequenceBy_0 18 rfl
theorem dX2_isInSequenceBy_31 : decode cX2_isInSequenceBy 31 = .ok (.iinc 2 1, 3) := dget dkX2_isInSequenceBy_0 19 rfl
theorem dX2_isInSequenceBy_34 : decode cX2_isInSequenceBy 34 = .ok (.goto (-32), 3) := dget dkX2_isInSequenceBy_0 20 rfl
theorem dX2_isInSequenceBy_37 : decode cX2_isInSequenceBy 37 = .ok (.iconst 1, 1) := dget dkX2_isInSequenceBy_0 21 rfl
theorem dX2_isInSequenceBy_38 : decode cX2_isInSequenceBy 38 = .ok (.ireturn, 1) := dget dkX2_isInSequenceBy_0 22 rfl
theorem ggX2_hasAlike_X2_valueOn : GoodIn wsX2_hasAlike wsX2_valueOn := tgCall 89 e_X2_valueOn (by decide +kernel)
theorem gX2_hasAlike_X2_valueOn : GoodIn wsX2_hasAlike (wsV RX2 22 RX2 yX2_valueOn wsX2_valueOn) := goodIn_app (tgIn [98, 87, 88, 9] (by decide +kernel) rfl) ggX2_hasAlike_X2_valueOn
theorem ggX2_hasAlike_X1_compared : GoodIn wsX2_hasAlike wsX1_compared := tgCall 93 e_X1_compared (by decide +kernel)
theorem gX2_hasAlike_X1_compared : GoodIn wsX2_hasAlike (wsV RX2 44 RX1 yX1_compared wsX1_compared) := goodIn_app (tgIn [127, 91, 92, 14] (by decide +kernel) rfl) ggX2_hasAlike_X1_compared
theorem dkX2_hasAlike_0 : ([(0, (.iconst 0, 1)), (1, (.istore_n 3, 1)), (2, (.iload_n 3, 1)), (3, (.aload_n 0, 1)), (4, (.getfield 18, 3)), (7, (.if_icmp .ge 24, 3)), (10, (.aload_n 1, 1)), (11, (.aload_n 0, 1)), (12, (.iload_n 3, 1)), (13, (.invokevirtual 22, 3)), (16, (.iload_n 2, 1)), (17, (.invokevirtual 44, 3)), (20, (.ifCond .ne 5, 3)), (23, (.iconst 1, 1)), (24, (.ireturn, 1)), (25, (.iinc 3 1, 3)), (28, (.goto (-26), 3)), (31, (.iconst 0, 1)), (32, (.ireturn, 1))] : List (Nat × (Jvm.ClassFile.Instr × Nat))).all (dcB cX2_hasAlike) = true := by decide +kernel
theorem dX2_hasAlike_0 : decode cX2_hasAlike 0 = .ok (.iconst 0, 1) := dget dkX2_hasAlike_0 0 rfl
theorem dX2_hasAlike_1 : decode cX2_hasAlike 1 = .ok (.istore_n 3, 1) := dget dkX2_hasAlike_0 1 rfl
theorem dX2_hasAlike_2 : decode cX2_hasAlike 2 = .ok (.iload_n 3, 1) := dget dkX2_hasAlike_0 2 rfl
theorem dX2_hasAlike_3 : decode cX2_hasAlike 3 = .ok (.aload_n 0, 1) := dget dkX2_hasAlike_0 3 rfl
theorem dX2_hasAlike_4 : decode cX2_hasAlike 4 = .ok (.getfield 18, 3) := dget dkX2_hasAlike_0 4 rfl
theorem dX2_hasAlike_7 : decode cX2_hasAlike 7 = .ok (.if_icmp .ge 24, 3) := dget dkX2_hasAlike_0 5 rfl
theorem dX2_hasAlike_10 : decode cX2_hasAlike 10 = .ok (.aload_n 1, 1) := dget dkX2_hasAlike_0 6 rfl
theorem dX2_hasAlike_11 : decode cX2_hasAlike 11 = .ok (.aload_n 0, 1) := dget dkX2_hasAlike_0 7 rfl
theorem dX2_hasAlike_12 : decode cX2_hasAlike 12 = .ok (.iload_n 3, 1) := dget dkX2_hasAlike_0 8 rfl
theorem dX2_hasAlike_13 : decode cX2_hasAlike 13 = .ok (.invokevirtual 22, 3) := dget dkX2_hasAlike_0 9 rfl
theorem dX2_hasAlike_16 : decode cX2_hasAlike 16 = .ok (.iload_n 2, 1) := dget dkX2_hasAlike_0 10 rfl
theorem dX2_hasAlike_17 : decode cX2_hasAlike 17 = .ok (.invokevirtual 44, 3) := dget dkX2_hasAlike_0 11 rfl
theorem dX2_hasAlike_20 : decode cX2_hasAlike 20 = .ok (.ifCond .ne 5, 3) := dget dkX2_hasAlike_0 12 rfl
theorem dX2_hasAlike_23 : decode cX2_hasAlike 23 = .ok (.iconst 1, 1) := dget dkX2_hasAlike_0 13 rfl
theorem dX2_hasAlike_24 : decode cX2_hasAlike 24 = .ok (.ireturn, 1) := dget dkX2_hasAlike_0 14 rfl
theorem dX2_hasAlike_25 : decode cX2_hasAlike 25 = .ok (.iinc 3 1, 3) := dget dkX2_hasAlike_0 15 rfl
theorem dX2_hasAlike_28 : decode cX2_hasAlike 28 = .ok (.goto (-26), 3) := dget dkX2_hasAlike_0 16 rfl
theorem dX2_hasAlike_31 : decode cX2_hasAlike 31 = .ok (.iconst 0, 1) := dget dkX2_hasAlike_0 17 rfl
theorem dX2_hasAlike_32 : decode cX2_hasAlike 32 = .ok (.ireturn, 1) := dget dkX2_hasAlike_0 18 rfl
theorem ggX2_thingsAhead_X2_valueOn : GoodIn wsX2_thingsAhead wsX2_valueOn := tgCall 89 e_X2_valueOn (by decide +kernel)
theorem gX2_thingsAhead_X2_valueOn : GoodIn wsX2_thingsAhead (wsV RX2 22 RX2 yX2_valueOn wsX2_valueOn) := goodIn_app (tgIn [98, 87, 88, 9] (by decide +kernel) rfl) ggX2_thingsAhead_X2_valueOn
theorem ggX2_thingsAhead_X1_compared : GoodIn wsX2_thingsAhead wsX1_compared := tgCall 93 e_X1_compared (by decide +kernel)
theorem gX2_thingsAhead_X1_compared : GoodIn wsX2_thingsAhead (wsV RX2 44 RX1 yX1_compared wsX1_compared) := goodIn_app (tgIn [127, 91, 92, 14] (by decide +kernel) rfl) ggX2_thingsAhead_X1_compared
theorem dkX2_thingsAhead_0 : ([(0, (.iconst 0, 1)), (1, (.istore_n 3, 1)), (2, (.iconst 0, 1)), (3, (.istore 4, 2)), (5, (.iload 4, 2)), (7, (.aload_n 0, 1)), (8, (.getfield 18, 3)), (11, (.if_icmp .ge 26, 3)), (14, (.aload_n 1, 1)), (15, (.aload_n 0, 1)), (16, (.iload 4, 2)), (18, (.invokevirtual 22, 3)), (21, (.iload_n 2, 1)), (22, (.invokevirtual 44, 3)), (25, (.ifCond .ge 6, 3)), (28, (.iinc 3 1, 3)), (31, (.iinc 4 1, 3)), (34, (.goto (-29), 3)), (37, (.iload_n 3, 1)), (38, (.ireturn, 1))] : List (Nat × (Jvm.ClassFile.Instr × Nat))).all (dcB cX2_thingsAhead) = true := by decide +kernel
theorem dX2_thingsAhead_0 : decode cX2_thingsAhead 0 = .ok (.iconst 0, 1) := dget dkX2_thingsAhead_0 0 rfl
theorem dX2_thingsAhead_1 : decode cX2_thingsAhead 1 = .ok (.istore_n 3, 1) := dget dkX2_thingsAhead_0 1 rfl
theorem dX2_thingsAhead_2 : decode cX2_thingsAhead 2 = .ok (.iconst 0, 1) := dget dkX2_thingsAhead_0 2 rfl
theorem dX2_thingsAhead_3 : decode cX2_thingsAhead 3 = .ok (.istore 4, 2) := dget dkX2_thingsAhead_0 3 rfl
theorem dX2_thingsAhead_5 : decode cX2_thingsAhead 5 = .ok (.iload 4, 2) := dget dkX2_thingsAhead_0 4 rfl
theorem dX2_thingsAhead_7 : decode cX2_thingsAhead 7 = .ok (.aload_n 0, 1) := dget dkX2_thingsAhead_0 5 rfl
theorem dX2_thingsAhead_8 : decode cX2_thingsAhead 8 = .ok (.getfield 18, 3) := dget dkX2_thingsAhead_0 6 rfl
theorem dX2_thingsAhead_11 : decode cX2_thingsAhead 11 = .ok (.if_icmp .ge 26, 3) := dget dkX2_thingsAhead_0 7 rfl
theorem dX2_thingsAhead_14 : decode cX2_thingsAhead 14 = .ok (.aload_n 1, 1) := dget dkX2_thingsAhead_0 8 rfl
theorem dX2_thingsAhead_15 : decode cX2_thingsAhead 15 = .ok (.aload_n 0, 1) := dget dkX2_thingsAhead_0 9 rfl
theorem dX2_thingsAhead_16 : decode cX2_thingsAhead 16 = .ok (.iload 4, 2) := dget dkX2_thingsAhead_0 10 rfl
theorem dX2_thingsAhead_18 : decode cX2_thingsAhead 18 = .ok (.invokevirtual 22, 3) := dget dkX2_thingsAhead_0 11 rfl
theorem dX2_thingsAhead_21 : decode cX2_thingsAhead 21 = .ok (.iload_n 2, 1) := dget dkX2_thingsAhead_0 12 rfl
theorem dX2_thingsAhead_22 : decode cX2_thingsAhead 22 = .ok (.invokevirtual 44, 3) := dget dkX2_thingsAhead_0 13 rfl
theorem dX2_thingsAhead_25 : decode cX2_thingsAhead 25 = .ok (.ifCond .ge 6, 3) := dget dkX2_thingsAhead_0 14 rfl
theorem dX2_thingsAhead_28 : decode cX2_thingsAhead 28 = .ok (.iinc 3 1, 3) := dget dkX2_thingsAhead_0 15 rfl
theorem dX2_thingsAhead_31 : decode cX2_thingsAhead 31 = .ok (.iinc 4 1, 3) := dget dkX2_thingsAhead_0 16 rfl
theorem dX2_thingsAhead_34 : decode cX2_thingsAhead 34 = .ok (.goto (-29), 3) := dget dkX2_thingsAhead_0 17 rfl
theorem dX2_thingsAhead_37 : decode cX2_thingsAhead 37 = .ok (.iload_n 3, 1) := dget dkX2_thingsAhead_0 18 rfl
theorem dX2_thingsAhead_38 : decode cX2_thingsAhead 38 = .ok (.ireturn, 1) := dget dkX2_thingsAhead_0 19 rfl
theorem ggX2_firstPlaceBy_X2_valueOn : GoodIn wsX2_firstPlaceBy wsX2_valueOn := tgCall 89 e_X2_valueOn (by decide +kernel)
theorem gX2_firstPlaceBy_X2_valueOn : GoodIn wsX2_firstPlaceBy (wsV RX2 22 RX2 yX2_valueOn wsX2_valueOn) := goodIn_app (tgIn [98, 87, 88, 9] (by decide +kernel) rfl) ggX2_firstPlaceBy_X2_valueOn
theorem ggX2_firstPlaceBy_X1_compared : GoodIn wsX2_firstPlaceBy wsX1_compared := tgCall 93 e_X1_compared (by decide +kernel)
theorem gX2_firstPlaceBy_X1_compared : GoodIn wsX2_firstPlaceBy (wsV RX2 44 RX1 yX1_compared wsX1_compared) := goodIn_app (tgIn [127, 91, 92, 14] (by decide +kernel) rfl) ggX2_firstPlaceBy_X1_compared
theorem dkX2_firstPlaceBy_0 : ([(0, (.iconst (-1), 1)), (1, (.istore_n 2, 1)), (2, (.iconst 0, 1)), (3, (.istore_n 3, 1)), (4, (.iload_n 3, 1)), (5, (.aload_n 0, 1)), (6, (.getfield 18, 3)), (9, (.if_icmp .ge 33, 3)), (12, (.iload_n 2, 1)), (13, (.iconst (-1), 1)), (14, (.if_icmp .eq 20, 3)), (17, (.aload_n 1, 1)), (18, (.aload_n 0, 1)), (19, (.iload_n 3, 1)), (20, (.invokevirtual 22, 3)), (23, (.aload_n 0, 1)), (24, (.iload_n 2, 1)), (25, (.invokevirtual 22, 3)), (28, (.invokevirtual 44, 3)), (31, (.ifCond .ge 5, 3)), (34, (.iload_n 3, 1)), (35, (.istore_n 2, 1)), (36, (.iinc 3 1, 3)), (39, (.goto (-35), 3)), (42, (.iload_n 2, 1)), (43, (.ireturn, 1))] : List (Nat × (Jvm.ClassFile.Instr × Nat))).all (dcB cX2_firstPlaceBy) = true := by decide +kernel
theorem dX2_firstPlaceBy_0 : decode cX2_firstPlaceBy 0 = .ok (.iconst (-1), 1) := dget dkX2_firstPlaceBy_0 0 rfl
theorem dX2_firstPlaceBy_1 : decode cX2_firstPlaceBy 1 = .ok (.istore_n 2, 1) := dget dkX2_firstPlaceBy_0 1 rfl
theorem dX2_firstPlaceBy_2 : decode cX2_firstPlaceBy 2 = .ok (.iconst 0, 1) := dget dkX2_firstPlaceBy_0 2 rfl
theorem dX2_firstPlaceBy_3 : decode cX2_firstPlaceBy 3 = .ok (.istore_n 3, 1) := dget dkX2_firstPlaceBy_0 3 rfl
theorem dX2_firstPlaceBy_4 : decode cX2_firstPlaceBy 4 = .ok (.iload_n 3, 1) := dget dkX2_firstPlaceBy_0 4 rfl
theorem dX2_firstPlaceBy_5 : decode cX2_firstPlaceBy 5 = .ok (.aload_n 0, 1) := dget dkX2_firstPlaceBy_0 5 rfl
theorem dX2_firstPlaceBy_6 : decode cX2_firstPlaceBy 6 = .ok (.getfield 18, 3) := dget dkX2_firstPlaceBy_0 6 rfl
theorem dX2_firstPlaceBy_9 : decode cX2_firstPlaceBy 9 = .ok (.if_icmp .ge 33, 3) := dget dkX2_firstPlaceBy_0 7 rfl
theorem dX2_firstPlaceBy_12 : decode cX2_firstPlaceBy 12 = .ok (.iload_n 2, 1) := dget dkX2_firstPlaceBy_0 8 rfl
theorem dX2_firstPlaceBy_13 : decode cX2_firstPlaceBy 13 = .ok (.iconst (-1), 1) := dget dkX2_firstPlaceBy_0 9 rfl
theorem dX2_firstPlaceBy_14 : decode cX2_firstPlaceBy 14 = .ok (.if_icmp .eq 20, 3) := dget dkX2_firstPlaceBy_0 10 rfl
theorem dX2_firstPlaceBy_17 : decode cX2_firstPlaceBy 17 = .ok (.aload_n 1, 1) := dget dkX2_firstPlaceBy_0 11 rfl
theorem dX2_firstPlaceBy_18 : decode cX2_firstPlaceBy 18 = .ok (.aload_n 0, 1) := dget dkX2_firstPlaceBy_0 12 rfl
theorem dX2_firstPlaceBy_19 : decode cX2_firstPlaceBy 19 = .ok (.iload_n 3, 1) := dget dkX2_firstPlaceBy_0 13 rfl
theorem dX2_firstPlaceBy_20 : decode cX2_firstPlaceBy 20 = .ok (.invokevirtual 22, 3) := dget dkX2_firstPlaceBy_0 14 rfl
theorem dX2_firstPlaceBy_23 : decode cX2_firstPlaceBy 23 = .ok (.aload_n 0, 1) := dget dkX2_firstPlaceBy_0 15 rfl
theorem dX2_firstPlaceBy_24 : decode cX2_firstPlaceBy 24 = .ok (.iload_n 2, 1) := dget dkX2_firstPlaceBy_0 16 rfl
theorem dX2_firstPlaceBy_25 : decode cX2_firstPlaceBy 25 = .ok (.invokevirtual 22, 3) := dget dkX2_firstPlaceBy_0 17 rfl
theorem dX2_firstPlaceBy_28 : decode cX2_firstPlaceBy 28 = .ok (.invokevirtual 44, 3) := dget dkX2_firstPlaceBy_0 18 rfl
theorem dX2_firstPlaceBy_31 : decode cX2_firstPlaceBy 31 = .ok (.ifCond .ge 5, 3) := dget dkX2_firstPlaceBy_0 19 rfl
theorem dX2_firstPlaceBy_34 : decode cX2_firstPlaceBy 34 = .ok (.iload_n 3, 1) := dget dkX2_firstPlaceBy_0 20 rfl
theorem dX2_firstPlaceBy_35 : decode cX2_firstPlaceBy 35 = .ok (.istore_n 2, 1) := dget dkX2_firstPlaceBy_0 21 rfl
theorem dX2_firstPlaceBy_36 : decode cX2_firstPlaceBy 36 = .ok (.iinc 3 1, 3) := dget dkX2_firstPlaceBy_0 22 rfl
theorem dX2_firstPlaceBy_39 : decode cX2_firstPlaceBy 39 = .ok (.goto (-35), 3) := dget dkX2_firstPlaceBy_0 23 rfl
theorem dX2_firstPlaceBy_42 : decode cX2_firstPlaceBy 42 = .ok (.iload_n 2, 1) := dget dkX2_firstPlaceBy_0 24 rfl
theorem dX2_firstPlaceBy_43 : decode cX2_firstPlaceBy 43 = .ok (.ireturn, 1) := dget dkX2_firstPlaceBy_0 25 rfl
theorem ggX2_lastPlaceBy_X2_valueOn : GoodIn wsX2_lastPlaceBy wsX2_valueOn := tgCall 89 e_X2_valueOn (by decide +kernel)
theorem gX2_lastPlaceBy_X2_valueOn : GoodIn wsX2_lastPlaceBy (wsV RX2 22 RX2 yX2_valueOn wsX2_valueOn) := goodIn_app (tgIn [98, 87, 88, 9] (by decide +kernel) rfl) ggX2_lastPlaceBy_X2_valueOn
theorem ggX2_lastPlaceBy_X1_compared : GoodIn wsX2_lastPlaceBy wsX1_compared := tgCall 93 e_X1_compared (by decide +kernel)
theorem gX2_lastPlaceBy_X1_compared : GoodIn wsX2_lastPlaceBy (wsV RX2 44 RX1 yX1_compared wsX1_compared) := goodIn_app (tgIn [127, 91, 92, 14] (by decide +kernel) rfl) ggX2_lastPlaceBy_X1_compared
theorem dkX2_lastPlaceBy_0 : ([(0, (.iconst (-1), 1)), (1, (.istore_n 2, 1)), (2, (.iconst 0, 1)), (3, (.istore_n 3, 1)), (4, (.iload_n 3, 1)), (5, (.aload_n 0, 1)), (6, (.getfield 18, 3)), (9, (.if_icmp .ge 33, 3)), (12, (.iload_n 2, 1)), (13, (.iconst (-1), 1)), (14, (.if_icmp .eq 20, 3)), (17, (.aload_n 1, 1)), (18, (.aload_n 0, 1)), (19, (.iload_n 3, 1)), (20, (.invokevirtual 22, 3)), (23, (.aload_n 0, 1)), (24, (.iload_n 2, 1)), (25, (.invokevirtual 22, 3)), (28, (.invokevirtual 44, 3)), (31, (.ifCond .le 5, 3)), (34, (.iload_n 3, 1)), (35, (.istore_n 2, 1)), (36, (.iinc 3 1, 3)), (39, (.goto (-35), 3)), (42, (.iload_n 2, 1)), (43, (.ireturn, 1))] : List (Nat × (Jvm.ClassFile.Instr × Nat))).all (dcB cX2_lastPlaceBy) = true := by decide +kernel
theorem dX2_lastPlaceBy_0 : decode cX2_lastPlaceBy 0 = .ok (.iconst (-1), 1) := dget dkX2_lastPlaceBy_0 0 rfl
theorem dX2_lastPlaceBy_1 : decode cX2_lastPlaceBy 1 = .ok (.istore_n 2, 1) := dget dkX2_lastPlaceBy_0 1 rfl
theorem dX2_lastPlaceBy_2 : decode cX2_lastPlaceBy 2 = .ok (.iconst 0, 1) := dget dkX2_lastPlaceBy_0 2 rfl
theorem dX2_lastPlaceBy_3 : decode cX2_lastPlaceBy 3 = .ok (.istore_n 3, 1) := dget dkX2_lastPlaceBy_0 3 rfl
theorem dX2_lastPlaceBy_4 : decode cX2_lastPlaceBy 4 = .ok (.iload_n 3, 1) := dget dkX2_lastPlaceBy_0 4 rfl
theorem dX2_lastPlaceBy_5 : decode cX2_lastPlaceBy 5 = .ok (.aload_n 0, 1) := dget dkX2_lastPlaceBy_0 5 rfl
theorem dX2_lastPlaceBy_6 : decode cX2_lastPlaceBy 6 = .ok (.getfield 18, 3) := dget dkX2_lastPlaceBy_0 6 rfl
theorem dX2_lastPlaceBy_9 : decode cX2_lastPlaceBy 9 = .ok (.if_icmp .ge 33, 3) := dget dkX2_lastPlaceBy_0 7 rfl
theorem dX2_lastPlaceBy_12 : decode cX2_lastPlaceBy 12 = .ok (.iload_n 2, 1) := dget dkX2_lastPlaceBy_0 8 rfl
theorem dX2_lastPlaceBy_13 : decode cX2_lastPlaceBy 13 = .ok (.iconst (-1), 1) := dget dkX2_lastPlaceBy_0 9 rfl
theorem dX2_lastPlaceBy_14 : decode cX2_lastPlaceBy 14 = .ok (.if_icmp .eq 20, 3) := dget dkX2_lastPlaceBy_0 10 rfl
theorem dX2_lastPlaceBy_17 : decode cX2_lastPlaceBy 17 = .ok (.aload_n 1, 1) := dget dkX2_lastPlaceBy_0 11 rfl
theorem dX2_lastPlaceBy_18 : decode cX2_lastPlaceBy 18 = .ok (.aload_n 0, 1) := dget dkX2_lastPlaceBy_0 12 rfl
theorem dX2_lastPlaceBy_19 : decode cX2_lastPlaceBy 19 = .ok (.iload_n 3, 1) := dget dkX2_lastPlaceBy_0 13 rfl
theorem dX2_lastPlaceBy_20 : decode cX2_lastPlaceBy 20 = .ok (.invokevirtual 22, 3) := dget dkX2_lastPlaceBy_0 14 rfl
theorem dX2_lastPlaceBy_23 : decode cX2_lastPlaceBy 23 = .ok (.aload_n 0, 1) := dget dkX2_lastPlaceBy_0 15 rfl
theorem dX2_lastPlaceBy_24 : decode cX2_lastPlaceBy 24 = .ok (.iload_n 2, 1) := dget dkX2_lastPlaceBy_0 16 rfl
theorem dX2_lastPlaceBy_25 : decode cX2_lastPlaceBy 25 = .ok (.invokevirtual 22, 3) := dget dkX2_lastPlaceBy_0 17 rfl
theorem dX2_lastPlaceBy_28 : decode cX2_lastPlaceBy 28 = .ok (.invokevirtual 44, 3) := dget dkX2_lastPlaceBy_0 18 rfl
theorem dX2_lastPlaceBy_31 : decode cX2_lastPlaceBy 31 = .ok (.ifCond .le 5, 3) := dget dkX2_lastPlaceBy_0 19 rfl
theorem dX2_lastPlaceBy_34 : decode cX2_lastPlaceBy 34 = .ok (.iload_n 3, 1) := dget dkX2_lastPlaceBy_0 20 rfl
theorem dX2_lastPlaceBy_35 : decode cX2_lastPlaceBy 35 = .ok (.istore_n 2, 1) := dget dkX2_lastPlaceBy_0 21 rfl
theorem dX2_lastPlaceBy_36 : decode cX2_lastPlaceBy 36 = .ok (.iinc 3 1, 3) := dget dkX2_lastPlaceBy_0 22 rfl
theorem dX2_lastPlaceBy_39 : decode cX2_lastPlaceBy 39 = .ok (.goto (-35), 3) := dget dkX2_lastPlaceBy_0 23 rfl
theorem dX2_lastPlaceBy_42 : decode cX2_lastPlaceBy 42 = .ok (.iload_n 2, 1) := dget dkX2_lastPlaceBy_0 24 rfl
theorem dX2_lastPlaceBy_43 : decode cX2_lastPlaceBy 43 = .ok (.ireturn, 1) := dget dkX2_lastPlaceBy_0 25 rfl
theorem ggX2_nearestPlace_X2_valueOn : GoodIn wsX2_nearestPlace wsX2_valueOn := tgCall 89 e_X2_valueOn (by decide +kernel)
theorem gX2_nearestPlace_X2_valueOn : GoodIn wsX2_nearestPlace (wsV RX2 22 RX2 yX2_valueOn wsX2_valueOn) := goodIn_app (tgIn [98, 87, 88, 9] (by decide +kernel) rfl) ggX2_nearestPlace_X2_valueOn
theorem ggX2_nearestPlace_X1_compared : GoodIn wsX2_nearestPlace wsX1_compared := tgCall 93 e_X1_compared (by decide +kernel)
theorem gX2_nearestPlace_X1_compared : GoodIn wsX2_nearestPlace (wsV RX2 44 RX1 yX1_compared wsX1_compared) := goodIn_app (tgIn [127, 91, 92, 14] (by decide +kernel) rfl) ggX2_nearestPlace_X1_compared
theorem ggX2_nearestPlace_X2_isOnSide : GoodIn wsX2_nearestPlace wsX2_isOnSide := tgCall 543 e_X2_isOnSide (by decide +kernel)
theorem gX2_nearestPlace_X2_isOnSide : GoodIn wsX2_nearestPlace (va_wsS RX2 50 yX2_isOnSide wsX2_isOnSide) := goodIn_app (tgIn [541, 542, 9] (by decide +kernel) rfl) ggX2_nearestPlace_X2_isOnSide
theorem ggX2_nearestPlace_X2_isNearer : GoodIn wsX2_nearestPlace wsX2_isNearer := tgCall 547 e_X2_isNearer (by decide +kernel)
theorem gX2_nearestPlace_X2_isNearer : GoodIn wsX2_nearestPlace (wsV RX2 54 RX2 yX2_isNearer wsX2_isNearer) := goodIn_app (tgIn [544, 545, 546, 9] (by decide +kernel) rfl) ggX2_nearestPlace_X2_isNearer
theorem dkX2_nearestPlace_0 : ([(0, (.iconst (-1), 1)), (1, (.istore 4, 2)), (3, (.iconst 0, 1)), (4, (.istore 5, 2)), (6, (.iload 5, 2)), (8, (.aload_n 0, 1)), (9, (.getfield 18, 3)), (12, (.if_icmp .ge 50, 3)), (15, (.aload_n 1, 1)), (16, (.aload_n 0, 1)), (17, (.iload 5, 2)), (19, (.invokevirtual 22, 3)), (22, (.iload_n 2, 1)), (23, (.invokevirtual 44, 3)), (26, (.iload_n 3, 1)), (27, (.invokestatic 50, 3)), (30, (.ifCond .eq 26, 3)), (33, (.iload 4, 2)), (35, (.iconst (-1), 1)), (36, (.if_icmp .eq 16, 3)), (39, (.aload_n 0, 1)), (40, (.aload_n 1, 1)), (41, (.iload 5, 2)), (43, (.iload 4, 2)), (45, (.iload_n 3, 1)), (46, (.invokevirtual 54, 3)), (49, (.ifCond .eq 7, 3)), (52, (.iload 5, 2)), (54, (.istore 4, 2)), (56, (.iinc 5 1, 3)), (59, (.goto (-53), 3)), (62, (.iload 4, 2)), (64, (.ireturn, 1))] : List (Nat × (Jvm.ClassFile.Instr × Nat))).all (dcB cX2_nearestPlace) = true := by decide +kernel
theorem dX2_nearestPlace_0 : decode cX2_nearestPlace 0 = .ok (.iconst (-1), 1) := dget dkX2_nearestPlace_0 0 rfl
theorem dX2_nearestPlace_1 : decode cX2_nearestPlace 1 = .ok (.istore 4, 2) := dget dkX2_nearestPlace_0 1 rfl
theorem dX2_nearestPlace_3 : decode cX2_nearestPlace 3 = .ok (.iconst 0, 1) := dget dkX2_nearestPlace_0 2 rfl
theorem dX2_nearestPlace_4 : decode cX2_nearestPlace 4 = .ok (.istore 5, 2) := dget dkX2_nearestPlace_0 3 rfl
theorem dX2_nearestPlace_6 : decode cX2_nearestPlace 6 = .ok (.iload 5, 2) := dget dkX2_nearestPlace_0 4 rfl
theorem dX2_nearestPlace_8 : decode cX2_nearestPlace 8 = .ok (.aload_n 0, 1) := dget dkX2_nearestPlace_0 5 rfl
theorem dX2_nearestPlace_9 : decode cX2_nearestPlace 9 = .ok (.getfield 18, 3) := dget dkX2_nearestPlace_0 6 rfl
theorem dX2_nearestPlace_12 : decode cX2_nearestPlace 12 = .ok (.if_icmp .ge 50, 3) := dget dkX2_nearestPlace_0 7 rfl
theorem dX2_nearestPlace_15 : decode cX2_nearestPlace 15 = .ok (.aload_n 1, 1) := dget dkX2_nearestPlace_0 8 rfl
theorem dX2_nearestPlace_16 : decode cX2_nearestPlace 16 = .ok (.aload_n 0, 1) := dget dkX2_nearestPlace_0 9 rfl
theorem dX2_nearestPlace_17 : decode cX2_nearestPlace 17 = .ok (.iload 5, 2) := dget dkX2_nearestPlace_0 10 rfl
theorem dX2_nearestPlace_19 : decode cX2_nearestPlace 19 = .ok (.invokevirtual 22, 3) := dget dkX2_nearestPlace_0 11 rfl
theorem dX2_nearestPlace_22 : decode cX2_nearestPlace 22 = .ok (.iload_n 2, 1) := dget dkX2_nearestPlace_0 12 rfl
theorem dX2_nearestPlace_23 : decode cX2_nearestPlace 23 = .ok (.invokevirtual 44, 3) := dget dkX2_nearestPlace_0 13 rfl
theorem dX2_nearestPlace_26 : decode cX2_nearestPlace 26 = .ok (.iload_n 3, 1) := dget dkX2_nearestPlace_0 14 rfl
theorem dX2_nearestPlace_27 : decode cX2_nearestPlace 27 = .ok (.invokestatic 50, 3) := dget dkX2_nearestPlace_0 15 rfl
theorem dX2_nearestPlace_30 : decode cX2_nearestPlace 30 = .ok (.ifCond .eq 26, 3) := dget dkX2_nearestPlace_0 16 rfl
theorem dX2_nearestPlace_33 : decode cX2_nearestPlace 33 = .ok (.iload 4, 2) := dget dkX2_nearestPlace_0 17 rfl
theorem dX2_nearestPlace_35 : decode cX2_nearestPlace 35 = .ok (.iconst (-1), 1) := dget dkX2_nearestPlace_0 18 rfl
theorem dX2_nearestPlace_36 : decode cX2_nearestPlace 36 = .ok (.if_icmp .eq 16, 3) := dget dkX2_nearestPlace_0 19 rfl
theorem dX2_nearestPlace_39 : decode cX2_nearestPlace 39 = .ok (.aload_n 0, 1) := dget dkX2_nearestPlace_0 20 rfl
theorem dX2_nearestPlace_40 : decode cX2_nearestPlace 40 = .ok (.aload_n 1, 1) := dget dkX2_nearestPlace_0 21 rfl
theorem dX2_nearestPlace_41 : decode cX2_nearestPlace 41 = .ok (.iload 5, 2) := dget dkX2_nearestPlace_0 22 rfl
theorem dX2_nearestPlace_43 : decode cX2_nearestPlace 43 = .ok (.iload 4, 2) := dget dkX2_nearestPlace_0 23 rfl
theorem dX2_nearestPlace_45 : decode cX2_nearestPlace 45 = .ok (.iload_n 3, 1) := dget dkX2_nearestPlace_0 24 rfl
theorem dX2_nearestPlace_46 : decode cX2_nearestPlace 46 = .ok (.invokevirtual 54, 3) := dget dkX2_nearestPlace_0 25 rfl
theorem dX2_nearestPlace_49 : decode cX2_nearestPlace 49 = .ok (.ifCond .eq 7, 3) := dget dkX2_nearestPlace_0 26 rfl
theorem dX2_nearestPlace_52 : decode cX2_nearestPlace 52 = .ok (.iload 5, 2) := dget dkX2_nearestPlace_0 27 rfl
theorem dX2_nearestPlace_54 : decode cX2_nearestPlace 54 = .ok (.istore 4, 2) := dget dkX2_nearestPlace_0 28 rfl
theorem dX2_nearestPlace_56 : decode cX2_nearestPlace 56 = .ok (.iinc 5 1, 3) := dget dkX2_nearestPlace_0 29 rfl
theorem dX2_nearestPlace_59 : decode cX2_nearestPlace 59 = .ok (.goto (-53), 3) := dget dkX2_nearestPlace_0 30 rfl
theorem dX2_nearestPlace_62 : decode cX2_nearestPlace 62 = .ok (.iload 4, 2) := dget dkX2_nearestPlace_0 31 rfl
theorem dX2_nearestPlace_64 : decode cX2_nearestPlace 64 = .ok (.ireturn, 1) := dget dkX2_nearestPlace_0 32 rfl
theorem ggX2_lots_X2_isFirstOfLot : GoodIn wsX2_lots wsX2_isFirstOfLot := tgCall 555 e_X2_isFirstOfLot (by decide +kernel)
theorem gX2_lots_X2_isFirstOfLot : GoodIn wsX2_lots (wsV RX2 58 RX2 yX2_isFirstOfLot wsX2_isFirstOfLot) := goodIn_app (tgIn [552, 553, 554, 9] (by decide +kernel) rfl) ggX2_lots_X2_isFirstOfLot
theorem dkX2_lots_0 : ([(0, (.iconst 0, 1)), (1, (.istore_n 2, 1)), (2, (.iconst 0, 1)), (3, (.istore_n 3, 1)), (4, (.iload_n 3, 1)), (5, (.aload_n 0, 1)), (6, (.getfield 18, 3)), (9, (.if_icmp .ge 21, 3)), (12, (.aload_n 0, 1)), (13, (.aload_n 1, 1)), (14, (.iload_n 3, 1)), (15, (.invokevirtual 58, 3)), (18, (.ifCond .eq 6, 3)), (21, (.iinc 2 1, 3)), (24, (.iinc 3 1, 3)), (27, (.goto (-23), 3)), (30, (.iload_n 2, 1)), (31, (.ireturn, 1))] : List (Nat × (Jvm.ClassFile.Instr × Nat))).all (dcB cX2_lots) = true := by decide +kernel
theorem dX2_lots_0 : decode cX2_lots 0 = .ok (.iconst 0, 1) := dget dkX2_lots_0 0 rfl
theorem dX2_lots_1 : decode cX2_lots 1 = .ok (.istore_n 2, 1) := dget dkX2_lots_0 1 rfl
theorem dX2_lots_2 : decode cX2_lots 2 = .ok (.iconst 0, 1) := dget dkX2_lots_0 2 rfl
theorem dX2_lots_3 : decode cX2_lots 3 = .ok (.istore_n 3, 1) := dget dkX2_lots_0 3 rfl
theorem dX2_lots_4 : decode cX2_lots 4 = .ok (.iload_n 3, 1) := dget dkX2_lots_0 4 rfl
theorem dX2_lots_5 : decode cX2_lots 5 = .ok (.aload_n 0, 1) := dget dkX2_lots_0 5 rfl
theorem dX2_lots_6 : decode cX2_lots 6 = .ok (.getfield 18, 3) := dget dkX2_lots_0 6 rfl
theorem dX2_lots_9 : decode cX2_lots 9 = .ok (.if_icmp .ge 21, 3) := dget dkX2_lots_0 7 rfl
theorem dX2_lots_12 : decode cX2_lots 12 = .ok (.aload_n 0, 1) := dget dkX2_lots_0 8 rfl
theorem dX2_lots_13 : decode cX2_lots 13 = .ok (.aload_n 1, 1) := dget dkX2_lots_0 9 rfl
theorem dX2_lots_14 : decode cX2_lots 14 = .ok (.iload_n 3, 1) := dget dkX2_lots_0 10 rfl
theorem dX2_lots_15 : decode cX2_lots 15 = .ok (.invokevirtual 58, 3) := dget dkX2_lots_0 11 rfl
theorem dX2_lots_18 : decode cX2_lots 18 = .ok (.ifCond .eq 6, 3) := dget dkX2_lots_0 12 rfl
theorem dX2_lots_21 : decode cX2_lots 21 = .ok (.iinc 2 1, 3) := dget dkX2_lots_0 13 rfl
theorem dX2_lots_24 : decode cX2_lots 24 = .ok (.iinc 3 1, 3) := dget dkX2_lots_0 14 rfl
theorem dX2_lots_27 : decode cX2_lots 27 = .ok (.goto (-23), 3) := dget dkX2_lots_0 15 rfl
theorem dX2_lots_30 : decode cX2_lots 30 = .ok (.iload_n 2, 1) := dget dkX2_lots_0 16 rfl
theorem dX2_lots_31 : decode cX2_lots 31 = .ok (.ireturn, 1) := dget dkX2_lots_0 17 rfl
theorem ggX2_lotsAhead_X2_valueOn : GoodIn wsX2_lotsAhead wsX2_valueOn := tgCall 89 e_X2_valueOn (by decide +kernel)
theorem gX2_lotsAhead_X2_valueOn : GoodIn wsX2_lotsAhead (wsV RX2 22 RX2 yX2_valueOn wsX2_valueOn) := goodIn_app (tgIn [98, 87, 88, 9] (by decide +kernel) rfl) ggX2_lotsAhead_X2_valueOn
theorem ggX2_lotsAhead_X1_compared : GoodIn wsX2_lotsAhead wsX1_compared := tgCall 93 e_X1_compared (by decide +kernel)
theorem gX2_lotsAhead_X1_compared : GoodIn wsX2_lotsAhead (wsV RX2 44 RX1 yX1_compared wsX1_compared) := goodIn_app (tgIn [127, 91, 92, 14] (by decide +kernel) rfl) ggX2_lotsAhead_X1_compared
theorem ggX2_lotsAhead_X2_isFirstOfLot : GoodIn wsX2_lotsAhead wsX2_isFirstOfLot := tgCall 555 e_X2_isFirstOfLot (by decide +kernel)
theorem gX2_lotsAhead_X2_isFirstOfLot : GoodIn wsX2_lotsAhead (wsV RX2 58 RX2 yX2_isFirstOfLot wsX2_isFirstOfLot) := goodIn_app (tgIn [552, 553, 554, 9] (by decide +kernel) rfl) ggX2_lotsAhead_X2_isFirstOfLot
theorem dkX2_lotsAhead_0 : ([(0, (.iconst 0, 1)), (1, (.istore_n 3, 1)), (2, (.iconst 0, 1)), (3, (.istore 4, 2)), (5, (.iload 4, 2)), (7, (.aload_n 0, 1)), (8, (.getfield 18, 3)), (11, (.if_icmp .ge 36, 3)), (14, (.aload_n 1, 1)), (15, (.aload_n 0, 1)), (16, (.iload 4, 2)), (18, (.invokevirtual 22, 3)), (21, (.iload_n 2, 1)), (22, (.invokevirtual 44, 3)), (25, (.ifCond .ge 16, 3)), (28, (.aload_n 0, 1)), (29, (.aload_n 1, 1)), (30, (.iload 4, 2)), (32, (.invokevirtual 58, 3)), (35, (.ifCond .eq 6, 3)), (38, (.iinc 3 1, 3)), (41, (.iinc 4 1, 3)), (44, (.goto (-39), 3)), (47, (.iload_n 3, 1)), (48, (.ireturn, 1))] : List (Nat × (Jvm.ClassFile.Instr × Nat))).all (dcB cX2_lotsAhead) = true := by decide +kernel
theorem dX2_lotsAhead_0 : decode cX2_lotsAhead 0 = .ok (.iconst 0, 1) := dget dkX2_lotsAhead_0 0 rfl
theorem dX2_lotsAhead_1 : decode cX2_lotsAhead 1 = .ok (.istore_n 3, 1) := dget dkX2_lotsAhead_0 1 rfl
theorem dX2_lotsAhead_2 : decode cX2_lotsAhead 2 = .ok (.iconst 0, 1) := dget dkX2_lotsAhead_0 2 rfl
theorem dX2_lotsAhead_3 : decode cX2_lotsAhead 3 = .ok (.istore 4, 2) := dget dkX2_lotsAhead_0 3 rfl
theorem dX2_lotsAhead_5 : decode cX2_lotsAhead 5 = .ok (.iload 4, 2) := dget dkX2_lotsAhead_0 4 rfl
theorem dX2_lotsAhead_7 : decode cX2_lotsAhead 7 = .ok (.aload_n 0, 1) := dget dkX2_lotsAhead_0 5 rfl
theorem dX2_lotsAhead_8 : decode cX2_lotsAhead 8 = .ok (.getfield 18, 3) := dget dkX2_lotsAhead_0 6 rfl
theorem dX2_lotsAhead_11 : decode cX2_lotsAhead 11 = .ok (.if_icmp .ge 36, 3) := dget dkX2_lotsAhead_0 7 rfl
theorem dX2_lotsAhead_14 : decode cX2_lotsAhead 14 = .ok (.aload_n 1, 1) := dget dkX2_lotsAhead_0 8 rfl
theorem dX2_lotsAhead_15 : decode cX2_lotsAhead 15 = .ok (.aload_n 0, 1) := dget dkX2_lotsAhead_0 9 rfl
theorem dX2_lotsAhead_16 : decode cX2_lotsAhead 16 = .ok (.iload 4, 2) := dget dkX2_lotsAhead_0 10 rfl
theorem dX2_lotsAhead_18 : decode cX2_lotsAhead 18 = .ok (.invokevirtual 22, 3) := dget dkX2_lotsAhead_0 11 rfl
theorem dX2_lotsAhead_21 : decode cX2_lotsAhead 21 = .ok (.iload_n 2, 1) := dget dkX2_lotsAhead_0 12 rfl
theorem dX2_lotsAhead_22 : decode cX2_lotsAhead 22 = .ok (.invokevirtual 44, 3) := dget dkX2_lotsAhead_0 13 rfl
theorem dX2_lotsAhead_25 : decode cX2_lotsAhead 25 = .ok (.ifCond .ge 16, 3) := dget dkX2_lotsAhead_0 14 rfl
theorem dX2_lotsAhead_28 : decode cX2_lotsAhead 28 = .ok (.aload_n 0, 1) := dget dkX2_lotsAhead_0 15 rfl
theorem dX2_lotsAhead_29 : decode cX2_lotsAhead 29 = .ok (.aload_n 1, 1) := dget dkX2_lotsAhead_0 16 rfl
theorem dX2_lotsAhead_30 : decode cX2_lotsAhead 30 = .ok (.iload 4, 2) := dget dkX2_lotsAhead_0 17 rfl
theorem dX2_lotsAhead_32 : decode cX2_lotsAhead 32 = .ok (.invokevirtual 58, 3) := dget dkX2_lotsAhead_0 18 rfl
theorem dX2_lotsAhead_35 : decode cX2_lotsAhead 35 = .ok (.ifCond .eq 6, 3) := dget dkX2_lotsAhead_0 19 rfl
theorem dX2_lotsAhead_38 : decode cX2_lotsAhead 38 = .ok (.iinc 3 1, 3) := dget dkX2_lotsAhead_0 20 rfl
theorem dX2_lotsAhead_41 : decode cX2_lotsAhead 41 = .ok (.iinc 4 1, 3) := dget dkX2_lotsAhead_0 21 rfl
theorem dX2_lotsAhead_44 : decode cX2_lotsAhead 44 = .ok (.goto (-39), 3) := dget dkX2_lotsAhead_0 22 rfl
theorem dX2_lotsAhead_47 : decode cX2_lotsAhead 47 = .ok (.iload_n 3, 1) := dget dkX2_lotsAhead_0 23 rfl
theorem dX2_lotsAhead_48 : decode cX2_lotsAhead 48 = .ok (.ireturn, 1) := dget dkX2_lotsAhead_0 24 rfl
theorem ggX2_told_J4_init_da8c8 : GoodIn wsX2_told wsJ4_init_da8c8 := tgCall 415 e_J4_init_da8c8 (by decide +kernel)
theorem gX2_told_J4_init_da8c8 : GoodIn wsX2_told (wsJ4_init_da8c8) := ggX2_told_J4_init_da8c8
theorem ggX2_told_X4_appendGap : GoodIn wsX2_told wsX4_appendGap := tgCall 422 e_X4_appendGap (by decide +kernel)
theorem gX2_told_X4_appendGap_n65 : GoodIn wsX2_told (wsX4_appendGap) := ggX2_told_X4_appendGap
theorem ggX2_told_X2_valueOn : GoodIn wsX2_told wsX2_valueOn := tgCall 89 e_X2_valueOn (by decide +kernel)
theorem gX2_told_X2_valueOn : GoodIn wsX2_told (wsV RX2 22 RX2 yX2_valueOn wsX2_valueOn) := goodIn_app (tgIn [98, 87, 88, 9] (by decide +kernel) rfl) ggX2_told_X2_valueOn
theorem ggX2_told_J4_append_bf812 : GoodIn wsX2_told wsJ4_append_bf812 := tgCall 426 e_J4_append_bf812 (by decide +kernel)
theorem gX2_told_J4_append_bf812 : GoodIn wsX2_told (wsV RX2 69 RJ4 yJ4_append_bf812 wsJ4_append_bf812) := goodIn_app (tgIn [434, 424, 425, 328] (by decide +kernel) rfl) ggX2_told_J4_append_bf812
theorem ggX2_told_J4_append_cf468 : GoodIn wsX2_told wsJ4_append_cf468 := tgCall 337 e_J4_append_cf468 (by decide +kernel)
theorem gX2_told_J4_append_cf468 : GoodIn wsX2_told (wsV RX2 72 RJ4 yJ4_append_cf468 wsJ4_append_cf468) := goodIn_app (tgIn [435, 335, 336, 328] (by decide +kernel) rfl) ggX2_told_J4_append_cf468
theorem ggX2_told_X2_markOn : GoodIn wsX2_told wsX2_markOn := tgCall 102 e_X2_markOn (by decide +kernel)
theorem gX2_told_X2_markOn : GoodIn wsX2_told (wsV RX2 26 RX2 yX2_markOn wsX2_markOn) := goodIn_app (tgIn [99, 100, 101, 9] (by decide +kernel) rfl) ggX2_told_X2_markOn
theorem ggX2_told_J4_toString_0e30d : GoodIn wsX2_told wsJ4_toString_0e30d := tgCall 431 e_J4_toString_0e30d (by decide +kernel)
theorem gX2_told_J4_toString_0e30d : GoodIn wsX2_told (wsV RX2 75 RJ4 yJ4_toString_0e30d wsJ4_toString_0e30d) := goodIn_app (tgIn [436, 429, 430, 328] (by decide +kernel) rfl) ggX2_told_J4_toString_0e30d
theorem dkX2_told_0 : ([(0, (.new 62, 3)), (3, (.dup, 1)), (4, (.invokespecial 64, 3)), (7, (.astore_n 1, 1)), (8, (.iconst 0, 1)), (9, (.istore_n 2, 1)), (10, (.iload_n 2, 1)), (11, (.aload_n 0, 1)), (12, (.getfield 18, 3)), (15, (.if_icmp .ge 36, 3)), (18, (.aload_n 1, 1)), (19, (.invokestatic 65, 3)), (22, (.aload_n 1, 1)), (23, (.aload_n 0, 1)), (24, (.iload_n 2, 1)), (25, (.invokevirtual 22, 3)), (28, (.invokevirtual 69, 3)), (31, (.bipush 46, 2)), (33, (.invokevirtual 72, 3)), (36, (.aload_n 0, 1)), (37, (.iload_n 2, 1)), (38, (.invokevirtual 26, 3)), (41, (.invokevirtual 69, 3)), (44, (.pop, 1)), (45, (.iinc 2 1, 3)), (48, (.goto (-38), 3)), (51, (.aload_n 1, 1)), (52, (.invokevirtual 75, 3)), (55, (.areturn, 1))] : List (Nat × (Jvm.ClassFile.Instr × Nat))).all (dcB cX2_told) = true := by decide +kernel
theorem dX2_told_0 : decode cX2_told 0 = .ok (.new 62, 3) := dget dkX2_told_0 0 rfl
theorem dX2_told_3 : decode cX2_told 3 = .ok (.dup, 1) := dget dkX2_told_0 1 rfl
theorem dX2_told_4 : decode cX2_told 4 = .ok (.invokespecial 64, 3) := dget dkX2_told_0 2 rfl
theorem dX2_told_7 : decode cX2_told 7 = .ok (.astore_n 1, 1) := dget dkX2_told_0 3 rfl
theorem dX2_told_8 : decode cX2_told 8 = .ok (.iconst 0, 1) := dget dkX2_told_0 4 rfl
theorem dX2_told_9 : decode cX2_told 9 = .ok (.istore_n 2, 1) := dget dkX2_told_0 5 rfl
theorem dX2_told_10 : decode cX2_told 10 = .ok (.iload_n 2, 1) := dget dkX2_told_0 6 rfl
theorem dX2_told_11 : decode cX2_told 11 = .ok (.aload_n 0, 1) := dget dkX2_told_0 7 rfl
theorem dX2_told_12 : decode cX2_told 12 = .ok (.getfield 18, 3) := dget dkX2_told_0 8 rfl
theorem dX2_told_15 : decode cX2_told 15 = .ok (.if_icmp .ge 36, 3) := dget dkX2_told_0 9 rfl
theorem dX2_told_18 : decode cX2_told 18 = .ok (.aload_n 1, 1) := dget dkX2_told_0 10 rfl
theorem dX2_told_19 : decode cX2_told 19 = .ok (.invokestatic 65, 3) := dget dkX2_told_0 11 rfl
theorem dX2_told_22 : decode cX2_told 22 = .ok (.aload_n 1, 1) := dget dkX2_told_0 12 rfl
theorem dX2_told_23 : decode cX2_told 23 = .ok (.aload_n 0, 1) := dget dkX2_told_0 13 rfl
theorem dX2_told_24 : decode cX2_told 24 = .ok (.iload_n 2, 1) := dget dkX2_told_0 14 rfl
theorem dX2_told_25 : decode cX2_told 25 = .ok (.invokevirtual 22, 3) := dget dkX2_told_0 15 rfl
theorem dX2_told_28 : decode cX2_told 28 = .ok (.invokevirtual 69, 3) := dget dkX2_told_0 16 rfl
theorem dX2_told_31 : decode cX2_told 31 = .ok (.bipush 46, 2) := dget dkX2_told_0 17 rfl
theorem dX2_told_33 : decode cX2_told 33 = .ok (.invokevirtual 72, 3) := dget dkX2_told_0 18 rfl
theorem dX2_told_36 : decode cX2_told 36 = .ok (.aload_n 0, 1) := dget dkX2_told_0 19 rfl
theorem dX2_told_37 : decode cX2_told 37 = .ok (.iload_n 2, 1) := dget dkX2_told_0 20 rfl
theorem dX2_told_38 : decode cX2_told 38 = .ok (.invokevirtual 26, 3) := dget dkX2_told_0 21 rfl
theorem dX2_told_41 : decode cX2_told 41 = .ok (.invokevirtual 69, 3) := dget dkX2_told_0 22 rfl
theorem dX2_told_44 : decode cX2_told 44 = .ok (.pop, 1) := dget dkX2_told_0 23 rfl
theorem dX2_told_45 : decode cX2_told 45 = .ok (.iinc 2 1, 3) := dget dkX2_told_0 24 rfl
theorem dX2_told_48 : decode cX2_told 48 = .ok (.goto (-38), 3) := dget dkX2_told_0 25 rfl
theorem dX2_told_51 : decode cX2_told 51 = .ok (.aload_n 1, 1) := dget dkX2_told_0 26 rfl
theorem dX2_told_52 : decode cX2_told 52 = .ok (.invokevirtual 75, 3) := dget dkX2_told_0 27 rfl
theorem dX2_told_55 : decode cX2_told 55 = .ok (.areturn, 1) := dget dkX2_told_0 28 rfl
theorem ggX2_lotsTold_J4_init_da8c8 : GoodIn wsX2_lotsTold wsJ4_init_da8c8 := tgCall 415 e_J4_init_da8c8 (by decide +kernel)
theorem gX2_lotsTold_J4_init_da8c8 : GoodIn wsX2_lotsTold (wsJ4_init_da8c8) := ggX2_lotsTold_J4_init_da8c8
theorem ggX2_lotsTold_X1_classCount : GoodIn wsX2_lotsTold wsX1_classCount := tgCall 149 e_X1_classCount (by decide +kernel)
theorem gX2_lotsTold_X1_classCount : GoodIn wsX2_lotsTold (wsV RX2 79 RX1 yX1_classCount wsX1_classCount) := goodIn_app (tgIn [438, 147, 148, 14] (by decide +kernel) rfl) ggX2_lotsTold_X1_classCount
theorem ggX2_lotsTold_X2_appendLot : GoodIn wsX2_lotsTold wsX2_appendLot := tgCall 442 e_X2_appendLot (by decide +kernel)
theorem gX2_lotsTold_X2_appendLot : GoodIn wsX2_lotsTold (wsV RX2 82 RX2 yX2_appendLot wsX2_appendLot) := goodIn_app (tgIn [439, 440, 441, 9] (by decide +kernel) rfl) ggX2_lotsTold_X2_appendLot
theorem ggX2_lotsTold_J4_toString_0e30d : GoodIn wsX2_lotsTold wsJ4_toString_0e30d := tgCall 431 e_J4_toString_0e30d (by decide +kernel)
theorem gX2_lotsTold_J4_toString_0e30d : GoodIn wsX2_lotsTold (wsV RX2 75 RJ4 yJ4_toString_0e30d wsJ4_toString_0e30d) := goodIn_app (tgIn [436, 429, 430, 328] (by decide +kernel) rfl) ggX2_lotsTold_J4_toString_0e30d
theorem dkX2_lotsTold_0 : ([(0, (.new 62, 3)), (3, (.dup, 1)), (4, (.invokespecial 64, 3)), (7, (.astore_n 2, 1)), (8, (.iconst 0, 1)), (9, (.istore_n 3, 1)), (10, (.iload_n 3, 1)), (11, (.aload_n 1, 1)), (12, (.invokevirtual 79, 3)), (15, (.if_icmp .ge 16, 3)), (18, (.aload_n 0, 1)), (19, (.aload_n 2, 1)), (20, (.aload_n 1, 1)), (21, (.iload_n 3, 1)), (22, (.invokevirtual 82, 3)), (25, (.iinc 3 1, 3)), (28, (.goto (-18), 3)), (31, (.aload_n 2, 1)), (32, (.invokevirtual 75, 3)), (35, (.areturn, 1))] : List (Nat × (Jvm.ClassFile.Instr × Nat))).all (dcB cX2_lotsTold) = true := by decide +kernel
theorem dX2_lotsTold_0 : decode cX2_lotsTold 0 = .ok (.new 62, 3) := dget dkX2_lotsTold_0 0 rfl
theorem dX2_lotsTold_3 : decode cX2_lotsTold 3 = .ok (.dup, 1) := dget dkX2_lotsTold_0 1 rfl
theorem dX2_lotsTold_4 : decode cX2_lotsTold 4 = .ok (.invokespecial 64, 3) := dget dkX2_lotsTold_0 2 rfl
theorem dX2_lotsTold_7 : decode cX2_lotsTold 7 = .ok (.astore_n 2, 1) := dget dkX2_lotsTold_0 3 rfl
theorem dX2_lotsTold_8 : decode cX2_lotsTold 8 = .ok (.iconst 0, 1) := dget dkX2_lotsTold_0 4 rfl
theorem dX2_lotsTold_9 : decode cX2_lotsTold 9 = .ok (.istore_n 3, 1) := dget dkX2_lotsTold_0 5 rfl
theorem dX2_lotsTold_10 : decode cX2_lotsTold 10 = .ok (.iload_n 3, 1) := dget dkX2_lotsTold_0 6 rfl
theorem dX2_lotsTold_11 : decode cX2_lotsTold 11 = .ok (.aload_n 1, 1) := dget dkX2_lotsTold_0 7 rfl
theorem dX2_lotsTold_12 : decode cX2_lotsTold 12 = .ok (.invokevirtual 79, 3) := dget dkX2_lotsTold_0 8 rfl
theorem dX2_lotsTold_15 : decode cX2_lotsTold 15 = .ok (.if_icmp .ge 16, 3) := dget dkX2_lotsTold_0 9 rfl
theorem dX2_lotsTold_18 : decode cX2_lotsTold 18 = .ok (.aload_n 0, 1) := dget dkX2_lotsTold_0 10 rfl
theorem dX2_lotsTold_19 : decode cX2_lotsTold 19 = .ok (.aload_n 2, 1) := dget dkX2_lotsTold_0 11 rfl
theorem dX2_lotsTold_20 : decode cX2_lotsTold 20 = .ok (.aload_n 1, 1) := dget dkX2_lotsTold_0 12 rfl
theorem dX2_lotsTold_21 : decode cX2_lotsTold 21 = .ok (.iload_n 3, 1) := dget dkX2_lotsTold_0 13 rfl
theorem dX2_lotsTold_22 : decode cX2_lotsTold 22 = .ok (.invokevirtual 82, 3) := dget dkX2_lotsTold_0 14 rfl
theorem dX2_lotsTold_25 : decode cX2_lotsTold 25 = .ok (.iinc 3 1, 3) := dget dkX2_lotsTold_0 15 rfl
theorem dX2_lotsTold_28 : decode cX2_lotsTold 28 = .ok (.goto (-18), 3) := dget dkX2_lotsTold_0 16 rfl
theorem dX2_lotsTold_31 : decode cX2_lotsTold 31 = .ok (.aload_n 2, 1) := dget dkX2_lotsTold_0 17 rfl
theorem dX2_lotsTold_32 : decode cX2_lotsTold 32 = .ok (.invokevirtual 75, 3) := dget dkX2_lotsTold_0 18 rfl
theorem dX2_lotsTold_35 : decode cX2_lotsTold 35 = .ok (.areturn, 1) := dget dkX2_lotsTold_0 19 rfl
theorem ggX2_appendLot_X2_valueOn : GoodIn wsX2_appendLot wsX2_valueOn := tgCall 89 e_X2_valueOn (by decide +kernel)
theorem gX2_appendLot_X2_valueOn : GoodIn wsX2_appendLot (wsV RX2 22 RX2 yX2_valueOn wsX2_valueOn) := goodIn_app (tgIn [98, 87, 88, 9] (by decide +kernel) rfl) ggX2_appendLot_X2_valueOn
theorem ggX2_appendLot_X1_rankOf : GoodIn wsX2_appendLot wsX1_rankOf := tgCall 174 e_X1_rankOf (by decide +kernel)
theorem gX2_appendLot_X1_rankOf : GoodIn wsX2_appendLot (wsV RX2 86 RX1 yX1_rankOf wsX1_rankOf) := goodIn_app (tgIn [437, 172, 173, 14] (by decide +kernel) rfl) ggX2_appendLot_X1_rankOf
theorem ggX2_appendLot_X4_appendGap : GoodIn wsX2_appendLot wsX4_appendGap := tgCall 422 e_X4_appendGap (by decide +kernel)
theorem gX2_appendLot_X4_appendGap_n65 : GoodIn wsX2_appendLot (wsX4_appendGap) := ggX2_appendLot_X4_appendGap
theorem ggX2_appendLot_X2_markOn : GoodIn wsX2_appendLot wsX2_markOn := tgCall 102 e_X2_markOn (by decide +kernel)
theorem gX2_appendLot_X2_markOn : GoodIn wsX2_appendLot (wsV RX2 26 RX2 yX2_markOn wsX2_markOn) := goodIn_app (tgIn [99, 100, 101, 9] (by decide +kernel) rfl) ggX2_appendLot_X2_markOn
theorem ggX2_appendLot_J4_append_bf812 : GoodIn wsX2_appendLot wsJ4_append_bf812 := tgCall 426 e_J4_append_bf812 (by decide +kernel)
theorem gX2_appendLot_J4_append_bf812 : GoodIn wsX2_appendLot (wsV RX2 69 RJ4 yJ4_append_bf812 wsJ4_append_bf812) := goodIn_app (tgIn [434, 424, 425, 328] (by decide +kernel) rfl) ggX2_appendLot_J4_append_bf812
theorem ggX2_appendLot_J4_append_cf468 : GoodIn wsX2_appendLot wsJ4_append_cf468 := tgCall 337 e_J4_append_cf468 (by decide +kernel)
theorem gX2_appendLot_J4_append_cf468 : GoodIn wsX2_appendLot (wsV RX2 72 RJ4 yJ4_append_cf468 wsJ4_append_cf468) := goodIn_app (tgIn [435, 335, 336, 328] (by decide +kernel) rfl) ggX2_appendLot_J4_append_cf468
theorem dkX2_appendLot_0 : ([(0, (.iconst (-1), 1)), (1, (.istore 4, 2)), (3, (.iconst 0, 1)), (4, (.istore 5, 2)), (6, (.iconst 0, 1)), (7, (.istore 6, 2)), (9, (.iload 6, 2)), (11, (.aload_n 0, 1)), (12, (.getfield 18, 3)), (15, (.if_icmp .ge 41, 3)), (18, (.aload_n 2, 1)), (19, (.aload_n 0, 1)), (20, (.iload 6, 2)), (22, (.invokevirtual 22, 3)), (25, (.invokevirtual 86, 3)), (28, (.iload_n 3, 1)), (29, (.if_icmp .ne 21, 3)), (32, (.iload 4, 2)), (34, (.iconst (-1), 1)), (35, (.if_icmp .ne 8, 3)), (38, (.iload 6, 2)), (40, (.goto 5, 3)), (43, (.iload 4, 2)), (45, (.istore 4, 2)), (47, (.iinc 5 1, 3)), (50, (.iinc 6 1, 3)), (53, (.goto (-44), 3)), (56, (.iload 5, 2)), (58, (.ifCond .le 28, 3)), (61, (.aload_n 1, 1)), (62, (.invokestatic 65, 3)), (65, (.aload_n 1, 1)), (66, (.aload_n 0, 1)), (67, (.iload 4, 2)), (69, (.invokevirtual 26, 3)), (72, (.invokevirtual 69, 3)), (75, (.bipush 58, 2)), (77, (.invokevirtual 72, 3)), (80, (.iload 5, 2)), (82, (.invokevirtual 69, 3))] : List (Nat × (Jvm.ClassFile.Instr × Nat))).all (dcB cX2_appendLot) = true := by decide +kernel
theorem dX2_appendLot_0 : decode cX2_appendLot 0 = .ok (.iconst (-1), 1) := dget dkX2_appendLot_0 0 rfl
theorem dX2_appendLot_1 : decode cX2_appendLot 1 = .ok (.istore 4, 2) := dget dkX2_appendLot_0 1 rfl
theorem dX2_appendLot_3 : decode cX2_appendLot 3 = .ok (.iconst 0, 1) := dget dkX2_appendLot_0 2 rfl
theorem dX2_appendLot_4 : decode cX2_appendLot 4 = .ok (.istore 5, 2) := dget dkX2_appendLot_0 3 rfl
theorem dX2_appendLot_6 : decode cX2_appendLot 6 = .ok (.iconst 0, 1) := dget dkX2_appendLot_0 4 rfl
theorem dX2_appendLot_7 : decode cX2_appendLot 7 = .ok (.istore 6, 2) := dget dkX2_appendLot_0 5 rfl
theorem dX2_appendLot_9 : decode cX2_appendLot 9 = .ok (.iload 6, 2) := dget dkX2_appendLot_0 6 rfl
theorem dX2_appendLot_11 : decode cX2_appendLot 11 = .ok (.aload_n 0, 1) := dget dkX2_appendLot_0 7 rfl
theorem dX2_appendLot_12 : decode cX2_appendLot 12 = .ok (.getfield 18, 3) := dget dkX2_appendLot_0 8 rfl
theorem dX2_appendLot_15 : decode cX2_appendLot 15 = .ok (.if_icmp .ge 41, 3) := dget dkX2_appendLot_0 9 rfl
theorem dX2_appendLot_18 : decode cX2_appendLot 18 = .ok (.aload_n 2, 1) := dget dkX2_appendLot_0 10 rfl
theorem dX2_appendLot_19 : decode cX2_appendLot 19 = .ok (.aload_n 0, 1) := dget dkX2_appendLot_0 11 rfl
theorem dX2_appendLot_20 : decode cX2_appendLot 20 = .ok (.iload 6, 2) := dget dkX2_appendLot_0 12 rfl
theorem dX2_appendLot_22 : decode cX2_appendLot 22 = .ok (.invokevirtual 22, 3) := dget dkX2_appendLot_0 13 rfl
theorem dX2_appendLot_25 : decode cX2_appendLot 25 = .ok (.invokevirtual 86, 3) := dget dkX2_appendLot_0 14 rfl
theorem dX2_appendLot_28 : decode cX2_appendLot 28 = .ok (.iload_n 3, 1) := dget dkX2_appendLot_0 15 rfl
theorem dX2_appendLot_29 : decode cX2_appendLot 29 = .ok (.if_icmp .ne 21, 3) := dget dkX2_appendLot_0 16 rfl
theorem dX2_appendLot_32 : decode cX2_appendLot 32 = .ok (.iload 4, 2) := dget dkX2_appendLot_0 17 rfl
theorem dX2_appendLot_34 : decode cX2_appendLot 34 = .ok (.iconst (-1), 1) := dget dkX2_appendLot_0 18 rfl
theorem dX2_appendLot_35 : decode cX2_appendLot 35 = .ok (.if_icmp .ne 8, 3) := dget dkX2_appendLot_0 19 rfl
theorem dX2_appendLot_38 : decode cX2_appendLot 38 = .ok (.iload 6, 2) := dget dkX2_appendLot_0 20 rfl
theorem dX2_appendLot_40 : decode cX2_appendLot 40 = .ok (.goto 5, 3) := dget dkX2_appendLot_0 21 rfl
theorem dX2_appendLot_43 : decode cX2_appendLot 43 = .ok (.iload 4, 2) := dget dkX2_appendLot_0 22 rfl
theorem dX2_appendLot_45 : decode cX2_appendLot 45 = .ok (.istore 4, 2) := dget dkX2_appendLot_0 23 rfl
theorem dX2_appendLot_47 : decode cX2_appendLot 47 = .ok (.iinc 5 1, 3) := dget dkX2_appendLot_0 24 rfl
theorem dX2_appendLot_50 : decode cX2_appendLot 50 = .ok (.iinc 6 1, 3) := dget dkX2_appendLot_0 25 rfl
theorem dX2_appendLot_53 : decode cX2_appendLot 53 = .ok (.goto (-44), 3) := dget dkX2_appendLot_0 26 rfl
theorem dX2_appendLot_56 : decode cX2_appendLot 56 = .ok (.iload 5, 2) := dget dkX2_appendLot_0 27 rfl
theorem dX2_appendLot_58 : decode cX2_appendLot 58 = .ok (.ifCond .le 28, 3) := dget dkX2_appendLot_0 28 rfl
theorem dX2_appendLot_61 : decode cX2_appendLot 61 = .ok (.aload_n 1, 1) := dget dkX2_appendLot_0 29 rfl
theorem dX2_appendLot_62 : decode cX2_appendLot 62 = .ok (.invokestatic 65, 3) := dget dkX2_appendLot_0 30 rfl
theorem dX2_appendLot_65 : decode cX2_appendLot 65 = .ok (.aload_n 1, 1) := dget dkX2_appendLot_0 31 rfl
theorem dX2_appendLot_66 : decode cX2_appendLot 66 = .ok (.aload_n 0, 1) := dget dkX2_appendLot_0 32 rfl
theorem dX2_appendLot_67 : decode cX2_appendLot 67 = .ok (.iload 4, 2) := dget dkX2_appendLot_0 33 rfl
theorem dX2_appendLot_69 : decode cX2_appendLot 69 = .ok (.invokevirtual 26, 3) := dget dkX2_appendLot_0 34 rfl
theorem dX2_appendLot_72 : decode cX2_appendLot 72 = .ok (.invokevirtual 69, 3) := dget dkX2_appendLot_0 35 rfl
theorem dX2_appendLot_75 : decode cX2_appendLot 75 = .ok (.bipush 58, 2) := dget dkX2_appendLot_0 36 rfl
theorem dX2_appendLot_77 : decode cX2_appendLot 77 = .ok (.invokevirtual 72, 3) := dget dkX2_appendLot_0 37 rfl
theorem dX2_appendLot_80 : decode cX2_appendLot 80 = .ok (.iload 5, 2) := dget dkX2_appendLot_0 38 rfl
theorem dX2_appendLot_82 : decode cX2_appendLot 82 = .ok (.invokevirtual 69, 3) := dget dkX2_appendLot_0 39 rfl
theorem dkX2_appendLot_1 : ([(85, (.pop, 1)), (86, (.return_, 1))] : List (Nat × (Jvm.ClassFile.Instr × Nat))).all (dcB cX2_appendLot) = true := by decide +kernel
theorem dX2_appendLot_85 : decode cX2_appendLot 85 = .ok (.pop, 1) := dget dkX2_appendLot_1 0 rfl
theorem dX2_appendLot_86 : decode cX2_appendLot 86 = .ok (.return_, 1) := dget dkX2_appendLot_1 1 rfl
theorem dkX2_isOnSide_0 : ([(0, (.iload_n 1, 1)), (1, (.tableswitch 57 0 2 #[27, 37, 47], 27)), (28, (.iload_n 0, 1)), (29, (.ifCond .ge 7, 3)), (32, (.iconst 1, 1)), (33, (.goto 4, 3)), (36, (.iconst 0, 1)), (37, (.ireturn, 1)), (38, (.iload_n 0, 1)), (39, (.ifCond .gt 7, 3)), (42, (.iconst 1, 1)), (43, (.goto 4, 3)), (46, (.iconst 0, 1)), (47, (.ireturn, 1)), (48, (.iload_n 0, 1)), (49, (.ifCond .lt 7, 3)), (52, (.iconst 1, 1)), (53, (.goto 4, 3)), (56, (.iconst 0, 1)), (57, (.ireturn, 1)), (58, (.iload_n 0, 1)), (59, (.ifCond .le 7, 3)), (62, (.iconst 1, 1)), (63, (.goto 4, 3)), (66, (.iconst 0, 1)), (67, (.ireturn, 1))] : List (Nat × (Jvm.ClassFile.Instr × Nat))).all (dcB cX2_isOnSide) = true := by decide +kernel
theorem dX2_isOnSide_0 : decode cX2_isOnSide 0 = .ok (.iload_n 1, 1) := dget dkX2_isOnSide_0 0 rfl
theorem dX2_isOnSide_1 : decode cX2_isOnSide 1 = .ok (.tableswitch 57 0 2 #[27, 37, 47], 27) := dget dkX2_isOnSide_0 1 rfl
theorem dX2_isOnSide_28 : decode cX2_isOnSide 28 = .ok (.iload_n 0, 1) := dget dkX2_isOnSide_0 2 rfl
theorem dX2_isOnSide_29 : decode cX2_isOnSide 29 = .ok (.ifCond .ge 7, 3) := dget dkX2_isOnSide_0 3 rfl
theorem dX2_isOnSide_32 : decode cX2_isOnSide 32 = .ok (.iconst 1, 1) := dget dkX2_isOnSide_0 4 rfl
theorem dX2_isOnSide_33 : decode cX2_isOnSide 33 = .ok (.goto 4, 3) := dget dkX2_isOnSide_0 5 rfl
theorem dX2_isOnSide_36 : decode cX2_isOnSide 36 = .ok (.iconst 0, 1) := dget dkX2_isOnSide_0 6 rfl
theorem dX2_isOnSide_37 : decode cX2_isOnSide 37 = .ok (.ireturn, 1) := dget dkX2_isOnSide_0 7 rfl
theorem dX2_isOnSide_38 : decode cX2_isOnSide 38 = .ok (.iload_n 0, 1) := dget dkX2_isOnSide_0 8 rfl
theorem dX2_isOnSide_39 : decode cX2_isOnSide 39 = .ok (.ifCond .gt 7, 3) := dget dkX2_isOnSide_0 9 rfl
theorem dX2_isOnSide_42 : decode cX2_isOnSide 42 = .ok (.iconst 1, 1) := dget dkX2_isOnSide_0 10 rfl
theorem dX2_isOnSide_43 : decode cX2_isOnSide 43 = .ok (.goto 4, 3) := dget dkX2_isOnSide_0 11 rfl
theorem dX2_isOnSide_46 : decode cX2_isOnSide 46 = .ok (.iconst 0, 1) := dget dkX2_isOnSide_0 12 rfl
theorem dX2_isOnSide_47 : decode cX2_isOnSide 47 = .ok (.ireturn, 1) := dget dkX2_isOnSide_0 13 rfl
theorem dX2_isOnSide_48 : decode cX2_isOnSide 48 = .ok (.iload_n 0, 1) := dget dkX2_isOnSide_0 14 rfl
theorem dX2_isOnSide_49 : decode cX2_isOnSide 49 = .ok (.ifCond .lt 7, 3) := dget dkX2_isOnSide_0 15 rfl
theorem dX2_isOnSide_52 : decode cX2_isOnSide 52 = .ok (.iconst 1, 1) := dget dkX2_isOnSide_0 16 rfl
theorem dX2_isOnSide_53 : decode cX2_isOnSide 53 = .ok (.goto 4, 3) := dget dkX2_isOnSide_0 17 rfl
theorem dX2_isOnSide_56 : decode cX2_isOnSide 56 = .ok (.iconst 0, 1) := dget dkX2_isOnSide_0 18 rfl
theorem dX2_isOnSide_57 : decode cX2_isOnSide 57 = .ok (.ireturn, 1) := dget dkX2_isOnSide_0 19 rfl
theorem dX2_isOnSide_58 : decode cX2_isOnSide 58 = .ok (.iload_n 0, 1) := dget dkX2_isOnSide_0 20 rfl
theorem dX2_isOnSide_59 : decode cX2_isOnSide 59 = .ok (.ifCond .le 7, 3) := dget dkX2_isOnSide_0 21 rfl
theorem dX2_isOnSide_62 : decode cX2_isOnSide 62 = .ok (.iconst 1, 1) := dget dkX2_isOnSide_0 22 rfl
theorem dX2_isOnSide_63 : decode cX2_isOnSide 63 = .ok (.goto 4, 3) := dget dkX2_isOnSide_0 23 rfl
theorem dX2_isOnSide_66 : decode cX2_isOnSide 66 = .ok (.iconst 0, 1) := dget dkX2_isOnSide_0 24 rfl
theorem dX2_isOnSide_67 : decode cX2_isOnSide 67 = .ok (.ireturn, 1) := dget dkX2_isOnSide_0 25 rfl
theorem ggX2_isNearer_X2_valueOn : GoodIn wsX2_isNearer wsX2_valueOn := tgCall 89 e_X2_valueOn (by decide +kernel)
theorem gX2_isNearer_X2_valueOn : GoodIn wsX2_isNearer (wsV RX2 22 RX2 yX2_valueOn wsX2_valueOn) := goodIn_app (tgIn [98, 87, 88, 9] (by decide +kernel) rfl) ggX2_isNearer_X2_valueOn
theorem ggX2_isNearer_X1_compared : GoodIn wsX2_isNearer wsX1_compared := tgCall 93 e_X1_compared (by decide +kernel)
theorem gX2_isNearer_X1_compared : GoodIn wsX2_isNearer (wsV RX2 44 RX1 yX1_compared wsX1_compared) := goodIn_app (tgIn [127, 91, 92, 14] (by decide +kernel) rfl) ggX2_isNearer_X1_compared
theorem dkX2_isNearer_0 : ([(0, (.aload_n 1, 1)), (1, (.aload_n 0, 1)), (2, (.iload_n 2, 1)), (3, (.invokevirtual 22, 3)), (6, (.aload_n 0, 1)), (7, (.iload_n 3, 1)), (8, (.invokevirtual 22, 3)), (11, (.invokevirtual 44, 3)), (14, (.istore 5, 2)), (16, (.iload 4, 2)), (18, (.iconst 1, 1)), (19, (.if_icmp .gt 16, 3)), (22, (.iload 5, 2)), (24, (.ifCond .le 7, 3)), (27, (.iconst 1, 1)), (28, (.goto 17, 3)), (31, (.iconst 0, 1)), (32, (.goto 13, 3)), (35, (.iload 5, 2)), (37, (.ifCond .ge 7, 3)), (40, (.iconst 1, 1)), (41, (.goto 4, 3)), (44, (.iconst 0, 1)), (45, (.ireturn, 1))] : List (Nat × (Jvm.ClassFile.Instr × Nat))).all (dcB cX2_isNearer) = true := by decide +kernel
theorem dX2_isNearer_0 : decode cX2_isNearer 0 = .ok (.aload_n 1, 1) := dget dkX2_isNearer_0 0 rfl
theorem dX2_isNearer_1 : decode cX2_isNearer 1 = .ok (.aload_n 0, 1) := dget dkX2_isNearer_0 1 rfl
theorem dX2_isNearer_2 : decode cX2_isNearer 2 = .ok (.iload_n 2, 1) := dget dkX2_isNearer_0 2 rfl
theorem dX2_isNearer_3 : decode cX2_isNearer 3 = .ok (.invokevirtual 22, 3) := dget dkX2_isNearer_0 3 rfl
theorem dX2_isNearer_6 : decode cX2_isNearer 6 = .ok (.aload_n 0, 1) := dget dkX2_isNearer_0 4 rfl
theorem dX2_isNearer_7 : decode cX2_isNearer 7 = .ok (.iload_n 3, 1) := dget dkX2_isNearer_0 5 rfl
theorem dX2_isNearer_8 : decode cX2_isNearer 8 = .ok (.invokevirtual 22, 3) := dget dkX2_isNearer_0 6 rfl
theorem dX2_isNearer_11 : decode cX2_isNearer 11 = .ok (.invokevirtual 44, 3) := dget dkX2_isNearer_0 7 rfl
theorem dX2_isNearer_14 : decode cX2_isNearer 14 = .ok (.istore 5, 2) := dget dkX2_isNearer_0 8 rfl
theorem dX2_isNearer_16 : decode cX2_isNearer 16 = .ok (.iload 4, 2) := dget dkX2_isNearer_0 9 rfl
theorem dX2_isNearer_18 : decode cX2_isNearer 18 = .ok (.iconst 1, 1) := dget dkX2_isNearer_0 10 rfl
theorem dX2_isNearer_19 : decode cX2_isNearer 19 = .ok (.if_icmp .gt 16, 3) := dget dkX2_isNearer_0 11 rfl
theorem dX2_isNearer_22 : decode cX2_isNearer 22 = .ok (.iload 5, 2) := dget dkX2_isNearer_0 12 rfl
theorem dX2_isNearer_24 : decode cX2_isNearer 24 = .ok (.ifCond .le 7, 3) := dget dkX2_isNearer_0 13 rfl
theorem dX2_isNearer_27 : decode cX2_isNearer 27 = .ok (.iconst 1, 1) := dget dkX2_isNearer_0 14 rfl
theorem dX2_isNearer_28 : decode cX2_isNearer 28 = .ok (.goto 17, 3) := dget dkX2_isNearer_0 15 rfl
theorem dX2_isNearer_31 : decode cX2_isNearer 31 = .ok (.iconst 0, 1) := dget dkX2_isNearer_0 16 rfl
theorem dX2_isNearer_32 : decode cX2_isNearer 32 = .ok (.goto 13, 3) := dget dkX2_isNearer_0 17 rfl
theorem dX2_isNearer_35 : decode cX2_isNearer 35 = .ok (.iload 5, 2) := dget dkX2_isNearer_0 18 rfl
theorem dX2_isNearer_37 : decode cX2_isNearer 37 = .ok (.ifCond .ge 7, 3) := dget dkX2_isNearer_0 19 rfl
theorem dX2_isNearer_40 : decode cX2_isNearer 40 = .ok (.iconst 1, 1) := dget dkX2_isNearer_0 20 rfl
theorem dX2_isNearer_41 : decode cX2_isNearer 41 = .ok (.goto 4, 3) := dget dkX2_isNearer_0 21 rfl
theorem dX2_isNearer_44 : decode cX2_isNearer 44 = .ok (.iconst 0, 1) := dget dkX2_isNearer_0 22 rfl
theorem dX2_isNearer_45 : decode cX2_isNearer 45 = .ok (.ireturn, 1) := dget dkX2_isNearer_0 23 rfl
theorem ggX2_isFirstOfLot_X2_valueOn : GoodIn wsX2_isFirstOfLot wsX2_valueOn := tgCall 89 e_X2_valueOn (by decide +kernel)
theorem gX2_isFirstOfLot_X2_valueOn : GoodIn wsX2_isFirstOfLot (wsV RX2 22 RX2 yX2_valueOn wsX2_valueOn) := goodIn_app (tgIn [98, 87, 88, 9] (by decide +kernel) rfl) ggX2_isFirstOfLot_X2_valueOn
theorem ggX2_isFirstOfLot_X1_compared : GoodIn wsX2_isFirstOfLot wsX1_compared := tgCall 93 e_X1_compared (by decide +kernel)
theorem gX2_isFirstOfLot_X1_compared : GoodIn wsX2_isFirstOfLot (wsV RX2 44 RX1 yX1_compared wsX1_compared) := goodIn_app (tgIn [127, 91, 92, 14] (by decide +kernel) rfl) ggX2_isFirstOfLot_X1_compared
theorem dkX2_isFirstOfLot_0 : ([(0, (.iconst 0, 1)), (1, (.istore_n 3, 1)), (2, (.iload_n 3, 1)), (3, (.iload_n 2, 1)), (4, (.if_icmp .ge 28, 3)), (7, (.aload_n 1, 1)), (8, (.aload_n 0, 1)), (9, (.iload_n 3, 1)), (10, (.invokevirtual 22, 3)), (13, (.aload_n 0, 1)), (14, (.iload_n 2, 1)), (15, (.invokevirtual 22, 3)), (18, (.invokevirtual 44, 3)), (21, (.ifCond .ne 5, 3)), (24, (.iconst 0, 1)), (25, (.ireturn, 1)), (26, (.iinc 3 1, 3)), (29, (.goto (-27), 3)), (32, (.iconst 1, 1)), (33, (.ireturn, 1))] : List (Nat × (Jvm.ClassFile.Instr × Nat))).all (dcB cX2_isFirstOfLot) = true := by decide +kernel
theorem dX2_isFirstOfLot_0 : decode cX2_isFirstOfLot 0 = .ok (.iconst 0, 1) := dget dkX2_isFirstOfLot_0 0 rfl
theorem dX2_isFirstOfLot_1 : decode cX2_isFirstOfLot 1 = .ok (.istore_n 3, 1) := dget dkX2_isFirstOfLot_0 1 rfl
theorem dX2_isFirstOfLot_2 : decode cX2_isFirstOfLot 2 = .ok (.iload_n 3, 1) := dget dkX2_isFirstOfLot_0 2 rfl
theorem dX2_isFirstOfLot_3 : decode cX2_isFirstOfLot 3 = .ok (.iload_n 2, 1) := dget dkX2_isFirstOfLot_0 3 rfl
theorem dX2_isFirstOfLot_4 : decode cX2_isFirstOfLot 4 = .ok (.if_icmp .ge 28, 3) := dget dkX2_isFirstOfLot_0 4 rfl
theorem dX2_isFirstOfLot_7 : decode cX2_isFirstOfLot 7 = .ok (.aload_n 1, 1) := dget dkX2_isFirstOfLot_0 5 rfl
theorem dX2_isFirstOfLot_8 : decode cX2_isFirstOfLot 8 = .ok (.aload_n 0, 1) := dget dkX2_isFirstOfLot_0 6 rfl
theorem dX2_isFirstOfLot_9 : decode cX2_isFirstOfLot 9 = .ok (.iload_n 3, 1) := dget dkX2_isFirstOfLot_0 7 rfl
theorem dX2_isFirstOfLot_10 : decode cX2_isFirstOfLot 10 = .ok (.invokevirtual 22, 3) := dget dkX2_isFirstOfLot_0 8 rfl
theorem dX2_isFirstOfLot_13 : decode cX2_isFirstOfLot 13 = .ok (.aload_n 0, 1) := dget dkX2_isFirstOfLot_0 9 rfl
theorem dX2_isFirstOfLot_14 : decode cX2_isFirstOfLot 14 = .ok (.iload_n 2, 1) := dget dkX2_isFirstOfLot_0 10 rfl
theorem dX2_isFirstOfLot_15 : decode cX2_isFirstOfLot 15 = .ok (.invokevirtual 22, 3) := dget dkX2_isFirstOfLot_0 11 rfl
theorem dX2_isFirstOfLot_18 : decode cX2_isFirstOfLot 18 = .ok (.invokevirtual 44, 3) := dget dkX2_isFirstOfLot_0 12 rfl
theorem dX2_isFirstOfLot_21 : decode cX2_isFirstOfLot 21 = .ok (.ifCond .ne 5, 3) := dget dkX2_isFirstOfLot_0 13 rfl
theorem dX2_isFirstOfLot_24 : decode cX2_isFirstOfLot 24 = .ok (.iconst 0, 1) := dget dkX2_isFirstOfLot_0 14 rfl
theorem dX2_isFirstOfLot_25 : decode cX2_isFirstOfLot 25 = .ok (.ireturn, 1) := dget dkX2_isFirstOfLot_0 15 rfl
theorem dX2_isFirstOfLot_26 : decode cX2_isFirstOfLot 26 = .ok (.iinc 3 1, 3) := dget dkX2_isFirstOfLot_0 16 rfl
theorem dX2_isFirstOfLot_29 : decode cX2_isFirstOfLot 29 = .ok (.goto (-27), 3) := dget dkX2_isFirstOfLot_0 17 rfl
theorem dX2_isFirstOfLot_32 : decode cX2_isFirstOfLot 32 = .ok (.iconst 1, 1) := dget dkX2_isFirstOfLot_0 18 rfl
theorem dX2_isFirstOfLot_33 : decode cX2_isFirstOfLot 33 = .ok (.ireturn, 1) := dget dkX2_isFirstOfLot_0 19 rfl
theorem ggX3_init_X2_init : GoodIn wsX3_init wsX2_init := tgCall 22 e_X2_init (by decide +kernel)
theorem gX3_init_X2_init_n9 : GoodIn wsX3_init (wsX2_init) := ggX3_init_X2_init
theorem dkX3_init_0 : ([(0, (.aload_n 0, 1)), (1, (.invokespecial 1, 3)), (4, (.aload_n 0, 1)), (5, (.new 7, 3)), (8, (.dup, 1)), (9, (.invokespecial 9, 3)), (12, (.putfield 10, 3)), (15, (.return_, 1))] : List (Nat × (Jvm.ClassFile.Instr × Nat))).all (dcB cX3_init) = true := by decide +kernel
theorem dX3_init_0 : decode cX3_init 0 = .ok (.aload_n 0, 1) := dget dkX3_init_0 0 rfl
theorem dX3_init_1 : decode cX3_init 1 = .ok (.invokespecial 1, 3) := dget dkX3_init_0 1 rfl
theorem dX3_init_4 : decode cX3_init 4 = .ok (.aload_n 0, 1) := dget dkX3_init_0 2 rfl
theorem dX3_init_5 : decode cX3_init 5 = .ok (.new 7, 3) := dget dkX3_init_0 3 rfl
theorem dX3_init_8 : decode cX3_init 8 = .ok (.dup, 1) := dget dkX3_init_0 4 rfl
theorem dX3_init_9 : decode cX3_init 9 = .ok (.invokespecial 9, 3) := dget dkX3_init_0 5 rfl
theorem dX3_init_12 : decode cX3_init 12 = .ok (.putfield 10, 3) := dget dkX3_init_0 6 rfl
theorem dX3_init_15 : decode cX3_init 15 = .ok (.return_, 1) := dget dkX3_init_0 7 rfl
theorem ggX3_arrangeAll_X2_length : GoodIn wsX3_arrangeAll wsX2_length := tgCall 118 e_X2_length (by decide +kernel)
theorem gX3_arrangeAll_X2_length : GoodIn wsX3_arrangeAll (wsV RX3 16 RX2 yX2_length wsX2_length) := goodIn_app (tgIn [154, 116, 117, 9] (by decide +kernel) rfl) ggX3_arrangeAll_X2_length
theorem ggX3_arrangeAll_X3_insertEach : GoodIn wsX3_arrangeAll wsX3_insertEach := tgCall 122 e_X3_insertEach (by decide +kernel)
theorem gX3_arrangeAll_X3_insertEach : GoodIn wsX3_arrangeAll (wsV RX3 20 RX3 yX3_insertEach wsX3_insertEach) := goodIn_app (tgIn [175, 120, 121, 5] (by decide +kernel) rfl) ggX3_arrangeAll_X3_insertEach
theorem ggX3_arrangeAll_X3_mergeRuns : GoodIn wsX3_arrangeAll wsX3_mergeRuns := tgCall 179 e_X3_mergeRuns (by decide +kernel)
theorem gX3_arrangeAll_X3_mergeRuns : GoodIn wsX3_arrangeAll (wsV RX3 24 RX3 yX3_mergeRuns wsX3_mergeRuns) := goodIn_app (tgIn [176, 177, 178, 5] (by decide +kernel) rfl) ggX3_arrangeAll_X3_mergeRuns
theorem ggX3_arrangeAll_X3_gatherByRank : GoodIn wsX3_arrangeAll wsX3_gatherByRank := tgCall 183 e_X3_gatherByRank (by decide +kernel)
theorem gX3_arrangeAll_X3_gatherByRank : GoodIn wsX3_arrangeAll (wsV RX3 28 RX3 yX3_gatherByRank wsX3_gatherByRank) := goodIn_app (tgIn [180, 181, 182, 5] (by decide +kernel) rfl) ggX3_arrangeAll_X3_gatherByRank
theorem dkX3_arrangeAll_0 : ([(0, (.iload_n 3, 1)), (1, (.lookupswitch 50 #[(0, 27), (1, 41)], 27)), (28, (.aload_n 0, 1)), (29, (.aload_n 1, 1)), (30, (.aload_n 2, 1)), (31, (.iconst 0, 1)), (32, (.aload_n 1, 1)), (33, (.invokevirtual 16, 3)), (36, (.invokevirtual 20, 3)), (39, (.goto 18, 3)), (42, (.aload_n 0, 1)), (43, (.aload_n 1, 1)), (44, (.aload_n 2, 1)), (45, (.invokevirtual 24, 3)), (48, (.goto 9, 3)), (51, (.aload_n 0, 1)), (52, (.aload_n 1, 1)), (53, (.aload_n 2, 1)), (54, (.invokevirtual 28, 3)), (57, (.return_, 1))] : List (Nat × (Jvm.ClassFile.Instr × Nat))).all (dcB cX3_arrangeAll) = true := by decide +kernel
theorem dX3_arrangeAll_0 : decode cX3_arrangeAll 0 = .ok (.iload_n 3, 1) := dget dkX3_arrangeAll_0 0 rfl
theorem dX3_arrangeAll_1 : decode cX3_arrangeAll 1 = .ok (.lookupswitch 50 #[(0, 27), (1, 41)], 27) := dget dkX3_arrangeAll_0 1 rfl
theorem dX3_arrangeAll_28 : decode cX3_arrangeAll 28 = .ok (.aload_n 0, 1) := dget dkX3_arrangeAll_0 2 rfl
theorem dX3_arrangeAll_29 : decode cX3_arrangeAll 29 = .ok (.aload_n 1, 1) := dget dkX3_arrangeAll_0 3 rfl
theorem dX3_arrangeAll_30 : decode cX3_arrangeAll 30 = .ok (.aload_n 2, 1) := dget dkX3_arrangeAll_0 4 rfl
theorem dX3_arrangeAll_31 : decode cX3_arrangeAll 31 = .ok (.iconst 0, 1) := dget dkX3_arrangeAll_0 5 rfl
theorem dX3_arrangeAll_32 : decode cX3_arrangeAll 32 = .ok (.aload_n 1, 1) := dget dkX3_arrangeAll_0 6 rfl
theorem dX3_arrangeAll_33 : decode cX3_arrangeAll 33 = .ok (.invokevirtual 16, 3) := dget dkX3_arrangeAll_0 7 rfl
theorem dX3_arrangeAll_36 : decode cX3_arrangeAll 36 = .ok (.invokevirtual 20, 3) := dget dkX3_arrangeAll_0 8 rfl
theorem dX3_arrangeAll_39 : decode cX3_arrangeAll 39 = .ok (.goto 18, 3) := dget dkX3_arrangeAll_0 9 rfl
theorem dX3_arrangeAll_42 : decode cX3_arrangeAll 42 = .ok (.aload_n 0, 1) := dget dkX3_arrangeAll_0 10 rfl
theorem dX3_arrangeAll_43 : decode cX3_arrangeAll 43 = .ok (.aload_n 1, 1) := dget dkX3_arrangeAll_0 11 rfl
theorem dX3_arrangeAll_44 : decode cX3_arrangeAll 44 = .ok (.aload_n 2, 1) := dget dkX3_arrangeAll_0 12 rfl
theorem dX3_arrangeAll_45 : decode cX3_arrangeAll 45 = .ok (.invokevirtual 24, 3) := dget dkX3_arrangeAll_0 13 rfl
theorem dX3_arrangeAll_48 : decode cX3_arrangeAll 48 = .ok (.goto 9, 3) := dget dkX3_arrangeAll_0 14 rfl
theorem dX3_arrangeAll_51 : decode cX3_arrangeAll 51 = .ok (.aload_n 0, 1) := dget dkX3_arrangeAll_0 15 rfl
theorem dX3_arrangeAll_52 : decode cX3_arrangeAll 52 = .ok (.aload_n 1, 1) := dget dkX3_arrangeAll_0 16 rfl
theorem dX3_arrangeAll_53 : decode cX3_arrangeAll 53 = .ok (.aload_n 2, 1) := dget dkX3_arrangeAll_0 17 rfl
theorem dX3_arrangeAll_54 : decode cX3_arrangeAll 54 = .ok (.invokevirtual 28, 3) := dget dkX3_arrangeAll_0 18 rfl
theorem dX3_arrangeAll_57 : decode cX3_arrangeAll 57 = .ok (.return_, 1) := dget dkX3_arrangeAll_0 19 rfl
theorem ggX3_insertEach_X2_valueOn : GoodIn wsX3_insertEach wsX2_valueOn := tgCall 89 e_X2_valueOn (by decide +kernel)
theorem gX3_insertEach_X2_valueOn : GoodIn wsX3_insertEach (wsV RX3 31 RX2 yX2_valueOn wsX2_valueOn) := goodIn_app (tgIn [86, 87, 88, 9] (by decide +kernel) rfl) ggX3_insertEach_X2_valueOn
theorem ggX3_insertEach_X1_compared : GoodIn wsX3_insertEach wsX1_compared := tgCall 93 e_X1_compared (by decide +kernel)
theorem gX3_insertEach_X1_compared : GoodIn wsX3_insertEach (wsV RX3 35 RX1 yX1_compared wsX1_compared) := goodIn_app (tgIn [90, 91, 92, 14] (by decide +kernel) rfl) ggX3_insertEach_X1_compared
theorem ggX3_insertEach_X2_exchange : GoodIn wsX3_insertEach wsX2_exchange := tgCall 97 e_X2_exchange (by decide +kernel)
theorem gX3_insertEach_X2_exchange : GoodIn wsX3_insertEach (wsV RX3 41 RX2 yX2_exchange wsX2_exchange) := goodIn_app (tgIn [94, 95, 96, 9] (by decide +kernel) rfl) ggX3_insertEach_X2_exchange
theorem dkX3_insertEach_0 : ([(0, (.iload_n 3, 1)), (1, (.iconst 1, 1)), (2, (.iadd, 1)), (3, (.istore 5, 2)), (5, (.iload 5, 2)), (7, (.iload 4, 2)), (9, (.if_icmp .ge 56, 3)), (12, (.iload 5, 2)), (14, (.istore 6, 2)), (16, (.iload 6, 2)), (18, (.iload_n 3, 1)), (19, (.if_icmp .le 40, 3)), (22, (.aload_n 2, 1)), (23, (.aload_n 1, 1)), (24, (.iload 6, 2)), (26, (.invokevirtual 31, 3)), (29, (.aload_n 1, 1)), (30, (.iload 6, 2)), (32, (.iconst 1, 1)), (33, (.isub, 1)), (34, (.invokevirtual 31, 3)), (37, (.invokevirtual 35, 3)), (40, (.ifCond .ge 19, 3)), (43, (.aload_n 1, 1)), (44, (.iload 6, 2)), (46, (.iload 6, 2)), (48, (.iconst 1, 1)), (49, (.isub, 1)), (50, (.invokevirtual 41, 3)), (53, (.iinc 6 (-1), 3)), (56, (.goto (-40), 3)), (59, (.iinc 5 1, 3)), (62, (.goto (-57), 3)), (65, (.return_, 1))] : List (Nat × (Jvm.ClassFile.Instr × Nat))).all (dcB cX3_insertEach) = true := by decide +kernel
theorem dX3_insertEach_0 : decode cX3_insertEach 0 = .ok (.iload_n 3, 1) := dget dkX3_insertEach_0 0 rfl
theorem dX3_insertEach_1 : decode cX3_insertEach 1 = .ok (.iconst 1, 1) := dget dkX3_insertEach_0 1 rfl
theorem dX3_insertEach_2 : decode cX3_insertEach 2 = .ok (.iadd, 1) := dget dkX3_insertEach_0 2 rfl
theorem dX3_insertEach_3 : decode cX3_insertEach 3 = .ok (.istore 5, 2) := dget dkX3_insertEach_0 3 rfl
theorem dX3_insertEach_5 : decode cX3_insertEach 5 = .ok (.iload 5, 2) := dget dkX3_insertEach_0 4 rfl
theorem dX3_insertEach_7 : decode cX3_insertEach 7 = .ok (.iload 4, 2) := dget dkX3_insertEach_0 5 rfl
theorem dX3_insertEach_9 : decode cX3_insertEach 9 = .ok (.if_icmp .ge 56, 3) := dget dkX3_insertEach_0 6 rfl
theorem dX3_insertEach_12 : decode cX3_insertEach 12 = .ok (.iload 5, 2) := dget dkX3_insertEach_0 7 rfl
theorem dX3_insertEach_14 : decode cX3_insertEach 14 = .ok (.istore 6, 2) := dget dkX3_insertEach_0 8 rfl
theorem dX3_insertEach_16 : decode cX3_insertEach 16 = .ok (.iload 6, 2) := dget dkX3_insertEach_0 9 rfl
theorem dX3_insertEach_18 : decode cX3_insertEach 18 = .ok (.iload_n 3, 1) := dget dkX3_insertEach_0 10 rfl
theorem dX3_insertEach_19 : decode cX3_insertEach 19 = .ok (.if_icmp .le 40, 3) := dget dkX3_insertEach_0 11 rfl
theorem dX3_insertEach_22 : decode cX3_insertEach 22 = .ok (.aload_n 2, 1) := dget dkX3_insertEach_0 12 rfl
theorem dX3_insertEach_23 : decode cX3_insertEach 23 = .ok (.aload_n 1, 1) := dget dkX3_insertEach_0 13 rfl
theorem dX3_insertEach_24 : decode cX3_insertEach 24 = .ok (.iload 6, 2) := dget dkX3_insertEach_0 14 rfl
theorem dX3_insertEach_26 : decode cX3_insertEach 26 = .ok (.invokevirtual 31, 3) := dget dkX3_insertEach_0 15 rfl
theorem dX3_insertEach_29 : decode cX3_insertEach 29 = .ok (.aload_n 1, 1) := dget dkX3_insertEach_0 16 rfl
theorem dX3_insertEach_30 : decode cX3_insertEach 30 = .ok (.iload 6, 2) := dget dkX3_insertEach_0 17 rfl
theorem dX3_insertEach_32 : decode cX3_insertEach 32 = .ok (.iconst 1, 1) := dget dkX3_insertEach_0 18 rfl
theorem dX3_insertEach_33 : decode cX3_insertEach 33 = .ok (.isub, 1) := dget dkX3_insertEach_0 19 rfl
theorem dX3_insertEach_34 : decode cX3_insertEach 34 = .ok (.invokevirtual 31, 3) := dget dkX3_insertEach_0 20 rfl
theorem dX3_insertEach_37 : decode cX3_insertEach 37 = .ok (.invokevirtual 35, 3) := dget dkX3_insertEach_0 21 rfl
theorem dX3_insertEach_40 : decode cX3_insertEach 40 = .ok (.ifCond .ge 19, 3) := dget dkX3_insertEach_0 22 rfl
theorem dX3_insertEach_43 : decode cX3_insertEach 43 = .ok (.aload_n 1, 1) := dget dkX3_insertEach_0 23 rfl
theorem dX3_insertEach_44 : decode cX3_insertEach 44 = .ok (.iload 6, 2) := dget dkX3_insertEach_0 24 rfl
theorem dX3_insertEach_46 : decode cX3_insertEach 46 = .ok (.iload 6, 2) := dget dkX3_insertEach_0 25 rfl
theorem dX3_insertEach_48 : decode cX3_insertEach 48 = .ok (.iconst 1, 1) := dget dkX3_insertEach_0 26 rfl
theorem dX3_insertEach_49 : decode cX3_insertEach 49 = .ok (.isub, 1) := dget dkX3_insertEach_0 27 rfl
theorem dX3_insertEach_50 : decode cX3_insertEach 50 = .ok (.invokevirtual 41, 3) := dget dkX3_insertEach_0 28 rfl
theorem dX3_insertEach_53 : decode cX3_insertEach 53 = .ok (.iinc 6 (-1), 3) := dget dkX3_insertEach_0 29 rfl
theorem dX3_insertEach_56 : decode cX3_insertEach 56 = .ok (.goto (-40), 3) := dget dkX3_insertEach_0 30 rfl
theorem dX3_insertEach_59 : decode cX3_insertEach 59 = .ok (.iinc 5 1, 3) := dget dkX3_insertEach_0 31 rfl
theorem dX3_insertEach_62 : decode cX3_insertEach 62 = .ok (.goto (-57), 3) := dget dkX3_insertEach_0 32 rfl
theorem dX3_insertEach_65 : decode cX3_insertEach 65 = .ok (.return_, 1) := dget dkX3_insertEach_0 33 rfl
theorem ggX3_mergeRuns_X2_length : GoodIn wsX3_mergeRuns wsX2_length := tgCall 118 e_X2_length (by decide +kernel)
theorem gX3_mergeRuns_X2_length : GoodIn wsX3_mergeRuns (wsV RX3 16 RX2 yX2_length wsX2_length) := goodIn_app (tgIn [154, 116, 117, 9] (by decide +kernel) rfl) ggX3_mergeRuns_X2_length
theorem ggX3_mergeRuns_X2_empty : GoodIn wsX3_mergeRuns wsX2_empty := tgCall 158 e_X2_empty (by decide +kernel)
theorem gX3_mergeRuns_X2_empty : GoodIn wsX3_mergeRuns (wsV RX3 45 RX2 yX2_empty wsX2_empty) := goodIn_app (tgIn [155, 156, 157, 9] (by decide +kernel) rfl) ggX3_mergeRuns_X2_empty
theorem ggX3_mergeRuns_X3_mergeTwo : GoodIn wsX3_mergeRuns wsX3_mergeTwo := tgCall 162 e_X3_mergeTwo (by decide +kernel)
theorem gX3_mergeRuns_X3_mergeTwo : GoodIn wsX3_mergeRuns (wsV RX3 53 RX3 yX3_mergeTwo wsX3_mergeTwo) := goodIn_app (tgIn [159, 160, 161, 5] (by decide +kernel) rfl) ggX3_mergeRuns_X3_mergeTwo
theorem ggX3_mergeRuns_X2_becomeCopyOf : GoodIn wsX3_mergeRuns wsX2_becomeCopyOf := tgCall 168 e_X2_becomeCopyOf (by decide +kernel)
theorem gX3_mergeRuns_X2_becomeCopyOf : GoodIn wsX3_mergeRuns (wsV RX3 57 RX2 yX2_becomeCopyOf wsX2_becomeCopyOf) := goodIn_app (tgIn [165, 166, 167, 9] (by decide +kernel) rfl) ggX3_mergeRuns_X2_becomeCopyOf
theorem dkX3_mergeRuns_0 : ([(0, (.aload_n 1, 1)), (1, (.invokevirtual 16, 3)), (4, (.istore_n 3, 1)), (5, (.iconst 1, 1)), (6, (.istore 4, 2)), (8, (.iload 4, 2)), (10, (.iload_n 3, 1)), (11, (.if_icmp .ge 78, 3)), (14, (.aload_n 0, 1)), (15, (.getfield 10, 3)), (18, (.invokevirtual 45, 3)), (21, (.iconst 0, 1)), (22, (.istore 5, 2)), (24, (.iload 5, 2)), (26, (.iload_n 3, 1)), (27, (.if_icmp .ge 45, 3)), (30, (.iload 5, 2)), (32, (.iload 4, 2)), (34, (.iadd, 1)), (35, (.iload_n 3, 1)), (36, (.invokestatic 48, 3)), (39, (.istore 6, 2)), (41, (.aload_n 0, 1)), (42, (.aload_n 1, 1)), (43, (.aload_n 2, 1)), (44, (.iload 5, 2)), (46, (.iload 6, 2)), (48, (.iload 6, 2)), (50, (.iload 4, 2)), (52, (.iadd, 1)), (53, (.iload_n 3, 1)), (54, (.invokestatic 48, 3)), (57, (.invokevirtual 53, 3)), (60, (.iload 5, 2)), (62, (.iconst 2, 1)), (63, (.iload 4, 2)), (65, (.imul, 1)), (66, (.iadd, 1)), (67, (.istore 5, 2)), (69, (.goto (-45), 3))] : List (Nat × (Jvm.ClassFile.Instr × Nat))).all (dcB cX3_mergeRuns) = true := by decide +kernel
theorem dX3_mergeRuns_0 : decode cX3_mergeRuns 0 = .ok (.aload_n 1, 1) := dget dkX3_mergeRuns_0 0 rfl
theorem dX3_mergeRuns_1 : decode cX3_mergeRuns 1 = .ok (.invokevirtual 16, 3) := dget dkX3_mergeRuns_0 1 rfl
theorem dX3_mergeRuns_4 : decode cX3_mergeRuns 4 = .ok (.istore_n 3, 1) := dget dkX3_mergeRuns_0 2 rfl
theorem dX3_mergeRuns_5 : decode cX3_mergeRuns 5 = .ok (.iconst 1, 1) := dget dkX3_mergeRuns_0 3 rfl
theorem dX3_mergeRuns_6 : decode cX3_mergeRuns 6 = .ok (.istore 4, 2) := dget dkX3_mergeRuns_0 4 rfl
theorem dX3_mergeRuns_8 : decode cX3_mergeRuns 8 = .ok (.iload 4, 2) := dget dkX3_mergeRuns_0 5 rfl
theorem dX3_mergeRuns_10 : decode cX3_mergeRuns 10 = .ok (.iload_n 3, 1) := dget dkX3_mergeRuns_0 6 rfl
theorem dX3_mergeRuns_11 : decode cX3_mergeRuns 11 = .ok (.if_icmp .ge 78, 3) := dget dkX3_mergeRuns_0 7 rfl
theorem dX3_mergeRuns_14 : decode cX3_mergeRuns 14 = .ok (.aload_n 0, 1) := dget dkX3_mergeRuns_0 8 rfl
theorem dX3_mergeRuns_15 : decode cX3_mergeRuns 15 = .ok (.getfield 10, 3) := dget dkX3_mergeRuns_0 9 rfl
theorem dX3_mergeRuns_18 : decode cX3_mergeRuns 18 = .ok (.invokevirtual 45, 3) := dget dkX3_mergeRuns_0 10 rfl
theorem dX3_mergeRuns_21 : decode cX3_mergeRuns 21 = .ok (.iconst 0, 1) := dget dkX3_mergeRuns_0 11 rfl
theorem dX3_mergeRuns_22 : decode cX3_mergeRuns 22 = .ok (.istore 5, 2) := dget dkX3_mergeRuns_0 12 rfl
theorem dX3_mergeRuns_24 : decode cX3_mergeRuns 24 = .ok (.iload 5, 2) := dget dkX3_mergeRuns_0 13 rfl
theorem dX3_mergeRuns_26 : decode cX3_mergeRuns 26 = .ok (.iload_n 3, 1) := dget dkX3_mergeRuns_0 14 rfl
theorem dX3_mergeRuns_27 : decode cX3_mergeRuns 27 = .ok (.if_icmp .ge 45, 3) := dget dkX3_mergeRuns_0 15 rfl
theorem dX3_mergeRuns_30 : decode cX3_mergeRuns 30 = .ok (.iload 5, 2) := dget dkX3_mergeRuns_0 16 rfl
theorem dX3_mergeRuns_32 : decode cX3_mergeRuns 32 = .ok (.iload 4, 2) := dget dkX3_mergeRuns_0 17 rfl
theorem dX3_mergeRuns_34 : decode cX3_mergeRuns 34 = .ok (.iadd, 1) := dget dkX3_mergeRuns_0 18 rfl
theorem dX3_mergeRuns_35 : decode cX3_mergeRuns 35 = .ok (.iload_n 3, 1) := dget dkX3_mergeRuns_0 19 rfl
theorem dX3_mergeRuns_36 : decode cX3_mergeRuns 36 = .ok (.invokestatic 48, 3) := dget dkX3_mergeRuns_0 20 rfl
theorem dX3_mergeRuns_39 : decode cX3_mergeRuns 39 = .ok (.istore 6, 2) := dget dkX3_mergeRuns_0 21 rfl
theorem dX3_mergeRuns_41 : decode cX3_mergeRuns 41 = .ok (.aload_n 0, 1) := dget dkX3_mergeRuns_0 22 rfl
theorem dX3_mergeRuns_42 : decode cX3_mergeRuns 42 = .ok (.aload_n 1, 1) := dget dkX3_mergeRuns_0 23 rfl
theorem dX3_mergeRuns_43 : decode cX3_mergeRuns 43 = .ok (.aload_n 2, 1) := dget dkX3_mergeRuns_0 24 rfl
theorem dX3_mergeRuns_44 : decode cX3_mergeRuns 44 = .ok (.iload 5, 2) := dget dkX3_mergeRuns_0 25 rfl
theorem dX3_mergeRuns_46 : decode cX3_mergeRuns 46 = .ok (.iload 6, 2) := dget dkX3_mergeRuns_0 26 rfl
theorem dX3_mergeRuns_48 : decode cX3_mergeRuns 48 = .ok (.iload 6, 2) := dget dkX3_mergeRuns_0 27 rfl
theorem dX3_mergeRuns_50 : decode cX3_mergeRuns 50 = .ok (.iload 4, 2) := dget dkX3_mergeRuns_0 28 rfl
theorem dX3_mergeRuns_52 : decode cX3_mergeRuns 52 = .ok (.iadd, 1) := dget dkX3_mergeRuns_0 29 rfl
theorem dX3_mergeRuns_53 : decode cX3_mergeRuns 53 = .ok (.iload_n 3, 1) := dget dkX3_mergeRuns_0 30 rfl
theorem dX3_mergeRuns_54 : decode cX3_mergeRuns 54 = .ok (.invokestatic 48, 3) := dget dkX3_mergeRuns_0 31 rfl
theorem dX3_mergeRuns_57 : decode cX3_mergeRuns 57 = .ok (.invokevirtual 53, 3) := dget dkX3_mergeRuns_0 32 rfl
theorem dX3_mergeRuns_60 : decode cX3_mergeRuns 60 = .ok (.iload 5, 2) := dget dkX3_mergeRuns_0 33 rfl
theorem dX3_mergeRuns_62 : decode cX3_mergeRuns 62 = .ok (.iconst 2, 1) := dget dkX3_mergeRuns_0 34 rfl
theorem dX3_mergeRuns_63 : decode cX3_mergeRuns 63 = .ok (.iload 4, 2) := dget dkX3_mergeRuns_0 35 rfl
theorem dX3_mergeRuns_65 : decode cX3_mergeRuns 65 = .ok (.imul, 1) := dget dkX3_mergeRuns_0 36 rfl
theorem dX3_mergeRuns_66 : decode cX3_mergeRuns 66 = .ok (.iadd, 1) := dget dkX3_mergeRuns_0 37 rfl
theorem dX3_mergeRuns_67 : decode cX3_mergeRuns 67 = .ok (.istore 5, 2) := dget dkX3_mergeRuns_0 38 rfl
theorem dX3_mergeRuns_69 : decode cX3_mergeRuns 69 = .ok (.goto (-45), 3) := dget dkX3_mergeRuns_0 39 rfl
theorem dkX3_mergeRuns_1 : ([(72, (.aload_n 1, 1)), (73, (.aload_n 0, 1)), (74, (.getfield 10, 3)), (77, (.invokevirtual 57, 3)), (80, (.iload 4, 2)), (82, (.iconst 2, 1)), (83, (.imul, 1)), (84, (.istore 4, 2)), (86, (.goto (-78), 3)), (89, (.return_, 1))] : List (Nat × (Jvm.ClassFile.Instr × Nat))).all (dcB cX3_mergeRuns) = true := by decide +kernel
theorem dX3_mergeRuns_72 : decode cX3_mergeRuns 72 = .ok (.aload_n 1, 1) := dget dkX3_mergeRuns_1 0 rfl
theorem dX3_mergeRuns_73 : decode cX3_mergeRuns 73 = .ok (.aload_n 0, 1) := dget dkX3_mergeRuns_1 1 rfl
theorem dX3_mergeRuns_74 : decode cX3_mergeRuns 74 = .ok (.getfield 10, 3) := dget dkX3_mergeRuns_1 2 rfl
theorem dX3_mergeRuns_77 : decode cX3_mergeRuns 77 = .ok (.invokevirtual 57, 3) := dget dkX3_mergeRuns_1 3 rfl
theorem dX3_mergeRuns_80 : decode cX3_mergeRuns 80 = .ok (.iload 4, 2) := dget dkX3_mergeRuns_1 4 rfl
theorem dX3_mergeRuns_82 : decode cX3_mergeRuns 82 = .ok (.iconst 2, 1) := dget dkX3_mergeRuns_1 5 rfl
theorem dX3_mergeRuns_83 : decode cX3_mergeRuns 83 = .ok (.imul, 1) := dget dkX3_mergeRuns_1 6 rfl
theorem dX3_mergeRuns_84 : decode cX3_mergeRuns 84 = .ok (.istore 4, 2) := dget dkX3_mergeRuns_1 7 rfl
theorem dX3_mergeRuns_86 : decode cX3_mergeRuns 86 = .ok (.goto (-78), 3) := dget dkX3_mergeRuns_1 8 rfl
theorem dX3_mergeRuns_89 : decode cX3_mergeRuns 89 = .ok (.return_, 1) := dget dkX3_mergeRuns_1 9 rfl
theorem ggX3_mergeTwo_X2_valueOn : GoodIn wsX3_mergeTwo wsX2_valueOn := tgCall 89 e_X2_valueOn (by decide +kernel)
theorem gX3_mergeTwo_X2_valueOn : GoodIn wsX3_mergeTwo (wsV RX3 31 RX2 yX2_valueOn wsX2_valueOn) := goodIn_app (tgIn [86, 87, 88, 9] (by decide +kernel) rfl) ggX3_mergeTwo_X2_valueOn
theorem ggX3_mergeTwo_X1_compared : GoodIn wsX3_mergeTwo wsX1_compared := tgCall 93 e_X1_compared (by decide +kernel)
theorem gX3_mergeTwo_X1_compared : GoodIn wsX3_mergeTwo (wsV RX3 35 RX1 yX1_compared wsX1_compared) := goodIn_app (tgIn [90, 91, 92, 14] (by decide +kernel) rfl) ggX3_mergeTwo_X1_compared
theorem ggX3_mergeTwo_X2_markOn : GoodIn wsX3_mergeTwo wsX2_markOn := tgCall 102 e_X2_markOn (by decide +kernel)
theorem gX3_mergeTwo_X2_markOn : GoodIn wsX3_mergeTwo (wsV RX3 61 RX2 yX2_markOn wsX2_markOn) := goodIn_app (tgIn [163, 100, 101, 9] (by decide +kernel) rfl) ggX3_mergeTwo_X2_markOn
theorem ggX3_mergeTwo_X2_append : GoodIn wsX3_mergeTwo wsX2_append := tgCall 114 e_X2_append (by decide +kernel)
theorem gX3_mergeTwo_X2_append : GoodIn wsX3_mergeTwo (wsV RX3 64 RX2 yX2_append wsX2_append) := goodIn_app (tgIn [164, 112, 113, 9] (by decide +kernel) rfl) ggX3_mergeTwo_X2_append
theorem dkX3_mergeTwo_0 : ([(0, (.iload_n 3, 1)), (1, (.istore 6, 2)), (3, (.iload 4, 2)), (5, (.istore 7, 2)), (7, (.iload_n 3, 1)), (8, (.istore 8, 2)), (10, (.iload 8, 2)), (12, (.iload 5, 2)), (14, (.if_icmp .ge 96, 3)), (17, (.iload 6, 2)), (19, (.iload 4, 2)), (21, (.if_icmp .ge 29, 3)), (24, (.iload 7, 2)), (26, (.iload 5, 2)), (28, (.if_icmp .ge 26, 3)), (31, (.aload_n 2, 1)), (32, (.aload_n 1, 1)), (33, (.iload 7, 2)), (35, (.invokevirtual 31, 3)), (38, (.aload_n 1, 1)), (39, (.iload 6, 2)), (41, (.invokevirtual 31, 3)), (44, (.invokevirtual 35, 3)), (47, (.ifCond .ge 7, 3)), (50, (.iconst 1, 1)), (51, (.goto 4, 3)), (54, (.iconst 0, 1)), (55, (.istore 9, 2)), (57, (.iload 9, 2)), (59, (.ifCond .eq 8, 3)), (62, (.iload 7, 2)), (64, (.goto 5, 3)), (67, (.iload 6, 2)), (69, (.istore 10, 2)), (71, (.aload_n 0, 1)), (72, (.getfield 10, 3)), (75, (.aload_n 1, 1)), (76, (.iload 10, 2)), (78, (.invokevirtual 31, 3)), (81, (.aload_n 1, 1))] : List (Nat × (Jvm.ClassFile.Instr × Nat))).all (dcB cX3_mergeTwo) = true := by decide +kernel
theorem dX3_mergeTwo_0 : decode cX3_mergeTwo 0 = .ok (.iload_n 3, 1) := dget dkX3_mergeTwo_0 0 rfl
theorem dX3_mergeTwo_1 : decode cX3_mergeTwo 1 = .ok (.istore 6, 2) := dget dkX3_mergeTwo_0 1 rfl
theorem dX3_mergeTwo_3 : decode cX3_mergeTwo 3 = .ok (.iload 4, 2) := dget dkX3_mergeTwo_0 2 rfl
theorem dX3_mergeTwo_5 : decode cX3_mergeTwo 5 = .ok (.istore 7, 2) := dget dkX3_mergeTwo_0 3 rfl
theorem dX3_mergeTwo_7 : decode cX3_mergeTwo 7 = .ok (.iload_n 3, 1) := dget dkX3_mergeTwo_0 4 rfl
theorem dX3_mergeTwo_8 : decode cX3_mergeTwo 8 = .ok (.istore 8, 2) := dget dkX3_mergeTwo_0 5 rfl
theorem dX3_mergeTwo_10 : decode cX3_mergeTwo 10 = .ok (.iload 8, 2) := dget dkX3_mergeTwo_0 6 rfl
theorem dX3_mergeTwo_12 : decode cX3_mergeTwo 12 = .ok (.iload 5, 2) := dget dkX3_mergeTwo_0 7 rfl
theorem dX3_mergeTwo_14 : decode cX3_mergeTwo 14 = .ok (.if_icmp .ge 96, 3) := dget dkX3_mergeTwo_0 8 rfl
theorem dX3_mergeTwo_17 : decode cX3_mergeTwo 17 = .ok (.iload 6, 2) := dget dkX3_mergeTwo_0 9 rfl
theorem dX3_mergeTwo_19 : decode cX3_mergeTwo 19 = .ok (.iload 4, 2) := dget dkX3_mergeTwo_0 10 rfl
theorem dX3_mergeTwo_21 : decode cX3_mergeTwo 21 = .ok (.if_icmp .ge 29, 3) := dget dkX3_mergeTwo_0 11 rfl
theorem dX3_mergeTwo_24 : decode cX3_mergeTwo 24 = .ok (.iload 7, 2) := dget dkX3_mergeTwo_0 12 rfl
theorem dX3_mergeTwo_26 : decode cX3_mergeTwo 26 = .ok (.iload 5, 2) := dget dkX3_mergeTwo_0 13 rfl
theorem dX3_mergeTwo_28 : decode cX3_mergeTwo 28 = .ok (.if_icmp .ge 26, 3) := dget dkX3_mergeTwo_0 14 rfl
theorem dX3_mergeTwo_31 : decode cX3_mergeTwo 31 = .ok (.aload_n 2, 1) := dget dkX3_mergeTwo_0 15 rfl
theorem dX3_mergeTwo_32 : decode cX3_mergeTwo 32 = .ok (.aload_n 1, 1) := dget dkX3_mergeTwo_0 16 rfl
theorem dX3_mergeTwo_33 : decode cX3_mergeTwo 33 = .ok (.iload 7, 2) := dget dkX3_mergeTwo_0 17 rfl
theorem dX3_mergeTwo_35 : decode cX3_mergeTwo 35 = .ok (.invokevirtual 31, 3) := dget dkX3_mergeTwo_0 18 rfl
theorem dX3_mergeTwo_38 : decode cX3_mergeTwo 38 = .ok (.aload_n 1, 1) := dget dkX3_mergeTwo_0 19 rfl
theorem dX3_mergeTwo_39 : decode cX3_mergeTwo 39 = .ok (.iload 6, 2) := dget dkX3_mergeTwo_0 20 rfl
theorem dX3_mergeTwo_41 : decode cX3_mergeTwo 41 = .ok (.invokevirtual 31, 3) := dget dkX3_mergeTwo_0 21 rfl
theorem dX3_mergeTwo_44 : decode cX3_mergeTwo 44 = .ok (.invokevirtual 35, 3) := dget dkX3_mergeTwo_0 22 rfl
theorem dX3_mergeTwo_47 : decode cX3_mergeTwo 47 = .ok (.ifCond .ge 7, 3) := dget dkX3_mergeTwo_0 23 rfl
theorem dX3_mergeTwo_50 : decode cX3_mergeTwo 50 = .ok (.iconst 1, 1) := dget dkX3_mergeTwo_0 24 rfl
theorem dX3_mergeTwo_51 : decode cX3_mergeTwo 51 = .ok (.goto 4, 3) := dget dkX3_mergeTwo_0 25 rfl
theorem dX3_mergeTwo_54 : decode cX3_mergeTwo 54 = .ok (.iconst 0, 1) := dget dkX3_mergeTwo_0 26 rfl
theorem dX3_mergeTwo_55 : decode cX3_mergeTwo 55 = .ok (.istore 9, 2) := dget dkX3_mergeTwo_0 27 rfl
theorem dX3_mergeTwo_57 : decode cX3_mergeTwo 57 = .ok (.iload 9, 2) := dget dkX3_mergeTwo_0 28 rfl
theorem dX3_mergeTwo_59 : decode cX3_mergeTwo 59 = .ok (.ifCond .eq 8, 3) := dget dkX3_mergeTwo_0 29 rfl
theorem dX3_mergeTwo_62 : decode cX3_mergeTwo 62 = .ok (.iload 7, 2) := dget dkX3_mergeTwo_0 30 rfl
theorem dX3_mergeTwo_64 : decode cX3_mergeTwo 64 = .ok (.goto 5, 3) := dget dkX3_mergeTwo_0 31 rfl
theorem dX3_mergeTwo_67 : decode cX3_mergeTwo 67 = .ok (.iload 6, 2) := dget dkX3_mergeTwo_0 32 rfl
theorem dX3_mergeTwo_69 : decode cX3_mergeTwo 69 = .ok (.istore 10, 2) := dget dkX3_mergeTwo_0 33 rfl
theorem dX3_mergeTwo_71 : decode cX3_mergeTwo 71 = .ok (.aload_n 0, 1) := dget dkX3_mergeTwo_0 34 rfl
theorem dX3_mergeTwo_72 : decode cX3_mergeTwo 72 = .ok (.getfield 10, 3) := dget dkX3_mergeTwo_0 35 rfl
theorem dX3_mergeTwo_75 : decode cX3_mergeTwo 75 = .ok (.aload_n 1, 1) := dget dkX3_mergeTwo_0 36 rfl
theorem dX3_mergeTwo_76 : decode cX3_mergeTwo 76 = .ok (.iload 10, 2) := dget dkX3_mergeTwo_0 37 rfl
theorem dX3_mergeTwo_78 : decode cX3_mergeTwo 78 = .ok (.invokevirtual 31, 3) := dget dkX3_mergeTwo_0 38 rfl
theorem dX3_mergeTwo_81 : decode cX3_mergeTwo 81 = .ok (.aload_n 1, 1) := dget dkX3_mergeTwo_0 39 rfl
theorem dkX3_mergeTwo_1 : ([(82, (.iload 10, 2)), (84, (.invokevirtual 61, 3)), (87, (.invokevirtual 64, 3)), (90, (.iload 9, 2)), (92, (.ifCond .eq 9, 3)), (95, (.iinc 7 1, 3)), (98, (.goto 6, 3)), (101, (.iinc 6 1, 3)), (104, (.iinc 8 1, 3)), (107, (.goto (-97), 3)), (110, (.return_, 1))] : List (Nat × (Jvm.ClassFile.Instr × Nat))).all (dcB cX3_mergeTwo) = true := by decide +kernel
theorem dX3_mergeTwo_82 : decode cX3_mergeTwo 82 = .ok (.iload 10, 2) := dget dkX3_mergeTwo_1 0 rfl
theorem dX3_mergeTwo_84 : decode cX3_mergeTwo 84 = .ok (.invokevirtual 61, 3) := dget dkX3_mergeTwo_1 1 rfl
theorem dX3_mergeTwo_87 : decode cX3_mergeTwo 87 = .ok (.invokevirtual 64, 3) := dget dkX3_mergeTwo_1 2 rfl
theorem dX3_mergeTwo_90 : decode cX3_mergeTwo 90 = .ok (.iload 9, 2) := dget dkX3_mergeTwo_1 3 rfl
theorem dX3_mergeTwo_92 : decode cX3_mergeTwo 92 = .ok (.ifCond .eq 9, 3) := dget dkX3_mergeTwo_1 4 rfl
theorem dX3_mergeTwo_95 : decode cX3_mergeTwo 95 = .ok (.iinc 7 1, 3) := dget dkX3_mergeTwo_1 5 rfl
theorem dX3_mergeTwo_98 : decode cX3_mergeTwo 98 = .ok (.goto 6, 3) := dget dkX3_mergeTwo_1 6 rfl
theorem dX3_mergeTwo_101 : decode cX3_mergeTwo 101 = .ok (.iinc 6 1, 3) := dget dkX3_mergeTwo_1 7 rfl
theorem dX3_mergeTwo_104 : decode cX3_mergeTwo 104 = .ok (.iinc 8 1, 3) := dget dkX3_mergeTwo_1 8 rfl
theorem dX3_mergeTwo_107 : decode cX3_mergeTwo 107 = .ok (.goto (-97), 3) := dget dkX3_mergeTwo_1 9 rfl
theorem dX3_mergeTwo_110 : decode cX3_mergeTwo 110 = .ok (.return_, 1) := dget dkX3_mergeTwo_1 10 rfl
theorem ggX3_gatherByRank_X2_empty : GoodIn wsX3_gatherByRank wsX2_empty := tgCall 158 e_X2_empty (by decide +kernel)
theorem gX3_gatherByRank_X2_empty : GoodIn wsX3_gatherByRank (wsV RX3 45 RX2 yX2_empty wsX2_empty) := goodIn_app (tgIn [155, 156, 157, 9] (by decide +kernel) rfl) ggX3_gatherByRank_X2_empty
theorem ggX3_gatherByRank_X1_classCount : GoodIn wsX3_gatherByRank wsX1_classCount := tgCall 149 e_X1_classCount (by decide +kernel)
theorem gX3_gatherByRank_X1_classCount : GoodIn wsX3_gatherByRank (wsV RX3 67 RX1 yX1_classCount wsX1_classCount) := goodIn_app (tgIn [170, 147, 148, 14] (by decide +kernel) rfl) ggX3_gatherByRank_X1_classCount
theorem ggX3_gatherByRank_X2_length : GoodIn wsX3_gatherByRank wsX2_length := tgCall 118 e_X2_length (by decide +kernel)
theorem gX3_gatherByRank_X2_length : GoodIn wsX3_gatherByRank (wsV RX3 16 RX2 yX2_length wsX2_length) := goodIn_app (tgIn [154, 116, 117, 9] (by decide +kernel) rfl) ggX3_gatherByRank_X2_length
theorem ggX3_gatherByRank_X2_valueOn : GoodIn wsX3_gatherByRank wsX2_valueOn := tgCall 89 e_X2_valueOn (by decide +kernel)
theorem gX3_gatherByRank_X2_valueOn : GoodIn wsX3_gatherByRank (wsV RX3 31 RX2 yX2_valueOn wsX2_valueOn) := goodIn_app (tgIn [86, 87, 88, 9] (by decide +kernel) rfl) ggX3_gatherByRank_X2_valueOn
theorem ggX3_gatherByRank_X1_rankOf : GoodIn wsX3_gatherByRank wsX1_rankOf := tgCall 174 e_X1_rankOf (by decide +kernel)
theorem gX3_gatherByRank_X1_rankOf : GoodIn wsX3_gatherByRank (wsV RX3 70 RX1 yX1_rankOf wsX1_rankOf) := goodIn_app (tgIn [171, 172, 173, 14] (by decide +kernel) rfl) ggX3_gatherByRank_X1_rankOf
theorem ggX3_gatherByRank_X2_markOn : GoodIn wsX3_gatherByRank wsX2_markOn := tgCall 102 e_X2_markOn (by decide +kernel)
theorem gX3_gatherByRank_X2_markOn : GoodIn wsX3_gatherByRank (wsV RX3 61 RX2 yX2_markOn wsX2_markOn) := goodIn_app (tgIn [163, 100, 101, 9] (by decide +kernel) rfl) ggX3_gatherByRank_X2_markOn
theorem ggX3_gatherByRank_X2_append : GoodIn wsX3_gatherByRank wsX2_append := tgCall 114 e_X2_append (by decide +kernel)
theorem gX3_gatherByRank_X2_append : GoodIn wsX3_gatherByRank (wsV RX3 64 RX2 yX2_append wsX2_append) := goodIn_app (tgIn [164, 112, 113, 9] (by decide +kernel) rfl) ggX3_gatherByRank_X2_append
theorem ggX3_gatherByRank_X2_becomeCopyOf : GoodIn wsX3_gatherByRank wsX2_becomeCopyOf := tgCall 168 e_X2_becomeCopyOf (by decide +kernel)
theorem gX3_gatherByRank_X2_becomeCopyOf : GoodIn wsX3_gatherByRank (wsV RX3 57 RX2 yX2_becomeCopyOf wsX2_becomeCopyOf) := goodIn_app (tgIn [165, 166, 167, 9] (by decide +kernel) rfl) ggX3_gatherByRank_X2_becomeCopyOf
theorem dkX3_gatherByRank_0 : ([(0, (.aload_n 0, 1)), (1, (.getfield 10, 3)), (4, (.invokevirtual 45, 3)), (7, (.iconst 0, 1)), (8, (.istore_n 3, 1)), (9, (.iload_n 3, 1)), (10, (.aload_n 2, 1)), (11, (.invokevirtual 67, 3)), (14, (.if_icmp .ge 60, 3)), (17, (.iconst 0, 1)), (18, (.istore 4, 2)), (20, (.iload 4, 2)), (22, (.aload_n 1, 1)), (23, (.invokevirtual 16, 3)), (26, (.if_icmp .ge 42, 3)), (29, (.aload_n 2, 1)), (30, (.aload_n 1, 1)), (31, (.iload 4, 2)), (33, (.invokevirtual 31, 3)), (36, (.invokevirtual 70, 3)), (39, (.iload_n 3, 1)), (40, (.if_icmp .ne 22, 3)), (43, (.aload_n 0, 1)), (44, (.getfield 10, 3)), (47, (.aload_n 1, 1)), (48, (.iload 4, 2)), (50, (.invokevirtual 31, 3)), (53, (.aload_n 1, 1)), (54, (.iload 4, 2)), (56, (.invokevirtual 61, 3)), (59, (.invokevirtual 64, 3)), (62, (.iinc 4 1, 3)), (65, (.goto (-45), 3)), (68, (.iinc 3 1, 3)), (71, (.goto (-62), 3)), (74, (.aload_n 1, 1)), (75, (.aload_n 0, 1)), (76, (.getfield 10, 3)), (79, (.invokevirtual 57, 3)), (82, (.return_, 1))] : List (Nat × (Jvm.ClassFile.Instr × Nat))).all (dcB cX3_gatherByRank) = true := by decide +kernel
theorem dX3_gatherByRank_0 : decode cX3_gatherByRank 0 = .ok (.aload_n 0, 1) := dget dkX3_gatherByRank_0 0 rfl
theorem dX3_gatherByRank_1 : decode cX3_gatherByRank 1 = .ok (.getfield 10, 3) := dget dkX3_gatherByRank_0 1 rfl
theorem dX3_gatherByRank_4 : decode cX3_gatherByRank 4 = .ok (.invokevirtual 45, 3) := dget dkX3_gatherByRank_0 2 rfl
theorem dX3_gatherByRank_7 : decode cX3_gatherByRank 7 = .ok (.iconst 0, 1) := dget dkX3_gatherByRank_0 3 rfl
theorem dX3_gatherByRank_8 : decode cX3_gatherByRank 8 = .ok (.istore_n 3, 1) := dget dkX3_gatherByRank_0 4 rfl
theorem dX3_gatherByRank_9 : decode cX3_gatherByRank 9 = .ok (.iload_n 3, 1) := dget dkX3_gatherByRank_0 5 rfl
theorem dX3_gatherByRank_10 : decode cX3_gatherByRank 10 = .ok (.aload_n 2, 1) := dget dkX3_gatherByRank_0 6 rfl
theorem dX3_gatherByRank_11 : decode cX3_gatherByRank 11 = .ok (.invokevirtual 67, 3) := dget dkX3_gatherByRank_0 7 rfl
theorem dX3_gatherByRank_14 : decode cX3_gatherByRank 14 = .ok (.if_icmp .ge 60, 3) := dget dkX3_gatherByRank_0 8 rfl
theorem dX3_gatherByRank_17 : decode cX3_gatherByRank 17 = .ok (.iconst 0, 1) := dget dkX3_gatherByRank_0 9 rfl
theorem dX3_gatherByRank_18 : decode cX3_gatherByRank 18 = .ok (.istore 4, 2) := dget dkX3_gatherByRank_0 10 rfl
theorem dX3_gatherByRank_20 : decode cX3_gatherByRank 20 = .ok (.iload 4, 2) := dget dkX3_gatherByRank_0 11 rfl
theorem dX3_gatherByRank_22 : decode cX3_gatherByRank 22 = .ok (.aload_n 1, 1) := dget dkX3_gatherByRank_0 12 rfl
theorem dX3_gatherByRank_23 : decode cX3_gatherByRank 23 = .ok (.invokevirtual 16, 3) := dget dkX3_gatherByRank_0 13 rfl
theorem dX3_gatherByRank_26 : decode cX3_gatherByRank 26 = .ok (.if_icmp .ge 42, 3) := dget dkX3_gatherByRank_0 14 rfl
theorem dX3_gatherByRank_29 : decode cX3_gatherByRank 29 = .ok (.aload_n 2, 1) := dget dkX3_gatherByRank_0 15 rfl
theorem dX3_gatherByRank_30 : decode cX3_gatherByRank 30 = .ok (.aload_n 1, 1) := dget dkX3_gatherByRank_0 16 rfl
theorem dX3_gatherByRank_31 : decode cX3_gatherByRank 31 = .ok (.iload 4, 2) := dget dkX3_gatherByRank_0 17 rfl
theorem dX3_gatherByRank_33 : decode cX3_gatherByRank 33 = .ok (.invokevirtual 31, 3) := dget dkX3_gatherByRank_0 18 rfl
theorem dX3_gatherByRank_36 : decode cX3_gatherByRank 36 = .ok (.invokevirtual 70, 3) := dget dkX3_gatherByRank_0 19 rfl
theorem dX3_gatherByRank_39 : decode cX3_gatherByRank 39 = .ok (.iload_n 3, 1) := dget dkX3_gatherByRank_0 20 rfl
theorem dX3_gatherByRank_40 : decode cX3_gatherByRank 40 = .ok (.if_icmp .ne 22, 3) := dget dkX3_gatherByRank_0 21 rfl
theorem dX3_gatherByRank_43 : decode cX3_gatherByRank 43 = .ok (.aload_n 0, 1) := dget dkX3_gatherByRank_0 22 rfl
theorem dX3_gatherByRank_44 : decode cX3_gatherByRank 44 = .ok (.getfield 10, 3) := dget dkX3_gatherByRank_0 23 rfl
theorem dX3_gatherByRank_47 : decode cX3_gatherByRank 47 = .ok (.aload_n 1, 1) := dget dkX3_gatherByRank_0 24 rfl
theorem dX3_gatherByRank_48 : decode cX3_gatherByRank 48 = .ok (.iload 4, 2) := dget dkX3_gatherByRank_0 25 rfl
theorem dX3_gatherByRank_50 : decode cX3_gatherByRank 50 = .ok (.invokevirtual 31, 3) := dget dkX3_gatherByRank_0 26 rfl
theorem dX3_gatherByRank_53 : decode cX3_gatherByRank 53 = .ok (.aload_n 1, 1) := dget dkX3_gatherByRank_0 27 rfl
theorem dX3_gatherByRank_54 : decode cX3_gatherByRank 54 = .ok (.iload 4, 2) := dget dkX3_gatherByRank_0 28 rfl
theorem dX3_gatherByRank_56 : decode cX3_gatherByRank 56 = .ok (.invokevirtual 61, 3) := dget dkX3_gatherByRank_0 29 rfl
theorem dX3_gatherByRank_59 : decode cX3_gatherByRank 59 = .ok (.invokevirtual 64, 3) := dget dkX3_gatherByRank_0 30 rfl
theorem dX3_gatherByRank_62 : decode cX3_gatherByRank 62 = .ok (.iinc 4 1, 3) := dget dkX3_gatherByRank_0 31 rfl
theorem dX3_gatherByRank_65 : decode cX3_gatherByRank 65 = .ok (.goto (-45), 3) := dget dkX3_gatherByRank_0 32 rfl
theorem dX3_gatherByRank_68 : decode cX3_gatherByRank 68 = .ok (.iinc 3 1, 3) := dget dkX3_gatherByRank_0 33 rfl
theorem dX3_gatherByRank_71 : decode cX3_gatherByRank 71 = .ok (.goto (-62), 3) := dget dkX3_gatherByRank_0 34 rfl
theorem dX3_gatherByRank_74 : decode cX3_gatherByRank 74 = .ok (.aload_n 1, 1) := dget dkX3_gatherByRank_0 35 rfl
theorem dX3_gatherByRank_75 : decode cX3_gatherByRank 75 = .ok (.aload_n 0, 1) := dget dkX3_gatherByRank_0 36 rfl
theorem dX3_gatherByRank_76 : decode cX3_gatherByRank 76 = .ok (.getfield 10, 3) := dget dkX3_gatherByRank_0 37 rfl
theorem dX3_gatherByRank_79 : decode cX3_gatherByRank 79 = .ok (.invokevirtual 57, 3) := dget dkX3_gatherByRank_0 38 rfl
theorem dX3_gatherByRank_82 : decode cX3_gatherByRank 82 = .ok (.return_, 1) := dget dkX3_gatherByRank_0 39 rfl
theorem ggX4_init_X3_init : GoodIn wsX4_init wsX3_init := tgCall 17 e_X3_init (by decide +kernel)
theorem gX4_init_X3_init_n23 : GoodIn wsX4_init (wsX3_init) := ggX4_init_X3_init
theorem ggX4_init_X0_init : GoodIn wsX4_init wsX0_init := tgCall 459 e_X0_init (by decide +kernel)
theorem gX4_init_X0_init_n30 : GoodIn wsX4_init (wsX0_init) := ggX4_init_X0_init
theorem ggX4_init_X2_init : GoodIn wsX4_init wsX2_init := tgCall 22 e_X2_init (by decide +kernel)
theorem gX4_init_X2_init_n35 : GoodIn wsX4_init (wsX2_init) := ggX4_init_X2_init
theorem ggX4_init_X1_init : GoodIn wsX4_init wsX1_init := tgCall 29 e_X1_init (by decide +kernel)
theorem gX4_init_X1_init_n40 : GoodIn wsX4_init (wsX1_init) := ggX4_init_X1_init
def dvX4_init_0 : List UInt8 := [42, 183, 0, 1, 42, 6, 189, 0, 9, 181, 0, 11, 42, 7, 189, 0, 15, 181, 0, 17, 42, 187, 0, 21, 89, 183, 0, 23, 181, 0, 24, 42, 187, 0, 28, 89, 183, 0, 30, 181, 0, 31, 42, 187, 0, 9, 89, 183, 0, 35, 181, 0, 36, 42, 187, 0, 15, 89, 183, 0, 40, 181, 0, 41, 42, 3]
theorem dwX4_init_0 : (cX4_init.data.toList.drop 0).take dvX4_init_0.length = dvX4_init_0 := by decide +kernel
theorem dkX4_init_0 : ([(0, (.aload_n 0, 1)), (1, (.invokespecial 1, 3)), (4, (.aload_n 0, 1)), (5, (.iconst 3, 1)), (6, (.anewarray 9, 3)), (9, (.putfield 11, 3)), (12, (.aload_n 0, 1)), (13, (.iconst 4, 1)), (14, (.anewarray 15, 3)), (17, (.putfield 17, 3)), (20, (.aload_n 0, 1)), (21, (.new 21, 3)), (24, (.dup, 1)), (25, (.invokespecial 23, 3)), (28, (.putfield 24, 3)), (31, (.aload_n 0, 1)), (32, (.new 28, 3)), (35, (.dup, 1)), (36, (.invokespecial 30, 3)), (39, (.putfield 31, 3)), (42, (.aload_n 0, 1)), (43, (.new 9, 3)), (46, (.dup, 1)), (47, (.invokespecial 35, 3)), (50, (.putfield 36, 3)), (53, (.aload_n 0, 1)), (54, (.new 15, 3)), (57, (.dup, 1)), (58, (.invokespecial 40, 3)), (61, (.putfield 41, 3)), (64, (.aload_n 0, 1)), (65, (.iconst 0, 1))] : List (Nat × (Jvm.ClassFile.Instr × Nat))).all (wnL dvX4_init_0 0) = true := by decide +kernel
theorem dX4_init_0 : decode cX4_init 0 = .ok (.aload_n 0, 1) := wnGet dwX4_init_0 dkX4_init_0 0 rfl
theorem dX4_init_1 : decode cX4_init 1 = .ok (.invokespecial 1, 3) := wnGet dwX4_init_0 dkX4_init_0 1 rfl
theorem dX4_init_4 : decode cX4_init 4 = .ok (.aload_n 0, 1) := wnGet dwX4_init_0 dkX4_init_0 2 rfl
theorem dX4_init_5 : decode cX4_init 5 = .ok (.iconst 3, 1) := wnGet dwX4_init_0 dkX4_init_0 3 rfl
theorem dX4_init_6 : decode cX4_init 6 = .ok (.anewarray 9, 3) := wnGet dwX4_init_0 dkX4_init_0 4 rfl
theorem dX4_init_9 : decode cX4_init 9 = .ok (.putfield 11, 3) := wnGet dwX4_init_0 dkX4_init_0 5 rfl
theorem dX4_init_12 : decode cX4_init 12 = .ok (.aload_n 0, 1) := wnGet dwX4_init_0 dkX4_init_0 6 rfl
theorem dX4_init_13 : decode cX4_init 13 = .ok (.iconst 4, 1) := wnGet dwX4_init_0 dkX4_init_0 7 rfl
theorem dX4_init_14 : decode cX4_init 14 = .ok (.anewarray 15, 3) := wnGet dwX4_init_0 dkX4_init_0 8 rfl
theorem dX4_init_17 : decode cX4_init 17 = .ok (.putfield 17, 3) := wnGet dwX4_init_0 dkX4_init_0 9 rfl
theorem dX4_init_20 : decode cX4_init 20 = .ok (.aload_n 0, 1) := wnGet dwX4_init_0 dkX4_init_0 10 rfl
theorem dX4_init_21 : decode cX4_init 21 = .ok (.new 21, 3) := wnGet dwX4_init_0 dkX4_init_0 11 rfl
theorem dX4_init_24 : decode cX4_init 24 = .ok (.dup, 1) := wnGet dwX4_init_0 dkX4_init_0 12 rfl
theorem dX4_init_25 : decode cX4_init 25 = .ok (.invokespecial 23, 3) := wnGet dwX4_init_0 dkX4_init_0 13 rfl
theorem dX4_init_28 : decode cX4_init 28 = .ok (.putfield 24, 3) := wnGet dwX4_init_0 dkX4_init_0 14 rfl
theorem dX4_init_31 : decode cX4_init 31 = .ok (.aload_n 0, 1) := wnGet dwX4_init_0 dkX4_init_0 15 rfl
theorem dX4_init_32 : decode cX4_init 32 = .ok (.new 28, 3) := wnGet dwX4_init_0 dkX4_init_0 16 rfl
theorem dX4_init_35 : decode cX4_init 35 = .ok (.dup, 1) := wnGet dwX4_init_0 dkX4_init_0 17 rfl
theorem dX4_init_36 : decode cX4_init 36 = .ok (.invokespecial 30, 3) := wnGet dwX4_init_0 dkX4_init_0 18 rfl
theorem dX4_init_39 : decode cX4_init 39 = .ok (.putfield 31, 3) := wnGet dwX4_init_0 dkX4_init_0 19 rfl
theorem dX4_init_42 : decode cX4_init 42 = .ok (.aload_n 0, 1) := wnGet dwX4_init_0 dkX4_init_0 20 rfl
theorem dX4_init_43 : decode cX4_init 43 = .ok (.new 9, 3) := wnGet dwX4_init_0 dkX4_init_0 21 rfl
theorem dX4_init_46 : decode cX4_init 46 = .ok (.dup, 1) := wnGet dwX4_init_0 dkX4_init_0 22 rfl
theorem dX4_init_47 : decode cX4_init 47 = .ok (.invokespecial 35, 3) := wnGet dwX4_init_0 dkX4_init_0 23 rfl
theorem dX4_init_50 : decode cX4_init 50 = .ok (.putfield 36, 3) := wnGet dwX4_init_0 dkX4_init_0 24 rfl
theorem dX4_init_53 : decode cX4_init 53 = .ok (.aload_n 0, 1) := wnGet dwX4_init_0 dkX4_init_0 25 rfl
theorem dX4_init_54 : decode cX4_init 54 = .ok (.new 15, 3) := wnGet dwX4_init_0 dkX4_init_0 26 rfl
theorem dX4_init_57 : decode cX4_init 57 = .ok (.dup, 1) := wnGet dwX4_init_0 dkX4_init_0 27 rfl
theorem dX4_init_58 : decode cX4_init 58 = .ok (.invokespecial 40, 3) := wnGet dwX4_init_0 dkX4_init_0 28 rfl
theorem dX4_init_61 : decode cX4_init 61 = .ok (.putfield 41, 3) := wnGet dwX4_init_0 dkX4_init_0 29 rfl
theorem dX4_init_64 : decode cX4_init 64 = .ok (.aload_n 0, 1) := wnGet dwX4_init_0 dkX4_init_0 30 rfl
theorem dX4_init_65 : decode cX4_init 65 = .ok (.iconst 0, 1) := wnGet dwX4_init_0 dkX4_init_0 31 rfl
def dvX4_init_1 : List UInt8 := [181, 0, 45, 42, 3, 181, 0, 49, 42, 3, 181, 0, 52, 3, 60, 27, 42, 180, 0, 11, 190, 162, 0, 22, 42, 180, 0, 11, 27, 187, 0, 9, 89, 183, 0, 35, 83, 132, 1, 1, 167, 255, 231, 3, 60, 27, 42, 180, 0, 17, 190, 162, 0, 22, 42, 180, 0, 17]
theorem dwX4_init_1 : (cX4_init.data.toList.drop 66).take dvX4_init_1.length = dvX4_init_1 := by decide +kernel
theorem dkX4_init_1 : ([(66, (.putfield 45, 3)), (69, (.aload_n 0, 1)), (70, (.iconst 0, 1)), (71, (.putfield 49, 3)), (74, (.aload_n 0, 1)), (75, (.iconst 0, 1)), (76, (.putfield 52, 3)), (79, (.iconst 0, 1)), (80, (.istore_n 1, 1)), (81, (.iload_n 1, 1)), (82, (.aload_n 0, 1)), (83, (.getfield 11, 3)), (86, (.arraylength, 1)), (87, (.if_icmp .ge 22, 3)), (90, (.aload_n 0, 1)), (91, (.getfield 11, 3)), (94, (.iload_n 1, 1)), (95, (.new 9, 3)), (98, (.dup, 1)), (99, (.invokespecial 35, 3)), (102, (.aastore, 1)), (103, (.iinc 1 1, 3)), (106, (.goto (-25), 3)), (109, (.iconst 0, 1)), (110, (.istore_n 1, 1)), (111, (.iload_n 1, 1)), (112, (.aload_n 0, 1)), (113, (.getfield 17, 3)), (116, (.arraylength, 1)), (117, (.if_icmp .ge 22, 3)), (120, (.aload_n 0, 1)), (121, (.getfield 17, 3))] : List (Nat × (Jvm.ClassFile.Instr × Nat))).all (wnL dvX4_init_1 66) = true := by decide +kernel
theorem dX4_init_66 : decode cX4_init 66 = .ok (.putfield 45, 3) := wnGet dwX4_init_1 dkX4_init_1 0 rfl
theorem dX4_init_69 : decode cX4_init 69 = .ok (.aload_n 0, 1) := wnGet dwX4_init_1 dkX4_init_1 1 rfl
theorem dX4_init_70 : decode cX4_init 70 = .ok (.iconst 0, 1) := wnGet dwX4_init_1 dkX4_init_1 2 rfl
theorem dX4_init_71 : decode cX4_init 71 = .ok (.putfield 49, 3) := wnGet dwX4_init_1 dkX4_init_1 3 rfl
theorem dX4_init_74 : decode cX4_init 74 = .ok (.aload_n 0, 1) := wnGet dwX4_init_1 dkX4_init_1 4 rfl
theorem dX4_init_75 : decode cX4_init 75 = .ok (.iconst 0, 1) := wnGet dwX4_init_1 dkX4_init_1 5 rfl
theorem dX4_init_76 : decode cX4_init 76 = .ok (.putfield 52, 3) := wnGet dwX4_init_1 dkX4_init_1 6 rfl
theorem dX4_init_79 : decode cX4_init 79 = .ok (.iconst 0, 1) := wnGet dwX4_init_1 dkX4_init_1 7 rfl
theorem dX4_init_80 : decode cX4_init 80 = .ok (.istore_n 1, 1) := wnGet dwX4_init_1 dkX4_init_1 8 rfl
theorem dX4_init_81 : decode cX4_init 81 = .ok (.iload_n 1, 1) := wnGet dwX4_init_1 dkX4_init_1 9 rfl
theorem dX4_init_82 : decode cX4_init 82 = .ok (.aload_n 0, 1) := wnGet dwX4_init_1 dkX4_init_1 10 rfl
theorem dX4_init_83 : decode cX4_init 83 = .ok (.getfield 11, 3) := wnGet dwX4_init_1 dkX4_init_1 11 rfl
theorem dX4_init_86 : decode cX4_init 86 = .ok (.arraylength, 1) := wnGet dwX4_init_1 dkX4_init_1 12 rfl
theorem dX4_init_87 : decode cX4_init 87 = .ok (.if_icmp .ge 22, 3) := wnGet dwX4_init_1 dkX4_init_1 13 rfl
theorem dX4_init_90 : decode cX4_init 90 = .ok (.aload_n 0, 1) := wnGet dwX4_init_1 dkX4_init_1 14 rfl
theorem dX4_init_91 : decode cX4_init 91 = .ok (.getfield 11, 3) := wnGet dwX4_init_1 dkX4_init_1 15 rfl
theorem dX4_init_94 : decode cX4_init 94 = .ok (.iload_n 1, 1) := wnGet dwX4_init_1 dkX4_init_1 16 rfl
theorem dX4_init_95 : decode cX4_init 95 = .ok (.new 9, 3) := wnGet dwX4_init_1 dkX4_init_1 17 rfl
theorem dX4_init_98 : decode cX4_init 98 = .ok (.dup, 1) := wnGet dwX4_init_1 dkX4_init_1 18 rfl
theorem dX4_init_99 : decode cX4_init 99 = .ok (.invokespecial 35, 3) := wnGet dwX4_init_1 dkX4_init_1 19 rfl
theorem dX4_init_102 : decode cX4_init 102 = .ok (.aastore, 1) := wnGet dwX4_init_1 dkX4_init_1 20 rfl
theorem dX4_init_103 : decode cX4_init 103 = .ok (.iinc 1 1, 3) := wnGet dwX4_init_1 dkX4_init_1 21 rfl
theorem dX4_init_106 : decode cX4_init 106 = .ok (.goto (-25), 3) := wnGet dwX4_init_1 dkX4_init_1 22 rfl
theorem dX4_init_109 : decode cX4_init 109 = .ok (.iconst 0, 1) := wnGet dwX4_init_1 dkX4_init_1 23 rfl
theorem dX4_init_110 : decode cX4_init 110 = .ok (.istore_n 1, 1) := wnGet dwX4_init_1 dkX4_init_1 24 rfl
theorem dX4_init_111 : decode cX4_init 111 = .ok (.iload_n 1, 1) := wnGet dwX4_init_1 dkX4_init_1 25 rfl
theorem dX4_init_112 : decode cX4_init 112 = .ok (.aload_n 0, 1) := wnGet dwX4_init_1 dkX4_init_1 26 rfl
theorem dX4_init_113 : decode cX4_init 113 = .ok (.getfield 17, 3) := wnGet dwX4_init_1 dkX4_init_1 27 rfl
theorem dX4_init_116 : decode cX4_init 116 = .ok (.arraylength, 1) := wnGet dwX4_init_1 dkX4_init_1 28 rfl
theorem dX4_init_117 : decode cX4_init 117 = .ok (.if_icmp .ge 22, 3) := wnGet dwX4_init_1 dkX4_init_1 29 rfl
theorem dX4_init_120 : decode cX4_init 120 = .ok (.aload_n 0, 1) := wnGet dwX4_init_1 dkX4_init_1 30 rfl
theorem dX4_init_121 : decode cX4_init 121 = .ok (.getfield 17, 3) := wnGet dwX4_init_1 dkX4_init_1 31 rfl
def dvX4_init_2 : List UInt8 := [27, 187, 0, 15, 89, 183, 0, 40, 83, 132, 1, 1, 167, 255, 231, 177]
theorem dwX4_init_2 : (cX4_init.data.toList.drop 124).take dvX4_init_2.length = dvX4_init_2 := by decide +kernel
theorem dkX4_init_2 : ([(124, (.iload_n 1, 1)), (125, (.new 15, 3)), (128, (.dup, 1)), (129, (.invokespecial 40, 3)), (132, (.aastore, 1)), (133, (.iinc 1 1, 3)), (136, (.goto (-25), 3)), (139, (.return_, 1))] : List (Nat × (Jvm.ClassFile.Instr × Nat))).all (wnL dvX4_init_2 124) = true := by decide +kernel
theorem dX4_init_124 : decode cX4_init 124 = .ok (.iload_n 1, 1) := wnGet dwX4_init_2 dkX4_init_2 0 rfl
theorem dX4_init_125 : decode cX4_init 125 = .ok (.new 15, 3) := wnGet dwX4_init_2 dkX4_init_2 1 rfl
theorem dX4_init_128 : decode cX4_init 128 = .ok (.dup, 1) := wnGet dwX4_init_2 dkX4_init_2 2 rfl
theorem dX4_init_129 : decode cX4_init 129 = .ok (.invokespecial 40, 3) := wnGet dwX4_init_2 dkX4_init_2 3 rfl
theorem dX4_init_132 : decode cX4_init 132 = .ok (.aastore, 1) := wnGet dwX4_init_2 dkX4_init_2 4 rfl
theorem dX4_init_133 : decode cX4_init 133 = .ok (.iinc 1 1, 3) := wnGet dwX4_init_2 dkX4_init_2 5 rfl
theorem dX4_init_136 : decode cX4_init 136 = .ok (.goto (-25), 3) := wnGet dwX4_init_2 dkX4_init_2 6 rfl
theorem dX4_init_139 : decode cX4_init 139 = .ok (.return_, 1) := wnGet dwX4_init_2 dkX4_init_2 7 rfl
theorem ggX4_put_X4_rowAt : GoodIn wsX4_put wsX4_rowAt := tgCall 476 e_X4_rowAt (by decide +kernel)
theorem gX4_put_X4_rowAt : GoodIn wsX4_put (wsV RX4 55 RX4 yX4_rowAt wsX4_rowAt) := goodIn_app (tgIn [473, 474, 475, 421] (by decide +kernel) rfl) ggX4_put_X4_rowAt
theorem ggX4_put_X4_demandValue : GoodIn wsX4_put wsX4_demandValue := tgCall 481 e_X4_demandValue (by decide +kernel)
theorem gX4_put_X4_demandValue : GoodIn wsX4_put (va_wsS RX4 59 yX4_demandValue wsX4_demandValue) := goodIn_app (tgIn [479, 480, 421] (by decide +kernel) rfl) ggX4_put_X4_demandValue
theorem ggX4_put_X2_length : GoodIn wsX4_put wsX2_length := tgCall 118 e_X2_length (by decide +kernel)
theorem gX4_put_X2_length : GoodIn wsX4_put (wsV RX4 63 RX2 yX2_length wsX2_length) := goodIn_app (tgIn [460, 116, 117, 9] (by decide +kernel) rfl) ggX4_put_X2_length
theorem ggX4_put_X4_placeNew : GoodIn wsX4_put wsX4_placeNew := tgCall 490 e_X4_placeNew (by decide +kernel)
theorem gX4_put_X4_placeNew : GoodIn wsX4_put (wsV RX4 67 RX4 yX4_placeNew wsX4_placeNew) := goodIn_app (tgIn [487, 488, 489, 421] (by decide +kernel) rfl) ggX4_put_X4_placeNew
theorem dkX4_put_0 : ([(0, (.aload_n 0, 1)), (1, (.iload_n 1, 1)), (2, (.invokevirtual 55, 3)), (5, (.astore_n 3, 1)), (6, (.iload_n 2, 1)), (7, (.invokestatic 59, 3)), (10, (.aload_n 0, 1)), (11, (.aload_n 3, 1)), (12, (.aload_n 3, 1)), (13, (.invokevirtual 63, 3)), (16, (.iload_n 2, 1)), (17, (.invokevirtual 67, 3)), (20, (.ireturn, 1))] : List (Nat × (Jvm.ClassFile.Instr × Nat))).all (dcB cX4_put) = true := by decide +kernel
theorem dX4_put_0 : decode cX4_put 0 = .ok (.aload_n 0, 1) := dget dkX4_put_0 0 rfl
theorem dX4_put_1 : decode cX4_put 1 = .ok (.iload_n 1, 1) := dget dkX4_put_0 1 rfl
theorem dX4_put_2 : decode cX4_put 2 = .ok (.invokevirtual 55, 3) := dget dkX4_put_0 2 rfl
theorem dX4_put_5 : decode cX4_put 5 = .ok (.astore_n 3, 1) := dget dkX4_put_0 3 rfl
theorem dX4_put_6 : decode cX4_put 6 = .ok (.iload_n 2, 1) := dget dkX4_put_0 4 rfl
theorem dX4_put_7 : decode cX4_put 7 = .ok (.invokestatic 59, 3) := dget dkX4_put_0 5 rfl
theorem dX4_put_10 : decode cX4_put 10 = .ok (.aload_n 0, 1) := dget dkX4_put_0 6 rfl
theorem dX4_put_11 : decode cX4_put 11 = .ok (.aload_n 3, 1) := dget dkX4_put_0 7 rfl
theorem dX4_put_12 : decode cX4_put 12 = .ok (.aload_n 3, 1) := dget dkX4_put_0 8 rfl
theorem dX4_put_13 : decode cX4_put 13 = .ok (.invokevirtual 63, 3) := dget dkX4_put_0 9 rfl
theorem dX4_put_16 : decode cX4_put 16 = .ok (.iload_n 2, 1) := dget dkX4_put_0 10 rfl
theorem dX4_put_17 : decode cX4_put 17 = .ok (.invokevirtual 67, 3) := dget dkX4_put_0 11 rfl
theorem dX4_put_20 : decode cX4_put 20 = .ok (.ireturn, 1) := dget dkX4_put_0 12 rfl
theorem ggX4_putAt_X4_rowAt : GoodIn wsX4_putAt wsX4_rowAt := tgCall 476 e_X4_rowAt (by decide +kernel)
theorem gX4_putAt_X4_rowAt : GoodIn wsX4_putAt (wsV RX4 55 RX4 yX4_rowAt wsX4_rowAt) := goodIn_app (tgIn [473, 474, 475, 421] (by decide +kernel) rfl) ggX4_putAt_X4_rowAt
theorem ggX4_putAt_X4_demandGap : GoodIn wsX4_putAt wsX4_demandGap := tgCall 493 e_X4_demandGap (by decide +kernel)
theorem gX4_putAt_X4_demandGap : GoodIn wsX4_putAt (va_wsS RX4 71 yX4_demandGap wsX4_demandGap) := goodIn_app (tgIn [491, 492, 421] (by decide +kernel) rfl) ggX4_putAt_X4_demandGap
theorem ggX4_putAt_X4_demandValue : GoodIn wsX4_putAt wsX4_demandValue := tgCall 481 e_X4_demandValue (by decide +kernel)
theorem gX4_putAt_X4_demandValue : GoodIn wsX4_putAt (va_wsS RX4 59 yX4_demandValue wsX4_demandValue) := goodIn_app (tgIn [479, 480, 421] (by decide +kernel) rfl) ggX4_putAt_X4_demandValue
theorem ggX4_putAt_X4_placeNew : GoodIn wsX4_putAt wsX4_placeNew := tgCall 490 e_X4_placeNew (by decide +kernel)
theorem gX4_putAt_X4_placeNew : GoodIn wsX4_putAt (wsV RX4 67 RX4 yX4_placeNew wsX4_placeNew) := goodIn_app (tgIn [487, 488, 489, 421] (by decide +kernel) rfl) ggX4_putAt_X4_placeNew
theorem dkX4_putAt_0 : ([(0, (.aload_n 0, 1)), (1, (.iload_n 1, 1)), (2, (.invokevirtual 55, 3)), (5, (.astore 4, 2)), (7, (.aload 4, 2)), (9, (.iload_n 2, 1)), (10, (.invokestatic 71, 3)), (13, (.iload_n 3, 1)), (14, (.invokestatic 59, 3)), (17, (.aload_n 0, 1)), (18, (.aload 4, 2)), (20, (.iload_n 2, 1)), (21, (.iload_n 3, 1)), (22, (.invokevirtual 67, 3)), (25, (.ireturn, 1))] : List (Nat × (Jvm.ClassFile.Instr × Nat))).all (dcB cX4_putAt) = true := by decide +kernel
theorem dX4_putAt_0 : decode cX4_putAt 0 = .ok (.aload_n 0, 1) := dget dkX4_putAt_0 0 rfl
theorem dX4_putAt_1 : decode cX4_putAt 1 = .ok (.iload_n 1, 1) := dget dkX4_putAt_0 1 rfl
theorem dX4_putAt_2 : decode cX4_putAt 2 = .ok (.invokevirtual 55, 3) := dget dkX4_putAt_0 2 rfl
theorem dX4_putAt_5 : decode cX4_putAt 5 = .ok (.astore 4, 2) := dget dkX4_putAt_0 3 rfl
theorem dX4_putAt_7 : decode cX4_putAt 7 = .ok (.aload 4, 2) := dget dkX4_putAt_0 4 rfl
theorem dX4_putAt_9 : decode cX4_putAt 9 = .ok (.iload_n 2, 1) := dget dkX4_putAt_0 5 rfl
theorem dX4_putAt_10 : decode cX4_putAt 10 = .ok (.invokestatic 71, 3) := dget dkX4_putAt_0 6 rfl
theorem dX4_putAt_13 : decode cX4_putAt 13 = .ok (.iload_n 3, 1) := dget dkX4_putAt_0 7 rfl
theorem dX4_putAt_14 : decode cX4_putAt 14 = .ok (.invokestatic 59, 3) := dget dkX4_putAt_0 8 rfl
theorem dX4_putAt_17 : decode cX4_putAt 17 = .ok (.aload_n 0, 1) := dget dkX4_putAt_0 9 rfl
theorem dX4_putAt_18 : decode cX4_putAt 18 = .ok (.aload 4, 2) := dget dkX4_putAt_0 10 rfl
theorem dX4_putAt_20 : decode cX4_putAt 20 = .ok (.iload_n 2, 1) := dget dkX4_putAt_0 11 rfl
theorem dX4_putAt_21 : decode cX4_putAt 21 = .ok (.iload_n 3, 1) := dget dkX4_putAt_0 12 rfl
theorem dX4_putAt_22 : decode cX4_putAt 22 = .ok (.invokevirtual 67, 3) := dget dkX4_putAt_0 13 rfl
theorem dX4_putAt_25 : decode cX4_putAt 25 = .ok (.ireturn, 1) := dget dkX4_putAt_0 14 rfl
theorem ggX4_fill_X4_rowAt : GoodIn wsX4_fill wsX4_rowAt := tgCall 476 e_X4_rowAt (by decide +kernel)
theorem gX4_fill_X4_rowAt : GoodIn wsX4_fill (wsV RX4 55 RX4 yX4_rowAt wsX4_rowAt) := goodIn_app (tgIn [473, 474, 475, 421] (by decide +kernel) rfl) ggX4_fill_X4_rowAt
theorem ggX4_fill_X4_demandWithin : GoodIn wsX4_fill wsX4_demandWithin := tgCall 484 e_X4_demandWithin (by decide +kernel)
theorem gX4_fill_X4_demandWithin : GoodIn wsX4_fill (va_wsS RX4 75 yX4_demandWithin wsX4_demandWithin) := goodIn_app (tgIn [482, 483, 421] (by decide +kernel) rfl) ggX4_fill_X4_demandWithin
theorem ggX4_fill_X2_length : GoodIn wsX4_fill wsX2_length := tgCall 118 e_X2_length (by decide +kernel)
theorem gX4_fill_X2_length : GoodIn wsX4_fill (wsV RX4 63 RX2 yX2_length wsX2_length) := goodIn_app (tgIn [460, 116, 117, 9] (by decide +kernel) rfl) ggX4_fill_X2_length
theorem ggX4_fill_X4_refuse : GoodIn wsX4_fill wsX4_refuse := tgCall 464 e_X4_refuse (by decide +kernel)
theorem gX4_fill_X4_refuse : GoodIn wsX4_fill (wsV RX4 79 RX4 yX4_refuse wsX4_refuse) := goodIn_app (tgIn [461, 462, 463, 421] (by decide +kernel) rfl) ggX4_fill_X4_refuse
theorem ggX4_fill_X4_nextMark : GoodIn wsX4_fill wsX4_nextMark := tgCall 468 e_X4_nextMark (by decide +kernel)
theorem gX4_fill_X4_nextMark : GoodIn wsX4_fill (wsV RX4 82 RX4 yX4_nextMark wsX4_nextMark) := goodIn_app (tgIn [465, 466, 467, 421] (by decide +kernel) rfl) ggX4_fill_X4_nextMark
theorem ggX4_fill_X2_append : GoodIn wsX4_fill wsX2_append := tgCall 114 e_X2_append (by decide +kernel)
theorem gX4_fill_X2_append : GoodIn wsX4_fill (wsV RX4 85 RX2 yX2_append wsX2_append) := goodIn_app (tgIn [494, 112, 113, 9] (by decide +kernel) rfl) ggX4_fill_X2_append
theorem dkX4_fill_0 : ([(0, (.aload_n 0, 1)), (1, (.iload_n 1, 1)), (2, (.invokevirtual 55, 3)), (5, (.astore 5, 2)), (7, (.iload_n 2, 1)), (8, (.bipush 12, 2)), (10, (.invokestatic 75, 3)), (13, (.iload_n 3, 1)), (14, (.bipush 99, 2)), (16, (.invokestatic 75, 3)), (19, (.iload 4, 2)), (21, (.bipush 99, 2)), (23, (.invokestatic 75, 3)), (26, (.aload 5, 2)), (28, (.invokevirtual 63, 3)), (31, (.iload_n 2, 1)), (32, (.iadd, 1)), (33, (.bipush 12, 2)), (35, (.if_icmp .le 8, 3)), (38, (.aload_n 0, 1)), (39, (.invokevirtual 79, 3)), (42, (.ireturn, 1)), (43, (.iconst 0, 1)), (44, (.istore 6, 2)), (46, (.iload 6, 2)), (48, (.iload_n 2, 1)), (49, (.if_icmp .ge 28, 3)), (52, (.aload 5, 2)), (54, (.iload_n 3, 1)), (55, (.iload 6, 2)), (57, (.iload 4, 2)), (59, (.imul, 1)), (60, (.iadd, 1)), (61, (.bipush 16, 2)), (63, (.irem, 1)), (64, (.aload_n 0, 1)), (65, (.invokevirtual 82, 3)), (68, (.invokevirtual 85, 3)), (71, (.iinc 6 1, 3)), (74, (.goto (-28), 3))] : List (Nat × (Jvm.ClassFile.Instr × Nat))).all (dcB cX4_fill) = true := by decide +kernel
theorem dX4_fill_0 : decode cX4_fill 0 = .ok (.aload_n 0, 1) := dget dkX4_fill_0 0 rfl
theorem dX4_fill_1 : decode cX4_fill 1 = .ok (.iload_n 1, 1) := dget dkX4_fill_0 1 rfl
theorem dX4_fill_2 : decode cX4_fill 2 = .ok (.invokevirtual 55, 3) := dget dkX4_fill_0 2 rfl
theorem dX4_fill_5 : decode cX4_fill 5 = .ok (.astore 5, 2) := dget dkX4_fill_0 3 rfl
theorem dX4_fill_7 : decode cX4_fill 7 = .ok (.iload_n 2, 1) := dget dkX4_fill_0 4 rfl
theorem dX4_fill_8 : decode cX4_fill 8 = .ok (.bipush 12, 2) := dget dkX4_fill_0 5 rfl
theorem dX4_fill_10 : decode cX4_fill 10 = .ok (.invokestatic 75, 3) := dget dkX4_fill_0 6 rfl
theorem dX4_fill_13 : decode cX4_fill 13 = .ok (.iload_n 3, 1) := dget dkX4_fill_0 7 rfl
theorem dX4_fill_14 : decode cX4_fill 14 = .ok (.bipush 99, 2) := dget dkX4_fill_0 8 rfl
theorem dX4_fill_16 : decode cX4_fill 16 = .ok (.invokestatic 75, 3) := dget dkX4_fill_0 9 rfl
theorem dX4_fill_19 : decode cX4_fill 19 = .ok (.iload 4, 2) := dget dkX4_fill_0 10 rfl
theorem dX4_fill_21 : decode cX4_fill 21 = .ok (.bipush 99, 2) := dget dkX4_fill_0 11 rfl
theorem dX4_fill_23 : decode cX4_fill 23 = .ok (.invokestatic 75, 3) := dget dkX4_fill_0 12 rfl
theorem dX4_fill_26 : decode cX4_fill 26 = .ok (.aload 5, 2) := dget dkX4_fill_0 13 rfl
theorem dX4_fill_28 : decode cX4_fill 28 = .ok (.invokevirtual 63, 3) := dget dkX4_fill_0 14 rfl
theorem dX4_fill_31 : decode cX4_fill 31 = .ok (.iload_n 2, 1) := dget dkX4_fill_0 15 rfl
theorem dX4_fill_32 : decode cX4_fill 32 = .ok (.iadd, 1) := dget dkX4_fill_0 16 rfl
theorem dX4_fill_33 : decode cX4_fill 33 = .ok (.bipush 12, 2) := dget dkX4_fill_0 17 rfl
theorem dX4_fill_35 : decode cX4_fill 35 = .ok (.if_icmp .le 8, 3) := dget dkX4_fill_0 18 rfl
theorem dX4_fill_38 : decode cX4_fill 38 = .ok (.aload_n 0, 1) := dget dkX4_fill_0 19 rfl
theorem dX4_fill_39 : decode cX4_fill 39 = .ok (.invokevirtual 79, 3) := dget dkX4_fill_0 20 rfl
theorem dX4_fill_42 : decode cX4_fill 42 = .ok (.ireturn, 1) := dget dkX4_fill_0 21 rfl
theorem dX4_fill_43 : decode cX4_fill 43 = .ok (.iconst 0, 1) := dget dkX4_fill_0 22 rfl
theorem dX4_fill_44 : decode cX4_fill 44 = .ok (.istore 6, 2) := dget dkX4_fill_0 23 rfl
theorem dX4_fill_46 : decode cX4_fill 46 = .ok (.iload 6, 2) := dget dkX4_fill_0 24 rfl
theorem dX4_fill_48 : decode cX4_fill 48 = .ok (.iload_n 2, 1) := dget dkX4_fill_0 25 rfl
theorem dX4_fill_49 : decode cX4_fill 49 = .ok (.if_icmp .ge 28, 3) := dget dkX4_fill_0 26 rfl
theorem dX4_fill_52 : decode cX4_fill 52 = .ok (.aload 5, 2) := dget dkX4_fill_0 27 rfl
theorem dX4_fill_54 : decode cX4_fill 54 = .ok (.iload_n 3, 1) := dget dkX4_fill_0 28 rfl
theorem dX4_fill_55 : decode cX4_fill 55 = .ok (.iload 6, 2) := dget dkX4_fill_0 29 rfl
theorem dX4_fill_57 : decode cX4_fill 57 = .ok (.iload 4, 2) := dget dkX4_fill_0 30 rfl
theorem dX4_fill_59 : decode cX4_fill 59 = .ok (.imul, 1) := dget dkX4_fill_0 31 rfl
theorem dX4_fill_60 : decode cX4_fill 60 = .ok (.iadd, 1) := dget dkX4_fill_0 32 rfl
theorem dX4_fill_61 : decode cX4_fill 61 = .ok (.bipush 16, 2) := dget dkX4_fill_0 33 rfl
theorem dX4_fill_63 : decode cX4_fill 63 = .ok (.irem, 1) := dget dkX4_fill_0 34 rfl
theorem dX4_fill_64 : decode cX4_fill 64 = .ok (.aload_n 0, 1) := dget dkX4_fill_0 35 rfl
theorem dX4_fill_65 : decode cX4_fill 65 = .ok (.invokevirtual 82, 3) := dget dkX4_fill_0 36 rfl
theorem dX4_fill_68 : decode cX4_fill 68 = .ok (.invokevirtual 85, 3) := dget dkX4_fill_0 37 rfl
theorem dX4_fill_71 : decode cX4_fill 71 = .ok (.iinc 6 1, 3) := dget dkX4_fill_0 38 rfl
theorem dX4_fill_74 : decode cX4_fill 74 = .ok (.goto (-28), 3) := dget dkX4_fill_0 39 rfl
theorem dkX4_fill_1 : ([(77, (.aload 5, 2)), (79, (.invokevirtual 63, 3)), (82, (.ireturn, 1))] : List (Nat × (Jvm.ClassFile.Instr × Nat))).all (dcB cX4_fill) = true := by decide +kernel
theorem dX4_fill_77 : decode cX4_fill 77 = .ok (.aload 5, 2) := dget dkX4_fill_1 0 rfl
theorem dX4_fill_79 : decode cX4_fill 79 = .ok (.invokevirtual 63, 3) := dget dkX4_fill_1 1 rfl
theorem dX4_fill_82 : decode cX4_fill 82 = .ok (.ireturn, 1) := dget dkX4_fill_1 2 rfl
theorem ggX4_drop_X4_rowAt : GoodIn wsX4_drop wsX4_rowAt := tgCall 476 e_X4_rowAt (by decide +kernel)
theorem gX4_drop_X4_rowAt : GoodIn wsX4_drop (wsV RX4 55 RX4 yX4_rowAt wsX4_rowAt) := goodIn_app (tgIn [473, 474, 475, 421] (by decide +kernel) rfl) ggX4_drop_X4_rowAt
theorem ggX4_drop_X4_demandPlace : GoodIn wsX4_drop wsX4_demandPlace := tgCall 497 e_X4_demandPlace (by decide +kernel)
theorem gX4_drop_X4_demandPlace : GoodIn wsX4_drop (va_wsS RX4 88 yX4_demandPlace wsX4_demandPlace) := goodIn_app (tgIn [495, 496, 421] (by decide +kernel) rfl) ggX4_drop_X4_demandPlace
theorem ggX4_drop_X2_markOn : GoodIn wsX4_drop wsX2_markOn := tgCall 102 e_X2_markOn (by decide +kernel)
theorem gX4_drop_X2_markOn : GoodIn wsX4_drop (wsV RX4 91 RX2 yX2_markOn wsX2_markOn) := goodIn_app (tgIn [498, 100, 101, 9] (by decide +kernel) rfl) ggX4_drop_X2_markOn
theorem ggX4_drop_X2_remove : GoodIn wsX4_drop wsX2_remove := tgCall 215 e_X2_remove (by decide +kernel)
theorem gX4_drop_X2_remove : GoodIn wsX4_drop (wsV RX4 95 RX2 yX2_remove wsX2_remove) := goodIn_app (tgIn [499, 213, 214, 9] (by decide +kernel) rfl) ggX4_drop_X2_remove
theorem dkX4_drop_0 : ([(0, (.aload_n 0, 1)), (1, (.iload_n 1, 1)), (2, (.invokevirtual 55, 3)), (5, (.astore_n 3, 1)), (6, (.aload_n 3, 1)), (7, (.iload_n 2, 1)), (8, (.invokestatic 88, 3)), (11, (.aload_n 3, 1)), (12, (.iload_n 2, 1)), (13, (.invokevirtual 91, 3)), (16, (.istore 4, 2)), (18, (.aload_n 3, 1)), (19, (.iload_n 2, 1)), (20, (.invokevirtual 95, 3)), (23, (.iload 4, 2)), (25, (.ireturn, 1))] : List (Nat × (Jvm.ClassFile.Instr × Nat))).all (dcB cX4_drop) = true := by decide +kernel
theorem dX4_drop_0 : decode cX4_drop 0 = .ok (.aload_n 0, 1) := dget dkX4_drop_0 0 rfl
theorem dX4_drop_1 : decode cX4_drop 1 = .ok (.iload_n 1, 1) := dget dkX4_drop_0 1 rfl
theorem dX4_drop_2 : decode cX4_drop 2 = .ok (.invokevirtual 55, 3) := dget dkX4_drop_0 2 rfl
theorem dX4_drop_5 : decode cX4_drop 5 = .ok (.astore_n 3, 1) := dget dkX4_drop_0 3 rfl
theorem dX4_drop_6 : decode cX4_drop 6 = .ok (.aload_n 3, 1) := dget dkX4_drop_0 4 rfl
theorem dX4_drop_7 : decode cX4_drop 7 = .ok (.iload_n 2, 1) := dget dkX4_drop_0 5 rfl
theorem dX4_drop_8 : decode cX4_drop 8 = .ok (.invokestatic 88, 3) := dget dkX4_drop_0 6 rfl
theorem dX4_drop_11 : decode cX4_drop 11 = .ok (.aload_n 3, 1) := dget dkX4_drop_0 7 rfl
theorem dX4_drop_12 : decode cX4_drop 12 = .ok (.iload_n 2, 1) := dget dkX4_drop_0 8 rfl
theorem dX4_drop_13 : decode cX4_drop 13 = .ok (.invokevirtual 91, 3) := dget dkX4_drop_0 9 rfl
theorem dX4_drop_16 : decode cX4_drop 16 = .ok (.istore 4, 2) := dget dkX4_drop_0 10 rfl
theorem dX4_drop_18 : decode cX4_drop 18 = .ok (.aload_n 3, 1) := dget dkX4_drop_0 11 rfl
theorem dX4_drop_19 : decode cX4_drop 19 = .ok (.iload_n 2, 1) := dget dkX4_drop_0 12 rfl
theorem dX4_drop_20 : decode cX4_drop 20 = .ok (.invokevirtual 95, 3) := dget dkX4_drop_0 13 rfl
theorem dX4_drop_23 : decode cX4_drop 23 = .ok (.iload 4, 2) := dget dkX4_drop_0 14 rfl
theorem dX4_drop_25 : decode cX4_drop 25 = .ok (.ireturn, 1) := dget dkX4_drop_0 15 rfl
theorem ggX4_clear_X4_rowAt : GoodIn wsX4_clear wsX4_rowAt := tgCall 476 e_X4_rowAt (by decide +kernel)
theorem gX4_clear_X4_rowAt : GoodIn wsX4_clear (wsV RX4 55 RX4 yX4_rowAt wsX4_rowAt) := goodIn_app (tgIn [473, 474, 475, 421] (by decide +kernel) rfl) ggX4_clear_X4_rowAt
theorem ggX4_clear_X2_length : GoodIn wsX4_clear wsX2_length := tgCall 118 e_X2_length (by decide +kernel)
theorem gX4_clear_X2_length : GoodIn wsX4_clear (wsV RX4 63 RX2 yX2_length wsX2_length) := goodIn_app (tgIn [460, 116, 117, 9] (by decide +kernel) rfl) ggX4_clear_X2_length
theorem ggX4_clear_X2_empty : GoodIn wsX4_clear wsX2_empty := tgCall 158 e_X2_empty (by decide +kernel)
theorem gX4_clear_X2_empty : GoodIn wsX4_clear (wsV RX4 98 RX2 yX2_empty wsX2_empty) := goodIn_app (tgIn [1027, 156, 157, 9] (by decide +kernel) rfl) ggX4_clear_X2_empty
theorem dkX4_clear_0 : ([(0, (.aload_n 0, 1)), (1, (.iload_n 1, 1)), (2, (.invokevirtual 55, 3)), (5, (.astore_n 2, 1)), (6, (.aload_n 2, 1)), (7, (.invokevirtual 63, 3)), (10, (.istore_n 3, 1)), (11, (.aload_n 2, 1)), (12, (.invokevirtual 98, 3)), (15, (.iload_n 3, 1)), (16, (.ireturn, 1))] : List (Nat × (Jvm.ClassFile.Instr × Nat))).all (dcB cX4_clear) = true := by decide +kernel
theorem dX4_clear_0 : decode cX4_clear 0 = .ok (.aload_n 0, 1) := dget dkX4_clear_0 0 rfl
theorem dX4_clear_1 : decode cX4_clear 1 = .ok (.iload_n 1, 1) := dget dkX4_clear_0 1 rfl
theorem dX4_clear_2 : decode cX4_clear 2 = .ok (.invokevirtual 55, 3) := dget dkX4_clear_0 2 rfl
theorem dX4_clear_5 : decode cX4_clear 5 = .ok (.astore_n 2, 1) := dget dkX4_clear_0 3 rfl
theorem dX4_clear_6 : decode cX4_clear 6 = .ok (.aload_n 2, 1) := dget dkX4_clear_0 4 rfl
theorem dX4_clear_7 : decode cX4_clear 7 = .ok (.invokevirtual 63, 3) := dget dkX4_clear_0 5 rfl
theorem dX4_clear_10 : decode cX4_clear 10 = .ok (.istore_n 3, 1) := dget dkX4_clear_0 6 rfl
theorem dX4_clear_11 : decode cX4_clear 11 = .ok (.aload_n 2, 1) := dget dkX4_clear_0 7 rfl
theorem dX4_clear_12 : decode cX4_clear 12 = .ok (.invokevirtual 98, 3) := dget dkX4_clear_0 8 rfl
theorem dX4_clear_15 : decode cX4_clear 15 = .ok (.iload_n 3, 1) := dget dkX4_clear_0 9 rfl
theorem dX4_clear_16 : decode cX4_clear 16 = .ok (.ireturn, 1) := dget dkX4_clear_0 10 rfl
theorem ggX4_copyRow_X4_rowAt : GoodIn wsX4_copyRow wsX4_rowAt := tgCall 476 e_X4_rowAt (by decide +kernel)
theorem gX4_copyRow_X4_rowAt : GoodIn wsX4_copyRow (wsV RX4 55 RX4 yX4_rowAt wsX4_rowAt) := goodIn_app (tgIn [473, 474, 475, 421] (by decide +kernel) rfl) ggX4_copyRow_X4_rowAt
theorem ggX4_copyRow_X2_becomeCopyOf : GoodIn wsX4_copyRow wsX2_becomeCopyOf := tgCall 168 e_X2_becomeCopyOf (by decide +kernel)
theorem gX4_copyRow_X2_becomeCopyOf : GoodIn wsX4_copyRow (wsV RX4 101 RX2 yX2_becomeCopyOf wsX2_becomeCopyOf) := goodIn_app (tgIn [500, 166, 167, 9] (by decide +kernel) rfl) ggX4_copyRow_X2_becomeCopyOf
theorem ggX4_copyRow_X2_length : GoodIn wsX4_copyRow wsX2_length := tgCall 118 e_X2_length (by decide +kernel)
theorem gX4_copyRow_X2_length : GoodIn wsX4_copyRow (wsV RX4 63 RX2 yX2_length wsX2_length) := goodIn_app (tgIn [460, 116, 117, 9] (by decide +kernel) rfl) ggX4_copyRow_X2_length
theorem dkX4_copyRow_0 : ([(0, (.aload_n 0, 1)), (1, (.iload_n 1, 1)), (2, (.invokevirtual 55, 3)), (5, (.astore_n 3, 1)), (6, (.aload_n 0, 1)), (7, (.iload_n 2, 1)), (8, (.invokevirtual 55, 3)), (11, (.astore 4, 2)), (13, (.aload 4, 2)), (15, (.aload_n 3, 1)), (16, (.invokevirtual 101, 3)), (19, (.aload 4, 2)), (21, (.invokevirtual 63, 3)), (24, (.ireturn, 1))] : List (Nat × (Jvm.ClassFile.Instr × Nat))).all (dcB cX4_copyRow) = true := by decide +kernel
theorem dX4_copyRow_0 : decode cX4_copyRow 0 = .ok (.aload_n 0, 1) := dget dkX4_copyRow_0 0 rfl
theorem dX4_copyRow_1 : decode cX4_copyRow 1 = .ok (.iload_n 1, 1) := dget dkX4_copyRow_0 1 rfl
theorem dX4_copyRow_2 : decode cX4_copyRow 2 = .ok (.invokevirtual 55, 3) := dget dkX4_copyRow_0 2 rfl
theorem dX4_copyRow_5 : decode cX4_copyRow 5 = .ok (.astore_n 3, 1) := dget dkX4_copyRow_0 3 rfl
theorem dX4_copyRow_6 : decode cX4_copyRow 6 = .ok (.aload_n 0, 1) := dget dkX4_copyRow_0 4 rfl
theorem dX4_copyRow_7 : decode cX4_copyRow 7 = .ok (.iload_n 2, 1) := dget dkX4_copyRow_0 5 rfl
theorem dX4_copyRow_8 : decode cX4_copyRow 8 = .ok (.invokevirtual 55, 3) := dget dkX4_copyRow_0 6 rfl
theorem dX4_copyRow_11 : decode cX4_copyRow 11 = .ok (.astore 4, 2) := dget dkX4_copyRow_0 7 rfl
theorem dX4_copyRow_13 : decode cX4_copyRow 13 = .ok (.aload 4, 2) := dget dkX4_copyRow_0 8 rfl
theorem dX4_copyRow_15 : decode cX4_copyRow 15 = .ok (.aload_n 3, 1) := dget dkX4_copyRow_0 9 rfl
theorem dX4_copyRow_16 : decode cX4_copyRow 16 = .ok (.invokevirtual 101, 3) := dget dkX4_copyRow_0 10 rfl
theorem dX4_copyRow_19 : decode cX4_copyRow 19 = .ok (.aload 4, 2) := dget dkX4_copyRow_0 11 rfl
theorem dX4_copyRow_21 : decode cX4_copyRow 21 = .ok (.invokevirtual 63, 3) := dget dkX4_copyRow_0 12 rfl
theorem dX4_copyRow_24 : decode cX4_copyRow 24 = .ok (.ireturn, 1) := dget dkX4_copyRow_0 13 rfl
theorem ggX4_turnRow_X4_rowAt : GoodIn wsX4_turnRow wsX4_rowAt := tgCall 476 e_X4_rowAt (by decide +kernel)
theorem gX4_turnRow_X4_rowAt : GoodIn wsX4_turnRow (wsV RX4 55 RX4 yX4_rowAt wsX4_rowAt) := goodIn_app (tgIn [473, 474, 475, 421] (by decide +kernel) rfl) ggX4_turnRow_X4_rowAt
theorem ggX4_turnRow_X2_reverse : GoodIn wsX4_turnRow wsX2_reverse := tgCall 196 e_X2_reverse (by decide +kernel)
theorem gX4_turnRow_X2_reverse : GoodIn wsX4_turnRow (wsV RX4 105 RX2 yX2_reverse wsX2_reverse) := goodIn_app (tgIn [501, 194, 195, 9] (by decide +kernel) rfl) ggX4_turnRow_X2_reverse
theorem ggX4_turnRow_X2_length : GoodIn wsX4_turnRow wsX2_length := tgCall 118 e_X2_length (by decide +kernel)
theorem gX4_turnRow_X2_length : GoodIn wsX4_turnRow (wsV RX4 63 RX2 yX2_length wsX2_length) := goodIn_app (tgIn [460, 116, 117, 9] (by decide +kernel) rfl) ggX4_turnRow_X2_length
theorem dkX4_turnRow_0 : ([(0, (.aload_n 0, 1)), (1, (.iload_n 1, 1)), (2, (.invokevirtual 55, 3)), (5, (.astore_n 2, 1)), (6, (.aload_n 2, 1)), (7, (.invokevirtual 105, 3)), (10, (.aload_n 2, 1)), (11, (.invokevirtual 63, 3)), (14, (.aload_n 2, 1)), (15, (.invokevirtual 63, 3)), (18, (.iconst 2, 1)), (19, (.irem, 1)), (20, (.isub, 1)), (21, (.ireturn, 1))] : List (Nat × (Jvm.ClassFile.Instr × Nat))).all (dcB cX4_turnRow) = true := by decide +kernel
theorem dX4_turnRow_0 : decode cX4_turnRow 0 = .ok (.aload_n 0, 1) := dget dkX4_turnRow_0 0 rfl
theorem dX4_turnRow_1 : decode cX4_turnRow 1 = .ok (.iload_n 1, 1) := dget dkX4_turnRow_0 1 rfl
theorem dX4_turnRow_2 : decode cX4_turnRow 2 = .ok (.invokevirtual 55, 3) := dget dkX4_turnRow_0 2 rfl
theorem dX4_turnRow_5 : decode cX4_turnRow 5 = .ok (.astore_n 2, 1) := dget dkX4_turnRow_0 3 rfl
theorem dX4_turnRow_6 : decode cX4_turnRow 6 = .ok (.aload_n 2, 1) := dget dkX4_turnRow_0 4 rfl
theorem dX4_turnRow_7 : decode cX4_turnRow 7 = .ok (.invokevirtual 105, 3) := dget dkX4_turnRow_0 5 rfl
theorem dX4_turnRow_10 : decode cX4_turnRow 10 = .ok (.aload_n 2, 1) := dget dkX4_turnRow_0 6 rfl
theorem dX4_turnRow_11 : decode cX4_turnRow 11 = .ok (.invokevirtual 63, 3) := dget dkX4_turnRow_0 7 rfl
theorem dX4_turnRow_14 : decode cX4_turnRow 14 = .ok (.aload_n 2, 1) := dget dkX4_turnRow_0 8 rfl
theorem dX4_turnRow_15 : decode cX4_turnRow 15 = .ok (.invokevirtual 63, 3) := dget dkX4_turnRow_0 9 rfl
theorem dX4_turnRow_18 : decode cX4_turnRow 18 = .ok (.iconst 2, 1) := dget dkX4_turnRow_0 10 rfl
theorem dX4_turnRow_19 : decode cX4_turnRow 19 = .ok (.irem, 1) := dget dkX4_turnRow_0 11 rfl
theorem dX4_turnRow_20 : decode cX4_turnRow 20 = .ok (.isub, 1) := dget dkX4_turnRow_0 12 rfl
theorem dX4_turnRow_21 : decode cX4_turnRow 21 = .ok (.ireturn, 1) := dget dkX4_turnRow_0 13 rfl
theorem ggX4_wheel_X4_rowAt : GoodIn wsX4_wheel wsX4_rowAt := tgCall 476 e_X4_rowAt (by decide +kernel)
theorem gX4_wheel_X4_rowAt : GoodIn wsX4_wheel (wsV RX4 55 RX4 yX4_rowAt wsX4_rowAt) := goodIn_app (tgIn [473, 474, 475, 421] (by decide +kernel) rfl) ggX4_wheel_X4_rowAt
theorem ggX4_wheel_X2_length : GoodIn wsX4_wheel wsX2_length := tgCall 118 e_X2_length (by decide +kernel)
theorem gX4_wheel_X2_length : GoodIn wsX4_wheel (wsV RX4 63 RX2 yX2_length wsX2_length) := goodIn_app (tgIn [460, 116, 117, 9] (by decide +kernel) rfl) ggX4_wheel_X2_length
theorem ggX4_wheel_J9_floorMod_7cf53 : GoodIn wsX4_wheel wsJ9_floorMod_7cf53 := tgCall 504 e_J9_floorMod_7cf53 (by decide +kernel)
theorem gX4_wheel_J9_floorMod_7cf53 : GoodIn wsX4_wheel (va_wsS RX4 108 yJ9_floorMod_7cf53 wsJ9_floorMod_7cf53) := goodIn_app (tgIn [502, 503, 152] (by decide +kernel) rfl) ggX4_wheel_J9_floorMod_7cf53
theorem ggX4_wheel_X2_becomeCopyOf : GoodIn wsX4_wheel wsX2_becomeCopyOf := tgCall 168 e_X2_becomeCopyOf (by decide +kernel)
theorem gX4_wheel_X2_becomeCopyOf : GoodIn wsX4_wheel (wsV RX4 101 RX2 yX2_becomeCopyOf wsX2_becomeCopyOf) := goodIn_app (tgIn [500, 166, 167, 9] (by decide +kernel) rfl) ggX4_wheel_X2_becomeCopyOf
theorem ggX4_wheel_X2_valueOn : GoodIn wsX4_wheel wsX2_valueOn := tgCall 89 e_X2_valueOn (by decide +kernel)
theorem gX4_wheel_X2_valueOn : GoodIn wsX4_wheel (wsV RX4 114 RX2 yX2_valueOn wsX2_valueOn) := goodIn_app (tgIn [505, 87, 88, 9] (by decide +kernel) rfl) ggX4_wheel_X2_valueOn
theorem ggX4_wheel_X2_markOn : GoodIn wsX4_wheel wsX2_markOn := tgCall 102 e_X2_markOn (by decide +kernel)
theorem gX4_wheel_X2_markOn : GoodIn wsX4_wheel (wsV RX4 91 RX2 yX2_markOn wsX2_markOn) := goodIn_app (tgIn [498, 100, 101, 9] (by decide +kernel) rfl) ggX4_wheel_X2_markOn
theorem ggX4_wheel_X2_replace : GoodIn wsX4_wheel wsX2_replace := tgCall 106 e_X2_replace (by decide +kernel)
theorem gX4_wheel_X2_replace : GoodIn wsX4_wheel (wsV RX4 117 RX2 yX2_replace wsX2_replace) := goodIn_app (tgIn [506, 104, 105, 9] (by decide +kernel) rfl) ggX4_wheel_X2_replace
theorem dkX4_wheel_0 : ([(0, (.aload_n 0, 1)), (1, (.iload_n 1, 1)), (2, (.invokevirtual 55, 3)), (5, (.astore_n 3, 1)), (6, (.aload_n 3, 1)), (7, (.invokevirtual 63, 3)), (10, (.istore 4, 2)), (12, (.iload 4, 2)), (14, (.ifCond .gt 5, 3)), (17, (.iconst (-1), 1)), (18, (.ireturn, 1)), (19, (.iload_n 2, 1)), (20, (.iload 4, 2)), (22, (.invokestatic 108, 3)), (25, (.istore 5, 2)), (27, (.aload_n 0, 1)), (28, (.getfield 36, 3)), (31, (.aload_n 3, 1)), (32, (.invokevirtual 101, 3)), (35, (.iconst 0, 1)), (36, (.istore 6, 2)), (38, (.iload 6, 2)), (40, (.iload 4, 2)), (42, (.if_icmp .ge 39, 3)), (45, (.aload_n 3, 1)), (46, (.iload 6, 2)), (48, (.iload 5, 2)), (50, (.iadd, 1)), (51, (.iload 4, 2)), (53, (.irem, 1)), (54, (.aload_n 0, 1)), (55, (.getfield 36, 3)), (58, (.iload 6, 2)), (60, (.invokevirtual 114, 3)), (63, (.aload_n 0, 1)), (64, (.getfield 36, 3)), (67, (.iload 6, 2)), (69, (.invokevirtual 91, 3))] : List (Nat × (Jvm.ClassFile.Instr × Nat))).all (dcB cX4_wheel) = true := by decide +kernel
theorem dX4_wheel_0 : decode cX4_wheel 0 = .ok (.aload_n 0, 1) := dget dkX4_wheel_0 0 rfl
theorem dX4_wheel_1 : decode cX4_wheel 1 = .ok (.iload_n 1, 1) := dget dkX4_wheel_0 1 rfl
theorem dX4_wheel_2 : decode cX4_wheel 2 = .ok (.invokevirtual 55, 3) := dget dkX4_wheel_0 2 rfl
theorem dX4_wheel_5 : decode cX4_wheel 5 = .ok (.astore_n 3, 1) := dget dkX4_wheel_0 3 rfl
theorem dX4_wheel_6 : decode cX4_wheel 6 = .ok (.aload_n 3, 1) := dget dkX4_wheel_0 4 rfl
theorem dX4_wheel_7 : decode cX4_wheel 7 = .ok (.invokevirtual 63, 3) := dget dkX4_wheel_0 5 rfl
theorem dX4_wheel_10 : decode cX4_wheel 10 = .ok (.istore 4, 2) := dget dkX4_wheel_0 6 rfl
theorem dX4_wheel_12 : decode cX4_wheel 12 = .ok (.iload 4, 2) := dget dkX4_wheel_0 7 rfl
theorem dX4_wheel_14 : decode cX4_wheel 14 = .ok (.ifCond .gt 5, 3) := dget dkX4_wheel_0 8 rfl
theorem dX4_wheel_17 : decode cX4_wheel 17 = .ok (.iconst (-1), 1) := dget dkX4_wheel_0 9 rfl
theorem dX4_wheel_18 : decode cX4_wheel 18 = .ok (.ireturn, 1) := dget dkX4_wheel_0 10 rfl
theorem dX4_wheel_19 : decode cX4_wheel 19 = .ok (.iload_n 2, 1) := dget dkX4_wheel_0 11 rfl
theorem dX4_wheel_20 : decode cX4_wheel 20 = .ok (.iload 4, 2) := dget dkX4_wheel_0 12 rfl
theorem dX4_wheel_22 : decode cX4_wheel 22 = .ok (.invokestatic 108, 3) := dget dkX4_wheel_0 13 rfl
theorem dX4_wheel_25 : decode cX4_wheel 25 = .ok (.istore 5, 2) := dget dkX4_wheel_0 14 rfl
theorem dX4_wheel_27 : decode cX4_wheel 27 = .ok (.aload_n 0, 1) := dget dkX4_wheel_0 15 rfl
theorem dX4_wheel_28 : decode cX4_wheel 28 = .ok (.getfield 36, 3) := dget dkX4_wheel_0 16 rfl
theorem dX4_wheel_31 : decode cX4_wheel 31 = .ok (.aload_n 3, 1) := dget dkX4_wheel_0 17 rfl
theorem dX4_wheel_32 : decode cX4_wheel 32 = .ok (.invokevirtual 101, 3) := dget dkX4_wheel_0 18 rfl
theorem dX4_wheel_35 : decode cX4_wheel 35 = .ok (.iconst 0, 1) := dget dkX4_wheel_0 19 rfl
theorem dX4_wheel_36 : decode cX4_wheel 36 = .ok (.istore 6, 2) := dget dkX4_wheel_0 20 rfl
theorem dX4_wheel_38 : decode cX4_wheel 38 = .ok (.iload 6, 2) := dget dkX4_wheel_0 21 rfl
theorem dX4_wheel_40 : decode cX4_wheel 40 = .ok (.iload 4, 2) := dget dkX4_wheel_0 22 rfl
theorem dX4_wheel_42 : decode cX4_wheel 42 = .ok (.if_icmp .ge 39, 3) := dget dkX4_wheel_0 23 rfl
theorem dX4_wheel_45 : decode cX4_wheel 45 = .ok (.aload_n 3, 1) := dget dkX4_wheel_0 24 rfl
theorem dX4_wheel_46 : decode cX4_wheel 46 = .ok (.iload 6, 2) := dget dkX4_wheel_0 25 rfl
theorem dX4_wheel_48 : decode cX4_wheel 48 = .ok (.iload 5, 2) := dget dkX4_wheel_0 26 rfl
theorem dX4_wheel_50 : decode cX4_wheel 50 = .ok (.iadd, 1) := dget dkX4_wheel_0 27 rfl
theorem dX4_wheel_51 : decode cX4_wheel 51 = .ok (.iload 4, 2) := dget dkX4_wheel_0 28 rfl
theorem dX4_wheel_53 : decode cX4_wheel 53 = .ok (.irem, 1) := dget dkX4_wheel_0 29 rfl
theorem dX4_wheel_54 : decode cX4_wheel 54 = .ok (.aload_n 0, 1) := dget dkX4_wheel_0 30 rfl
theorem dX4_wheel_55 : decode cX4_wheel 55 = .ok (.getfield 36, 3) := dget dkX4_wheel_0 31 rfl
theorem dX4_wheel_58 : decode cX4_wheel 58 = .ok (.iload 6, 2) := dget dkX4_wheel_0 32 rfl
theorem dX4_wheel_60 : decode cX4_wheel 60 = .ok (.invokevirtual 114, 3) := dget dkX4_wheel_0 33 rfl
theorem dX4_wheel_63 : decode cX4_wheel 63 = .ok (.aload_n 0, 1) := dget dkX4_wheel_0 34 rfl
theorem dX4_wheel_64 : decode cX4_wheel 64 = .ok (.getfield 36, 3) := dget dkX4_wheel_0 35 rfl
theorem dX4_wheel_67 : decode cX4_wheel 67 = .ok (.iload 6, 2) := dget dkX4_wheel_0 36 rfl
theorem dX4_wheel_69 : decode cX4_wheel 69 = .ok (.invokevirtual 91, 3) := dget dkX4_wheel_0 37 rfl
