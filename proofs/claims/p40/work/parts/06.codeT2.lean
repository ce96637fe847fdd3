theorem dJ6_bitCount_0f7a4_0 : decode cJ6_bitCount_0f7a4 0 = .ok (.iload_n 0, 1) := by decide +kernel
theorem dJ6_bitCount_0f7a4_1 : decode cJ6_bitCount_0f7a4 1 = .ok (.iload_n 0, 1) := by decide +kernel
theorem dJ6_bitCount_0f7a4_2 : decode cJ6_bitCount_0f7a4 2 = .ok (.iconst 1, 1) := by decide +kernel
theorem dJ6_bitCount_0f7a4_3 : decode cJ6_bitCount_0f7a4 3 = .ok (.iushr, 1) := by decide +kernel
theorem dJ6_bitCount_0f7a4_4 : decode cJ6_bitCount_0f7a4 4 = .ok (.ldc_w 265, 3) := by decide +kernel
theorem dJ6_bitCount_0f7a4_7 : decode cJ6_bitCount_0f7a4 7 = .ok (.iand, 1) := by decide +kernel
theorem dJ6_bitCount_0f7a4_8 : decode cJ6_bitCount_0f7a4 8 = .ok (.isub, 1) := by decide +kernel
theorem dJ6_bitCount_0f7a4_9 : decode cJ6_bitCount_0f7a4 9 = .ok (.istore_n 0, 1) := by decide +kernel
theorem dJ6_bitCount_0f7a4_10 : decode cJ6_bitCount_0f7a4 10 = .ok (.iload_n 0, 1) := by decide +kernel
theorem dJ6_bitCount_0f7a4_11 : decode cJ6_bitCount_0f7a4 11 = .ok (.ldc_w 266, 3) := by decide +kernel
theorem dJ6_bitCount_0f7a4_14 : decode cJ6_bitCount_0f7a4 14 = .ok (.iand, 1) := by decide +kernel
theorem dJ6_bitCount_0f7a4_15 : decode cJ6_bitCount_0f7a4 15 = .ok (.iload_n 0, 1) := by decide +kernel
theorem dJ6_bitCount_0f7a4_16 : decode cJ6_bitCount_0f7a4 16 = .ok (.iconst 2, 1) := by decide +kernel
theorem dJ6_bitCount_0f7a4_17 : decode cJ6_bitCount_0f7a4 17 = .ok (.iushr, 1) := by decide +kernel
theorem dJ6_bitCount_0f7a4_18 : decode cJ6_bitCount_0f7a4 18 = .ok (.ldc_w 266, 3) := by decide +kernel
theorem dJ6_bitCount_0f7a4_21 : decode cJ6_bitCount_0f7a4 21 = .ok (.iand, 1) := by decide +kernel
theorem dJ6_bitCount_0f7a4_22 : decode cJ6_bitCount_0f7a4 22 = .ok (.iadd, 1) := by decide +kernel
theorem dJ6_bitCount_0f7a4_23 : decode cJ6_bitCount_0f7a4 23 = .ok (.istore_n 0, 1) := by decide +kernel
theorem dJ6_bitCount_0f7a4_24 : decode cJ6_bitCount_0f7a4 24 = .ok (.iload_n 0, 1) := by decide +kernel
theorem dJ6_bitCount_0f7a4_25 : decode cJ6_bitCount_0f7a4 25 = .ok (.iload_n 0, 1) := by decide +kernel
theorem dJ6_bitCount_0f7a4_26 : decode cJ6_bitCount_0f7a4 26 = .ok (.iconst 4, 1) := by decide +kernel
theorem dJ6_bitCount_0f7a4_27 : decode cJ6_bitCount_0f7a4 27 = .ok (.iushr, 1) := by decide +kernel
theorem dJ6_bitCount_0f7a4_28 : decode cJ6_bitCount_0f7a4 28 = .ok (.iadd, 1) := by decide +kernel
theorem dJ6_bitCount_0f7a4_29 : decode cJ6_bitCount_0f7a4 29 = .ok (.ldc_w 267, 3) := by decide +kernel
theorem dJ6_bitCount_0f7a4_32 : decode cJ6_bitCount_0f7a4 32 = .ok (.iand, 1) := by decide +kernel
theorem dJ6_bitCount_0f7a4_33 : decode cJ6_bitCount_0f7a4 33 = .ok (.istore_n 0, 1) := by decide +kernel
theorem dJ6_bitCount_0f7a4_34 : decode cJ6_bitCount_0f7a4 34 = .ok (.iload_n 0, 1) := by decide +kernel
theorem dJ6_bitCount_0f7a4_35 : decode cJ6_bitCount_0f7a4 35 = .ok (.iload_n 0, 1) := by decide +kernel
theorem dJ6_bitCount_0f7a4_36 : decode cJ6_bitCount_0f7a4 36 = .ok (.bipush 8, 2) := by decide +kernel
theorem dJ6_bitCount_0f7a4_38 : decode cJ6_bitCount_0f7a4 38 = .ok (.iushr, 1) := by decide +kernel
theorem dJ6_bitCount_0f7a4_39 : decode cJ6_bitCount_0f7a4 39 = .ok (.iadd, 1) := by decide +kernel
theorem dJ6_bitCount_0f7a4_40 : decode cJ6_bitCount_0f7a4 40 = .ok (.istore_n 0, 1) := by decide +kernel
theorem dJ6_bitCount_0f7a4_41 : decode cJ6_bitCount_0f7a4 41 = .ok (.iload_n 0, 1) := by decide +kernel
theorem dJ6_bitCount_0f7a4_42 : decode cJ6_bitCount_0f7a4 42 = .ok (.iload_n 0, 1) := by decide +kernel
theorem dJ6_bitCount_0f7a4_43 : decode cJ6_bitCount_0f7a4 43 = .ok (.bipush 16, 2) := by decide +kernel
theorem dJ6_bitCount_0f7a4_45 : decode cJ6_bitCount_0f7a4 45 = .ok (.iushr, 1) := by decide +kernel
theorem dJ6_bitCount_0f7a4_46 : decode cJ6_bitCount_0f7a4 46 = .ok (.iadd, 1) := by decide +kernel
theorem dJ6_bitCount_0f7a4_47 : decode cJ6_bitCount_0f7a4 47 = .ok (.istore_n 0, 1) := by decide +kernel
theorem dJ6_bitCount_0f7a4_48 : decode cJ6_bitCount_0f7a4 48 = .ok (.iload_n 0, 1) := by decide +kernel
theorem dJ6_bitCount_0f7a4_49 : decode cJ6_bitCount_0f7a4 49 = .ok (.bipush 63, 2) := by decide +kernel
theorem dJ6_bitCount_0f7a4_51 : decode cJ6_bitCount_0f7a4 51 = .ok (.iand, 1) := by decide +kernel
theorem dJ6_bitCount_0f7a4_52 : decode cJ6_bitCount_0f7a4 52 = .ok (.ireturn, 1) := by decide +kernel

set_option maxRecDepth 20000 in
theorem ggX0_init_X3_init : GoodIn wsX0_init wsX3_init := goodIn_r _ [18, 19, 2, 3, 20, 9, 10, 21, 22, 23, 24, 25, 26, 27, 28, 45, 46, 47, 40] (by decide +kernel) (by decide +kernel)
set_option maxRecDepth 20000 in
theorem gX0_init_X3_init_n11 : GoodIn wsX0_init (wsX3_init) := ggX0_init_X3_init
set_option maxRecDepth 20000 in
theorem ggX0_init_X2_init : GoodIn wsX0_init wsX2_init := goodIn_r _ [23, 24, 2, 3, 25, 26, 27, 28, 45, 46, 47] (by decide +kernel) (by decide +kernel)
set_option maxRecDepth 20000 in
theorem gX0_init_X2_init_n20 : GoodIn wsX0_init (wsX2_init) := ggX0_init_X2_init
set_option maxRecDepth 20000 in
theorem ggX0_init_X1_init : GoodIn wsX0_init wsX1_init := goodIn_r _ [30, 31, 2, 3, 25, 32, 33, 34, 35, 36, 37, 38, 39, 48, 49, 50, 51, 52, 53] (by decide +kernel) (by decide +kernel)
set_option maxRecDepth 20000 in
theorem gX0_init_X1_init_n30 : GoodIn wsX0_init (wsX1_init) := ggX0_init_X1_init
theorem dX0_init_0 : decode cX0_init 0 = .ok (.aload_n 0, 1) := by decide +kernel
theorem dX0_init_1 : decode cX0_init 1 = .ok (.invokespecial 3, 3) := by decide +kernel
theorem dX0_init_4 : decode cX0_init 4 = .ok (.aload_n 0, 1) := by decide +kernel
theorem dX0_init_5 : decode cX0_init 5 = .ok (.new 9, 3) := by decide +kernel
theorem dX0_init_8 : decode cX0_init 8 = .ok (.dup, 1) := by decide +kernel
theorem dX0_init_9 : decode cX0_init 9 = .ok (.invokespecial 11, 3) := by decide +kernel
theorem dX0_init_12 : decode cX0_init 12 = .ok (.putfield 12, 3) := by decide +kernel
theorem dX0_init_15 : decode cX0_init 15 = .ok (.aload_n 0, 1) := by decide +kernel
theorem dX0_init_16 : decode cX0_init 16 = .ok (.new 18, 3) := by decide +kernel
theorem dX0_init_19 : decode cX0_init 19 = .ok (.dup, 1) := by decide +kernel
theorem dX0_init_20 : decode cX0_init 20 = .ok (.invokespecial 20, 3) := by decide +kernel
theorem dX0_init_23 : decode cX0_init 23 = .ok (.putfield 21, 3) := by decide +kernel
theorem dX0_init_26 : decode cX0_init 26 = .ok (.aload_n 0, 1) := by decide +kernel
theorem dX0_init_27 : decode cX0_init 27 = .ok (.new 18, 3) := by decide +kernel
theorem dX0_init_30 : decode cX0_init 30 = .ok (.dup, 1) := by decide +kernel
theorem dX0_init_31 : decode cX0_init 31 = .ok (.invokespecial 20, 3) := by decide +kernel
theorem dX0_init_34 : decode cX0_init 34 = .ok (.putfield 25, 3) := by decide +kernel
theorem dX0_init_37 : decode cX0_init 37 = .ok (.aload_n 0, 1) := by decide +kernel
theorem dX0_init_38 : decode cX0_init 38 = .ok (.new 28, 3) := by decide +kernel
theorem dX0_init_41 : decode cX0_init 41 = .ok (.dup, 1) := by decide +kernel
theorem dX0_init_42 : decode cX0_init 42 = .ok (.invokespecial 30, 3) := by decide +kernel
theorem dX0_init_45 : decode cX0_init 45 = .ok (.putfield 31, 3) := by decide +kernel
theorem dX0_init_48 : decode cX0_init 48 = .ok (.return_, 1) := by decide +kernel
set_option maxRecDepth 20000 in
theorem ggX0_isRefiningSound_X1_isFinerThan : GoodIn wsX0_isRefiningSound wsX1_isFinerThan := goodIn_r _ [6, 7, 8, 9, 5, 10, 11, 131, 132, 133, 134, 135, 136] (by decide +kernel) (by decide +kernel)
set_option maxRecDepth 20000 in
theorem gX0_isRefiningSound_X1_isFinerThan : GoodIn wsX0_isRefiningSound (wsV RX0 35 RX1 yX1_isFinerThan wsX1_isFinerThan) := goodIn_app (goodIn_of _ (by decide +kernel)) ggX0_isRefiningSound_X1_isFinerThan
set_option maxRecDepth 20000 in
theorem ggX0_isRefiningSound_X1_becomeProductOf : GoodIn wsX0_isRefiningSound wsX1_becomeProductOf := goodIn_r _ [15, 16, 17, 18, 19, 5, 20, 21, 22, 23, 24, 25, 26, 27, 28, 29, 30, 31, 32, 33, 34, 35, 36, 37, 38, 39, 40, 41, 42, 11, 43, 44, 45, 46, 47, 48, 49, 50, 51, 52, 53, 54, 55, 56, 57, 58, 59, 60, 61, 62, 63, 64, 65, 66, 67, 131, 132, 133, 134, 135, 136] (by decide +kernel) (by decide +kernel)
set_option maxRecDepth 20000 in
theorem gX0_isRefiningSound_X1_becomeProductOf : GoodIn wsX0_isRefiningSound (wsV RX0 39 RX1 yX1_becomeProductOf wsX1_becomeProductOf) := goodIn_app (goodIn_of _ (by decide +kernel)) ggX0_isRefiningSound_X1_becomeProductOf
set_option maxRecDepth 20000 in
theorem ggX0_isRefiningSound_X0_isFinerBySorting : GoodIn wsX0_isRefiningSound wsX0_isFinerBySorting := goodIn_r _ [72, 73, 74, 75, 76, 77, 78, 79, 80, 81, 82, 83, 84, 85, 86, 87, 88, 89, 90, 91, 92, 93, 94, 95, 96, 97, 98, 99, 100, 8, 9, 5, 10, 11, 101, 102, 103, 104, 105, 106, 107, 108, 109, 110, 111, 112, 113, 114, 115, 116, 117, 118, 119, 120, 71, 121, 122, 127, 128, 129, 130, 137, 138, 139, 131, 132, 133, 134, 135, 136] (by decide +kernel) (by decide +kernel)
set_option maxRecDepth 20000 in
theorem gX0_isRefiningSound_X0_isFinerBySorting : GoodIn wsX0_isRefiningSound (wsV RX0 43 RX0 yX0_isFinerBySorting wsX0_isFinerBySorting) := goodIn_app (goodIn_of _ (by decide +kernel)) ggX0_isRefiningSound_X0_isFinerBySorting
set_option maxRecDepth 20000 in
theorem ggX0_isRefiningSound_X1_classCount : GoodIn wsX0_isRefiningSound wsX1_classCount := goodIn_r _ [126, 58, 131, 132, 133, 134, 135, 136] (by decide +kernel) (by decide +kernel)
set_option maxRecDepth 20000 in
theorem gX0_isRefiningSound_X1_classCount : GoodIn wsX0_isRefiningSound (wsV RX0 47 RX1 yX1_classCount wsX1_classCount) := goodIn_app (goodIn_of _ (by decide +kernel)) ggX0_isRefiningSound_X1_classCount
theorem dX0_isRefiningSound_0 : decode cX0_isRefiningSound 0 = .ok (.aload_n 1, 1) := by decide +kernel
theorem dX0_isRefiningSound_1 : decode cX0_isRefiningSound 1 = .ok (.aload_n 2, 1) := by decide +kernel
theorem dX0_isRefiningSound_2 : decode cX0_isRefiningSound 2 = .ok (.invokevirtual 35, 3) := by decide +kernel
theorem dX0_isRefiningSound_5 : decode cX0_isRefiningSound 5 = .ok (.istore_n 3, 1) := by decide +kernel
theorem dX0_isRefiningSound_6 : decode cX0_isRefiningSound 6 = .ok (.aload_n 0, 1) := by decide +kernel
theorem dX0_isRefiningSound_7 : decode cX0_isRefiningSound 7 = .ok (.getfield 31, 3) := by decide +kernel
theorem dX0_isRefiningSound_10 : decode cX0_isRefiningSound 10 = .ok (.aload_n 1, 1) := by decide +kernel
theorem dX0_isRefiningSound_11 : decode cX0_isRefiningSound 11 = .ok (.aload_n 2, 1) := by decide +kernel
theorem dX0_isRefiningSound_12 : decode cX0_isRefiningSound 12 = .ok (.invokevirtual 39, 3) := by decide +kernel
theorem dX0_isRefiningSound_15 : decode cX0_isRefiningSound 15 = .ok (.iload_n 3, 1) := by decide +kernel
theorem dX0_isRefiningSound_16 : decode cX0_isRefiningSound 16 = .ok (.aload_n 0, 1) := by decide +kernel
theorem dX0_isRefiningSound_17 : decode cX0_isRefiningSound 17 = .ok (.aload_n 1, 1) := by decide +kernel
theorem dX0_isRefiningSound_18 : decode cX0_isRefiningSound 18 = .ok (.aload_n 2, 1) := by decide +kernel
theorem dX0_isRefiningSound_19 : decode cX0_isRefiningSound 19 = .ok (.invokevirtual 43, 3) := by decide +kernel
theorem dX0_isRefiningSound_22 : decode cX0_isRefiningSound 22 = .ok (.if_icmp .ne 33, 3) := by decide +kernel
theorem dX0_isRefiningSound_25 : decode cX0_isRefiningSound 25 = .ok (.iload_n 3, 1) := by decide +kernel
theorem dX0_isRefiningSound_26 : decode cX0_isRefiningSound 26 = .ok (.ifCond .eq 14, 3) := by decide +kernel
theorem dX0_isRefiningSound_29 : decode cX0_isRefiningSound 29 = .ok (.aload_n 1, 1) := by decide +kernel
theorem dX0_isRefiningSound_30 : decode cX0_isRefiningSound 30 = .ok (.invokevirtual 47, 3) := by decide +kernel
theorem dX0_isRefiningSound_33 : decode cX0_isRefiningSound 33 = .ok (.aload_n 2, 1) := by decide +kernel
theorem dX0_isRefiningSound_34 : decode cX0_isRefiningSound 34 = .ok (.invokevirtual 47, 3) := by decide +kernel
theorem dX0_isRefiningSound_37 : decode cX0_isRefiningSound 37 = .ok (.if_icmp .lt 18, 3) := by decide +kernel
theorem dX0_isRefiningSound_40 : decode cX0_isRefiningSound 40 = .ok (.aload_n 0, 1) := by decide +kernel
theorem dX0_isRefiningSound_41 : decode cX0_isRefiningSound 41 = .ok (.getfield 31, 3) := by decide +kernel
theorem dX0_isRefiningSound_44 : decode cX0_isRefiningSound 44 = .ok (.aload_n 1, 1) := by decide +kernel
theorem dX0_isRefiningSound_45 : decode cX0_isRefiningSound 45 = .ok (.invokevirtual 35, 3) := by decide +kernel
theorem dX0_isRefiningSound_48 : decode cX0_isRefiningSound 48 = .ok (.ifCond .eq 7, 3) := by decide +kernel
theorem dX0_isRefiningSound_51 : decode cX0_isRefiningSound 51 = .ok (.iconst 1, 1) := by decide +kernel
theorem dX0_isRefiningSound_52 : decode cX0_isRefiningSound 52 = .ok (.goto 4, 3) := by decide +kernel
theorem dX0_isRefiningSound_55 : decode cX0_isRefiningSound 55 = .ok (.iconst 0, 1) := by decide +kernel
theorem dX0_isRefiningSound_56 : decode cX0_isRefiningSound 56 = .ok (.ireturn, 1) := by decide +kernel
set_option maxRecDepth 20000 in
theorem ggX0_isProductAlike_X2_becomeCopyOf : GoodIn wsX0_isProductAlike wsX2_becomeCopyOf := goodIn_r _ [9, 10, 11, 12, 13, 8, 14, 15, 16, 17, 18, 19, 20, 21, 22, 23, 24, 25, 26, 27, 28, 149, 150, 151] (by decide +kernel) (by decide +kernel)
set_option maxRecDepth 20000 in
theorem gX0_isProductAlike_X2_becomeCopyOf : GoodIn wsX0_isProductAlike (wsV RX0 51 RX2 yX2_becomeCopyOf wsX2_becomeCopyOf) := goodIn_app (goodIn_of _ (by decide +kernel)) ggX0_isProductAlike_X2_becomeCopyOf
set_option maxRecDepth 20000 in
theorem ggX0_isProductAlike_X3_arrangeAll : GoodIn wsX0_isProductAlike wsX3_arrangeAll := goodIn_r _ [33, 34, 12, 13, 8, 14, 10, 35, 36, 37, 32, 38, 39, 16, 17, 18, 19, 40, 41, 42, 43, 44, 45, 46, 47, 48, 49, 15, 20, 21, 22, 23, 24, 25, 26, 27, 28, 50, 51, 52, 53, 54, 55, 56, 57, 58, 59, 60, 61, 62, 63, 64, 65, 66, 67, 68, 69, 70, 71, 72, 6, 7, 9, 11, 73, 74, 75, 76, 77, 78, 79, 80, 81, 82, 83, 84, 85, 86, 149, 150, 151, 152, 153, 154, 155, 156, 157, 158] (by decide +kernel) (by decide +kernel)
set_option maxRecDepth 20000 in
theorem gX0_isProductAlike_X3_arrangeAll : GoodIn wsX0_isProductAlike (wsV RX0 55 RX3 yX3_arrangeAll wsX3_arrangeAll) := goodIn_app (goodIn_of _ (by decide +kernel)) ggX0_isProductAlike_X3_arrangeAll
set_option maxRecDepth 20000 in
theorem ggX0_isProductAlike_X1_becomeProductOf : GoodIn wsX0_isProductAlike wsX1_becomeProductOf := goodIn_r _ [90, 91, 92, 93, 94, 43, 95, 96, 97, 98, 99, 100, 101, 102, 103, 104, 105, 106, 107, 108, 109, 110, 111, 112, 113, 114, 115, 116, 117, 45, 118, 119, 120, 121, 122, 123, 124, 125, 126, 127, 128, 129, 130, 131, 132, 81, 86, 133, 134, 135, 136, 137, 138, 139, 140, 152, 153, 154, 155, 156, 157] (by decide +kernel) (by decide +kernel)
set_option maxRecDepth 20000 in
theorem gX0_isProductAlike_X1_becomeProductOf : GoodIn wsX0_isProductAlike (wsV RX0 39 RX1 yX1_becomeProductOf wsX1_becomeProductOf) := goodIn_app (goodIn_of _ (by decide +kernel)) ggX0_isProductAlike_X1_becomeProductOf
set_option maxRecDepth 20000 in
theorem ggX0_isProductAlike_X2_isLike : GoodIn wsX0_isProductAlike wsX2_isLike := goodIn_r _ [144, 10, 11, 12, 13, 8, 14, 20, 21, 22, 23, 24, 15, 16, 17, 18, 19, 149, 150, 151] (by decide +kernel) (by decide +kernel)
set_option maxRecDepth 20000 in
theorem gX0_isProductAlike_X2_isLike : GoodIn wsX0_isProductAlike (wsV RX0 59 RX2 yX2_isLike wsX2_isLike) := goodIn_app (goodIn_of _ (by decide +kernel)) ggX0_isProductAlike_X2_isLike
theorem dX0_isProductAlike_0 : decode cX0_isProductAlike 0 = .ok (.aload_n 0, 1) := by decide +kernel
theorem dX0_isProductAlike_1 : decode cX0_isProductAlike 1 = .ok (.getfield 21, 3) := by decide +kernel
theorem dX0_isProductAlike_4 : decode cX0_isProductAlike 4 = .ok (.aload_n 1, 1) := by decide +kernel
theorem dX0_isProductAlike_5 : decode cX0_isProductAlike 5 = .ok (.invokevirtual 51, 3) := by decide +kernel
theorem dX0_isProductAlike_8 : decode cX0_isProductAlike 8 = .ok (.aload_n 0, 1) := by decide +kernel
theorem dX0_isProductAlike_9 : decode cX0_isProductAlike 9 = .ok (.getfield 12, 3) := by decide +kernel
theorem dX0_isProductAlike_12 : decode cX0_isProductAlike 12 = .ok (.aload_n 0, 1) := by decide +kernel
theorem dX0_isProductAlike_13 : decode cX0_isProductAlike 13 = .ok (.getfield 21, 3) := by decide +kernel
theorem dX0_isProductAlike_16 : decode cX0_isProductAlike 16 = .ok (.aload_n 2, 1) := by decide +kernel
theorem dX0_isProductAlike_17 : decode cX0_isProductAlike 17 = .ok (.iconst 0, 1) := by decide +kernel
theorem dX0_isProductAlike_18 : decode cX0_isProductAlike 18 = .ok (.invokevirtual 55, 3) := by decide +kernel
theorem dX0_isProductAlike_21 : decode cX0_isProductAlike 21 = .ok (.aload_n 0, 1) := by decide +kernel
theorem dX0_isProductAlike_22 : decode cX0_isProductAlike 22 = .ok (.getfield 12, 3) := by decide +kernel
theorem dX0_isProductAlike_25 : decode cX0_isProductAlike 25 = .ok (.aload_n 0, 1) := by decide +kernel
theorem dX0_isProductAlike_26 : decode cX0_isProductAlike 26 = .ok (.getfield 21, 3) := by decide +kernel
theorem dX0_isProductAlike_29 : decode cX0_isProductAlike 29 = .ok (.aload_n 3, 1) := by decide +kernel
theorem dX0_isProductAlike_30 : decode cX0_isProductAlike 30 = .ok (.iconst 0, 1) := by decide +kernel
theorem dX0_isProductAlike_31 : decode cX0_isProductAlike 31 = .ok (.invokevirtual 55, 3) := by decide +kernel
theorem dX0_isProductAlike_34 : decode cX0_isProductAlike 34 = .ok (.aload_n 0, 1) := by decide +kernel
theorem dX0_isProductAlike_35 : decode cX0_isProductAlike 35 = .ok (.getfield 31, 3) := by decide +kernel
theorem dX0_isProductAlike_38 : decode cX0_isProductAlike 38 = .ok (.aload_n 3, 1) := by decide +kernel
theorem dX0_isProductAlike_39 : decode cX0_isProductAlike 39 = .ok (.aload_n 2, 1) := by decide +kernel
theorem dX0_isProductAlike_40 : decode cX0_isProductAlike 40 = .ok (.invokevirtual 39, 3) := by decide +kernel
theorem dX0_isProductAlike_43 : decode cX0_isProductAlike 43 = .ok (.aload_n 0, 1) := by decide +kernel
theorem dX0_isProductAlike_44 : decode cX0_isProductAlike 44 = .ok (.getfield 25, 3) := by decide +kernel
theorem dX0_isProductAlike_47 : decode cX0_isProductAlike 47 = .ok (.aload_n 1, 1) := by decide +kernel
theorem dX0_isProductAlike_48 : decode cX0_isProductAlike 48 = .ok (.invokevirtual 51, 3) := by decide +kernel
theorem dX0_isProductAlike_51 : decode cX0_isProductAlike 51 = .ok (.aload_n 0, 1) := by decide +kernel
theorem dX0_isProductAlike_52 : decode cX0_isProductAlike 52 = .ok (.getfield 12, 3) := by decide +kernel
theorem dX0_isProductAlike_55 : decode cX0_isProductAlike 55 = .ok (.aload_n 0, 1) := by decide +kernel
theorem dX0_isProductAlike_56 : decode cX0_isProductAlike 56 = .ok (.getfield 25, 3) := by decide +kernel
theorem dX0_isProductAlike_59 : decode cX0_isProductAlike 59 = .ok (.aload_n 0, 1) := by decide +kernel
theorem dX0_isProductAlike_60 : decode cX0_isProductAlike 60 = .ok (.getfield 31, 3) := by decide +kernel
theorem dX0_isProductAlike_63 : decode cX0_isProductAlike 63 = .ok (.iconst 0, 1) := by decide +kernel
theorem dX0_isProductAlike_64 : decode cX0_isProductAlike 64 = .ok (.invokevirtual 55, 3) := by decide +kernel
theorem dX0_isProductAlike_67 : decode cX0_isProductAlike 67 = .ok (.aload_n 0, 1) := by decide +kernel
theorem dX0_isProductAlike_68 : decode cX0_isProductAlike 68 = .ok (.getfield 21, 3) := by decide +kernel
theorem dX0_isProductAlike_71 : decode cX0_isProductAlike 71 = .ok (.aload_n 0, 1) := by decide +kernel
theorem dX0_isProductAlike_72 : decode cX0_isProductAlike 72 = .ok (.getfield 25, 3) := by decide +kernel
theorem dX0_isProductAlike_75 : decode cX0_isProductAlike 75 = .ok (.invokevirtual 59, 3) := by decide +kernel
theorem dX0_isProductAlike_78 : decode cX0_isProductAlike 78 = .ok (.ireturn, 1) := by decide +kernel
set_option maxRecDepth 20000 in
theorem ggX0_areSignsTurned_X1_compared : GoodIn wsX0_areSignsTurned wsX1_compared := goodIn_r _ [5, 6, 7, 8, 9, 10, 11, 12] (by decide +kernel) (by decide +kernel)
set_option maxRecDepth 20000 in
theorem gX0_areSignsTurned_X1_compared : GoodIn wsX0_areSignsTurned (wsV RX0 63 RX1 yX1_compared wsX1_compared) := goodIn_app (goodIn_of _ (by decide +kernel)) ggX0_areSignsTurned_X1_compared
theorem dX0_areSignsTurned_0 : decode cX0_areSignsTurned 0 = .ok (.iconst 0, 1) := by decide +kernel
theorem dX0_areSignsTurned_1 : decode cX0_areSignsTurned 1 = .ok (.istore_n 2, 1) := by decide +kernel
theorem dX0_areSignsTurned_2 : decode cX0_areSignsTurned 2 = .ok (.iload_n 2, 1) := by decide +kernel
theorem dX0_areSignsTurned_3 : decode cX0_areSignsTurned 3 = .ok (.bipush 16, 2) := by decide +kernel
theorem dX0_areSignsTurned_5 : decode cX0_areSignsTurned 5 = .ok (.if_icmp .ge 41, 3) := by decide +kernel
theorem dX0_areSignsTurned_8 : decode cX0_areSignsTurned 8 = .ok (.iconst 0, 1) := by decide +kernel
theorem dX0_areSignsTurned_9 : decode cX0_areSignsTurned 9 = .ok (.istore_n 3, 1) := by decide +kernel
theorem dX0_areSignsTurned_10 : decode cX0_areSignsTurned 10 = .ok (.iload_n 3, 1) := by decide +kernel
theorem dX0_areSignsTurned_11 : decode cX0_areSignsTurned 11 = .ok (.bipush 16, 2) := by decide +kernel
theorem dX0_areSignsTurned_13 : decode cX0_areSignsTurned 13 = .ok (.if_icmp .ge 27, 3) := by decide +kernel
theorem dX0_areSignsTurned_16 : decode cX0_areSignsTurned 16 = .ok (.aload_n 1, 1) := by decide +kernel
theorem dX0_areSignsTurned_17 : decode cX0_areSignsTurned 17 = .ok (.iload_n 2, 1) := by decide +kernel
theorem dX0_areSignsTurned_18 : decode cX0_areSignsTurned 18 = .ok (.iload_n 3, 1) := by decide +kernel
theorem dX0_areSignsTurned_19 : decode cX0_areSignsTurned 19 = .ok (.invokevirtual 63, 3) := by decide +kernel
theorem dX0_areSignsTurned_22 : decode cX0_areSignsTurned 22 = .ok (.aload_n 1, 1) := by decide +kernel
theorem dX0_areSignsTurned_23 : decode cX0_areSignsTurned 23 = .ok (.iload_n 3, 1) := by decide +kernel
theorem dX0_areSignsTurned_24 : decode cX0_areSignsTurned 24 = .ok (.iload_n 2, 1) := by decide +kernel
theorem dX0_areSignsTurned_25 : decode cX0_areSignsTurned 25 = .ok (.invokevirtual 63, 3) := by decide +kernel
theorem dX0_areSignsTurned_28 : decode cX0_areSignsTurned 28 = .ok (.ineg, 1) := by decide +kernel
theorem dX0_areSignsTurned_29 : decode cX0_areSignsTurned 29 = .ok (.if_icmp .eq 5, 3) := by decide +kernel
theorem dX0_areSignsTurned_32 : decode cX0_areSignsTurned 32 = .ok (.iconst 0, 1) := by decide +kernel
theorem dX0_areSignsTurned_33 : decode cX0_areSignsTurned 33 = .ok (.ireturn, 1) := by decide +kernel
theorem dX0_areSignsTurned_34 : decode cX0_areSignsTurned 34 = .ok (.iinc 3 1, 3) := by decide +kernel
theorem dX0_areSignsTurned_37 : decode cX0_areSignsTurned 37 = .ok (.goto (-27), 3) := by decide +kernel
theorem dX0_areSignsTurned_40 : decode cX0_areSignsTurned 40 = .ok (.iinc 2 1, 3) := by decide +kernel
theorem dX0_areSignsTurned_43 : decode cX0_areSignsTurned 43 = .ok (.goto (-41), 3) := by decide +kernel
theorem dX0_areSignsTurned_46 : decode cX0_areSignsTurned 46 = .ok (.iconst 1, 1) := by decide +kernel
theorem dX0_areSignsTurned_47 : decode cX0_areSignsTurned 47 = .ok (.ireturn, 1) := by decide +kernel
set_option maxRecDepth 20000 in
theorem ggX0_areRanksAsClasses_X0_isRankOfSome : GoodIn wsX0_areRanksAsClasses wsX0_isRankOfSome := goodIn_r _ [4, 5, 6, 7, 8, 9, 10, 16, 17, 18, 19, 20, 21] (by decide +kernel) (by decide +kernel)
set_option maxRecDepth 20000 in
theorem gX0_areRanksAsClasses_X0_isRankOfSome : GoodIn wsX0_areRanksAsClasses (va_wsS RX0 67 yX0_isRankOfSome wsX0_isRankOfSome) := goodIn_app (goodIn_of _ (by decide +kernel)) ggX0_areRanksAsClasses_X0_isRankOfSome
set_option maxRecDepth 20000 in
theorem ggX0_areRanksAsClasses_X1_classCount : GoodIn wsX0_areRanksAsClasses wsX1_classCount := goodIn_r _ [14, 15, 16, 17, 18, 19, 20, 21] (by decide +kernel) (by decide +kernel)
set_option maxRecDepth 20000 in
theorem gX0_areRanksAsClasses_X1_classCount : GoodIn wsX0_areRanksAsClasses (wsV RX0 47 RX1 yX1_classCount wsX1_classCount) := goodIn_app (goodIn_of _ (by decide +kernel)) ggX0_areRanksAsClasses_X1_classCount
theorem dX0_areRanksAsClasses_0 : decode cX0_areRanksAsClasses 0 = .ok (.iconst 0, 1) := by decide +kernel
theorem dX0_areRanksAsClasses_1 : decode cX0_areRanksAsClasses 1 = .ok (.istore_n 2, 1) := by decide +kernel
theorem dX0_areRanksAsClasses_2 : decode cX0_areRanksAsClasses 2 = .ok (.iconst 0, 1) := by decide +kernel
theorem dX0_areRanksAsClasses_3 : decode cX0_areRanksAsClasses 3 = .ok (.istore_n 3, 1) := by decide +kernel
theorem dX0_areRanksAsClasses_4 : decode cX0_areRanksAsClasses 4 = .ok (.iload_n 3, 1) := by decide +kernel
theorem dX0_areRanksAsClasses_5 : decode cX0_areRanksAsClasses 5 = .ok (.bipush 16, 2) := by decide +kernel
theorem dX0_areRanksAsClasses_7 : decode cX0_areRanksAsClasses 7 = .ok (.if_icmp .ge 20, 3) := by decide +kernel
theorem dX0_areRanksAsClasses_10 : decode cX0_areRanksAsClasses 10 = .ok (.aload_n 1, 1) := by decide +kernel
theorem dX0_areRanksAsClasses_11 : decode cX0_areRanksAsClasses 11 = .ok (.iload_n 3, 1) := by decide +kernel
theorem dX0_areRanksAsClasses_12 : decode cX0_areRanksAsClasses 12 = .ok (.invokestatic 67, 3) := by decide +kernel
theorem dX0_areRanksAsClasses_15 : decode cX0_areRanksAsClasses 15 = .ok (.ifCond .eq 6, 3) := by decide +kernel
theorem dX0_areRanksAsClasses_18 : decode cX0_areRanksAsClasses 18 = .ok (.iinc 2 1, 3) := by decide +kernel
theorem dX0_areRanksAsClasses_21 : decode cX0_areRanksAsClasses 21 = .ok (.iinc 3 1, 3) := by decide +kernel
theorem dX0_areRanksAsClasses_24 : decode cX0_areRanksAsClasses 24 = .ok (.goto (-20), 3) := by decide +kernel
theorem dX0_areRanksAsClasses_27 : decode cX0_areRanksAsClasses 27 = .ok (.iload_n 2, 1) := by decide +kernel
theorem dX0_areRanksAsClasses_28 : decode cX0_areRanksAsClasses 28 = .ok (.aload_n 1, 1) := by decide +kernel
theorem dX0_areRanksAsClasses_29 : decode cX0_areRanksAsClasses 29 = .ok (.invokevirtual 47, 3) := by decide +kernel
theorem dX0_areRanksAsClasses_32 : decode cX0_areRanksAsClasses 32 = .ok (.if_icmp .ne 7, 3) := by decide +kernel
theorem dX0_areRanksAsClasses_35 : decode cX0_areRanksAsClasses 35 = .ok (.iconst 1, 1) := by decide +kernel
theorem dX0_areRanksAsClasses_36 : decode cX0_areRanksAsClasses 36 = .ok (.goto 4, 3) := by decide +kernel
theorem dX0_areRanksAsClasses_39 : decode cX0_areRanksAsClasses 39 = .ok (.iconst 0, 1) := by decide +kernel
theorem dX0_areRanksAsClasses_40 : decode cX0_areRanksAsClasses 40 = .ok (.ireturn, 1) := by decide +kernel
set_option maxRecDepth 20000 in
theorem ggX0_isRankOfSome_X1_rankOf : GoodIn wsX0_isRankOfSome wsX1_rankOf := goodIn_r _ [5, 6, 7, 8, 9, 10, 11, 12] (by decide +kernel) (by decide +kernel)
set_option maxRecDepth 20000 in
theorem gX0_isRankOfSome_X1_rankOf : GoodIn wsX0_isRankOfSome (wsV RX0 71 RX1 yX1_rankOf wsX1_rankOf) := goodIn_app (goodIn_of _ (by decide +kernel)) ggX0_isRankOfSome_X1_rankOf
theorem dX0_isRankOfSome_0 : decode cX0_isRankOfSome 0 = .ok (.iconst 0, 1) := by decide +kernel
theorem dX0_isRankOfSome_1 : decode cX0_isRankOfSome 1 = .ok (.istore_n 2, 1) := by decide +kernel
theorem dX0_isRankOfSome_2 : decode cX0_isRankOfSome 2 = .ok (.iload_n 2, 1) := by decide +kernel
theorem dX0_isRankOfSome_3 : decode cX0_isRankOfSome 3 = .ok (.bipush 16, 2) := by decide +kernel
theorem dX0_isRankOfSome_5 : decode cX0_isRankOfSome 5 = .ok (.if_icmp .ge 20, 3) := by decide +kernel
theorem dX0_isRankOfSome_8 : decode cX0_isRankOfSome 8 = .ok (.aload_n 0, 1) := by decide +kernel
theorem dX0_isRankOfSome_9 : decode cX0_isRankOfSome 9 = .ok (.iload_n 2, 1) := by decide +kernel
theorem dX0_isRankOfSome_10 : decode cX0_isRankOfSome 10 = .ok (.invokevirtual 71, 3) := by decide +kernel
theorem dX0_isRankOfSome_13 : decode cX0_isRankOfSome 13 = .ok (.iload_n 1, 1) := by decide +kernel
theorem dX0_isRankOfSome_14 : decode cX0_isRankOfSome 14 = .ok (.if_icmp .ne 5, 3) := by decide +kernel
theorem dX0_isRankOfSome_17 : decode cX0_isRankOfSome 17 = .ok (.iconst 1, 1) := by decide +kernel
theorem dX0_isRankOfSome_18 : decode cX0_isRankOfSome 18 = .ok (.ireturn, 1) := by decide +kernel
theorem dX0_isRankOfSome_19 : decode cX0_isRankOfSome 19 = .ok (.iinc 2 1, 3) := by decide +kernel
theorem dX0_isRankOfSome_22 : decode cX0_isRankOfSome 22 = .ok (.goto (-20), 3) := by decide +kernel
theorem dX0_isRankOfSome_25 : decode cX0_isRankOfSome 25 = .ok (.iconst 0, 1) := by decide +kernel
theorem dX0_isRankOfSome_26 : decode cX0_isRankOfSome 26 = .ok (.ireturn, 1) := by decide +kernel
set_option maxRecDepth 20000 in
theorem ggX0_isFinerBySorting_X2_becomeAllValues : GoodIn wsX0_isFinerBySorting wsX2_becomeAllValues := goodIn_r _ [7, 8, 9, 10, 11, 6, 12, 13, 14, 61, 62, 63] (by decide +kernel) (by decide +kernel)
set_option maxRecDepth 20000 in
theorem gX0_isFinerBySorting_X2_becomeAllValues : GoodIn wsX0_isFinerBySorting (wsV RX0 75 RX2 yX2_becomeAllValues wsX2_becomeAllValues) := goodIn_app (goodIn_of _ (by decide +kernel)) ggX0_isFinerBySorting_X2_becomeAllValues
set_option maxRecDepth 20000 in
theorem ggX0_isFinerBySorting_X2_length : GoodIn wsX0_isFinerBySorting wsX2_length := goodIn_r _ [18, 8, 61, 62, 63] (by decide +kernel) (by decide +kernel)
set_option maxRecDepth 20000 in
theorem gX0_isFinerBySorting_X2_length : GoodIn wsX0_isFinerBySorting (wsV RX0 78 RX2 yX2_length wsX2_length) := goodIn_app (goodIn_of _ (by decide +kernel)) ggX0_isFinerBySorting_X2_length
set_option maxRecDepth 20000 in
theorem ggX0_isFinerBySorting_X3_insertEach : GoodIn wsX0_isFinerBySorting wsX3_insertEach := goodIn_r _ [23, 24, 25, 26, 6, 27, 13, 28, 29, 30, 31, 32, 33, 34, 35, 36, 37, 38, 39, 40, 41, 42, 14, 43, 44, 45, 46, 61, 62, 63, 64, 65, 66, 67, 68, 69] (by decide +kernel) (by decide +kernel)
set_option maxRecDepth 20000 in
theorem gX0_isFinerBySorting_X3_insertEach : GoodIn wsX0_isFinerBySorting (wsV RX0 81 RX3 yX3_insertEach wsX3_insertEach) := goodIn_app (goodIn_of _ (by decide +kernel)) ggX0_isFinerBySorting_X3_insertEach
set_option maxRecDepth 20000 in
theorem ggX0_isFinerBySorting_X2_isInSequenceBy : GoodIn wsX0_isFinerBySorting wsX2_isInSequenceBy := goodIn_r _ [50, 8, 38, 25, 26, 6, 27, 13, 51, 29, 30, 31, 32, 33, 61, 62, 63, 64, 65, 66, 67, 68, 69] (by decide +kernel) (by decide +kernel)
set_option maxRecDepth 20000 in
theorem gX0_isFinerBySorting_X2_isInSequenceBy : GoodIn wsX0_isFinerBySorting (wsV RX0 85 RX2 yX2_isInSequenceBy wsX2_isInSequenceBy) := goodIn_app (goodIn_of _ (by decide +kernel)) ggX0_isFinerBySorting_X2_isInSequenceBy
set_option maxRecDepth 20000 in
theorem ggX0_isFinerBySorting_X0_areAlikeAlike : GoodIn wsX0_isFinerBySorting wsX0_areAlikeAlike := goodIn_r _ [55, 56, 29, 30, 31, 32, 33, 64, 65, 66, 67, 68, 69] (by decide +kernel) (by decide +kernel)
set_option maxRecDepth 20000 in
theorem gX0_isFinerBySorting_X0_areAlikeAlike : GoodIn wsX0_isFinerBySorting (va_wsS RX0 88 yX0_areAlikeAlike wsX0_areAlikeAlike) := goodIn_app (goodIn_of _ (by decide +kernel)) ggX0_isFinerBySorting_X0_areAlikeAlike
theorem dX0_isFinerBySorting_0 : decode cX0_isFinerBySorting 0 = .ok (.aload_n 0, 1) := by decide +kernel
theorem dX0_isFinerBySorting_1 : decode cX0_isFinerBySorting 1 = .ok (.getfield 21, 3) := by decide +kernel
theorem dX0_isFinerBySorting_4 : decode cX0_isFinerBySorting 4 = .ok (.invokevirtual 75, 3) := by decide +kernel
theorem dX0_isFinerBySorting_7 : decode cX0_isFinerBySorting 7 = .ok (.aload_n 0, 1) := by decide +kernel
theorem dX0_isFinerBySorting_8 : decode cX0_isFinerBySorting 8 = .ok (.getfield 12, 3) := by decide +kernel
theorem dX0_isFinerBySorting_11 : decode cX0_isFinerBySorting 11 = .ok (.aload_n 0, 1) := by decide +kernel
theorem dX0_isFinerBySorting_12 : decode cX0_isFinerBySorting 12 = .ok (.getfield 21, 3) := by decide +kernel
theorem dX0_isFinerBySorting_15 : decode cX0_isFinerBySorting 15 = .ok (.aload_n 1, 1) := by decide +kernel
theorem dX0_isFinerBySorting_16 : decode cX0_isFinerBySorting 16 = .ok (.iconst 0, 1) := by decide +kernel
theorem dX0_isFinerBySorting_17 : decode cX0_isFinerBySorting 17 = .ok (.aload_n 0, 1) := by decide +kernel
theorem dX0_isFinerBySorting_18 : decode cX0_isFinerBySorting 18 = .ok (.getfield 21, 3) := by decide +kernel
theorem dX0_isFinerBySorting_21 : decode cX0_isFinerBySorting 21 = .ok (.invokevirtual 78, 3) := by decide +kernel
theorem dX0_isFinerBySorting_24 : decode cX0_isFinerBySorting 24 = .ok (.invokevirtual 81, 3) := by decide +kernel
theorem dX0_isFinerBySorting_27 : decode cX0_isFinerBySorting 27 = .ok (.aload_n 0, 1) := by decide +kernel
theorem dX0_isFinerBySorting_28 : decode cX0_isFinerBySorting 28 = .ok (.getfield 21, 3) := by decide +kernel
theorem dX0_isFinerBySorting_31 : decode cX0_isFinerBySorting 31 = .ok (.aload_n 2, 1) := by decide +kernel
theorem dX0_isFinerBySorting_32 : decode cX0_isFinerBySorting 32 = .ok (.invokevirtual 85, 3) := by decide +kernel
theorem dX0_isFinerBySorting_35 : decode cX0_isFinerBySorting 35 = .ok (.ifCond .eq 15, 3) := by decide +kernel
theorem dX0_isFinerBySorting_38 : decode cX0_isFinerBySorting 38 = .ok (.aload_n 1, 1) := by decide +kernel
theorem dX0_isFinerBySorting_39 : decode cX0_isFinerBySorting 39 = .ok (.aload_n 2, 1) := by decide +kernel
theorem dX0_isFinerBySorting_40 : decode cX0_isFinerBySorting 40 = .ok (.invokestatic 88, 3) := by decide +kernel
theorem dX0_isFinerBySorting_43 : decode cX0_isFinerBySorting 43 = .ok (.ifCond .eq 7, 3) := by decide +kernel
theorem dX0_isFinerBySorting_46 : decode cX0_isFinerBySorting 46 = .ok (.iconst 1, 1) := by decide +kernel
theorem dX0_isFinerBySorting_47 : decode cX0_isFinerBySorting 47 = .ok (.goto 4, 3) := by decide +kernel
theorem dX0_isFinerBySorting_50 : decode cX0_isFinerBySorting 50 = .ok (.iconst 0, 1) := by decide +kernel
theorem dX0_isFinerBySorting_51 : decode cX0_isFinerBySorting 51 = .ok (.ireturn, 1) := by decide +kernel
set_option maxRecDepth 20000 in
theorem ggX0_areAlikeAlike_X1_compared : GoodIn wsX0_areAlikeAlike wsX1_compared := goodIn_r _ [5, 6, 7, 8, 9, 10, 11, 12] (by decide +kernel) (by decide +kernel)
set_option maxRecDepth 20000 in
theorem gX0_areAlikeAlike_X1_compared : GoodIn wsX0_areAlikeAlike (wsV RX0 63 RX1 yX1_compared wsX1_compared) := goodIn_app (goodIn_of _ (by decide +kernel)) ggX0_areAlikeAlike_X1_compared
theorem dX0_areAlikeAlike_0 : decode cX0_areAlikeAlike 0 = .ok (.iconst 0, 1) := by decide +kernel
theorem dX0_areAlikeAlike_1 : decode cX0_areAlikeAlike 1 = .ok (.istore_n 2, 1) := by decide +kernel
theorem dX0_areAlikeAlike_2 : decode cX0_areAlikeAlike 2 = .ok (.iload_n 2, 1) := by decide +kernel
theorem dX0_areAlikeAlike_3 : decode cX0_areAlikeAlike 3 = .ok (.bipush 16, 2) := by decide +kernel
theorem dX0_areAlikeAlike_5 : decode cX0_areAlikeAlike 5 = .ok (.if_icmp .ge 45, 3) := by decide +kernel
theorem dX0_areAlikeAlike_8 : decode cX0_areAlikeAlike 8 = .ok (.iload_n 2, 1) := by decide +kernel
theorem dX0_areAlikeAlike_9 : decode cX0_areAlikeAlike 9 = .ok (.iconst 1, 1) := by decide +kernel
theorem dX0_areAlikeAlike_10 : decode cX0_areAlikeAlike 10 = .ok (.iadd, 1) := by decide +kernel
theorem dX0_areAlikeAlike_11 : decode cX0_areAlikeAlike 11 = .ok (.istore_n 3, 1) := by decide +kernel
theorem dX0_areAlikeAlike_12 : decode cX0_areAlikeAlike 12 = .ok (.iload_n 3, 1) := by decide +kernel
theorem dX0_areAlikeAlike_13 : decode cX0_areAlikeAlike 13 = .ok (.bipush 16, 2) := by decide +kernel
theorem dX0_areAlikeAlike_15 : decode cX0_areAlikeAlike 15 = .ok (.if_icmp .ge 29, 3) := by decide +kernel
theorem dX0_areAlikeAlike_18 : decode cX0_areAlikeAlike 18 = .ok (.aload_n 0, 1) := by decide +kernel
theorem dX0_areAlikeAlike_19 : decode cX0_areAlikeAlike 19 = .ok (.iload_n 2, 1) := by decide +kernel
theorem dX0_areAlikeAlike_20 : decode cX0_areAlikeAlike 20 = .ok (.iload_n 3, 1) := by decide +kernel
theorem dX0_areAlikeAlike_21 : decode cX0_areAlikeAlike 21 = .ok (.invokevirtual 63, 3) := by decide +kernel
theorem dX0_areAlikeAlike_24 : decode cX0_areAlikeAlike 24 = .ok (.ifCond .ne 14, 3) := by decide +kernel
theorem dX0_areAlikeAlike_27 : decode cX0_areAlikeAlike 27 = .ok (.aload_n 1, 1) := by decide +kernel
theorem dX0_areAlikeAlike_28 : decode cX0_areAlikeAlike 28 = .ok (.iload_n 2, 1) := by decide +kernel
theorem dX0_areAlikeAlike_29 : decode cX0_areAlikeAlike 29 = .ok (.iload_n 3, 1) := by decide +kernel
theorem dX0_areAlikeAlike_30 : decode cX0_areAlikeAlike 30 = .ok (.invokevirtual 63, 3) := by decide +kernel
theorem dX0_areAlikeAlike_33 : decode cX0_areAlikeAlike 33 = .ok (.ifCond .eq 5, 3) := by decide +kernel
theorem dX0_areAlikeAlike_36 : decode cX0_areAlikeAlike 36 = .ok (.iconst 0, 1) := by decide +kernel
theorem dX0_areAlikeAlike_37 : decode cX0_areAlikeAlike 37 = .ok (.ireturn, 1) := by decide +kernel
theorem dX0_areAlikeAlike_38 : decode cX0_areAlikeAlike 38 = .ok (.iinc 3 1, 3) := by decide +kernel
theorem dX0_areAlikeAlike_41 : decode cX0_areAlikeAlike 41 = .ok (.goto (-29), 3) := by decide +kernel
theorem dX0_areAlikeAlike_44 : decode cX0_areAlikeAlike 44 = .ok (.iinc 2 1, 3) := by decide +kernel
theorem dX0_areAlikeAlike_47 : decode cX0_areAlikeAlike 47 = .ok (.goto (-45), 3) := by decide +kernel
theorem dX0_areAlikeAlike_50 : decode cX0_areAlikeAlike 50 = .ok (.iconst 1, 1) := by decide +kernel
theorem dX0_areAlikeAlike_51 : decode cX0_areAlikeAlike 51 = .ok (.ireturn, 1) := by decide +kernel
set_option maxRecDepth 20000 in
theorem ggX0_areWaysAgreed_X2_becomeCopyOf : GoodIn wsX0_areWaysAgreed wsX2_becomeCopyOf := goodIn_r _ [8, 9, 10, 11, 12, 7, 13, 14, 15, 16, 17, 18, 19, 20, 21, 22, 23, 24, 25, 26, 27, 94, 95, 96] (by decide +kernel) (by decide +kernel)
set_option maxRecDepth 20000 in
theorem gX0_areWaysAgreed_X2_becomeCopyOf : GoodIn wsX0_areWaysAgreed (wsV RX0 51 RX2 yX2_becomeCopyOf wsX2_becomeCopyOf) := goodIn_app (goodIn_of _ (by decide +kernel)) ggX0_areWaysAgreed_X2_becomeCopyOf
set_option maxRecDepth 20000 in
theorem ggX0_areWaysAgreed_X3_arrangeAll : GoodIn wsX0_areWaysAgreed wsX3_arrangeAll := goodIn_r _ [32, 33, 11, 12, 7, 13, 9, 34, 35, 36, 31, 37, 38, 15, 16, 17, 18, 39, 40, 41, 42, 43, 44, 45, 46, 47, 48, 14, 19, 20, 21, 22, 23, 24, 25, 26, 27, 49, 50, 51, 52, 53, 54, 55, 56, 57, 58, 59, 60, 61, 62, 63, 64, 65, 66, 67, 68, 69, 70, 71, 5, 6, 8, 10, 72, 73, 74, 75, 76, 77, 78, 79, 80, 81, 82, 83, 84, 85, 94, 95, 96, 97, 98, 99, 100, 101, 102, 103] (by decide +kernel) (by decide +kernel)
set_option maxRecDepth 20000 in
theorem gX0_areWaysAgreed_X3_arrangeAll : GoodIn wsX0_areWaysAgreed (wsV RX0 55 RX3 yX3_arrangeAll wsX3_arrangeAll) := goodIn_app (goodIn_of _ (by decide +kernel)) ggX0_areWaysAgreed_X3_arrangeAll
set_option maxRecDepth 20000 in
theorem ggX0_areWaysAgreed_X2_isLike : GoodIn wsX0_areWaysAgreed wsX2_isLike := goodIn_r _ [89, 9, 10, 11, 12, 7, 13, 19, 20, 21, 22, 23, 14, 15, 16, 17, 18, 94, 95, 96] (by decide +kernel) (by decide +kernel)
set_option maxRecDepth 20000 in
theorem gX0_areWaysAgreed_X2_isLike : GoodIn wsX0_areWaysAgreed (wsV RX0 59 RX2 yX2_isLike wsX2_isLike) := goodIn_app (goodIn_of _ (by decide +kernel)) ggX0_areWaysAgreed_X2_isLike
theorem dX0_areWaysAgreed_0 : decode cX0_areWaysAgreed 0 = .ok (.aload_n 0, 1) := by decide +kernel
theorem dX0_areWaysAgreed_1 : decode cX0_areWaysAgreed 1 = .ok (.getfield 21, 3) := by decide +kernel
theorem dX0_areWaysAgreed_4 : decode cX0_areWaysAgreed 4 = .ok (.aload_n 1, 1) := by decide +kernel
theorem dX0_areWaysAgreed_5 : decode cX0_areWaysAgreed 5 = .ok (.invokevirtual 51, 3) := by decide +kernel
theorem dX0_areWaysAgreed_8 : decode cX0_areWaysAgreed 8 = .ok (.aload_n 0, 1) := by decide +kernel
theorem dX0_areWaysAgreed_9 : decode cX0_areWaysAgreed 9 = .ok (.getfield 12, 3) := by decide +kernel
theorem dX0_areWaysAgreed_12 : decode cX0_areWaysAgreed 12 = .ok (.aload_n 0, 1) := by decide +kernel
theorem dX0_areWaysAgreed_13 : decode cX0_areWaysAgreed 13 = .ok (.getfield 21, 3) := by decide +kernel
theorem dX0_areWaysAgreed_16 : decode cX0_areWaysAgreed 16 = .ok (.aload_n 2, 1) := by decide +kernel
theorem dX0_areWaysAgreed_17 : decode cX0_areWaysAgreed 17 = .ok (.iconst 0, 1) := by decide +kernel
theorem dX0_areWaysAgreed_18 : decode cX0_areWaysAgreed 18 = .ok (.invokevirtual 55, 3) := by decide +kernel
theorem dX0_areWaysAgreed_21 : decode cX0_areWaysAgreed 21 = .ok (.iconst 1, 1) := by decide +kernel
theorem dX0_areWaysAgreed_22 : decode cX0_areWaysAgreed 22 = .ok (.istore_n 3, 1) := by decide +kernel
theorem dX0_areWaysAgreed_23 : decode cX0_areWaysAgreed 23 = .ok (.iload_n 3, 1) := by decide +kernel
theorem dX0_areWaysAgreed_24 : decode cX0_areWaysAgreed 24 = .ok (.iconst 3, 1) := by decide +kernel
theorem dX0_areWaysAgreed_25 : decode cX0_areWaysAgreed 25 = .ok (.if_icmp .ge 46, 3) := by decide +kernel
theorem dX0_areWaysAgreed_28 : decode cX0_areWaysAgreed 28 = .ok (.aload_n 0, 1) := by decide +kernel
theorem dX0_areWaysAgreed_29 : decode cX0_areWaysAgreed 29 = .ok (.getfield 25, 3) := by decide +kernel
theorem dX0_areWaysAgreed_32 : decode cX0_areWaysAgreed 32 = .ok (.aload_n 1, 1) := by decide +kernel
theorem dX0_areWaysAgreed_33 : decode cX0_areWaysAgreed 33 = .ok (.invokevirtual 51, 3) := by decide +kernel
theorem dX0_areWaysAgreed_36 : decode cX0_areWaysAgreed 36 = .ok (.aload_n 0, 1) := by decide +kernel
theorem dX0_areWaysAgreed_37 : decode cX0_areWaysAgreed 37 = .ok (.getfield 12, 3) := by decide +kernel
theorem dX0_areWaysAgreed_40 : decode cX0_areWaysAgreed 40 = .ok (.aload_n 0, 1) := by decide +kernel
theorem dX0_areWaysAgreed_41 : decode cX0_areWaysAgreed 41 = .ok (.getfield 25, 3) := by decide +kernel
theorem dX0_areWaysAgreed_44 : decode cX0_areWaysAgreed 44 = .ok (.aload_n 2, 1) := by decide +kernel
theorem dX0_areWaysAgreed_45 : decode cX0_areWaysAgreed 45 = .ok (.iload_n 3, 1) := by decide +kernel
theorem dX0_areWaysAgreed_46 : decode cX0_areWaysAgreed 46 = .ok (.invokevirtual 55, 3) := by decide +kernel
theorem dX0_areWaysAgreed_49 : decode cX0_areWaysAgreed 49 = .ok (.aload_n 0, 1) := by decide +kernel
theorem dX0_areWaysAgreed_50 : decode cX0_areWaysAgreed 50 = .ok (.getfield 21, 3) := by decide +kernel
theorem dX0_areWaysAgreed_53 : decode cX0_areWaysAgreed 53 = .ok (.aload_n 0, 1) := by decide +kernel
theorem dX0_areWaysAgreed_54 : decode cX0_areWaysAgreed 54 = .ok (.getfield 25, 3) := by decide +kernel
theorem dX0_areWaysAgreed_57 : decode cX0_areWaysAgreed 57 = .ok (.invokevirtual 59, 3) := by decide +kernel
theorem dX0_areWaysAgreed_60 : decode cX0_areWaysAgreed 60 = .ok (.ifCond .ne 5, 3) := by decide +kernel
theorem dX0_areWaysAgreed_63 : decode cX0_areWaysAgreed 63 = .ok (.iconst 0, 1) := by decide +kernel
theorem dX0_areWaysAgreed_64 : decode cX0_areWaysAgreed 64 = .ok (.ireturn, 1) := by decide +kernel
theorem dX0_areWaysAgreed_65 : decode cX0_areWaysAgreed 65 = .ok (.iinc 3 1, 3) := by decide +kernel
theorem dX0_areWaysAgreed_68 : decode cX0_areWaysAgreed 68 = .ok (.goto (-45), 3) := by decide +kernel
theorem dX0_areWaysAgreed_71 : decode cX0_areWaysAgreed 71 = .ok (.iconst 1, 1) := by decide +kernel
theorem dX0_areWaysAgreed_72 : decode cX0_areWaysAgreed 72 = .ok (.ireturn, 1) := by decide +kernel
set_option maxRecDepth 20000 in
theorem ggX0_staysSorted_X2_becomeCopyOf : GoodIn wsX0_staysSorted wsX2_becomeCopyOf := goodIn_r _ [8, 9, 10, 11, 12, 7, 13, 14, 15, 16, 17, 18, 19, 20, 21, 22, 23, 24, 25, 26, 27, 99, 100, 101] (by decide +kernel) (by decide +kernel)
set_option maxRecDepth 20000 in
theorem gX0_staysSorted_X2_becomeCopyOf : GoodIn wsX0_staysSorted (wsV RX0 51 RX2 yX2_becomeCopyOf wsX2_becomeCopyOf) := goodIn_app (goodIn_of _ (by decide +kernel)) ggX0_staysSorted_X2_becomeCopyOf
set_option maxRecDepth 20000 in
theorem ggX0_staysSorted_X3_arrangeAll : GoodIn wsX0_staysSorted wsX3_arrangeAll := goodIn_r _ [32, 33, 11, 12, 7, 13, 9, 34, 35, 36, 31, 37, 38, 15, 16, 17, 18, 39, 40, 41, 42, 43, 44, 45, 46, 47, 48, 14, 19, 20, 21, 22, 23, 24, 25, 26, 27, 49, 50, 51, 52, 53, 54, 55, 56, 57, 58, 59, 60, 61, 62, 63, 64, 65, 66, 67, 68, 69, 70, 71, 5, 6, 8, 10, 72, 73, 74, 75, 76, 77, 78, 79, 80, 81, 82, 83, 84, 85, 99, 100, 101, 102, 103, 104, 105, 106, 107, 108] (by decide +kernel) (by decide +kernel)
set_option maxRecDepth 20000 in
theorem gX0_staysSorted_X3_arrangeAll : GoodIn wsX0_staysSorted (wsV RX0 55 RX3 yX3_arrangeAll wsX3_arrangeAll) := goodIn_app (goodIn_of _ (by decide +kernel)) ggX0_staysSorted_X3_arrangeAll
set_option maxRecDepth 20000 in
theorem ggX0_staysSorted_X2_isInSequenceBy : GoodIn wsX0_staysSorted wsX2_isInSequenceBy := goodIn_r _ [89, 9, 14, 15, 16, 7, 17, 18, 90, 40, 41, 42, 43, 44, 99, 100, 101, 102, 103, 104, 105, 106, 107] (by decide +kernel) (by decide +kernel)
set_option maxRecDepth 20000 in
theorem gX0_staysSorted_X2_isInSequenceBy : GoodIn wsX0_staysSorted (wsV RX0 85 RX2 yX2_isInSequenceBy wsX2_isInSequenceBy) := goodIn_app (goodIn_of _ (by decide +kernel)) ggX0_staysSorted_X2_isInSequenceBy
set_option maxRecDepth 20000 in
theorem ggX0_staysSorted_X2_isLike : GoodIn wsX0_staysSorted wsX2_isLike := goodIn_r _ [94, 9, 10, 11, 12, 7, 13, 19, 20, 21, 22, 23, 14, 15, 16, 17, 18, 99, 100, 101] (by decide +kernel) (by decide +kernel)
set_option maxRecDepth 20000 in
theorem gX0_staysSorted_X2_isLike : GoodIn wsX0_staysSorted (wsV RX0 59 RX2 yX2_isLike wsX2_isLike) := goodIn_app (goodIn_of _ (by decide +kernel)) ggX0_staysSorted_X2_isLike
theorem dX0_staysSorted_0 : decode cX0_staysSorted 0 = .ok (.aload_n 0, 1) := by decide +kernel
theorem dX0_staysSorted_1 : decode cX0_staysSorted 1 = .ok (.getfield 21, 3) := by decide +kernel
theorem dX0_staysSorted_4 : decode cX0_staysSorted 4 = .ok (.aload_n 1, 1) := by decide +kernel
theorem dX0_staysSorted_5 : decode cX0_staysSorted 5 = .ok (.invokevirtual 51, 3) := by decide +kernel
theorem dX0_staysSorted_8 : decode cX0_staysSorted 8 = .ok (.aload_n 0, 1) := by decide +kernel
theorem dX0_staysSorted_9 : decode cX0_staysSorted 9 = .ok (.getfield 12, 3) := by decide +kernel
theorem dX0_staysSorted_12 : decode cX0_staysSorted 12 = .ok (.aload_n 0, 1) := by decide +kernel
theorem dX0_staysSorted_13 : decode cX0_staysSorted 13 = .ok (.getfield 21, 3) := by decide +kernel
theorem dX0_staysSorted_16 : decode cX0_staysSorted 16 = .ok (.aload_n 2, 1) := by decide +kernel
theorem dX0_staysSorted_17 : decode cX0_staysSorted 17 = .ok (.iconst 0, 1) := by decide +kernel
theorem dX0_staysSorted_18 : decode cX0_staysSorted 18 = .ok (.invokevirtual 55, 3) := by decide +kernel
theorem dX0_staysSorted_21 : decode cX0_staysSorted 21 = .ok (.aload_n 0, 1) := by decide +kernel
theorem dX0_staysSorted_22 : decode cX0_staysSorted 22 = .ok (.getfield 25, 3) := by decide +kernel
theorem dX0_staysSorted_25 : decode cX0_staysSorted 25 = .ok (.aload_n 0, 1) := by decide +kernel
theorem dX0_staysSorted_26 : decode cX0_staysSorted 26 = .ok (.getfield 21, 3) := by decide +kernel
theorem dX0_staysSorted_29 : decode cX0_staysSorted 29 = .ok (.invokevirtual 51, 3) := by decide +kernel
theorem dX0_staysSorted_32 : decode cX0_staysSorted 32 = .ok (.aload_n 0, 1) := by decide +kernel
theorem dX0_staysSorted_33 : decode cX0_staysSorted 33 = .ok (.getfield 12, 3) := by decide +kernel
theorem dX0_staysSorted_36 : decode cX0_staysSorted 36 = .ok (.aload_n 0, 1) := by decide +kernel
theorem dX0_staysSorted_37 : decode cX0_staysSorted 37 = .ok (.getfield 25, 3) := by decide +kernel
theorem dX0_staysSorted_40 : decode cX0_staysSorted 40 = .ok (.aload_n 2, 1) := by decide +kernel
theorem dX0_staysSorted_41 : decode cX0_staysSorted 41 = .ok (.iconst 0, 1) := by decide +kernel
theorem dX0_staysSorted_42 : decode cX0_staysSorted 42 = .ok (.invokevirtual 55, 3) := by decide +kernel
theorem dX0_staysSorted_45 : decode cX0_staysSorted 45 = .ok (.aload_n 0, 1) := by decide +kernel
theorem dX0_staysSorted_46 : decode cX0_staysSorted 46 = .ok (.getfield 21, 3) := by decide +kernel
theorem dX0_staysSorted_49 : decode cX0_staysSorted 49 = .ok (.aload_n 2, 1) := by decide +kernel
theorem dX0_staysSorted_50 : decode cX0_staysSorted 50 = .ok (.invokevirtual 85, 3) := by decide +kernel
theorem dX0_staysSorted_53 : decode cX0_staysSorted 53 = .ok (.ifCond .eq 21, 3) := by decide +kernel
theorem dX0_staysSorted_56 : decode cX0_staysSorted 56 = .ok (.aload_n 0, 1) := by decide +kernel
theorem dX0_staysSorted_57 : decode cX0_staysSorted 57 = .ok (.getfield 21, 3) := by decide +kernel
theorem dX0_staysSorted_60 : decode cX0_staysSorted 60 = .ok (.aload_n 0, 1) := by decide +kernel
theorem dX0_staysSorted_61 : decode cX0_staysSorted 61 = .ok (.getfield 25, 3) := by decide +kernel
theorem dX0_staysSorted_64 : decode cX0_staysSorted 64 = .ok (.invokevirtual 59, 3) := by decide +kernel
theorem dX0_staysSorted_67 : decode cX0_staysSorted 67 = .ok (.ifCond .eq 7, 3) := by decide +kernel
theorem dX0_staysSorted_70 : decode cX0_staysSorted 70 = .ok (.iconst 1, 1) := by decide +kernel
theorem dX0_staysSorted_71 : decode cX0_staysSorted 71 = .ok (.goto 4, 3) := by decide +kernel
theorem dX0_staysSorted_74 : decode cX0_staysSorted 74 = .ok (.iconst 0, 1) := by decide +kernel
theorem dX0_staysSorted_75 : decode cX0_staysSorted 75 = .ok (.ireturn, 1) := by decide +kernel
set_option maxRecDepth 20000 in
theorem ggX0_isTurnedAlike_X2_becomeCopyOf : GoodIn wsX0_isTurnedAlike wsX2_becomeCopyOf := goodIn_r _ [9, 10, 11, 12, 13, 8, 14, 15, 16, 17, 18, 19, 20, 21, 22, 23, 24, 25, 26, 27, 28, 158, 159, 160] (by decide +kernel) (by decide +kernel)
set_option maxRecDepth 20000 in
theorem gX0_isTurnedAlike_X2_becomeCopyOf : GoodIn wsX0_isTurnedAlike (wsV RX0 51 RX2 yX2_becomeCopyOf wsX2_becomeCopyOf) := goodIn_app (goodIn_of _ (by decide +kernel)) ggX0_isTurnedAlike_X2_becomeCopyOf
set_option maxRecDepth 20000 in
theorem ggX0_isTurnedAlike_X2_reverse : GoodIn wsX0_isTurnedAlike wsX2_reverse := goodIn_r _ [32, 10, 33, 34, 35, 8, 36, 15, 16, 17, 18, 19, 20, 21, 22, 23, 24, 25, 26, 27, 28, 158, 159, 160] (by decide +kernel) (by decide +kernel)
set_option maxRecDepth 20000 in
theorem gX0_isTurnedAlike_X2_reverse : GoodIn wsX0_isTurnedAlike (wsV RX0 91 RX2 yX2_reverse wsX2_reverse) := goodIn_app (goodIn_of _ (by decide +kernel)) ggX0_isTurnedAlike_X2_reverse
set_option maxRecDepth 20000 in
theorem ggX0_isTurnedAlike_X3_arrangeAll : GoodIn wsX0_isTurnedAlike wsX3_arrangeAll := goodIn_r _ [41, 42, 12, 13, 8, 14, 10, 43, 44, 45, 40, 46, 47, 16, 17, 18, 19, 48, 49, 50, 51, 52, 53, 54, 34, 35, 36, 15, 20, 21, 22, 23, 24, 25, 26, 27, 28, 55, 56, 57, 58, 59, 60, 61, 62, 63, 64, 65, 66, 67, 68, 69, 70, 71, 72, 73, 74, 75, 76, 77, 6, 7, 9, 11, 78, 79, 80, 81, 82, 83, 84, 85, 86, 87, 88, 89, 90, 91, 158, 159, 160, 161, 162, 163, 164, 165, 166, 167] (by decide +kernel) (by decide +kernel)
set_option maxRecDepth 20000 in
theorem gX0_isTurnedAlike_X3_arrangeAll : GoodIn wsX0_isTurnedAlike (wsV RX0 55 RX3 yX3_arrangeAll wsX3_arrangeAll) := goodIn_app (goodIn_of _ (by decide +kernel)) ggX0_isTurnedAlike_X3_arrangeAll
set_option maxRecDepth 20000 in
theorem ggX0_isTurnedAlike_X1_becomeCopyOf : GoodIn wsX0_isTurnedAlike wsX1_becomeCopyOf := goodIn_r _ [95, 96, 97, 98, 99, 51, 100, 101, 102, 103, 104, 105, 106, 107, 108, 109, 110, 111, 112, 113, 114, 115, 116, 117, 118, 119, 120, 121, 122, 53, 123, 124, 125, 126, 127, 128, 129, 130, 131, 132, 133, 134, 135, 136, 137, 86, 91, 138, 139, 140, 141, 142, 143, 144, 145, 161, 162, 163, 164, 165, 166] (by decide +kernel) (by decide +kernel)
set_option maxRecDepth 20000 in
theorem gX0_isTurnedAlike_X1_becomeCopyOf : GoodIn wsX0_isTurnedAlike (wsV RX0 94 RX1 yX1_becomeCopyOf wsX1_becomeCopyOf) := goodIn_app (goodIn_of _ (by decide +kernel)) ggX0_isTurnedAlike_X1_becomeCopyOf
set_option maxRecDepth 20000 in
theorem ggX0_isTurnedAlike_X1_reverse : GoodIn wsX0_isTurnedAlike wsX1_reverse := goodIn_r _ [149, 96, 114, 119, 120, 121, 51, 122, 53, 109, 123, 124, 125, 126, 127, 128, 129, 130, 131, 132, 133, 134, 135, 136, 137, 86, 91, 138, 139, 140, 141, 142, 143, 144, 145, 161, 162, 163, 164, 165, 166] (by decide +kernel) (by decide +kernel)
set_option maxRecDepth 20000 in
theorem gX0_isTurnedAlike_X1_reverse : GoodIn wsX0_isTurnedAlike (wsV RX0 97 RX1 yX1_reverse wsX1_reverse) := goodIn_app (goodIn_of _ (by decide +kernel)) ggX0_isTurnedAlike_X1_reverse
set_option maxRecDepth 20000 in
theorem ggX0_isTurnedAlike_X2_isLike : GoodIn wsX0_isTurnedAlike wsX2_isLike := goodIn_r _ [153, 10, 11, 12, 13, 8, 14, 20, 21, 22, 23, 24, 15, 16, 17, 18, 19, 158, 159, 160] (by decide +kernel) (by decide +kernel)
set_option maxRecDepth 20000 in
theorem gX0_isTurnedAlike_X2_isLike : GoodIn wsX0_isTurnedAlike (wsV RX0 59 RX2 yX2_isLike wsX2_isLike) := goodIn_app (goodIn_of _ (by decide +kernel)) ggX0_isTurnedAlike_X2_isLike
theorem dX0_isTurnedAlike_0 : decode cX0_isTurnedAlike 0 = .ok (.aload_n 0, 1) := by decide +kernel
theorem dX0_isTurnedAlike_1 : decode cX0_isTurnedAlike 1 = .ok (.getfield 21, 3) := by decide +kernel
theorem dX0_isTurnedAlike_4 : decode cX0_isTurnedAlike 4 = .ok (.aload_n 1, 1) := by decide +kernel
theorem dX0_isTurnedAlike_5 : decode cX0_isTurnedAlike 5 = .ok (.invokevirtual 51, 3) := by decide +kernel
theorem dX0_isTurnedAlike_8 : decode cX0_isTurnedAlike 8 = .ok (.aload_n 0, 1) := by decide +kernel
theorem dX0_isTurnedAlike_9 : decode cX0_isTurnedAlike 9 = .ok (.getfield 21, 3) := by decide +kernel
theorem dX0_isTurnedAlike_12 : decode cX0_isTurnedAlike 12 = .ok (.invokevirtual 91, 3) := by decide +kernel
theorem dX0_isTurnedAlike_15 : decode cX0_isTurnedAlike 15 = .ok (.aload_n 0, 1) := by decide +kernel
theorem dX0_isTurnedAlike_16 : decode cX0_isTurnedAlike 16 = .ok (.getfield 12, 3) := by decide +kernel
theorem dX0_isTurnedAlike_19 : decode cX0_isTurnedAlike 19 = .ok (.aload_n 0, 1) := by decide +kernel
theorem dX0_isTurnedAlike_20 : decode cX0_isTurnedAlike 20 = .ok (.getfield 21, 3) := by decide +kernel
theorem dX0_isTurnedAlike_23 : decode cX0_isTurnedAlike 23 = .ok (.aload_n 2, 1) := by decide +kernel
theorem dX0_isTurnedAlike_24 : decode cX0_isTurnedAlike 24 = .ok (.iconst 0, 1) := by decide +kernel
theorem dX0_isTurnedAlike_25 : decode cX0_isTurnedAlike 25 = .ok (.invokevirtual 55, 3) := by decide +kernel
theorem dX0_isTurnedAlike_28 : decode cX0_isTurnedAlike 28 = .ok (.aload_n 0, 1) := by decide +kernel
theorem dX0_isTurnedAlike_29 : decode cX0_isTurnedAlike 29 = .ok (.getfield 21, 3) := by decide +kernel
theorem dX0_isTurnedAlike_32 : decode cX0_isTurnedAlike 32 = .ok (.invokevirtual 91, 3) := by decide +kernel
theorem dX0_isTurnedAlike_35 : decode cX0_isTurnedAlike 35 = .ok (.aload_n 0, 1) := by decide +kernel
theorem dX0_isTurnedAlike_36 : decode cX0_isTurnedAlike 36 = .ok (.getfield 31, 3) := by decide +kernel
theorem dX0_isTurnedAlike_39 : decode cX0_isTurnedAlike 39 = .ok (.aload_n 2, 1) := by decide +kernel
theorem dX0_isTurnedAlike_40 : decode cX0_isTurnedAlike 40 = .ok (.invokevirtual 94, 3) := by decide +kernel
theorem dX0_isTurnedAlike_43 : decode cX0_isTurnedAlike 43 = .ok (.aload_n 0, 1) := by decide +kernel
theorem dX0_isTurnedAlike_44 : decode cX0_isTurnedAlike 44 = .ok (.getfield 31, 3) := by decide +kernel
theorem dX0_isTurnedAlike_47 : decode cX0_isTurnedAlike 47 = .ok (.invokevirtual 97, 3) := by decide +kernel
theorem dX0_isTurnedAlike_50 : decode cX0_isTurnedAlike 50 = .ok (.aload_n 0, 1) := by decide +kernel
theorem dX0_isTurnedAlike_51 : decode cX0_isTurnedAlike 51 = .ok (.getfield 25, 3) := by decide +kernel
theorem dX0_isTurnedAlike_54 : decode cX0_isTurnedAlike 54 = .ok (.aload_n 1, 1) := by decide +kernel
theorem dX0_isTurnedAlike_55 : decode cX0_isTurnedAlike 55 = .ok (.invokevirtual 51, 3) := by decide +kernel
theorem dX0_isTurnedAlike_58 : decode cX0_isTurnedAlike 58 = .ok (.aload_n 0, 1) := by decide +kernel
theorem dX0_isTurnedAlike_59 : decode cX0_isTurnedAlike 59 = .ok (.getfield 12, 3) := by decide +kernel
theorem dX0_isTurnedAlike_62 : decode cX0_isTurnedAlike 62 = .ok (.aload_n 0, 1) := by decide +kernel
theorem dX0_isTurnedAlike_63 : decode cX0_isTurnedAlike 63 = .ok (.getfield 25, 3) := by decide +kernel
theorem dX0_isTurnedAlike_66 : decode cX0_isTurnedAlike 66 = .ok (.aload_n 0, 1) := by decide +kernel
theorem dX0_isTurnedAlike_67 : decode cX0_isTurnedAlike 67 = .ok (.getfield 31, 3) := by decide +kernel
theorem dX0_isTurnedAlike_70 : decode cX0_isTurnedAlike 70 = .ok (.iconst 0, 1) := by decide +kernel
theorem dX0_isTurnedAlike_71 : decode cX0_isTurnedAlike 71 = .ok (.invokevirtual 55, 3) := by decide +kernel
theorem dX0_isTurnedAlike_74 : decode cX0_isTurnedAlike 74 = .ok (.aload_n 0, 1) := by decide +kernel
theorem dX0_isTurnedAlike_75 : decode cX0_isTurnedAlike 75 = .ok (.getfield 21, 3) := by decide +kernel
theorem dX0_isTurnedAlike_78 : decode cX0_isTurnedAlike 78 = .ok (.aload_n 0, 1) := by decide +kernel
theorem dX0_isTurnedAlike_79 : decode cX0_isTurnedAlike 79 = .ok (.getfield 25, 3) := by decide +kernel
theorem dX0_isTurnedAlike_82 : decode cX0_isTurnedAlike 82 = .ok (.invokevirtual 59, 3) := by decide +kernel
theorem dX0_isTurnedAlike_85 : decode cX0_isTurnedAlike 85 = .ok (.ireturn, 1) := by decide +kernel
set_option maxRecDepth 20000 in
theorem ggX0_isQueuedAlike_X2_becomeCopyOf : GoodIn wsX0_isQueuedAlike wsX2_becomeCopyOf := goodIn_r _ [8, 9, 10, 11, 12, 7, 13, 14, 15, 16, 17, 18, 19, 20, 21, 22, 23, 24, 25, 26, 27, 102, 103, 104] (by decide +kernel) (by decide +kernel)
set_option maxRecDepth 20000 in
theorem gX0_isQueuedAlike_X2_becomeCopyOf : GoodIn wsX0_isQueuedAlike (wsV RX0 51 RX2 yX2_becomeCopyOf wsX2_becomeCopyOf) := goodIn_app (goodIn_of _ (by decide +kernel)) ggX0_isQueuedAlike_X2_becomeCopyOf
set_option maxRecDepth 20000 in
theorem ggX0_isQueuedAlike_X3_arrangeAll : GoodIn wsX0_isQueuedAlike wsX3_arrangeAll := goodIn_r _ [32, 33, 11, 12, 7, 13, 9, 34, 35, 36, 31, 37, 38, 15, 16, 17, 18, 39, 40, 41, 42, 43, 44, 45, 46, 47, 48, 14, 19, 20, 21, 22, 23, 24, 25, 26, 27, 49, 50, 51, 52, 53, 54, 55, 56, 57, 58, 59, 60, 61, 62, 63, 64, 65, 66, 67, 68, 69, 70, 71, 5, 6, 8, 10, 72, 73, 74, 75, 76, 77, 78, 79, 80, 81, 82, 83, 84, 85, 102, 103, 104, 105, 106, 107, 108, 109, 110, 111] (by decide +kernel) (by decide +kernel)
set_option maxRecDepth 20000 in
theorem gX0_isQueuedAlike_X3_arrangeAll : GoodIn wsX0_isQueuedAlike (wsV RX0 55 RX3 yX3_arrangeAll wsX3_arrangeAll) := goodIn_app (goodIn_of _ (by decide +kernel)) ggX0_isQueuedAlike_X3_arrangeAll
set_option maxRecDepth 20000 in
theorem ggX0_isQueuedAlike_X2_length : GoodIn wsX0_isQueuedAlike wsX2_length := goodIn_r _ [13, 9, 102, 103, 104] (by decide +kernel) (by decide +kernel)
set_option maxRecDepth 20000 in
theorem gX0_isQueuedAlike_X2_length : GoodIn wsX0_isQueuedAlike (wsV RX0 78 RX2 yX2_length wsX2_length) := goodIn_app (goodIn_of _ (by decide +kernel)) ggX0_isQueuedAlike_X2_length
set_option maxRecDepth 20000 in
theorem ggX0_isQueuedAlike_X2_firstPlaceBy : GoodIn wsX0_isQueuedAlike wsX2_firstPlaceBy := goodIn_r _ [90, 9, 14, 15, 16, 7, 17, 18, 91, 40, 41, 42, 43, 44, 102, 103, 104, 105, 106, 107, 108, 109, 110] (by decide +kernel) (by decide +kernel)
set_option maxRecDepth 20000 in
theorem gX0_isQueuedAlike_X2_firstPlaceBy : GoodIn wsX0_isQueuedAlike (wsV RX0 98 RX2 yX2_firstPlaceBy wsX2_firstPlaceBy) := goodIn_app (goodIn_of _ (by decide +kernel)) ggX0_isQueuedAlike_X2_firstPlaceBy
set_option maxRecDepth 20000 in
theorem ggX0_isQueuedAlike_X2_valueOn : GoodIn wsX0_isQueuedAlike wsX2_valueOn := goodIn_r _ [17, 18, 102, 103, 104] (by decide +kernel) (by decide +kernel)
set_option maxRecDepth 20000 in
theorem gX0_isQueuedAlike_X2_valueOn : GoodIn wsX0_isQueuedAlike (wsV RX0 102 RX2 yX2_valueOn wsX2_valueOn) := goodIn_app (goodIn_of _ (by decide +kernel)) ggX0_isQueuedAlike_X2_valueOn
set_option maxRecDepth 20000 in
theorem ggX0_isQueuedAlike_X1_rankOf : GoodIn wsX0_isQueuedAlike wsX1_rankOf := goodIn_r _ [84, 85, 105, 106, 107, 108, 109, 110] (by decide +kernel) (by decide +kernel)
set_option maxRecDepth 20000 in
theorem gX0_isQueuedAlike_X1_rankOf : GoodIn wsX0_isQueuedAlike (wsV RX0 71 RX1 yX1_rankOf wsX1_rankOf) := goodIn_app (goodIn_of _ (by decide +kernel)) ggX0_isQueuedAlike_X1_rankOf
set_option maxRecDepth 20000 in
theorem ggX0_isQueuedAlike_X2_remove : GoodIn wsX0_isQueuedAlike wsX2_remove := goodIn_r _ [97, 9, 14, 15, 16, 7, 17, 18, 19, 20, 21, 22, 23, 24, 25, 26, 27, 102, 103, 104] (by decide +kernel) (by decide +kernel)
set_option maxRecDepth 20000 in
theorem gX0_isQueuedAlike_X2_remove : GoodIn wsX0_isQueuedAlike (wsV RX0 105 RX2 yX2_remove wsX2_remove) := goodIn_app (goodIn_of _ (by decide +kernel)) ggX0_isQueuedAlike_X2_remove
theorem dX0_isQueuedAlike_0 : decode cX0_isQueuedAlike 0 = .ok (.aload_n 0, 1) := by decide +kernel
theorem dX0_isQueuedAlike_1 : decode cX0_isQueuedAlike 1 = .ok (.getfield 21, 3) := by decide +kernel
theorem dX0_isQueuedAlike_4 : decode cX0_isQueuedAlike 4 = .ok (.aload_n 1, 1) := by decide +kernel
theorem dX0_isQueuedAlike_5 : decode cX0_isQueuedAlike 5 = .ok (.invokevirtual 51, 3) := by decide +kernel
theorem dX0_isQueuedAlike_8 : decode cX0_isQueuedAlike 8 = .ok (.aload_n 0, 1) := by decide +kernel
theorem dX0_isQueuedAlike_9 : decode cX0_isQueuedAlike 9 = .ok (.getfield 12, 3) := by decide +kernel
theorem dX0_isQueuedAlike_12 : decode cX0_isQueuedAlike 12 = .ok (.aload_n 0, 1) := by decide +kernel
theorem dX0_isQueuedAlike_13 : decode cX0_isQueuedAlike 13 = .ok (.getfield 21, 3) := by decide +kernel
theorem dX0_isQueuedAlike_16 : decode cX0_isQueuedAlike 16 = .ok (.aload_n 2, 1) := by decide +kernel
theorem dX0_isQueuedAlike_17 : decode cX0_isQueuedAlike 17 = .ok (.iconst 0, 1) := by decide +kernel
theorem dX0_isQueuedAlike_18 : decode cX0_isQueuedAlike 18 = .ok (.invokevirtual 55, 3) := by decide +kernel
theorem dX0_isQueuedAlike_21 : decode cX0_isQueuedAlike 21 = .ok (.aload_n 0, 1) := by decide +kernel
theorem dX0_isQueuedAlike_22 : decode cX0_isQueuedAlike 22 = .ok (.getfield 25, 3) := by decide +kernel
theorem dX0_isQueuedAlike_25 : decode cX0_isQueuedAlike 25 = .ok (.aload_n 1, 1) := by decide +kernel
theorem dX0_isQueuedAlike_26 : decode cX0_isQueuedAlike 26 = .ok (.invokevirtual 51, 3) := by decide +kernel
theorem dX0_isQueuedAlike_29 : decode cX0_isQueuedAlike 29 = .ok (.iconst 0, 1) := by decide +kernel
theorem dX0_isQueuedAlike_30 : decode cX0_isQueuedAlike 30 = .ok (.istore_n 3, 1) := by decide +kernel
theorem dX0_isQueuedAlike_31 : decode cX0_isQueuedAlike 31 = .ok (.iload_n 3, 1) := by decide +kernel
theorem dX0_isQueuedAlike_32 : decode cX0_isQueuedAlike 32 = .ok (.aload_n 0, 1) := by decide +kernel
theorem dX0_isQueuedAlike_33 : decode cX0_isQueuedAlike 33 = .ok (.getfield 21, 3) := by decide +kernel
theorem dX0_isQueuedAlike_36 : decode cX0_isQueuedAlike 36 = .ok (.invokevirtual 78, 3) := by decide +kernel
theorem dX0_isQueuedAlike_39 : decode cX0_isQueuedAlike 39 = .ok (.if_icmp .ge 58, 3) := by decide +kernel
theorem dX0_isQueuedAlike_42 : decode cX0_isQueuedAlike 42 = .ok (.aload_n 0, 1) := by decide +kernel
theorem dX0_isQueuedAlike_43 : decode cX0_isQueuedAlike 43 = .ok (.getfield 25, 3) := by decide +kernel
theorem dX0_isQueuedAlike_46 : decode cX0_isQueuedAlike 46 = .ok (.aload_n 2, 1) := by decide +kernel
theorem dX0_isQueuedAlike_47 : decode cX0_isQueuedAlike 47 = .ok (.invokevirtual 98, 3) := by decide +kernel
theorem dX0_isQueuedAlike_50 : decode cX0_isQueuedAlike 50 = .ok (.istore 4, 2) := by decide +kernel
theorem dX0_isQueuedAlike_52 : decode cX0_isQueuedAlike 52 = .ok (.aload_n 2, 1) := by decide +kernel
theorem dX0_isQueuedAlike_53 : decode cX0_isQueuedAlike 53 = .ok (.aload_n 0, 1) := by decide +kernel
theorem dX0_isQueuedAlike_54 : decode cX0_isQueuedAlike 54 = .ok (.getfield 25, 3) := by decide +kernel
theorem dX0_isQueuedAlike_57 : decode cX0_isQueuedAlike 57 = .ok (.iload 4, 2) := by decide +kernel
theorem dX0_isQueuedAlike_59 : decode cX0_isQueuedAlike 59 = .ok (.invokevirtual 102, 3) := by decide +kernel
theorem dX0_isQueuedAlike_62 : decode cX0_isQueuedAlike 62 = .ok (.invokevirtual 71, 3) := by decide +kernel
theorem dX0_isQueuedAlike_65 : decode cX0_isQueuedAlike 65 = .ok (.aload_n 2, 1) := by decide +kernel
theorem dX0_isQueuedAlike_66 : decode cX0_isQueuedAlike 66 = .ok (.aload_n 0, 1) := by decide +kernel
theorem dX0_isQueuedAlike_67 : decode cX0_isQueuedAlike 67 = .ok (.getfield 21, 3) := by decide +kernel
theorem dX0_isQueuedAlike_70 : decode cX0_isQueuedAlike 70 = .ok (.iload_n 3, 1) := by decide +kernel
theorem dX0_isQueuedAlike_71 : decode cX0_isQueuedAlike 71 = .ok (.invokevirtual 102, 3) := by decide +kernel
theorem dX0_isQueuedAlike_74 : decode cX0_isQueuedAlike 74 = .ok (.invokevirtual 71, 3) := by decide +kernel
theorem dX0_isQueuedAlike_77 : decode cX0_isQueuedAlike 77 = .ok (.if_icmp .eq 5, 3) := by decide +kernel
theorem dX0_isQueuedAlike_80 : decode cX0_isQueuedAlike 80 = .ok (.iconst 0, 1) := by decide +kernel
theorem dX0_isQueuedAlike_81 : decode cX0_isQueuedAlike 81 = .ok (.ireturn, 1) := by decide +kernel
theorem dX0_isQueuedAlike_82 : decode cX0_isQueuedAlike 82 = .ok (.aload_n 0, 1) := by decide +kernel
theorem dX0_isQueuedAlike_83 : decode cX0_isQueuedAlike 83 = .ok (.getfield 25, 3) := by decide +kernel
theorem dX0_isQueuedAlike_86 : decode cX0_isQueuedAlike 86 = .ok (.iload 4, 2) := by decide +kernel
theorem dX0_isQueuedAlike_88 : decode cX0_isQueuedAlike 88 = .ok (.invokevirtual 105, 3) := by decide +kernel
theorem dX0_isQueuedAlike_91 : decode cX0_isQueuedAlike 91 = .ok (.iinc 3 1, 3) := by decide +kernel
theorem dX0_isQueuedAlike_94 : decode cX0_isQueuedAlike 94 = .ok (.goto (-63), 3) := by decide +kernel
theorem dX0_isQueuedAlike_97 : decode cX0_isQueuedAlike 97 = .ok (.iconst 1, 1) := by decide +kernel
theorem dX0_isQueuedAlike_98 : decode cX0_isQueuedAlike 98 = .ok (.ireturn, 1) := by decide +kernel
set_option maxRecDepth 20000 in
theorem ggX3_init_X2_init : GoodIn wsX3_init wsX2_init := goodIn_r _ [9, 10, 2, 3, 11, 12, 13, 14, 15, 16, 17] (by decide +kernel) (by decide +kernel)
set_option maxRecDepth 20000 in
theorem gX3_init_X2_init_n9 : GoodIn wsX3_init (wsX2_init) := ggX3_init_X2_init
theorem dX3_init_0 : decode cX3_init 0 = .ok (.aload_n 0, 1) := by decide +kernel
theorem dX3_init_1 : decode cX3_init 1 = .ok (.invokespecial 1, 3) := by decide +kernel
theorem dX3_init_4 : decode cX3_init 4 = .ok (.aload_n 0, 1) := by decide +kernel
theorem dX3_init_5 : decode cX3_init 5 = .ok (.new 7, 3) := by decide +kernel
theorem dX3_init_8 : decode cX3_init 8 = .ok (.dup, 1) := by decide +kernel
theorem dX3_init_9 : decode cX3_init 9 = .ok (.invokespecial 9, 3) := by decide +kernel
theorem dX3_init_12 : decode cX3_init 12 = .ok (.putfield 10, 3) := by decide +kernel
theorem dX3_init_15 : decode cX3_init 15 = .ok (.return_, 1) := by decide +kernel
set_option maxRecDepth 20000 in
theorem ggX3_arrangeAll_X2_length : GoodIn wsX3_arrangeAll wsX2_length := goodIn_r _ [5, 6, 78, 79, 80] (by decide +kernel) (by decide +kernel)
set_option maxRecDepth 20000 in
theorem gX3_arrangeAll_X2_length : GoodIn wsX3_arrangeAll (wsV RX3 16 RX2 yX2_length wsX2_length) := goodIn_app (goodIn_of _ (by decide +kernel)) ggX3_arrangeAll_X2_length
set_option maxRecDepth 20000 in
theorem ggX3_arrangeAll_X3_insertEach : GoodIn wsX3_arrangeAll wsX3_insertEach := goodIn_r _ [11, 12, 13, 14, 4, 15, 16, 17, 18, 19, 20, 21, 22, 23, 24, 25, 26, 27, 28, 29, 30, 31, 32, 33, 34, 35, 36, 78, 79, 80, 81, 82, 83, 84, 85, 86] (by decide +kernel) (by decide +kernel)
set_option maxRecDepth 20000 in
theorem gX3_arrangeAll_X3_insertEach : GoodIn wsX3_arrangeAll (wsV RX3 20 RX3 yX3_insertEach wsX3_insertEach) := goodIn_app (goodIn_of _ (by decide +kernel)) ggX3_arrangeAll_X3_insertEach
set_option maxRecDepth 20000 in
theorem ggX3_arrangeAll_X3_mergeRuns : GoodIn wsX3_arrangeAll wsX3_mergeRuns := goodIn_r _ [40, 41, 42, 43, 44, 45, 1, 2, 3, 4, 5, 6, 46, 47, 48, 49, 50, 51, 52, 10, 53, 12, 13, 14, 15, 16, 17, 18, 19, 20, 21, 22, 54, 29, 30, 31, 32, 55, 56, 57, 58, 59, 60, 61, 62, 63, 27, 28, 33, 34, 35, 36, 87, 78, 79, 80, 81, 82, 83, 84, 85, 86] (by decide +kernel) (by decide +kernel)
set_option maxRecDepth 20000 in
theorem gX3_arrangeAll_X3_mergeRuns : GoodIn wsX3_arrangeAll (wsV RX3 24 RX3 yX3_mergeRuns wsX3_mergeRuns) := goodIn_app (goodIn_of _ (by decide +kernel)) ggX3_arrangeAll_X3_mergeRuns
set_option maxRecDepth 20000 in
theorem ggX3_arrangeAll_X3_gatherByRank : GoodIn wsX3_arrangeAll wsX3_gatherByRank := goodIn_r _ [67, 41, 46, 47, 48, 4, 49, 6, 68, 69, 70, 20, 71, 72, 1, 2, 3, 5, 12, 13, 14, 15, 16, 73, 74, 75, 76, 77, 54, 29, 30, 31, 32, 55, 56, 57, 58, 59, 60, 61, 62, 63, 27, 28, 33, 34, 35, 36, 87, 78, 79, 80, 81, 82, 83, 84, 85, 86] (by decide +kernel) (by decide +kernel)
set_option maxRecDepth 20000 in
theorem gX3_arrangeAll_X3_gatherByRank : GoodIn wsX3_arrangeAll (wsV RX3 28 RX3 yX3_gatherByRank wsX3_gatherByRank) := goodIn_app (goodIn_of _ (by decide +kernel)) ggX3_arrangeAll_X3_gatherByRank
theorem dX3_arrangeAll_0 : decode cX3_arrangeAll 0 = .ok (.iload_n 3, 1) := by decide +kernel
theorem dX3_arrangeAll_1 : decode cX3_arrangeAll 1 = .ok (.lookupswitch 50 #[(0, 27), (1, 41)], 27) := by decide +kernel
theorem dX3_arrangeAll_28 : decode cX3_arrangeAll 28 = .ok (.aload_n 0, 1) := by decide +kernel
theorem dX3_arrangeAll_29 : decode cX3_arrangeAll 29 = .ok (.aload_n 1, 1) := by decide +kernel
theorem dX3_arrangeAll_30 : decode cX3_arrangeAll 30 = .ok (.aload_n 2, 1) := by decide +kernel
theorem dX3_arrangeAll_31 : decode cX3_arrangeAll 31 = .ok (.iconst 0, 1) := by decide +kernel
theorem dX3_arrangeAll_32 : decode cX3_arrangeAll 32 = .ok (.aload_n 1, 1) := by decide +kernel
theorem dX3_arrangeAll_33 : decode cX3_arrangeAll 33 = .ok (.invokevirtual 16, 3) := by decide +kernel
theorem dX3_arrangeAll_36 : decode cX3_arrangeAll 36 = .ok (.invokevirtual 20, 3) := by decide +kernel
theorem dX3_arrangeAll_39 : decode cX3_arrangeAll 39 = .ok (.goto 18, 3) := by decide +kernel
theorem dX3_arrangeAll_42 : decode cX3_arrangeAll 42 = .ok (.aload_n 0, 1) := by decide +kernel
theorem dX3_arrangeAll_43 : decode cX3_arrangeAll 43 = .ok (.aload_n 1, 1) := by decide +kernel
theorem dX3_arrangeAll_44 : decode cX3_arrangeAll 44 = .ok (.aload_n 2, 1) := by decide +kernel
theorem dX3_arrangeAll_45 : decode cX3_arrangeAll 45 = .ok (.invokevirtual 24, 3) := by decide +kernel
theorem dX3_arrangeAll_48 : decode cX3_arrangeAll 48 = .ok (.goto 9, 3) := by decide +kernel
theorem dX3_arrangeAll_51 : decode cX3_arrangeAll 51 = .ok (.aload_n 0, 1) := by decide +kernel
theorem dX3_arrangeAll_52 : decode cX3_arrangeAll 52 = .ok (.aload_n 1, 1) := by decide +kernel
theorem dX3_arrangeAll_53 : decode cX3_arrangeAll 53 = .ok (.aload_n 2, 1) := by decide +kernel
theorem dX3_arrangeAll_54 : decode cX3_arrangeAll 54 = .ok (.invokevirtual 28, 3) := by decide +kernel
theorem dX3_arrangeAll_57 : decode cX3_arrangeAll 57 = .ok (.return_, 1) := by decide +kernel
set_option maxRecDepth 20000 in
theorem ggX3_insertEach_X2_valueOn : GoodIn wsX3_insertEach wsX2_valueOn := goodIn_r _ [5, 6, 27, 28, 29] (by decide +kernel) (by decide +kernel)
set_option maxRecDepth 20000 in
theorem gX3_insertEach_X2_valueOn : GoodIn wsX3_insertEach (wsV RX3 31 RX2 yX2_valueOn wsX2_valueOn) := goodIn_app (goodIn_of _ (by decide +kernel)) ggX3_insertEach_X2_valueOn
set_option maxRecDepth 20000 in
theorem ggX3_insertEach_X1_compared : GoodIn wsX3_insertEach wsX1_compared := goodIn_r _ [11, 12, 30, 31, 32, 33, 34, 35] (by decide +kernel) (by decide +kernel)
set_option maxRecDepth 20000 in
theorem gX3_insertEach_X1_compared : GoodIn wsX3_insertEach (wsV RX3 35 RX1 yX1_compared wsX1_compared) := goodIn_app (goodIn_of _ (by decide +kernel)) ggX3_insertEach_X1_compared
set_option maxRecDepth 20000 in
theorem ggX3_insertEach_X2_exchange : GoodIn wsX3_insertEach wsX2_exchange := goodIn_r _ [16, 17, 2, 3, 4, 5, 6, 18, 19, 20, 21, 22, 23, 24, 25, 26, 27, 28, 29] (by decide +kernel) (by decide +kernel)
set_option maxRecDepth 20000 in
theorem gX3_insertEach_X2_exchange : GoodIn wsX3_insertEach (wsV RX3 41 RX2 yX2_exchange wsX2_exchange) := goodIn_app (goodIn_of _ (by decide +kernel)) ggX3_insertEach_X2_exchange
theorem dX3_insertEach_0 : decode cX3_insertEach 0 = .ok (.iload_n 3, 1) := by decide +kernel
theorem dX3_insertEach_1 : decode cX3_insertEach 1 = .ok (.iconst 1, 1) := by decide +kernel
theorem dX3_insertEach_2 : decode cX3_insertEach 2 = .ok (.iadd, 1) := by decide +kernel
theorem dX3_insertEach_3 : decode cX3_insertEach 3 = .ok (.istore 5, 2) := by decide +kernel
theorem dX3_insertEach_5 : decode cX3_insertEach 5 = .ok (.iload 5, 2) := by decide +kernel
theorem dX3_insertEach_7 : decode cX3_insertEach 7 = .ok (.iload 4, 2) := by decide +kernel
theorem dX3_insertEach_9 : decode cX3_insertEach 9 = .ok (.if_icmp .ge 56, 3) := by decide +kernel
theorem dX3_insertEach_12 : decode cX3_insertEach 12 = .ok (.iload 5, 2) := by decide +kernel
theorem dX3_insertEach_14 : decode cX3_insertEach 14 = .ok (.istore 6, 2) := by decide +kernel
theorem dX3_insertEach_16 : decode cX3_insertEach 16 = .ok (.iload 6, 2) := by decide +kernel
theorem dX3_insertEach_18 : decode cX3_insertEach 18 = .ok (.iload_n 3, 1) := by decide +kernel
theorem dX3_insertEach_19 : decode cX3_insertEach 19 = .ok (.if_icmp .le 40, 3) := by decide +kernel
theorem dX3_insertEach_22 : decode cX3_insertEach 22 = .ok (.aload_n 2, 1) := by decide +kernel
theorem dX3_insertEach_23 : decode cX3_insertEach 23 = .ok (.aload_n 1, 1) := by decide +kernel
theorem dX3_insertEach_24 : decode cX3_insertEach 24 = .ok (.iload 6, 2) := by decide +kernel
theorem dX3_insertEach_26 : decode cX3_insertEach 26 = .ok (.invokevirtual 31, 3) := by decide +kernel
theorem dX3_insertEach_29 : decode cX3_insertEach 29 = .ok (.aload_n 1, 1) := by decide +kernel
theorem dX3_insertEach_30 : decode cX3_insertEach 30 = .ok (.iload 6, 2) := by decide +kernel
theorem dX3_insertEach_32 : decode cX3_insertEach 32 = .ok (.iconst 1, 1) := by decide +kernel
theorem dX3_insertEach_33 : decode cX3_insertEach 33 = .ok (.isub, 1) := by decide +kernel
theorem dX3_insertEach_34 : decode cX3_insertEach 34 = .ok (.invokevirtual 31, 3) := by decide +kernel
theorem dX3_insertEach_37 : decode cX3_insertEach 37 = .ok (.invokevirtual 35, 3) := by decide +kernel
theorem dX3_insertEach_40 : decode cX3_insertEach 40 = .ok (.ifCond .ge 19, 3) := by decide +kernel
theorem dX3_insertEach_43 : decode cX3_insertEach 43 = .ok (.aload_n 1, 1) := by decide +kernel
theorem dX3_insertEach_44 : decode cX3_insertEach 44 = .ok (.iload 6, 2) := by decide +kernel
theorem dX3_insertEach_46 : decode cX3_insertEach 46 = .ok (.iload 6, 2) := by decide +kernel
theorem dX3_insertEach_48 : decode cX3_insertEach 48 = .ok (.iconst 1, 1) := by decide +kernel
theorem dX3_insertEach_49 : decode cX3_insertEach 49 = .ok (.isub, 1) := by decide +kernel
theorem dX3_insertEach_50 : decode cX3_insertEach 50 = .ok (.invokevirtual 41, 3) := by decide +kernel
theorem dX3_insertEach_53 : decode cX3_insertEach 53 = .ok (.iinc 6 (-1), 3) := by decide +kernel
theorem dX3_insertEach_56 : decode cX3_insertEach 56 = .ok (.goto (-40), 3) := by decide +kernel
theorem dX3_insertEach_59 : decode cX3_insertEach 59 = .ok (.iinc 5 1, 3) := by decide +kernel
theorem dX3_insertEach_62 : decode cX3_insertEach 62 = .ok (.goto (-57), 3) := by decide +kernel
theorem dX3_insertEach_65 : decode cX3_insertEach 65 = .ok (.return_, 1) := by decide +kernel
set_option maxRecDepth 20000 in
theorem ggX3_mergeRuns_X2_length : GoodIn wsX3_mergeRuns wsX2_length := goodIn_r _ [10, 11, 53, 54, 55] (by decide +kernel) (by decide +kernel)
set_option maxRecDepth 20000 in
theorem gX3_mergeRuns_X2_length : GoodIn wsX3_mergeRuns (wsV RX3 16 RX2 yX2_length wsX2_length) := goodIn_app (goodIn_of _ (by decide +kernel)) ggX3_mergeRuns_X2_length
set_option maxRecDepth 20000 in
theorem ggX3_mergeRuns_X2_empty : GoodIn wsX3_mergeRuns wsX2_empty := goodIn_r _ [15, 11, 53, 54, 55] (by decide +kernel) (by decide +kernel)
set_option maxRecDepth 20000 in
theorem gX3_mergeRuns_X2_empty : GoodIn wsX3_mergeRuns (wsV RX3 45 RX2 yX2_empty wsX2_empty) := goodIn_app (goodIn_of _ (by decide +kernel)) ggX3_mergeRuns_X2_empty
set_option maxRecDepth 20000 in
theorem ggX3_mergeRuns_X3_mergeTwo : GoodIn wsX3_mergeRuns wsX3_mergeTwo := goodIn_r _ [20, 1, 21, 22, 23, 9, 24, 25, 26, 27, 28, 29, 30, 31, 32, 33, 34, 35, 36, 37, 38, 39, 40, 11, 52, 53, 54, 55, 56, 57, 58, 59, 60, 61] (by decide +kernel) (by decide +kernel)
set_option maxRecDepth 20000 in
theorem gX3_mergeRuns_X3_mergeTwo : GoodIn wsX3_mergeRuns (wsV RX3 53 RX3 yX3_mergeTwo wsX3_mergeTwo) := goodIn_app (goodIn_of _ (by decide +kernel)) ggX3_mergeRuns_X3_mergeTwo
set_option maxRecDepth 20000 in
theorem ggX3_mergeRuns_X2_becomeCopyOf : GoodIn wsX3_mergeRuns wsX2_becomeCopyOf := goodIn_r _ [44, 11, 45, 7, 8, 9, 10, 46, 22, 23, 24, 25, 47, 33, 34, 35, 36, 48, 49, 50, 51, 53, 54, 55] (by decide +kernel) (by decide +kernel)
set_option maxRecDepth 20000 in
theorem gX3_mergeRuns_X2_becomeCopyOf : GoodIn wsX3_mergeRuns (wsV RX3 57 RX2 yX2_becomeCopyOf wsX2_becomeCopyOf) := goodIn_app (goodIn_of _ (by decide +kernel)) ggX3_mergeRuns_X2_becomeCopyOf
theorem dX3_mergeRuns_0 : decode cX3_mergeRuns 0 = .ok (.aload_n 1, 1) := by decide +kernel
theorem dX3_mergeRuns_1 : decode cX3_mergeRuns 1 = .ok (.invokevirtual 16, 3) := by decide +kernel
theorem dX3_mergeRuns_4 : decode cX3_mergeRuns 4 = .ok (.istore_n 3, 1) := by decide +kernel
theorem dX3_mergeRuns_5 : decode cX3_mergeRuns 5 = .ok (.iconst 1, 1) := by decide +kernel
theorem dX3_mergeRuns_6 : decode cX3_mergeRuns 6 = .ok (.istore 4, 2) := by decide +kernel
theorem dX3_mergeRuns_8 : decode cX3_mergeRuns 8 = .ok (.iload 4, 2) := by decide +kernel
theorem dX3_mergeRuns_10 : decode cX3_mergeRuns 10 = .ok (.iload_n 3, 1) := by decide +kernel
theorem dX3_mergeRuns_11 : decode cX3_mergeRuns 11 = .ok (.if_icmp .ge 78, 3) := by decide +kernel
theorem dX3_mergeRuns_14 : decode cX3_mergeRuns 14 = .ok (.aload_n 0, 1) := by decide +kernel
theorem dX3_mergeRuns_15 : decode cX3_mergeRuns 15 = .ok (.getfield 10, 3) := by decide +kernel
theorem dX3_mergeRuns_18 : decode cX3_mergeRuns 18 = .ok (.invokevirtual 45, 3) := by decide +kernel
theorem dX3_mergeRuns_21 : decode cX3_mergeRuns 21 = .ok (.iconst 0, 1) := by decide +kernel
theorem dX3_mergeRuns_22 : decode cX3_mergeRuns 22 = .ok (.istore 5, 2) := by decide +kernel
theorem dX3_mergeRuns_24 : decode cX3_mergeRuns 24 = .ok (.iload 5, 2) := by decide +kernel
theorem dX3_mergeRuns_26 : decode cX3_mergeRuns 26 = .ok (.iload_n 3, 1) := by decide +kernel
theorem dX3_mergeRuns_27 : decode cX3_mergeRuns 27 = .ok (.if_icmp .ge 45, 3) := by decide +kernel
theorem dX3_mergeRuns_30 : decode cX3_mergeRuns 30 = .ok (.iload 5, 2) := by decide +kernel
theorem dX3_mergeRuns_32 : decode cX3_mergeRuns 32 = .ok (.iload 4, 2) := by decide +kernel
theorem dX3_mergeRuns_34 : decode cX3_mergeRuns 34 = .ok (.iadd, 1) := by decide +kernel
theorem dX3_mergeRuns_35 : decode cX3_mergeRuns 35 = .ok (.iload_n 3, 1) := by decide +kernel
theorem dX3_mergeRuns_36 : decode cX3_mergeRuns 36 = .ok (.invokestatic 48, 3) := by decide +kernel
theorem dX3_mergeRuns_39 : decode cX3_mergeRuns 39 = .ok (.istore 6, 2) := by decide +kernel
theorem dX3_mergeRuns_41 : decode cX3_mergeRuns 41 = .ok (.aload_n 0, 1) := by decide +kernel
theorem dX3_mergeRuns_42 : decode cX3_mergeRuns 42 = .ok (.aload_n 1, 1) := by decide +kernel
theorem dX3_mergeRuns_43 : decode cX3_mergeRuns 43 = .ok (.aload_n 2, 1) := by decide +kernel
theorem dX3_mergeRuns_44 : decode cX3_mergeRuns 44 = .ok (.iload 5, 2) := by decide +kernel
theorem dX3_mergeRuns_46 : decode cX3_mergeRuns 46 = .ok (.iload 6, 2) := by decide +kernel
theorem dX3_mergeRuns_48 : decode cX3_mergeRuns 48 = .ok (.iload 6, 2) := by decide +kernel
theorem dX3_mergeRuns_50 : decode cX3_mergeRuns 50 = .ok (.iload 4, 2) := by decide +kernel
theorem dX3_mergeRuns_52 : decode cX3_mergeRuns 52 = .ok (.iadd, 1) := by decide +kernel
theorem dX3_mergeRuns_53 : decode cX3_mergeRuns 53 = .ok (.iload_n 3, 1) := by decide +kernel
theorem dX3_mergeRuns_54 : decode cX3_mergeRuns 54 = .ok (.invokestatic 48, 3) := by decide +kernel
theorem dX3_mergeRuns_57 : decode cX3_mergeRuns 57 = .ok (.invokevirtual 53, 3) := by decide +kernel
theorem dX3_mergeRuns_60 : decode cX3_mergeRuns 60 = .ok (.iload 5, 2) := by decide +kernel
theorem dX3_mergeRuns_62 : decode cX3_mergeRuns 62 = .ok (.iconst 2, 1) := by decide +kernel
theorem dX3_mergeRuns_63 : decode cX3_mergeRuns 63 = .ok (.iload 4, 2) := by decide +kernel
theorem dX3_mergeRuns_65 : decode cX3_mergeRuns 65 = .ok (.imul, 1) := by decide +kernel
theorem dX3_mergeRuns_66 : decode cX3_mergeRuns 66 = .ok (.iadd, 1) := by decide +kernel
theorem dX3_mergeRuns_67 : decode cX3_mergeRuns 67 = .ok (.istore 5, 2) := by decide +kernel
theorem dX3_mergeRuns_69 : decode cX3_mergeRuns 69 = .ok (.goto (-45), 3) := by decide +kernel
theorem dX3_mergeRuns_72 : decode cX3_mergeRuns 72 = .ok (.aload_n 1, 1) := by decide +kernel
theorem dX3_mergeRuns_73 : decode cX3_mergeRuns 73 = .ok (.aload_n 0, 1) := by decide +kernel
theorem dX3_mergeRuns_74 : decode cX3_mergeRuns 74 = .ok (.getfield 10, 3) := by decide +kernel
theorem dX3_mergeRuns_77 : decode cX3_mergeRuns 77 = .ok (.invokevirtual 57, 3) := by decide +kernel
theorem dX3_mergeRuns_80 : decode cX3_mergeRuns 80 = .ok (.iload 4, 2) := by decide +kernel
theorem dX3_mergeRuns_82 : decode cX3_mergeRuns 82 = .ok (.iconst 2, 1) := by decide +kernel
theorem dX3_mergeRuns_83 : decode cX3_mergeRuns 83 = .ok (.imul, 1) := by decide +kernel
theorem dX3_mergeRuns_84 : decode cX3_mergeRuns 84 = .ok (.istore 4, 2) := by decide +kernel
theorem dX3_mergeRuns_86 : decode cX3_mergeRuns 86 = .ok (.goto (-78), 3) := by decide +kernel
theorem dX3_mergeRuns_89 : decode cX3_mergeRuns 89 = .ok (.return_, 1) := by decide +kernel
set_option maxRecDepth 20000 in
theorem ggX3_mergeTwo_X2_valueOn : GoodIn wsX3_mergeTwo wsX2_valueOn := goodIn_r _ [6, 7, 25, 26, 27] (by decide +kernel) (by decide +kernel)
set_option maxRecDepth 20000 in
theorem gX3_mergeTwo_X2_valueOn : GoodIn wsX3_mergeTwo (wsV RX3 31 RX2 yX2_valueOn wsX2_valueOn) := goodIn_app (goodIn_of _ (by decide +kernel)) ggX3_mergeTwo_X2_valueOn
set_option maxRecDepth 20000 in
theorem ggX3_mergeTwo_X1_compared : GoodIn wsX3_mergeTwo wsX1_compared := goodIn_r _ [12, 13, 28, 29, 30, 31, 32, 33] (by decide +kernel) (by decide +kernel)
set_option maxRecDepth 20000 in
theorem gX3_mergeTwo_X1_compared : GoodIn wsX3_mergeTwo (wsV RX3 35 RX1 yX1_compared wsX1_compared) := goodIn_app (goodIn_of _ (by decide +kernel)) ggX3_mergeTwo_X1_compared
set_option maxRecDepth 20000 in
theorem ggX3_mergeTwo_X2_markOn : GoodIn wsX3_mergeTwo wsX2_markOn := goodIn_r _ [17, 18, 25, 26, 27] (by decide +kernel) (by decide +kernel)
set_option maxRecDepth 20000 in
theorem gX3_mergeTwo_X2_markOn : GoodIn wsX3_mergeTwo (wsV RX3 61 RX2 yX2_markOn wsX2_markOn) := goodIn_app (goodIn_of _ (by decide +kernel)) ggX3_mergeTwo_X2_markOn
set_option maxRecDepth 20000 in
theorem ggX3_mergeTwo_X2_append : GoodIn wsX3_mergeTwo wsX2_append := goodIn_r _ [22, 23, 7, 18, 25, 26, 27] (by decide +kernel) (by decide +kernel)
set_option maxRecDepth 20000 in
theorem gX3_mergeTwo_X2_append : GoodIn wsX3_mergeTwo (wsV RX3 64 RX2 yX2_append wsX2_append) := goodIn_app (goodIn_of _ (by decide +kernel)) ggX3_mergeTwo_X2_append
theorem dX3_mergeTwo_0 : decode cX3_mergeTwo 0 = .ok (.iload_n 3, 1) := by decide +kernel
theorem dX3_mergeTwo_1 : decode cX3_mergeTwo 1 = .ok (.istore 6, 2) := by decide +kernel
theorem dX3_mergeTwo_3 : decode cX3_mergeTwo 3 = .ok (.iload 4, 2) := by decide +kernel
theorem dX3_mergeTwo_5 : decode cX3_mergeTwo 5 = .ok (.istore 7, 2) := by decide +kernel
theorem dX3_mergeTwo_7 : decode cX3_mergeTwo 7 = .ok (.iload_n 3, 1) := by decide +kernel
theorem dX3_mergeTwo_8 : decode cX3_mergeTwo 8 = .ok (.istore 8, 2) := by decide +kernel
theorem dX3_mergeTwo_10 : decode cX3_mergeTwo 10 = .ok (.iload 8, 2) := by decide +kernel
theorem dX3_mergeTwo_12 : decode cX3_mergeTwo 12 = .ok (.iload 5, 2) := by decide +kernel
theorem dX3_mergeTwo_14 : decode cX3_mergeTwo 14 = .ok (.if_icmp .ge 96, 3) := by decide +kernel
theorem dX3_mergeTwo_17 : decode cX3_mergeTwo 17 = .ok (.iload 6, 2) := by decide +kernel
theorem dX3_mergeTwo_19 : decode cX3_mergeTwo 19 = .ok (.iload 4, 2) := by decide +kernel
theorem dX3_mergeTwo_21 : decode cX3_mergeTwo 21 = .ok (.if_icmp .ge 29, 3) := by decide +kernel
theorem dX3_mergeTwo_24 : decode cX3_mergeTwo 24 = .ok (.iload 7, 2) := by decide +kernel
theorem dX3_mergeTwo_26 : decode cX3_mergeTwo 26 = .ok (.iload 5, 2) := by decide +kernel
theorem dX3_mergeTwo_28 : decode cX3_mergeTwo 28 = .ok (.if_icmp .ge 26, 3) := by decide +kernel
theorem dX3_mergeTwo_31 : decode cX3_mergeTwo 31 = .ok (.aload_n 2, 1) := by decide +kernel
theorem dX3_mergeTwo_32 : decode cX3_mergeTwo 32 = .ok (.aload_n 1, 1) := by decide +kernel
theorem dX3_mergeTwo_33 : decode cX3_mergeTwo 33 = .ok (.iload 7, 2) := by decide +kernel
theorem dX3_mergeTwo_35 : decode cX3_mergeTwo 35 = .ok (.invokevirtual 31, 3) := by decide +kernel
theorem dX3_mergeTwo_38 : decode cX3_mergeTwo 38 = .ok (.aload_n 1, 1) := by decide +kernel
theorem dX3_mergeTwo_39 : decode cX3_mergeTwo 39 = .ok (.iload 6, 2) := by decide +kernel
theorem dX3_mergeTwo_41 : decode cX3_mergeTwo 41 = .ok (.invokevirtual 31, 3) := by decide +kernel
theorem dX3_mergeTwo_44 : decode cX3_mergeTwo 44 = .ok (.invokevirtual 35, 3) := by decide +kernel
theorem dX3_mergeTwo_47 : decode cX3_mergeTwo 47 = .ok (.ifCond .ge 7, 3) := by decide +kernel
theorem dX3_mergeTwo_50 : decode cX3_mergeTwo 50 = .ok (.iconst 1, 1) := by decide +kernel
theorem dX3_mergeTwo_51 : decode cX3_mergeTwo 51 = .ok (.goto 4, 3) := by decide +kernel
theorem dX3_mergeTwo_54 : decode cX3_mergeTwo 54 = .ok (.iconst 0, 1) := by decide +kernel
theorem dX3_mergeTwo_55 : decode cX3_mergeTwo 55 = .ok (.istore 9, 2) := by decide +kernel
theorem dX3_mergeTwo_57 : decode cX3_mergeTwo 57 = .ok (.iload 9, 2) := by decide +kernel
theorem dX3_mergeTwo_59 : decode cX3_mergeTwo 59 = .ok (.ifCond .eq 8, 3) := by decide +kernel
theorem dX3_mergeTwo_62 : decode cX3_mergeTwo 62 = .ok (.iload 7, 2) := by decide +kernel
theorem dX3_mergeTwo_64 : decode cX3_mergeTwo 64 = .ok (.goto 5, 3) := by decide +kernel
theorem dX3_mergeTwo_67 : decode cX3_mergeTwo 67 = .ok (.iload 6, 2) := by decide +kernel
theorem dX3_mergeTwo_69 : decode cX3_mergeTwo 69 = .ok (.istore 10, 2) := by decide +kernel
theorem dX3_mergeTwo_71 : decode cX3_mergeTwo 71 = .ok (.aload_n 0, 1) := by decide +kernel
theorem dX3_mergeTwo_72 : decode cX3_mergeTwo 72 = .ok (.getfield 10, 3) := by decide +kernel
theorem dX3_mergeTwo_75 : decode cX3_mergeTwo 75 = .ok (.aload_n 1, 1) := by decide +kernel
theorem dX3_mergeTwo_76 : decode cX3_mergeTwo 76 = .ok (.iload 10, 2) := by decide +kernel
theorem dX3_mergeTwo_78 : decode cX3_mergeTwo 78 = .ok (.invokevirtual 31, 3) := by decide +kernel
theorem dX3_mergeTwo_81 : decode cX3_mergeTwo 81 = .ok (.aload_n 1, 1) := by decide +kernel
theorem dX3_mergeTwo_82 : decode cX3_mergeTwo 82 = .ok (.iload 10, 2) := by decide +kernel
theorem dX3_mergeTwo_84 : decode cX3_mergeTwo 84 = .ok (.invokevirtual 61, 3) := by decide +kernel
theorem dX3_mergeTwo_87 : decode cX3_mergeTwo 87 = .ok (.invokevirtual 64, 3) := by decide +kernel
theorem dX3_mergeTwo_90 : decode cX3_mergeTwo 90 = .ok (.iload 9, 2) := by decide +kernel
theorem dX3_mergeTwo_92 : decode cX3_mergeTwo 92 = .ok (.ifCond .eq 9, 3) := by decide +kernel
theorem dX3_mergeTwo_95 : decode cX3_mergeTwo 95 = .ok (.iinc 7 1, 3) := by decide +kernel
theorem dX3_mergeTwo_98 : decode cX3_mergeTwo 98 = .ok (.goto 6, 3) := by decide +kernel
theorem dX3_mergeTwo_101 : decode cX3_mergeTwo 101 = .ok (.iinc 6 1, 3) := by decide +kernel
theorem dX3_mergeTwo_104 : decode cX3_mergeTwo 104 = .ok (.iinc 8 1, 3) := by decide +kernel
theorem dX3_mergeTwo_107 : decode cX3_mergeTwo 107 = .ok (.goto (-97), 3) := by decide +kernel
theorem dX3_mergeTwo_110 : decode cX3_mergeTwo 110 = .ok (.return_, 1) := by decide +kernel
set_option maxRecDepth 20000 in
theorem ggX3_gatherByRank_X2_empty : GoodIn wsX3_gatherByRank wsX2_empty := goodIn_r _ [6, 7, 49, 50, 51] (by decide +kernel) (by decide +kernel)
set_option maxRecDepth 20000 in
theorem gX3_gatherByRank_X2_empty : GoodIn wsX3_gatherByRank (wsV RX3 45 RX2 yX2_empty wsX2_empty) := goodIn_app (goodIn_of _ (by decide +kernel)) ggX3_gatherByRank_X2_empty
set_option maxRecDepth 20000 in
theorem ggX3_gatherByRank_X1_classCount : GoodIn wsX3_gatherByRank wsX1_classCount := goodIn_r _ [12, 13, 52, 53, 54, 55, 56, 57] (by decide +kernel) (by decide +kernel)
set_option maxRecDepth 20000 in
theorem gX3_gatherByRank_X1_classCount : GoodIn wsX3_gatherByRank (wsV RX3 67 RX1 yX1_classCount wsX1_classCount) := goodIn_app (goodIn_of _ (by decide +kernel)) ggX3_gatherByRank_X1_classCount
set_option maxRecDepth 20000 in
theorem ggX3_gatherByRank_X2_length : GoodIn wsX3_gatherByRank wsX2_length := goodIn_r _ [17, 7, 49, 50, 51] (by decide +kernel) (by decide +kernel)
set_option maxRecDepth 20000 in
theorem gX3_gatherByRank_X2_length : GoodIn wsX3_gatherByRank (wsV RX3 16 RX2 yX2_length wsX2_length) := goodIn_app (goodIn_of _ (by decide +kernel)) ggX3_gatherByRank_X2_length
set_option maxRecDepth 20000 in
theorem ggX3_gatherByRank_X2_valueOn : GoodIn wsX3_gatherByRank wsX2_valueOn := goodIn_r _ [21, 22, 49, 50, 51] (by decide +kernel) (by decide +kernel)
set_option maxRecDepth 20000 in
theorem gX3_gatherByRank_X2_valueOn : GoodIn wsX3_gatherByRank (wsV RX3 31 RX2 yX2_valueOn wsX2_valueOn) := goodIn_app (goodIn_of _ (by decide +kernel)) ggX3_gatherByRank_X2_valueOn
set_option maxRecDepth 20000 in
theorem ggX3_gatherByRank_X1_rankOf : GoodIn wsX3_gatherByRank wsX1_rankOf := goodIn_r _ [26, 27, 52, 53, 54, 55, 56, 57] (by decide +kernel) (by decide +kernel)
set_option maxRecDepth 20000 in
theorem gX3_gatherByRank_X1_rankOf : GoodIn wsX3_gatherByRank (wsV RX3 70 RX1 yX1_rankOf wsX1_rankOf) := goodIn_app (goodIn_of _ (by decide +kernel)) ggX3_gatherByRank_X1_rankOf
set_option maxRecDepth 20000 in
theorem ggX3_gatherByRank_X2_markOn : GoodIn wsX3_gatherByRank wsX2_markOn := goodIn_r _ [31, 32, 49, 50, 51] (by decide +kernel) (by decide +kernel)
set_option maxRecDepth 20000 in
theorem gX3_gatherByRank_X2_markOn : GoodIn wsX3_gatherByRank (wsV RX3 61 RX2 yX2_markOn wsX2_markOn) := goodIn_app (goodIn_of _ (by decide +kernel)) ggX3_gatherByRank_X2_markOn
set_option maxRecDepth 20000 in
theorem ggX3_gatherByRank_X2_append : GoodIn wsX3_gatherByRank wsX2_append := goodIn_r _ [36, 7, 22, 32, 49, 50, 51] (by decide +kernel) (by decide +kernel)
set_option maxRecDepth 20000 in
theorem gX3_gatherByRank_X2_append : GoodIn wsX3_gatherByRank (wsV RX3 64 RX2 yX2_append wsX2_append) := goodIn_app (goodIn_of _ (by decide +kernel)) ggX3_gatherByRank_X2_append
set_option maxRecDepth 20000 in
theorem ggX3_gatherByRank_X2_becomeCopyOf : GoodIn wsX3_gatherByRank wsX2_becomeCopyOf := goodIn_r _ [40, 7, 41, 15, 16, 5, 17, 42, 19, 20, 21, 22, 43, 29, 30, 31, 32, 44, 45, 46, 47, 49, 50, 51] (by decide +kernel) (by decide +kernel)
set_option maxRecDepth 20000 in
theorem gX3_gatherByRank_X2_becomeCopyOf : GoodIn wsX3_gatherByRank (wsV RX3 57 RX2 yX2_becomeCopyOf wsX2_becomeCopyOf) := goodIn_app (goodIn_of _ (by decide +kernel)) ggX3_gatherByRank_X2_becomeCopyOf
theorem dX3_gatherByRank_0 : decode cX3_gatherByRank 0 = .ok (.aload_n 0, 1) := by decide +kernel
theorem dX3_gatherByRank_1 : decode cX3_gatherByRank 1 = .ok (.getfield 10, 3) := by decide +kernel
theorem dX3_gatherByRank_4 : decode cX3_gatherByRank 4 = .ok (.invokevirtual 45, 3) := by decide +kernel
theorem dX3_gatherByRank_7 : decode cX3_gatherByRank 7 = .ok (.iconst 0, 1) := by decide +kernel
theorem dX3_gatherByRank_8 : decode cX3_gatherByRank 8 = .ok (.istore_n 3, 1) := by decide +kernel
theorem dX3_gatherByRank_9 : decode cX3_gatherByRank 9 = .ok (.iload_n 3, 1) := by decide +kernel
theorem dX3_gatherByRank_10 : decode cX3_gatherByRank 10 = .ok (.aload_n 2, 1) := by decide +kernel
theorem dX3_gatherByRank_11 : decode cX3_gatherByRank 11 = .ok (.invokevirtual 67, 3) := by decide +kernel
theorem dX3_gatherByRank_14 : decode cX3_gatherByRank 14 = .ok (.if_icmp .ge 60, 3) := by decide +kernel
theorem dX3_gatherByRank_17 : decode cX3_gatherByRank 17 = .ok (.iconst 0, 1) := by decide +kernel
theorem dX3_gatherByRank_18 : decode cX3_gatherByRank 18 = .ok (.istore 4, 2) := by decide +kernel
theorem dX3_gatherByRank_20 : decode cX3_gatherByRank 20 = .ok (.iload 4, 2) := by decide +kernel
theorem dX3_gatherByRank_22 : decode cX3_gatherByRank 22 = .ok (.aload_n 1, 1) := by decide +kernel
theorem dX3_gatherByRank_23 : decode cX3_gatherByRank 23 = .ok (.invokevirtual 16, 3) := by decide +kernel
theorem dX3_gatherByRank_26 : decode cX3_gatherByRank 26 = .ok (.if_icmp .ge 42, 3) := by decide +kernel
theorem dX3_gatherByRank_29 : decode cX3_gatherByRank 29 = .ok (.aload_n 2, 1) := by decide +kernel
theorem dX3_gatherByRank_30 : decode cX3_gatherByRank 30 = .ok (.aload_n 1, 1) := by decide +kernel
theorem dX3_gatherByRank_31 : decode cX3_gatherByRank 31 = .ok (.iload 4, 2) := by decide +kernel
theorem dX3_gatherByRank_33 : decode cX3_gatherByRank 33 = .ok (.invokevirtual 31, 3) := by decide +kernel
theorem dX3_gatherByRank_36 : decode cX3_gatherByRank 36 = .ok (.invokevirtual 70, 3) := by decide +kernel
theorem dX3_gatherByRank_39 : decode cX3_gatherByRank 39 = .ok (.iload_n 3, 1) := by decide +kernel
theorem dX3_gatherByRank_40 : decode cX3_gatherByRank 40 = .ok (.if_icmp .ne 22, 3) := by decide +kernel
theorem dX3_gatherByRank_43 : decode cX3_gatherByRank 43 = .ok (.aload_n 0, 1) := by decide +kernel
theorem dX3_gatherByRank_44 : decode cX3_gatherByRank 44 = .ok (.getfield 10, 3) := by decide +kernel
theorem dX3_gatherByRank_47 : decode cX3_gatherByRank 47 = .ok (.aload_n 1, 1) := by decide +kernel
theorem dX3_gatherByRank_48 : decode cX3_gatherByRank 48 = .ok (.iload 4, 2) := by decide +kernel
theorem dX3_gatherByRank_50 : decode cX3_gatherByRank 50 = .ok (.invokevirtual 31, 3) := by decide +kernel
theorem dX3_gatherByRank_53 : decode cX3_gatherByRank 53 = .ok (.aload_n 1, 1) := by decide +kernel
theorem dX3_gatherByRank_54 : decode cX3_gatherByRank 54 = .ok (.iload 4, 2) := by decide +kernel
theorem dX3_gatherByRank_56 : decode cX3_gatherByRank 56 = .ok (.invokevirtual 61, 3) := by decide +kernel
theorem dX3_gatherByRank_59 : decode cX3_gatherByRank 59 = .ok (.invokevirtual 64, 3) := by decide +kernel
theorem dX3_gatherByRank_62 : decode cX3_gatherByRank 62 = .ok (.iinc 4 1, 3) := by decide +kernel
theorem dX3_gatherByRank_65 : decode cX3_gatherByRank 65 = .ok (.goto (-45), 3) := by decide +kernel
theorem dX3_gatherByRank_68 : decode cX3_gatherByRank 68 = .ok (.iinc 3 1, 3) := by decide +kernel
theorem dX3_gatherByRank_71 : decode cX3_gatherByRank 71 = .ok (.goto (-62), 3) := by decide +kernel
theorem dX3_gatherByRank_74 : decode cX3_gatherByRank 74 = .ok (.aload_n 1, 1) := by decide +kernel
theorem dX3_gatherByRank_75 : decode cX3_gatherByRank 75 = .ok (.aload_n 0, 1) := by decide +kernel
theorem dX3_gatherByRank_76 : decode cX3_gatherByRank 76 = .ok (.getfield 10, 3) := by decide +kernel
theorem dX3_gatherByRank_79 : decode cX3_gatherByRank 79 = .ok (.invokevirtual 57, 3) := by decide +kernel
theorem dX3_gatherByRank_82 : decode cX3_gatherByRank 82 = .ok (.return_, 1) := by decide +kernel
