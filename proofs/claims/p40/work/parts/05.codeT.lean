theorem dX1_init_0 : decode cX1_init 0 = .ok (.aload_n 0, 1) := by decide +kernel
theorem dX1_init_1 : decode cX1_init 1 = .ok (.invokespecial 3, 3) := by decide +kernel
theorem dX1_init_4 : decode cX1_init 4 = .ok (.aload_n 0, 1) := by decide +kernel
theorem dX1_init_5 : decode cX1_init 5 = .ok (.bipush 10, 2) := by decide +kernel
theorem dX1_init_7 : decode cX1_init 7 = .ok (.newarray .int, 2) := by decide +kernel
theorem dX1_init_9 : decode cX1_init 9 = .ok (.putfield 11, 3) := by decide +kernel
theorem dX1_init_12 : decode cX1_init 12 = .ok (.aload_n 0, 1) := by decide +kernel
theorem dX1_init_13 : decode cX1_init 13 = .ok (.bipush 10, 2) := by decide +kernel
theorem dX1_init_15 : decode cX1_init 15 = .ok (.newarray .boolean, 2) := by decide +kernel
theorem dX1_init_17 : decode cX1_init 17 = .ok (.putfield 15, 3) := by decide +kernel
theorem dX1_init_20 : decode cX1_init 20 = .ok (.aload_n 0, 1) := by decide +kernel
theorem dX1_init_21 : decode cX1_init 21 = .ok (.bipush 16, 2) := by decide +kernel
theorem dX1_init_23 : decode cX1_init 23 = .ok (.newarray .long, 2) := by decide +kernel
theorem dX1_init_25 : decode cX1_init 25 = .ok (.putfield 19, 3) := by decide +kernel
theorem dX1_init_28 : decode cX1_init 28 = .ok (.aload_n 0, 1) := by decide +kernel
theorem dX1_init_29 : decode cX1_init 29 = .ok (.bipush 16, 2) := by decide +kernel
theorem dX1_init_31 : decode cX1_init 31 = .ok (.newarray .int, 2) := by decide +kernel
theorem dX1_init_33 : decode cX1_init 33 = .ok (.putfield 23, 3) := by decide +kernel
theorem dX1_init_36 : decode cX1_init 36 = .ok (.aload_n 0, 1) := by decide +kernel
theorem dX1_init_37 : decode cX1_init 37 = .ok (.iconst 0, 1) := by decide +kernel
theorem dX1_init_38 : decode cX1_init 38 = .ok (.putfield 26, 3) := by decide +kernel
theorem dX1_init_41 : decode cX1_init 41 = .ok (.aload_n 0, 1) := by decide +kernel
theorem dX1_init_42 : decode cX1_init 42 = .ok (.iconst 1, 1) := by decide +kernel
theorem dX1_init_43 : decode cX1_init 43 = .ok (.putfield 30, 3) := by decide +kernel
theorem dX1_init_46 : decode cX1_init 46 = .ok (.return_, 1) := by decide +kernel
set_option maxRecDepth 20000 in
theorem ggX1_numberBy_J6_bitCount_0f7a4 : GoodIn wsX1_numberBy wsJ6_bitCount_0f7a4 := goodIn_r _ [4, 5, 6, 7] (by decide +kernel) (by decide +kernel)
set_option maxRecDepth 20000 in
theorem gX1_numberBy_J6_bitCount_0f7a4 : GoodIn wsX1_numberBy (va_wsS RX1 33 yJ6_bitCount_0f7a4 wsJ6_bitCount_0f7a4) := goodIn_app (goodIn_of _ (by decide +kernel)) ggX1_numberBy_J6_bitCount_0f7a4
theorem dX1_numberBy_0 : decode cX1_numberBy 0 = .ok (.iload_n 0, 1) := by decide +kernel
theorem dX1_numberBy_1 : decode cX1_numberBy 1 = .ok (.tableswitch 84 0 6 #[43, 45, 49, 53, 57, 61, 79], 43) := by decide +kernel
theorem dX1_numberBy_44 : decode cX1_numberBy 44 = .ok (.iload_n 1, 1) := by decide +kernel
theorem dX1_numberBy_45 : decode cX1_numberBy 45 = .ok (.ireturn, 1) := by decide +kernel
theorem dX1_numberBy_46 : decode cX1_numberBy 46 = .ok (.iload_n 1, 1) := by decide +kernel
theorem dX1_numberBy_47 : decode cX1_numberBy 47 = .ok (.iconst 4, 1) := by decide +kernel
theorem dX1_numberBy_48 : decode cX1_numberBy 48 = .ok (.idiv, 1) := by decide +kernel
theorem dX1_numberBy_49 : decode cX1_numberBy 49 = .ok (.ireturn, 1) := by decide +kernel
theorem dX1_numberBy_50 : decode cX1_numberBy 50 = .ok (.iload_n 1, 1) := by decide +kernel
theorem dX1_numberBy_51 : decode cX1_numberBy 51 = .ok (.iconst 4, 1) := by decide +kernel
theorem dX1_numberBy_52 : decode cX1_numberBy 52 = .ok (.irem, 1) := by decide +kernel
theorem dX1_numberBy_53 : decode cX1_numberBy 53 = .ok (.ireturn, 1) := by decide +kernel
theorem dX1_numberBy_54 : decode cX1_numberBy 54 = .ok (.iload_n 1, 1) := by decide +kernel
theorem dX1_numberBy_55 : decode cX1_numberBy 55 = .ok (.iconst 2, 1) := by decide +kernel
theorem dX1_numberBy_56 : decode cX1_numberBy 56 = .ok (.irem, 1) := by decide +kernel
theorem dX1_numberBy_57 : decode cX1_numberBy 57 = .ok (.ireturn, 1) := by decide +kernel
theorem dX1_numberBy_58 : decode cX1_numberBy 58 = .ok (.iload_n 1, 1) := by decide +kernel
theorem dX1_numberBy_59 : decode cX1_numberBy 59 = .ok (.iconst 3, 1) := by decide +kernel
theorem dX1_numberBy_60 : decode cX1_numberBy 60 = .ok (.irem, 1) := by decide +kernel
theorem dX1_numberBy_61 : decode cX1_numberBy 61 = .ok (.ireturn, 1) := by decide +kernel
theorem dX1_numberBy_62 : decode cX1_numberBy 62 = .ok (.iload_n 1, 1) := by decide +kernel
theorem dX1_numberBy_63 : decode cX1_numberBy 63 = .ok (.bipush 8, 2) := by decide +kernel
theorem dX1_numberBy_65 : decode cX1_numberBy 65 = .ok (.if_icmp .ge 10, 3) := by decide +kernel
theorem dX1_numberBy_68 : decode cX1_numberBy 68 = .ok (.bipush 7, 2) := by decide +kernel
theorem dX1_numberBy_70 : decode cX1_numberBy 70 = .ok (.iload_n 1, 1) := by decide +kernel
theorem dX1_numberBy_71 : decode cX1_numberBy 71 = .ok (.isub, 1) := by decide +kernel
theorem dX1_numberBy_72 : decode cX1_numberBy 72 = .ok (.goto 7, 3) := by decide +kernel
theorem dX1_numberBy_75 : decode cX1_numberBy 75 = .ok (.iload_n 1, 1) := by decide +kernel
theorem dX1_numberBy_76 : decode cX1_numberBy 76 = .ok (.bipush 8, 2) := by decide +kernel
theorem dX1_numberBy_78 : decode cX1_numberBy 78 = .ok (.isub, 1) := by decide +kernel
theorem dX1_numberBy_79 : decode cX1_numberBy 79 = .ok (.ireturn, 1) := by decide +kernel
theorem dX1_numberBy_80 : decode cX1_numberBy 80 = .ok (.iload_n 1, 1) := by decide +kernel
theorem dX1_numberBy_81 : decode cX1_numberBy 81 = .ok (.invokestatic 33, 3) := by decide +kernel
theorem dX1_numberBy_84 : decode cX1_numberBy 84 = .ok (.ireturn, 1) := by decide +kernel
theorem dX1_numberBy_85 : decode cX1_numberBy 85 = .ok (.iconst 0, 1) := by decide +kernel
theorem dX1_numberBy_86 : decode cX1_numberBy 86 = .ok (.ireturn, 1) := by decide +kernel
theorem dX1_length_0 : decode cX1_length 0 = .ok (.aload_n 0, 1) := by decide +kernel
theorem dX1_length_1 : decode cX1_length 1 = .ok (.getfield 26, 3) := by decide +kernel
theorem dX1_length_4 : decode cX1_length 4 = .ok (.ireturn, 1) := by decide +kernel
theorem dX1_keyOn_0 : decode cX1_keyOn 0 = .ok (.iload_n 1, 1) := by decide +kernel
theorem dX1_keyOn_1 : decode cX1_keyOn 1 = .ok (.ifCond .lt 21, 3) := by decide +kernel
theorem dX1_keyOn_4 : decode cX1_keyOn 4 = .ok (.iload_n 1, 1) := by decide +kernel
theorem dX1_keyOn_5 : decode cX1_keyOn 5 = .ok (.aload_n 0, 1) := by decide +kernel
theorem dX1_keyOn_6 : decode cX1_keyOn 6 = .ok (.getfield 11, 3) := by decide +kernel
theorem dX1_keyOn_9 : decode cX1_keyOn 9 = .ok (.arraylength, 1) := by decide +kernel
theorem dX1_keyOn_10 : decode cX1_keyOn 10 = .ok (.if_icmp .ge 12, 3) := by decide +kernel
theorem dX1_keyOn_13 : decode cX1_keyOn 13 = .ok (.aload_n 0, 1) := by decide +kernel
theorem dX1_keyOn_14 : decode cX1_keyOn 14 = .ok (.getfield 11, 3) := by decide +kernel
theorem dX1_keyOn_17 : decode cX1_keyOn 17 = .ok (.iload_n 1, 1) := by decide +kernel
theorem dX1_keyOn_18 : decode cX1_keyOn 18 = .ok (.iaload, 1) := by decide +kernel
theorem dX1_keyOn_19 : decode cX1_keyOn 19 = .ok (.goto 4, 3) := by decide +kernel
theorem dX1_keyOn_22 : decode cX1_keyOn 22 = .ok (.iconst 0, 1) := by decide +kernel
theorem dX1_keyOn_23 : decode cX1_keyOn 23 = .ok (.ireturn, 1) := by decide +kernel
theorem dX1_isDownOn_0 : decode cX1_isDownOn 0 = .ok (.iload_n 1, 1) := by decide +kernel
theorem dX1_isDownOn_1 : decode cX1_isDownOn 1 = .ok (.ifCond .lt 25, 3) := by decide +kernel
theorem dX1_isDownOn_4 : decode cX1_isDownOn 4 = .ok (.iload_n 1, 1) := by decide +kernel
theorem dX1_isDownOn_5 : decode cX1_isDownOn 5 = .ok (.aload_n 0, 1) := by decide +kernel
theorem dX1_isDownOn_6 : decode cX1_isDownOn 6 = .ok (.getfield 15, 3) := by decide +kernel
theorem dX1_isDownOn_9 : decode cX1_isDownOn 9 = .ok (.arraylength, 1) := by decide +kernel
theorem dX1_isDownOn_10 : decode cX1_isDownOn 10 = .ok (.if_icmp .ge 16, 3) := by decide +kernel
theorem dX1_isDownOn_13 : decode cX1_isDownOn 13 = .ok (.aload_n 0, 1) := by decide +kernel
theorem dX1_isDownOn_14 : decode cX1_isDownOn 14 = .ok (.getfield 15, 3) := by decide +kernel
theorem dX1_isDownOn_17 : decode cX1_isDownOn 17 = .ok (.iload_n 1, 1) := by decide +kernel
theorem dX1_isDownOn_18 : decode cX1_isDownOn 18 = .ok (.baload, 1) := by decide +kernel
theorem dX1_isDownOn_19 : decode cX1_isDownOn 19 = .ok (.ifCond .eq 7, 3) := by decide +kernel
theorem dX1_isDownOn_22 : decode cX1_isDownOn 22 = .ok (.iconst 1, 1) := by decide +kernel
theorem dX1_isDownOn_23 : decode cX1_isDownOn 23 = .ok (.goto 4, 3) := by decide +kernel
theorem dX1_isDownOn_26 : decode cX1_isDownOn 26 = .ok (.iconst 0, 1) := by decide +kernel
theorem dX1_isDownOn_27 : decode cX1_isDownOn 27 = .ok (.ireturn, 1) := by decide +kernel
set_option maxRecDepth 20000 in
theorem ggX1_downSteps_X1_isDownOn : GoodIn wsX1_downSteps wsX1_isDownOn := goodIn_r _ [6, 7, 8, 9, 10, 11, 12, 13] (by decide +kernel) (by decide +kernel)
set_option maxRecDepth 20000 in
theorem gX1_downSteps_X1_isDownOn : GoodIn wsX1_downSteps (wsV RX1 39 RX1 yX1_isDownOn wsX1_isDownOn) := goodIn_app (goodIn_of _ (by decide +kernel)) ggX1_downSteps_X1_isDownOn
theorem dX1_downSteps_0 : decode cX1_downSteps 0 = .ok (.iconst 0, 1) := by decide +kernel
theorem dX1_downSteps_1 : decode cX1_downSteps 1 = .ok (.istore_n 1, 1) := by decide +kernel
theorem dX1_downSteps_2 : decode cX1_downSteps 2 = .ok (.iconst 0, 1) := by decide +kernel
theorem dX1_downSteps_3 : decode cX1_downSteps 3 = .ok (.istore_n 2, 1) := by decide +kernel
theorem dX1_downSteps_4 : decode cX1_downSteps 4 = .ok (.iload_n 2, 1) := by decide +kernel
theorem dX1_downSteps_5 : decode cX1_downSteps 5 = .ok (.aload_n 0, 1) := by decide +kernel
theorem dX1_downSteps_6 : decode cX1_downSteps 6 = .ok (.getfield 26, 3) := by decide +kernel
theorem dX1_downSteps_9 : decode cX1_downSteps 9 = .ok (.if_icmp .ge 20, 3) := by decide +kernel
theorem dX1_downSteps_12 : decode cX1_downSteps 12 = .ok (.aload_n 0, 1) := by decide +kernel
theorem dX1_downSteps_13 : decode cX1_downSteps 13 = .ok (.iload_n 2, 1) := by decide +kernel
theorem dX1_downSteps_14 : decode cX1_downSteps 14 = .ok (.invokevirtual 39, 3) := by decide +kernel
theorem dX1_downSteps_17 : decode cX1_downSteps 17 = .ok (.ifCond .eq 6, 3) := by decide +kernel
theorem dX1_downSteps_20 : decode cX1_downSteps 20 = .ok (.iinc 1 1, 3) := by decide +kernel
theorem dX1_downSteps_23 : decode cX1_downSteps 23 = .ok (.iinc 2 1, 3) := by decide +kernel
theorem dX1_downSteps_26 : decode cX1_downSteps 26 = .ok (.goto (-22), 3) := by decide +kernel
theorem dX1_downSteps_29 : decode cX1_downSteps 29 = .ok (.iload_n 1, 1) := by decide +kernel
theorem dX1_downSteps_30 : decode cX1_downSteps 30 = .ok (.ireturn, 1) := by decide +kernel
set_option maxRecDepth 20000 in
theorem ggX1_append_X1_addStep : GoodIn wsX1_append wsX1_addStep := goodIn_r _ [5, 6, 7, 8, 39, 40, 41, 42, 43, 44] (by decide +kernel) (by decide +kernel)
set_option maxRecDepth 20000 in
theorem gX1_append_X1_addStep : GoodIn wsX1_append (wsV RX1 43 RX1 yX1_addStep wsX1_addStep) := goodIn_app (goodIn_of _ (by decide +kernel)) ggX1_append_X1_addStep
set_option maxRecDepth 20000 in
theorem ggX1_append_X1_settle : GoodIn wsX1_append wsX1_settle := goodIn_r _ [12, 13, 6, 7, 8, 14, 15, 16, 4, 17, 18, 19, 20, 21, 22, 23, 24, 25, 26, 27, 28, 29, 30, 31, 32, 33, 34, 35, 36, 37, 38, 39, 40, 41, 42, 43, 44] (by decide +kernel) (by decide +kernel)
set_option maxRecDepth 20000 in
theorem gX1_append_X1_settle : GoodIn wsX1_append (wsV RX1 47 RX1 yX1_settle wsX1_settle) := goodIn_app (goodIn_of _ (by decide +kernel)) ggX1_append_X1_settle
theorem dX1_append_0 : decode cX1_append 0 = .ok (.aload_n 0, 1) := by decide +kernel
theorem dX1_append_1 : decode cX1_append 1 = .ok (.iload_n 1, 1) := by decide +kernel
theorem dX1_append_2 : decode cX1_append 2 = .ok (.iload_n 2, 1) := by decide +kernel
theorem dX1_append_3 : decode cX1_append 3 = .ok (.invokevirtual 43, 3) := by decide +kernel
theorem dX1_append_6 : decode cX1_append 6 = .ok (.aload_n 0, 1) := by decide +kernel
theorem dX1_append_7 : decode cX1_append 7 = .ok (.invokevirtual 47, 3) := by decide +kernel
theorem dX1_append_10 : decode cX1_append 10 = .ok (.return_, 1) := by decide +kernel
set_option maxRecDepth 20000 in
theorem ggX1_removeLast_X1_settle : GoodIn wsX1_removeLast wsX1_settle := goodIn_r _ [6, 7, 1, 8, 9, 10, 11, 12, 5, 13, 14, 15, 16, 17, 18, 19, 20, 21, 22, 23, 24, 25, 26, 27, 28, 29, 30, 31, 32, 33, 34, 35, 36, 37, 38, 39, 40] (by decide +kernel) (by decide +kernel)
set_option maxRecDepth 20000 in
theorem gX1_removeLast_X1_settle : GoodIn wsX1_removeLast (wsV RX1 47 RX1 yX1_settle wsX1_settle) := goodIn_app (goodIn_of _ (by decide +kernel)) ggX1_removeLast_X1_settle
theorem dX1_removeLast_0 : decode cX1_removeLast 0 = .ok (.aload_n 0, 1) := by decide +kernel
theorem dX1_removeLast_1 : decode cX1_removeLast 1 = .ok (.getfield 26, 3) := by decide +kernel
theorem dX1_removeLast_4 : decode cX1_removeLast 4 = .ok (.ifCond .le 17, 3) := by decide +kernel
theorem dX1_removeLast_7 : decode cX1_removeLast 7 = .ok (.aload_n 0, 1) := by decide +kernel
theorem dX1_removeLast_8 : decode cX1_removeLast 8 = .ok (.dup, 1) := by decide +kernel
theorem dX1_removeLast_9 : decode cX1_removeLast 9 = .ok (.getfield 26, 3) := by decide +kernel
theorem dX1_removeLast_12 : decode cX1_removeLast 12 = .ok (.iconst 1, 1) := by decide +kernel
theorem dX1_removeLast_13 : decode cX1_removeLast 13 = .ok (.isub, 1) := by decide +kernel
theorem dX1_removeLast_14 : decode cX1_removeLast 14 = .ok (.putfield 26, 3) := by decide +kernel
theorem dX1_removeLast_17 : decode cX1_removeLast 17 = .ok (.aload_n 0, 1) := by decide +kernel
theorem dX1_removeLast_18 : decode cX1_removeLast 18 = .ok (.invokevirtual 47, 3) := by decide +kernel
theorem dX1_removeLast_21 : decode cX1_removeLast 21 = .ok (.return_, 1) := by decide +kernel
set_option maxRecDepth 20000 in
theorem ggX1_empty_X1_settle : GoodIn wsX1_empty wsX1_settle := goodIn_r _ [6, 7, 1, 8, 9, 10, 11, 12, 5, 13, 14, 15, 16, 17, 18, 19, 20, 21, 22, 23, 24, 25, 26, 27, 28, 29, 30, 31, 32, 33, 34, 35, 36, 37, 38, 39, 40] (by decide +kernel) (by decide +kernel)
set_option maxRecDepth 20000 in
theorem gX1_empty_X1_settle : GoodIn wsX1_empty (wsV RX1 47 RX1 yX1_settle wsX1_settle) := goodIn_app (goodIn_of _ (by decide +kernel)) ggX1_empty_X1_settle
theorem dX1_empty_0 : decode cX1_empty 0 = .ok (.aload_n 0, 1) := by decide +kernel
theorem dX1_empty_1 : decode cX1_empty 1 = .ok (.iconst 0, 1) := by decide +kernel
theorem dX1_empty_2 : decode cX1_empty 2 = .ok (.putfield 26, 3) := by decide +kernel
theorem dX1_empty_5 : decode cX1_empty 5 = .ok (.aload_n 0, 1) := by decide +kernel
theorem dX1_empty_6 : decode cX1_empty 6 = .ok (.invokevirtual 47, 3) := by decide +kernel
theorem dX1_empty_9 : decode cX1_empty 9 = .ok (.return_, 1) := by decide +kernel
set_option maxRecDepth 20000 in
theorem ggX1_reverse_X1_settle : GoodIn wsX1_reverse wsX1_settle := goodIn_r _ [7, 8, 1, 9, 2, 10, 11, 12, 6, 13, 14, 15, 16, 17, 18, 19, 20, 21, 22, 23, 24, 25, 26, 27, 28, 29, 30, 31, 32, 33, 34, 35, 36, 37, 38, 39, 40] (by decide +kernel) (by decide +kernel)
set_option maxRecDepth 20000 in
theorem gX1_reverse_X1_settle : GoodIn wsX1_reverse (wsV RX1 47 RX1 yX1_settle wsX1_settle) := goodIn_app (goodIn_of _ (by decide +kernel)) ggX1_reverse_X1_settle
theorem dX1_reverse_0 : decode cX1_reverse 0 = .ok (.iconst 0, 1) := by decide +kernel
theorem dX1_reverse_1 : decode cX1_reverse 1 = .ok (.istore_n 1, 1) := by decide +kernel
theorem dX1_reverse_2 : decode cX1_reverse 2 = .ok (.iload_n 1, 1) := by decide +kernel
theorem dX1_reverse_3 : decode cX1_reverse 3 = .ok (.aload_n 0, 1) := by decide +kernel
theorem dX1_reverse_4 : decode cX1_reverse 4 = .ok (.getfield 26, 3) := by decide +kernel
theorem dX1_reverse_7 : decode cX1_reverse 7 = .ok (.if_icmp .ge 38, 3) := by decide +kernel
theorem dX1_reverse_10 : decode cX1_reverse 10 = .ok (.iload_n 1, 1) := by decide +kernel
theorem dX1_reverse_11 : decode cX1_reverse 11 = .ok (.aload_n 0, 1) := by decide +kernel
theorem dX1_reverse_12 : decode cX1_reverse 12 = .ok (.getfield 15, 3) := by decide +kernel
theorem dX1_reverse_15 : decode cX1_reverse 15 = .ok (.arraylength, 1) := by decide +kernel
theorem dX1_reverse_16 : decode cX1_reverse 16 = .ok (.if_icmp .ge 29, 3) := by decide +kernel
theorem dX1_reverse_19 : decode cX1_reverse 19 = .ok (.aload_n 0, 1) := by decide +kernel
theorem dX1_reverse_20 : decode cX1_reverse 20 = .ok (.getfield 15, 3) := by decide +kernel
theorem dX1_reverse_23 : decode cX1_reverse 23 = .ok (.iload_n 1, 1) := by decide +kernel
theorem dX1_reverse_24 : decode cX1_reverse 24 = .ok (.aload_n 0, 1) := by decide +kernel
theorem dX1_reverse_25 : decode cX1_reverse 25 = .ok (.getfield 15, 3) := by decide +kernel
theorem dX1_reverse_28 : decode cX1_reverse 28 = .ok (.iload_n 1, 1) := by decide +kernel
theorem dX1_reverse_29 : decode cX1_reverse 29 = .ok (.baload, 1) := by decide +kernel
theorem dX1_reverse_30 : decode cX1_reverse 30 = .ok (.ifCond .ne 7, 3) := by decide +kernel
theorem dX1_reverse_33 : decode cX1_reverse 33 = .ok (.iconst 1, 1) := by decide +kernel
theorem dX1_reverse_34 : decode cX1_reverse 34 = .ok (.goto 4, 3) := by decide +kernel
theorem dX1_reverse_37 : decode cX1_reverse 37 = .ok (.iconst 0, 1) := by decide +kernel
theorem dX1_reverse_38 : decode cX1_reverse 38 = .ok (.bastore, 1) := by decide +kernel
theorem dX1_reverse_39 : decode cX1_reverse 39 = .ok (.iinc 1 1, 3) := by decide +kernel
theorem dX1_reverse_42 : decode cX1_reverse 42 = .ok (.goto (-40), 3) := by decide +kernel
theorem dX1_reverse_45 : decode cX1_reverse 45 = .ok (.aload_n 0, 1) := by decide +kernel
theorem dX1_reverse_46 : decode cX1_reverse 46 = .ok (.invokevirtual 47, 3) := by decide +kernel
theorem dX1_reverse_49 : decode cX1_reverse 49 = .ok (.return_, 1) := by decide +kernel
set_option maxRecDepth 20000 in
theorem ggX1_becomeCopyOf_X1_length : GoodIn wsX1_becomeCopyOf wsX1_length := goodIn_r _ [6, 1, 55, 56, 57, 58, 59, 60] (by decide +kernel) (by decide +kernel)
set_option maxRecDepth 20000 in
theorem gX1_becomeCopyOf_X1_length : GoodIn wsX1_becomeCopyOf (wsV RX1 50 RX1 yX1_length wsX1_length) := goodIn_app (goodIn_of _ (by decide +kernel)) ggX1_becomeCopyOf_X1_length
set_option maxRecDepth 20000 in
theorem ggX1_becomeCopyOf_X1_addSteps : GoodIn wsX1_becomeCopyOf wsX1_addSteps := goodIn_r _ [10, 11, 12, 13, 5, 14, 15, 16, 17, 18, 19, 20, 21, 22, 23, 24, 1, 55, 56, 57, 58, 59, 60] (by decide +kernel) (by decide +kernel)
set_option maxRecDepth 20000 in
theorem gX1_becomeCopyOf_X1_addSteps : GoodIn wsX1_becomeCopyOf (wsV RX1 54 RX1 yX1_addSteps wsX1_addSteps) := goodIn_app (goodIn_of _ (by decide +kernel)) ggX1_becomeCopyOf_X1_addSteps
set_option maxRecDepth 20000 in
theorem ggX1_becomeCopyOf_X1_settle : GoodIn wsX1_becomeCopyOf wsX1_settle := goodIn_r _ [28, 29, 1, 15, 20, 30, 31, 32, 5, 33, 34, 35, 36, 37, 38, 39, 40, 41, 42, 43, 44, 45, 46, 47, 48, 49, 50, 51, 52, 53, 54, 55, 56, 57, 58, 59, 60] (by decide +kernel) (by decide +kernel)
set_option maxRecDepth 20000 in
theorem gX1_becomeCopyOf_X1_settle : GoodIn wsX1_becomeCopyOf (wsV RX1 47 RX1 yX1_settle wsX1_settle) := goodIn_app (goodIn_of _ (by decide +kernel)) ggX1_becomeCopyOf_X1_settle
theorem dX1_becomeCopyOf_0 : decode cX1_becomeCopyOf 0 = .ok (.aload_n 1, 1) := by decide +kernel
theorem dX1_becomeCopyOf_1 : decode cX1_becomeCopyOf 1 = .ok (.invokevirtual 50, 3) := by decide +kernel
theorem dX1_becomeCopyOf_4 : decode cX1_becomeCopyOf 4 = .ok (.istore_n 2, 1) := by decide +kernel
theorem dX1_becomeCopyOf_5 : decode cX1_becomeCopyOf 5 = .ok (.aload_n 0, 1) := by decide +kernel
theorem dX1_becomeCopyOf_6 : decode cX1_becomeCopyOf 6 = .ok (.iconst 0, 1) := by decide +kernel
theorem dX1_becomeCopyOf_7 : decode cX1_becomeCopyOf 7 = .ok (.putfield 26, 3) := by decide +kernel
theorem dX1_becomeCopyOf_10 : decode cX1_becomeCopyOf 10 = .ok (.aload_n 0, 1) := by decide +kernel
theorem dX1_becomeCopyOf_11 : decode cX1_becomeCopyOf 11 = .ok (.aload_n 1, 1) := by decide +kernel
theorem dX1_becomeCopyOf_12 : decode cX1_becomeCopyOf 12 = .ok (.iload_n 2, 1) := by decide +kernel
theorem dX1_becomeCopyOf_13 : decode cX1_becomeCopyOf 13 = .ok (.invokevirtual 54, 3) := by decide +kernel
theorem dX1_becomeCopyOf_16 : decode cX1_becomeCopyOf 16 = .ok (.aload_n 0, 1) := by decide +kernel
theorem dX1_becomeCopyOf_17 : decode cX1_becomeCopyOf 17 = .ok (.invokevirtual 47, 3) := by decide +kernel
theorem dX1_becomeCopyOf_20 : decode cX1_becomeCopyOf 20 = .ok (.return_, 1) := by decide +kernel
set_option maxRecDepth 20000 in
theorem ggX1_becomeProductOf_X1_length : GoodIn wsX1_becomeProductOf wsX1_length := goodIn_r _ [6, 1, 55, 56, 57, 58, 59, 60] (by decide +kernel) (by decide +kernel)
set_option maxRecDepth 20000 in
theorem gX1_becomeProductOf_X1_length : GoodIn wsX1_becomeProductOf (wsV RX1 50 RX1 yX1_length wsX1_length) := goodIn_app (goodIn_of _ (by decide +kernel)) ggX1_becomeProductOf_X1_length
set_option maxRecDepth 20000 in
theorem ggX1_becomeProductOf_X1_addSteps : GoodIn wsX1_becomeProductOf wsX1_addSteps := goodIn_r _ [10, 11, 12, 13, 5, 14, 15, 16, 17, 18, 19, 20, 21, 22, 23, 24, 1, 55, 56, 57, 58, 59, 60] (by decide +kernel) (by decide +kernel)
set_option maxRecDepth 20000 in
theorem gX1_becomeProductOf_X1_addSteps : GoodIn wsX1_becomeProductOf (wsV RX1 54 RX1 yX1_addSteps wsX1_addSteps) := goodIn_app (goodIn_of _ (by decide +kernel)) ggX1_becomeProductOf_X1_addSteps
set_option maxRecDepth 20000 in
theorem ggX1_becomeProductOf_X1_settle : GoodIn wsX1_becomeProductOf wsX1_settle := goodIn_r _ [28, 29, 1, 15, 20, 30, 31, 32, 5, 33, 34, 35, 36, 37, 38, 39, 40, 41, 42, 43, 44, 45, 46, 47, 48, 49, 50, 51, 52, 53, 54, 55, 56, 57, 58, 59, 60] (by decide +kernel) (by decide +kernel)
set_option maxRecDepth 20000 in
theorem gX1_becomeProductOf_X1_settle : GoodIn wsX1_becomeProductOf (wsV RX1 47 RX1 yX1_settle wsX1_settle) := goodIn_app (goodIn_of _ (by decide +kernel)) ggX1_becomeProductOf_X1_settle
theorem dX1_becomeProductOf_0 : decode cX1_becomeProductOf 0 = .ok (.aload_n 0, 1) := by decide +kernel
theorem dX1_becomeProductOf_1 : decode cX1_becomeProductOf 1 = .ok (.iconst 0, 1) := by decide +kernel
theorem dX1_becomeProductOf_2 : decode cX1_becomeProductOf 2 = .ok (.putfield 26, 3) := by decide +kernel
theorem dX1_becomeProductOf_5 : decode cX1_becomeProductOf 5 = .ok (.aload_n 0, 1) := by decide +kernel
theorem dX1_becomeProductOf_6 : decode cX1_becomeProductOf 6 = .ok (.aload_n 1, 1) := by decide +kernel
theorem dX1_becomeProductOf_7 : decode cX1_becomeProductOf 7 = .ok (.aload_n 1, 1) := by decide +kernel
theorem dX1_becomeProductOf_8 : decode cX1_becomeProductOf 8 = .ok (.invokevirtual 50, 3) := by decide +kernel
theorem dX1_becomeProductOf_11 : decode cX1_becomeProductOf 11 = .ok (.invokevirtual 54, 3) := by decide +kernel
theorem dX1_becomeProductOf_14 : decode cX1_becomeProductOf 14 = .ok (.aload_n 0, 1) := by decide +kernel
theorem dX1_becomeProductOf_15 : decode cX1_becomeProductOf 15 = .ok (.aload_n 2, 1) := by decide +kernel
theorem dX1_becomeProductOf_16 : decode cX1_becomeProductOf 16 = .ok (.aload_n 2, 1) := by decide +kernel
theorem dX1_becomeProductOf_17 : decode cX1_becomeProductOf 17 = .ok (.invokevirtual 50, 3) := by decide +kernel
theorem dX1_becomeProductOf_20 : decode cX1_becomeProductOf 20 = .ok (.invokevirtual 54, 3) := by decide +kernel
theorem dX1_becomeProductOf_23 : decode cX1_becomeProductOf 23 = .ok (.aload_n 0, 1) := by decide +kernel
theorem dX1_becomeProductOf_24 : decode cX1_becomeProductOf 24 = .ok (.invokevirtual 47, 3) := by decide +kernel
theorem dX1_becomeProductOf_27 : decode cX1_becomeProductOf 27 = .ok (.return_, 1) := by decide +kernel
theorem dX1_compared_0 : decode cX1_compared 0 = .ok (.iload_n 1, 1) := by decide +kernel
theorem dX1_compared_1 : decode cX1_compared 1 = .ok (.ifCond .lt 21, 3) := by decide +kernel
theorem dX1_compared_4 : decode cX1_compared 4 = .ok (.iload_n 1, 1) := by decide +kernel
theorem dX1_compared_5 : decode cX1_compared 5 = .ok (.aload_n 0, 1) := by decide +kernel
theorem dX1_compared_6 : decode cX1_compared 6 = .ok (.getfield 19, 3) := by decide +kernel
theorem dX1_compared_9 : decode cX1_compared 9 = .ok (.arraylength, 1) := by decide +kernel
theorem dX1_compared_10 : decode cX1_compared 10 = .ok (.if_icmp .ge 12, 3) := by decide +kernel
theorem dX1_compared_13 : decode cX1_compared 13 = .ok (.aload_n 0, 1) := by decide +kernel
theorem dX1_compared_14 : decode cX1_compared 14 = .ok (.getfield 19, 3) := by decide +kernel
theorem dX1_compared_17 : decode cX1_compared 17 = .ok (.iload_n 1, 1) := by decide +kernel
theorem dX1_compared_18 : decode cX1_compared 18 = .ok (.laload, 1) := by decide +kernel
theorem dX1_compared_19 : decode cX1_compared 19 = .ok (.goto 4, 3) := by decide +kernel
theorem dX1_compared_22 : decode cX1_compared 22 = .ok (.lconst 0, 1) := by decide +kernel
theorem dX1_compared_23 : decode cX1_compared 23 = .ok (.lstore_n 3, 1) := by decide +kernel
theorem dX1_compared_24 : decode cX1_compared 24 = .ok (.iload_n 2, 1) := by decide +kernel
theorem dX1_compared_25 : decode cX1_compared 25 = .ok (.ifCond .lt 21, 3) := by decide +kernel
theorem dX1_compared_28 : decode cX1_compared 28 = .ok (.iload_n 2, 1) := by decide +kernel
theorem dX1_compared_29 : decode cX1_compared 29 = .ok (.aload_n 0, 1) := by decide +kernel
theorem dX1_compared_30 : decode cX1_compared 30 = .ok (.getfield 19, 3) := by decide +kernel
theorem dX1_compared_33 : decode cX1_compared 33 = .ok (.arraylength, 1) := by decide +kernel
theorem dX1_compared_34 : decode cX1_compared 34 = .ok (.if_icmp .ge 12, 3) := by decide +kernel
theorem dX1_compared_37 : decode cX1_compared 37 = .ok (.aload_n 0, 1) := by decide +kernel
theorem dX1_compared_38 : decode cX1_compared 38 = .ok (.getfield 19, 3) := by decide +kernel
theorem dX1_compared_41 : decode cX1_compared 41 = .ok (.iload_n 2, 1) := by decide +kernel
theorem dX1_compared_42 : decode cX1_compared 42 = .ok (.laload, 1) := by decide +kernel
theorem dX1_compared_43 : decode cX1_compared 43 = .ok (.goto 4, 3) := by decide +kernel
theorem dX1_compared_46 : decode cX1_compared 46 = .ok (.lconst 0, 1) := by decide +kernel
theorem dX1_compared_47 : decode cX1_compared 47 = .ok (.lstore 5, 2) := by decide +kernel
theorem dX1_compared_49 : decode cX1_compared 49 = .ok (.lload_n 3, 1) := by decide +kernel
theorem dX1_compared_50 : decode cX1_compared 50 = .ok (.lload 5, 2) := by decide +kernel
theorem dX1_compared_52 : decode cX1_compared 52 = .ok (.lcmp, 1) := by decide +kernel
theorem dX1_compared_53 : decode cX1_compared 53 = .ok (.ifCond .ge 7, 3) := by decide +kernel
theorem dX1_compared_56 : decode cX1_compared 56 = .ok (.iconst (-1), 1) := by decide +kernel
theorem dX1_compared_57 : decode cX1_compared 57 = .ok (.goto 15, 3) := by decide +kernel
theorem dX1_compared_60 : decode cX1_compared 60 = .ok (.lload_n 3, 1) := by decide +kernel
theorem dX1_compared_61 : decode cX1_compared 61 = .ok (.lload 5, 2) := by decide +kernel
theorem dX1_compared_63 : decode cX1_compared 63 = .ok (.lcmp, 1) := by decide +kernel
theorem dX1_compared_64 : decode cX1_compared 64 = .ok (.ifCond .le 7, 3) := by decide +kernel
theorem dX1_compared_67 : decode cX1_compared 67 = .ok (.iconst 1, 1) := by decide +kernel
theorem dX1_compared_68 : decode cX1_compared 68 = .ok (.goto 4, 3) := by decide +kernel
theorem dX1_compared_71 : decode cX1_compared 71 = .ok (.iconst 0, 1) := by decide +kernel
theorem dX1_compared_72 : decode cX1_compared 72 = .ok (.ireturn, 1) := by decide +kernel
theorem dX1_classCount_0 : decode cX1_classCount 0 = .ok (.aload_n 0, 1) := by decide +kernel
theorem dX1_classCount_1 : decode cX1_classCount 1 = .ok (.getfield 30, 3) := by decide +kernel
theorem dX1_classCount_4 : decode cX1_classCount 4 = .ok (.ireturn, 1) := by decide +kernel
theorem dX1_rankOf_0 : decode cX1_rankOf 0 = .ok (.iload_n 1, 1) := by decide +kernel
theorem dX1_rankOf_1 : decode cX1_rankOf 1 = .ok (.ifCond .lt 21, 3) := by decide +kernel
theorem dX1_rankOf_4 : decode cX1_rankOf 4 = .ok (.iload_n 1, 1) := by decide +kernel
theorem dX1_rankOf_5 : decode cX1_rankOf 5 = .ok (.aload_n 0, 1) := by decide +kernel
theorem dX1_rankOf_6 : decode cX1_rankOf 6 = .ok (.getfield 23, 3) := by decide +kernel
theorem dX1_rankOf_9 : decode cX1_rankOf 9 = .ok (.arraylength, 1) := by decide +kernel
theorem dX1_rankOf_10 : decode cX1_rankOf 10 = .ok (.if_icmp .ge 12, 3) := by decide +kernel
theorem dX1_rankOf_13 : decode cX1_rankOf 13 = .ok (.aload_n 0, 1) := by decide +kernel
theorem dX1_rankOf_14 : decode cX1_rankOf 14 = .ok (.getfield 23, 3) := by decide +kernel
theorem dX1_rankOf_17 : decode cX1_rankOf 17 = .ok (.iload_n 1, 1) := by decide +kernel
theorem dX1_rankOf_18 : decode cX1_rankOf 18 = .ok (.iaload, 1) := by decide +kernel
theorem dX1_rankOf_19 : decode cX1_rankOf 19 = .ok (.goto 4, 3) := by decide +kernel
theorem dX1_rankOf_22 : decode cX1_rankOf 22 = .ok (.iconst 0, 1) := by decide +kernel
theorem dX1_rankOf_23 : decode cX1_rankOf 23 = .ok (.ireturn, 1) := by decide +kernel
set_option maxRecDepth 20000 in
theorem ggX1_isFinerThan_X1_compared : GoodIn wsX1_isFinerThan wsX1_compared := goodIn_r _ [5, 6, 7, 8, 9, 10, 11, 12] (by decide +kernel) (by decide +kernel)
set_option maxRecDepth 20000 in
theorem gX1_isFinerThan_X1_compared : GoodIn wsX1_isFinerThan (wsV RX1 58 RX1 yX1_compared wsX1_compared) := goodIn_app (goodIn_of _ (by decide +kernel)) ggX1_isFinerThan_X1_compared
theorem dX1_isFinerThan_0 : decode cX1_isFinerThan 0 = .ok (.iconst 0, 1) := by decide +kernel
theorem dX1_isFinerThan_1 : decode cX1_isFinerThan 1 = .ok (.istore_n 2, 1) := by decide +kernel
theorem dX1_isFinerThan_2 : decode cX1_isFinerThan 2 = .ok (.iload_n 2, 1) := by decide +kernel
theorem dX1_isFinerThan_3 : decode cX1_isFinerThan 3 = .ok (.bipush 16, 2) := by decide +kernel
theorem dX1_isFinerThan_5 : decode cX1_isFinerThan 5 = .ok (.if_icmp .ge 43, 3) := by decide +kernel
theorem dX1_isFinerThan_8 : decode cX1_isFinerThan 8 = .ok (.iconst 0, 1) := by decide +kernel
theorem dX1_isFinerThan_9 : decode cX1_isFinerThan 9 = .ok (.istore_n 3, 1) := by decide +kernel
theorem dX1_isFinerThan_10 : decode cX1_isFinerThan 10 = .ok (.iload_n 3, 1) := by decide +kernel
theorem dX1_isFinerThan_11 : decode cX1_isFinerThan 11 = .ok (.bipush 16, 2) := by decide +kernel
theorem dX1_isFinerThan_13 : decode cX1_isFinerThan 13 = .ok (.if_icmp .ge 29, 3) := by decide +kernel
theorem dX1_isFinerThan_16 : decode cX1_isFinerThan 16 = .ok (.aload_n 1, 1) := by decide +kernel
theorem dX1_isFinerThan_17 : decode cX1_isFinerThan 17 = .ok (.iload_n 2, 1) := by decide +kernel
theorem dX1_isFinerThan_18 : decode cX1_isFinerThan 18 = .ok (.iload_n 3, 1) := by decide +kernel
theorem dX1_isFinerThan_19 : decode cX1_isFinerThan 19 = .ok (.invokevirtual 58, 3) := by decide +kernel
theorem dX1_isFinerThan_22 : decode cX1_isFinerThan 22 = .ok (.ifCond .ge 14, 3) := by decide +kernel
theorem dX1_isFinerThan_25 : decode cX1_isFinerThan 25 = .ok (.aload_n 0, 1) := by decide +kernel
theorem dX1_isFinerThan_26 : decode cX1_isFinerThan 26 = .ok (.iload_n 2, 1) := by decide +kernel
theorem dX1_isFinerThan_27 : decode cX1_isFinerThan 27 = .ok (.iload_n 3, 1) := by decide +kernel
theorem dX1_isFinerThan_28 : decode cX1_isFinerThan 28 = .ok (.invokevirtual 58, 3) := by decide +kernel
theorem dX1_isFinerThan_31 : decode cX1_isFinerThan 31 = .ok (.ifCond .lt 5, 3) := by decide +kernel
theorem dX1_isFinerThan_34 : decode cX1_isFinerThan 34 = .ok (.iconst 0, 1) := by decide +kernel
theorem dX1_isFinerThan_35 : decode cX1_isFinerThan 35 = .ok (.ireturn, 1) := by decide +kernel
theorem dX1_isFinerThan_36 : decode cX1_isFinerThan 36 = .ok (.iinc 3 1, 3) := by decide +kernel
theorem dX1_isFinerThan_39 : decode cX1_isFinerThan 39 = .ok (.goto (-29), 3) := by decide +kernel
theorem dX1_isFinerThan_42 : decode cX1_isFinerThan 42 = .ok (.iinc 2 1, 3) := by decide +kernel
theorem dX1_isFinerThan_45 : decode cX1_isFinerThan 45 = .ok (.goto (-43), 3) := by decide +kernel
theorem dX1_isFinerThan_48 : decode cX1_isFinerThan 48 = .ok (.iconst 1, 1) := by decide +kernel
theorem dX1_isFinerThan_49 : decode cX1_isFinerThan 49 = .ok (.ireturn, 1) := by decide +kernel
set_option maxRecDepth 20000 in
theorem ggX1_comparesLike_X1_compared : GoodIn wsX1_comparesLike wsX1_compared := goodIn_r _ [5, 6, 7, 8, 9, 10, 11, 12] (by decide +kernel) (by decide +kernel)
set_option maxRecDepth 20000 in
theorem gX1_comparesLike_X1_compared : GoodIn wsX1_comparesLike (wsV RX1 58 RX1 yX1_compared wsX1_compared) := goodIn_app (goodIn_of _ (by decide +kernel)) ggX1_comparesLike_X1_compared
theorem dX1_comparesLike_0 : decode cX1_comparesLike 0 = .ok (.iconst 0, 1) := by decide +kernel
theorem dX1_comparesLike_1 : decode cX1_comparesLike 1 = .ok (.istore_n 2, 1) := by decide +kernel
theorem dX1_comparesLike_2 : decode cX1_comparesLike 2 = .ok (.iload_n 2, 1) := by decide +kernel
theorem dX1_comparesLike_3 : decode cX1_comparesLike 3 = .ok (.bipush 16, 2) := by decide +kernel
theorem dX1_comparesLike_5 : decode cX1_comparesLike 5 = .ok (.if_icmp .ge 42, 3) := by decide +kernel
theorem dX1_comparesLike_8 : decode cX1_comparesLike 8 = .ok (.iload_n 2, 1) := by decide +kernel
theorem dX1_comparesLike_9 : decode cX1_comparesLike 9 = .ok (.iconst 1, 1) := by decide +kernel
theorem dX1_comparesLike_10 : decode cX1_comparesLike 10 = .ok (.iadd, 1) := by decide +kernel
theorem dX1_comparesLike_11 : decode cX1_comparesLike 11 = .ok (.istore_n 3, 1) := by decide +kernel
theorem dX1_comparesLike_12 : decode cX1_comparesLike 12 = .ok (.iload_n 3, 1) := by decide +kernel
theorem dX1_comparesLike_13 : decode cX1_comparesLike 13 = .ok (.bipush 16, 2) := by decide +kernel
theorem dX1_comparesLike_15 : decode cX1_comparesLike 15 = .ok (.if_icmp .ge 26, 3) := by decide +kernel
theorem dX1_comparesLike_18 : decode cX1_comparesLike 18 = .ok (.aload_n 0, 1) := by decide +kernel
theorem dX1_comparesLike_19 : decode cX1_comparesLike 19 = .ok (.iload_n 2, 1) := by decide +kernel
theorem dX1_comparesLike_20 : decode cX1_comparesLike 20 = .ok (.iload_n 3, 1) := by decide +kernel
theorem dX1_comparesLike_21 : decode cX1_comparesLike 21 = .ok (.invokevirtual 58, 3) := by decide +kernel
theorem dX1_comparesLike_24 : decode cX1_comparesLike 24 = .ok (.aload_n 1, 1) := by decide +kernel
theorem dX1_comparesLike_25 : decode cX1_comparesLike 25 = .ok (.iload_n 2, 1) := by decide +kernel
theorem dX1_comparesLike_26 : decode cX1_comparesLike 26 = .ok (.iload_n 3, 1) := by decide +kernel
theorem dX1_comparesLike_27 : decode cX1_comparesLike 27 = .ok (.invokevirtual 58, 3) := by decide +kernel
theorem dX1_comparesLike_30 : decode cX1_comparesLike 30 = .ok (.if_icmp .eq 5, 3) := by decide +kernel
theorem dX1_comparesLike_33 : decode cX1_comparesLike 33 = .ok (.iconst 0, 1) := by decide +kernel
theorem dX1_comparesLike_34 : decode cX1_comparesLike 34 = .ok (.ireturn, 1) := by decide +kernel
theorem dX1_comparesLike_35 : decode cX1_comparesLike 35 = .ok (.iinc 3 1, 3) := by decide +kernel
theorem dX1_comparesLike_38 : decode cX1_comparesLike 38 = .ok (.goto (-26), 3) := by decide +kernel
theorem dX1_comparesLike_41 : decode cX1_comparesLike 41 = .ok (.iinc 2 1, 3) := by decide +kernel
theorem dX1_comparesLike_44 : decode cX1_comparesLike 44 = .ok (.goto (-42), 3) := by decide +kernel
theorem dX1_comparesLike_47 : decode cX1_comparesLike 47 = .ok (.iconst 1, 1) := by decide +kernel
theorem dX1_comparesLike_48 : decode cX1_comparesLike 48 = .ok (.ireturn, 1) := by decide +kernel
set_option maxRecDepth 20000 in
theorem ggX1_told_J4_init_da8c8 : GoodIn wsX1_told wsJ4_init_da8c8 := goodIn_r _ [7, 8, 9, 10, 11, 12, 13, 14, 15, 16, 17, 18, 19, 20, 21, 22, 23, 24, 25, 26, 236, 237, 238, 239] (by decide +kernel) (by decide +kernel)
set_option maxRecDepth 20000 in
theorem gX1_told_J4_init_da8c8 : GoodIn wsX1_told (wsJ4_init_da8c8) := ggX1_told_J4_init_da8c8
set_option maxRecDepth 20000 in
theorem ggX1_told_X4_appendGap : GoodIn wsX1_told wsX4_appendGap := goodIn_r _ [29, 30, 31, 32, 3, 33, 34, 35, 36, 37, 10, 38, 39, 40, 41, 42, 43, 44, 45, 46, 47, 17, 48, 49, 50, 51, 52, 18, 53, 54, 55, 56, 57, 58, 59, 60, 61, 62, 63, 64, 65, 66, 67, 68, 69, 70, 71, 72, 73, 74, 75, 76, 77, 78, 79, 80, 16, 81, 82, 83, 84, 85, 86, 87, 88, 89, 90, 91, 92, 15, 93, 94, 95, 96, 97, 98, 99, 100, 101, 19, 20, 21, 22, 23, 24, 25, 26, 102, 103, 104, 105, 106, 107, 108, 109, 110, 111, 112, 113, 114, 115, 116, 117, 118, 119, 120, 121, 122, 123, 124, 125, 126, 127, 128, 129, 130, 131, 132, 133, 134, 135, 136, 137, 138, 139, 140, 236, 237, 238, 239] (by decide +kernel) (by decide +kernel)
set_option maxRecDepth 20000 in
theorem gX1_told_X4_appendGap_n65 : GoodIn wsX1_told (wsX4_appendGap) := ggX1_told_X4_appendGap
set_option maxRecDepth 20000 in
theorem ggX1_told_X1_keyOn : GoodIn wsX1_told wsX1_keyOn := goodIn_r _ [145, 146, 240, 241, 242, 243, 244, 245] (by decide +kernel) (by decide +kernel)
set_option maxRecDepth 20000 in
theorem gX1_told_X1_keyOn : GoodIn wsX1_told (wsV RX1 69 RX1 yX1_keyOn wsX1_keyOn) := goodIn_app (goodIn_of _ (by decide +kernel)) ggX1_told_X1_keyOn
set_option maxRecDepth 20000 in
theorem ggX1_told_J4_append_bf812 : GoodIn wsX1_told wsJ4_append_bf812 := goodIn_r _ [150, 151, 152, 36, 153, 10, 154, 39, 17, 155, 156, 157, 158, 48, 49, 50, 51, 52, 18, 53, 54, 55, 56, 57, 58, 59, 60, 61, 62, 63, 64, 65, 66, 67, 68, 69, 70, 71, 72, 73, 74, 75, 76, 77, 78, 79, 80, 16, 81, 82, 83, 84, 85, 86, 87, 88, 89, 90, 91, 92, 15, 159, 160, 161, 162, 163, 164, 165, 21, 166, 126, 167, 168, 169, 111, 112, 113, 170, 171, 116, 172, 118, 173, 174, 121, 175, 176, 177, 178, 179, 180, 123, 124, 125, 127, 128, 236, 237, 238, 239] (by decide +kernel) (by decide +kernel)
set_option maxRecDepth 20000 in
theorem gX1_told_J4_append_bf812 : GoodIn wsX1_told (wsV RX1 72 RJ4 yJ4_append_bf812 wsJ4_append_bf812) := goodIn_app (goodIn_of _ (by decide +kernel)) ggX1_told_J4_append_bf812
set_option maxRecDepth 20000 in
theorem ggX1_told_X1_isDownOn : GoodIn wsX1_told wsX1_isDownOn := goodIn_r _ [184, 185, 240, 241, 242, 243, 244, 245] (by decide +kernel) (by decide +kernel)
set_option maxRecDepth 20000 in
theorem gX1_told_X1_isDownOn : GoodIn wsX1_told (wsV RX1 39 RX1 yX1_isDownOn wsX1_isDownOn) := goodIn_app (goodIn_of _ (by decide +kernel)) ggX1_told_X1_isDownOn
set_option maxRecDepth 20000 in
theorem ggX1_told_J4_append_cf468 : GoodIn wsX1_told wsJ4_append_cf468 := goodIn_r _ [43, 44, 45, 36, 46, 10, 47, 39, 17, 48, 49, 50, 51, 52, 18, 53, 54, 55, 56, 57, 58, 59, 60, 61, 62, 63, 64, 65, 66, 67, 68, 69, 70, 71, 72, 73, 74, 75, 76, 77, 78, 79, 80, 16, 81, 82, 83, 84, 85, 86, 87, 88, 89, 90, 91, 92, 15, 93, 94, 95, 96, 97, 98, 99, 100, 101, 19, 20, 21, 22, 23, 24, 25, 26, 102, 103, 104, 105, 106, 107, 108, 109, 110, 111, 112, 113, 114, 115, 116, 117, 118, 119, 120, 121, 122, 123, 124, 125, 126, 127, 128, 129, 130, 131, 132, 133, 134, 135, 136, 137, 138, 139, 140, 236, 237, 238, 239] (by decide +kernel) (by decide +kernel)
set_option maxRecDepth 20000 in
theorem gX1_told_J4_append_cf468 : GoodIn wsX1_told (wsV RX1 76 RJ4 yJ4_append_cf468 wsJ4_append_cf468) := goodIn_app (goodIn_of _ (by decide +kernel)) ggX1_told_J4_append_cf468
set_option maxRecDepth 20000 in
theorem ggX1_told_J4_toString_0e30d : GoodIn wsX1_told wsJ4_toString_0e30d := goodIn_r _ [190, 191, 192, 116, 193, 194, 195, 196, 197, 198, 199, 13, 14, 200, 201, 202, 203, 204, 205, 206, 207, 10, 208, 17, 209, 35, 210, 211, 31, 3, 33, 34, 36, 37, 38, 39, 212, 89, 90, 91, 92, 15, 18, 213, 214, 73, 215, 75, 76, 77, 78, 79, 80, 216, 217, 218, 16, 81, 82, 65, 83, 84, 85, 86, 87, 219, 220, 221, 222, 2, 223, 224, 21, 225, 226, 227, 228, 108, 109, 110, 111, 112, 113, 114, 115, 117, 118, 119, 120, 121, 122, 229, 230, 231, 126, 127, 128, 23, 24, 25, 26, 232, 233, 234, 235, 246, 247, 248, 249, 236, 237, 238, 239] (by decide +kernel) (by decide +kernel)
set_option maxRecDepth 20000 in
theorem gX1_told_J4_toString_0e30d : GoodIn wsX1_told (wsV RX1 79 RJ4 yJ4_toString_0e30d wsJ4_toString_0e30d) := goodIn_app (goodIn_of _ (by decide +kernel)) ggX1_told_J4_toString_0e30d
theorem dX1_told_0 : decode cX1_told 0 = .ok (.new 62, 3) := by decide +kernel
theorem dX1_told_3 : decode cX1_told 3 = .ok (.dup, 1) := by decide +kernel
theorem dX1_told_4 : decode cX1_told 4 = .ok (.invokespecial 64, 3) := by decide +kernel
theorem dX1_told_7 : decode cX1_told 7 = .ok (.astore_n 1, 1) := by decide +kernel
theorem dX1_told_8 : decode cX1_told 8 = .ok (.iconst 0, 1) := by decide +kernel
theorem dX1_told_9 : decode cX1_told 9 = .ok (.istore_n 2, 1) := by decide +kernel
theorem dX1_told_10 : decode cX1_told 10 = .ok (.iload_n 2, 1) := by decide +kernel
theorem dX1_told_11 : decode cX1_told 11 = .ok (.aload_n 0, 1) := by decide +kernel
theorem dX1_told_12 : decode cX1_told 12 = .ok (.getfield 26, 3) := by decide +kernel
theorem dX1_told_15 : decode cX1_told 15 = .ok (.if_icmp .ge 41, 3) := by decide +kernel
theorem dX1_told_18 : decode cX1_told 18 = .ok (.aload_n 1, 1) := by decide +kernel
theorem dX1_told_19 : decode cX1_told 19 = .ok (.invokestatic 65, 3) := by decide +kernel
theorem dX1_told_22 : decode cX1_told 22 = .ok (.aload_n 1, 1) := by decide +kernel
theorem dX1_told_23 : decode cX1_told 23 = .ok (.aload_n 0, 1) := by decide +kernel
theorem dX1_told_24 : decode cX1_told 24 = .ok (.iload_n 2, 1) := by decide +kernel
theorem dX1_told_25 : decode cX1_told 25 = .ok (.invokevirtual 69, 3) := by decide +kernel
theorem dX1_told_28 : decode cX1_told 28 = .ok (.invokevirtual 72, 3) := by decide +kernel
theorem dX1_told_31 : decode cX1_told 31 = .ok (.aload_n 0, 1) := by decide +kernel
theorem dX1_told_32 : decode cX1_told 32 = .ok (.iload_n 2, 1) := by decide +kernel
theorem dX1_told_33 : decode cX1_told 33 = .ok (.invokevirtual 39, 3) := by decide +kernel
theorem dX1_told_36 : decode cX1_told 36 = .ok (.ifCond .eq 8, 3) := by decide +kernel
theorem dX1_told_39 : decode cX1_told 39 = .ok (.bipush 45, 2) := by decide +kernel
theorem dX1_told_41 : decode cX1_told 41 = .ok (.goto 5, 3) := by decide +kernel
theorem dX1_told_44 : decode cX1_told 44 = .ok (.bipush 43, 2) := by decide +kernel
theorem dX1_told_46 : decode cX1_told 46 = .ok (.invokevirtual 76, 3) := by decide +kernel
theorem dX1_told_49 : decode cX1_told 49 = .ok (.pop, 1) := by decide +kernel
theorem dX1_told_50 : decode cX1_told 50 = .ok (.iinc 2 1, 3) := by decide +kernel
theorem dX1_told_53 : decode cX1_told 53 = .ok (.goto (-43), 3) := by decide +kernel
theorem dX1_told_56 : decode cX1_told 56 = .ok (.aload_n 1, 1) := by decide +kernel
theorem dX1_told_57 : decode cX1_told 57 = .ok (.invokevirtual 79, 3) := by decide +kernel
theorem dX1_told_60 : decode cX1_told 60 = .ok (.areturn, 1) := by decide +kernel
theorem dX1_addStep_0 : decode cX1_addStep 0 = .ok (.aload_n 0, 1) := by decide +kernel
theorem dX1_addStep_1 : decode cX1_addStep 1 = .ok (.getfield 26, 3) := by decide +kernel
theorem dX1_addStep_4 : decode cX1_addStep 4 = .ok (.ifCond .lt 57, 3) := by decide +kernel
theorem dX1_addStep_7 : decode cX1_addStep 7 = .ok (.aload_n 0, 1) := by decide +kernel
theorem dX1_addStep_8 : decode cX1_addStep 8 = .ok (.getfield 26, 3) := by decide +kernel
theorem dX1_addStep_11 : decode cX1_addStep 11 = .ok (.aload_n 0, 1) := by decide +kernel
theorem dX1_addStep_12 : decode cX1_addStep 12 = .ok (.getfield 11, 3) := by decide +kernel
theorem dX1_addStep_15 : decode cX1_addStep 15 = .ok (.arraylength, 1) := by decide +kernel
theorem dX1_addStep_16 : decode cX1_addStep 16 = .ok (.if_icmp .ge 45, 3) := by decide +kernel
theorem dX1_addStep_19 : decode cX1_addStep 19 = .ok (.aload_n 0, 1) := by decide +kernel
theorem dX1_addStep_20 : decode cX1_addStep 20 = .ok (.getfield 26, 3) := by decide +kernel
theorem dX1_addStep_23 : decode cX1_addStep 23 = .ok (.aload_n 0, 1) := by decide +kernel
theorem dX1_addStep_24 : decode cX1_addStep 24 = .ok (.getfield 15, 3) := by decide +kernel
theorem dX1_addStep_27 : decode cX1_addStep 27 = .ok (.arraylength, 1) := by decide +kernel
theorem dX1_addStep_28 : decode cX1_addStep 28 = .ok (.if_icmp .ge 33, 3) := by decide +kernel
theorem dX1_addStep_31 : decode cX1_addStep 31 = .ok (.aload_n 0, 1) := by decide +kernel
theorem dX1_addStep_32 : decode cX1_addStep 32 = .ok (.getfield 11, 3) := by decide +kernel
theorem dX1_addStep_35 : decode cX1_addStep 35 = .ok (.aload_n 0, 1) := by decide +kernel
theorem dX1_addStep_36 : decode cX1_addStep 36 = .ok (.getfield 26, 3) := by decide +kernel
theorem dX1_addStep_39 : decode cX1_addStep 39 = .ok (.iload_n 1, 1) := by decide +kernel
theorem dX1_addStep_40 : decode cX1_addStep 40 = .ok (.iastore, 1) := by decide +kernel
theorem dX1_addStep_41 : decode cX1_addStep 41 = .ok (.aload_n 0, 1) := by decide +kernel
theorem dX1_addStep_42 : decode cX1_addStep 42 = .ok (.getfield 15, 3) := by decide +kernel
theorem dX1_addStep_45 : decode cX1_addStep 45 = .ok (.aload_n 0, 1) := by decide +kernel
theorem dX1_addStep_46 : decode cX1_addStep 46 = .ok (.getfield 26, 3) := by decide +kernel
theorem dX1_addStep_49 : decode cX1_addStep 49 = .ok (.iload_n 2, 1) := by decide +kernel
theorem dX1_addStep_50 : decode cX1_addStep 50 = .ok (.bastore, 1) := by decide +kernel
theorem dX1_addStep_51 : decode cX1_addStep 51 = .ok (.aload_n 0, 1) := by decide +kernel
theorem dX1_addStep_52 : decode cX1_addStep 52 = .ok (.dup, 1) := by decide +kernel
theorem dX1_addStep_53 : decode cX1_addStep 53 = .ok (.getfield 26, 3) := by decide +kernel
theorem dX1_addStep_56 : decode cX1_addStep 56 = .ok (.iconst 1, 1) := by decide +kernel
theorem dX1_addStep_57 : decode cX1_addStep 57 = .ok (.iadd, 1) := by decide +kernel
theorem dX1_addStep_58 : decode cX1_addStep 58 = .ok (.putfield 26, 3) := by decide +kernel
theorem dX1_addStep_61 : decode cX1_addStep 61 = .ok (.return_, 1) := by decide +kernel
set_option maxRecDepth 20000 in
theorem ggX1_addSteps_X1_keyOn : GoodIn wsX1_addSteps wsX1_keyOn := goodIn_r _ [5, 6, 17, 18, 19, 20, 21, 22] (by decide +kernel) (by decide +kernel)
set_option maxRecDepth 20000 in
theorem gX1_addSteps_X1_keyOn : GoodIn wsX1_addSteps (wsV RX1 69 RX1 yX1_keyOn wsX1_keyOn) := goodIn_app (goodIn_of _ (by decide +kernel)) ggX1_addSteps_X1_keyOn
set_option maxRecDepth 20000 in
theorem ggX1_addSteps_X1_isDownOn : GoodIn wsX1_addSteps wsX1_isDownOn := goodIn_r _ [10, 11, 17, 18, 19, 20, 21, 22] (by decide +kernel) (by decide +kernel)
set_option maxRecDepth 20000 in
theorem gX1_addSteps_X1_isDownOn : GoodIn wsX1_addSteps (wsV RX1 39 RX1 yX1_isDownOn wsX1_isDownOn) := goodIn_app (goodIn_of _ (by decide +kernel)) ggX1_addSteps_X1_isDownOn
set_option maxRecDepth 20000 in
theorem ggX1_addSteps_X1_addStep : GoodIn wsX1_addSteps wsX1_addStep := goodIn_r _ [15, 16, 6, 11, 17, 18, 19, 20, 21, 22] (by decide +kernel) (by decide +kernel)
set_option maxRecDepth 20000 in
theorem gX1_addSteps_X1_addStep : GoodIn wsX1_addSteps (wsV RX1 43 RX1 yX1_addStep wsX1_addStep) := goodIn_app (goodIn_of _ (by decide +kernel)) ggX1_addSteps_X1_addStep
theorem dX1_addSteps_0 : decode cX1_addSteps 0 = .ok (.iconst 0, 1) := by decide +kernel
theorem dX1_addSteps_1 : decode cX1_addSteps 1 = .ok (.istore_n 3, 1) := by decide +kernel
theorem dX1_addSteps_2 : decode cX1_addSteps 2 = .ok (.iload_n 3, 1) := by decide +kernel
theorem dX1_addSteps_3 : decode cX1_addSteps 3 = .ok (.iload_n 2, 1) := by decide +kernel
theorem dX1_addSteps_4 : decode cX1_addSteps 4 = .ok (.if_icmp .ge 23, 3) := by decide +kernel
theorem dX1_addSteps_7 : decode cX1_addSteps 7 = .ok (.aload_n 0, 1) := by decide +kernel
theorem dX1_addSteps_8 : decode cX1_addSteps 8 = .ok (.aload_n 1, 1) := by decide +kernel
theorem dX1_addSteps_9 : decode cX1_addSteps 9 = .ok (.iload_n 3, 1) := by decide +kernel
theorem dX1_addSteps_10 : decode cX1_addSteps 10 = .ok (.invokevirtual 69, 3) := by decide +kernel
theorem dX1_addSteps_13 : decode cX1_addSteps 13 = .ok (.aload_n 1, 1) := by decide +kernel
theorem dX1_addSteps_14 : decode cX1_addSteps 14 = .ok (.iload_n 3, 1) := by decide +kernel
theorem dX1_addSteps_15 : decode cX1_addSteps 15 = .ok (.invokevirtual 39, 3) := by decide +kernel
theorem dX1_addSteps_18 : decode cX1_addSteps 18 = .ok (.invokevirtual 43, 3) := by decide +kernel
theorem dX1_addSteps_21 : decode cX1_addSteps 21 = .ok (.iinc 3 1, 3) := by decide +kernel
theorem dX1_addSteps_24 : decode cX1_addSteps 24 = .ok (.goto (-22), 3) := by decide +kernel
theorem dX1_addSteps_27 : decode cX1_addSteps 27 = .ok (.return_, 1) := by decide +kernel
set_option maxRecDepth 20000 in
theorem ggX1_settle_X1_numberBy : GoodIn wsX1_settle wsX1_numberBy := goodIn_r _ [9, 10, 11, 12, 13, 14, 15, 16] (by decide +kernel) (by decide +kernel)
set_option maxRecDepth 20000 in
theorem gX1_settle_X1_numberBy : GoodIn wsX1_settle (va_wsS RX1 83 yX1_numberBy wsX1_numberBy) := goodIn_app (goodIn_of _ (by decide +kernel)) ggX1_settle_X1_numberBy
set_option maxRecDepth 20000 in
theorem ggX1_settle_X1_rankAll : GoodIn wsX1_settle wsX1_rankAll := goodIn_r _ [20, 21, 22, 1, 23, 24, 25, 8, 26, 27, 28, 29, 30, 31, 32, 33, 34, 35, 36] (by decide +kernel) (by decide +kernel)
set_option maxRecDepth 20000 in
theorem gX1_settle_X1_rankAll : GoodIn wsX1_settle (wsV RX1 88 RX1 yX1_rankAll wsX1_rankAll) := goodIn_app (goodIn_of _ (by decide +kernel)) ggX1_settle_X1_rankAll
theorem dX1_settle_0 : decode cX1_settle 0 = .ok (.iconst 0, 1) := by decide +kernel
theorem dX1_settle_1 : decode cX1_settle 1 = .ok (.istore_n 1, 1) := by decide +kernel
theorem dX1_settle_2 : decode cX1_settle 2 = .ok (.iload_n 1, 1) := by decide +kernel
theorem dX1_settle_3 : decode cX1_settle 3 = .ok (.aload_n 0, 1) := by decide +kernel
theorem dX1_settle_4 : decode cX1_settle 4 = .ok (.getfield 19, 3) := by decide +kernel
theorem dX1_settle_7 : decode cX1_settle 7 = .ok (.arraylength, 1) := by decide +kernel
theorem dX1_settle_8 : decode cX1_settle 8 = .ok (.if_icmp .ge 97, 3) := by decide +kernel
theorem dX1_settle_11 : decode cX1_settle 11 = .ok (.lconst 0, 1) := by decide +kernel
theorem dX1_settle_12 : decode cX1_settle 12 = .ok (.lstore_n 2, 1) := by decide +kernel
theorem dX1_settle_13 : decode cX1_settle 13 = .ok (.iconst 0, 1) := by decide +kernel
theorem dX1_settle_14 : decode cX1_settle 14 = .ok (.istore 4, 2) := by decide +kernel
theorem dX1_settle_16 : decode cX1_settle 16 = .ok (.iload 4, 2) := by decide +kernel
theorem dX1_settle_18 : decode cX1_settle 18 = .ok (.aload_n 0, 1) := by decide +kernel
theorem dX1_settle_19 : decode cX1_settle 19 = .ok (.getfield 26, 3) := by decide +kernel
theorem dX1_settle_22 : decode cX1_settle 22 = .ok (.if_icmp .ge 70, 3) := by decide +kernel
theorem dX1_settle_25 : decode cX1_settle 25 = .ok (.iload 4, 2) := by decide +kernel
theorem dX1_settle_27 : decode cX1_settle 27 = .ok (.aload_n 0, 1) := by decide +kernel
theorem dX1_settle_28 : decode cX1_settle 28 = .ok (.getfield 11, 3) := by decide +kernel
theorem dX1_settle_31 : decode cX1_settle 31 = .ok (.arraylength, 1) := by decide +kernel
theorem dX1_settle_32 : decode cX1_settle 32 = .ok (.if_icmp .ge 60, 3) := by decide +kernel
theorem dX1_settle_35 : decode cX1_settle 35 = .ok (.iload 4, 2) := by decide +kernel
theorem dX1_settle_37 : decode cX1_settle 37 = .ok (.aload_n 0, 1) := by decide +kernel
theorem dX1_settle_38 : decode cX1_settle 38 = .ok (.getfield 15, 3) := by decide +kernel
theorem dX1_settle_41 : decode cX1_settle 41 = .ok (.arraylength, 1) := by decide +kernel
theorem dX1_settle_42 : decode cX1_settle 42 = .ok (.if_icmp .ge 50, 3) := by decide +kernel
theorem dX1_settle_45 : decode cX1_settle 45 = .ok (.aload_n 0, 1) := by decide +kernel
theorem dX1_settle_46 : decode cX1_settle 46 = .ok (.getfield 11, 3) := by decide +kernel
theorem dX1_settle_49 : decode cX1_settle 49 = .ok (.iload 4, 2) := by decide +kernel
theorem dX1_settle_51 : decode cX1_settle 51 = .ok (.iaload, 1) := by decide +kernel
theorem dX1_settle_52 : decode cX1_settle 52 = .ok (.iload_n 1, 1) := by decide +kernel
theorem dX1_settle_53 : decode cX1_settle 53 = .ok (.invokestatic 83, 3) := by decide +kernel
theorem dX1_settle_56 : decode cX1_settle 56 = .ok (.istore 5, 2) := by decide +kernel
theorem dX1_settle_58 : decode cX1_settle 58 = .ok (.lload_n 2, 1) := by decide +kernel
theorem dX1_settle_59 : decode cX1_settle 59 = .ok (.ldc2_w 86, 3) := by decide +kernel
theorem dX1_settle_62 : decode cX1_settle 62 = .ok (.lmul, 1) := by decide +kernel
theorem dX1_settle_63 : decode cX1_settle 63 = .ok (.aload_n 0, 1) := by decide +kernel
theorem dX1_settle_64 : decode cX1_settle 64 = .ok (.getfield 15, 3) := by decide +kernel
theorem dX1_settle_67 : decode cX1_settle 67 = .ok (.iload 4, 2) := by decide +kernel
theorem dX1_settle_69 : decode cX1_settle 69 = .ok (.baload, 1) := by decide +kernel
theorem dX1_settle_70 : decode cX1_settle 70 = .ok (.ifCond .eq 11, 3) := by decide +kernel
theorem dX1_settle_73 : decode cX1_settle 73 = .ok (.bipush 15, 2) := by decide +kernel
theorem dX1_settle_75 : decode cX1_settle 75 = .ok (.iload 5, 2) := by decide +kernel
theorem dX1_settle_77 : decode cX1_settle 77 = .ok (.isub, 1) := by decide +kernel
theorem dX1_settle_78 : decode cX1_settle 78 = .ok (.goto 5, 3) := by decide +kernel
theorem dX1_settle_81 : decode cX1_settle 81 = .ok (.iload 5, 2) := by decide +kernel
theorem dX1_settle_83 : decode cX1_settle 83 = .ok (.i2l, 1) := by decide +kernel
theorem dX1_settle_84 : decode cX1_settle 84 = .ok (.ladd, 1) := by decide +kernel
theorem dX1_settle_85 : decode cX1_settle 85 = .ok (.lstore_n 2, 1) := by decide +kernel
theorem dX1_settle_86 : decode cX1_settle 86 = .ok (.iinc 4 1, 3) := by decide +kernel
theorem dX1_settle_89 : decode cX1_settle 89 = .ok (.goto (-73), 3) := by decide +kernel
theorem dX1_settle_92 : decode cX1_settle 92 = .ok (.aload_n 0, 1) := by decide +kernel
theorem dX1_settle_93 : decode cX1_settle 93 = .ok (.getfield 19, 3) := by decide +kernel
theorem dX1_settle_96 : decode cX1_settle 96 = .ok (.iload_n 1, 1) := by decide +kernel
theorem dX1_settle_97 : decode cX1_settle 97 = .ok (.lload_n 2, 1) := by decide +kernel
theorem dX1_settle_98 : decode cX1_settle 98 = .ok (.lastore, 1) := by decide +kernel
theorem dX1_settle_99 : decode cX1_settle 99 = .ok (.iinc 1 1, 3) := by decide +kernel
theorem dX1_settle_102 : decode cX1_settle 102 = .ok (.goto (-100), 3) := by decide +kernel
theorem dX1_settle_105 : decode cX1_settle 105 = .ok (.aload_n 0, 1) := by decide +kernel
theorem dX1_settle_106 : decode cX1_settle 106 = .ok (.invokevirtual 88, 3) := by decide +kernel
theorem dX1_settle_109 : decode cX1_settle 109 = .ok (.return_, 1) := by decide +kernel
set_option maxRecDepth 20000 in
theorem ggX1_rankAll_X1_isFirstOfClass : GoodIn wsX1_rankAll wsX1_isFirstOfClass := goodIn_r _ [8, 3, 13, 14, 15, 16, 17, 18] (by decide +kernel) (by decide +kernel)
set_option maxRecDepth 20000 in
theorem gX1_rankAll_X1_isFirstOfClass : GoodIn wsX1_rankAll (wsV RX1 91 RX1 yX1_isFirstOfClass wsX1_isFirstOfClass) := goodIn_app (goodIn_of _ (by decide +kernel)) ggX1_rankAll_X1_isFirstOfClass
set_option maxRecDepth 20000 in
theorem ggX1_rankAll_X1_pushBackBehind : GoodIn wsX1_rankAll wsX1_pushBackBehind := goodIn_r _ [12, 2, 3, 13, 14, 15, 16, 17, 18] (by decide +kernel) (by decide +kernel)
set_option maxRecDepth 20000 in
theorem gX1_rankAll_X1_pushBackBehind : GoodIn wsX1_rankAll (wsV RX1 94 RX1 yX1_pushBackBehind wsX1_pushBackBehind) := goodIn_app (goodIn_of _ (by decide +kernel)) ggX1_rankAll_X1_pushBackBehind
theorem dX1_rankAll_0 : decode cX1_rankAll 0 = .ok (.aload_n 0, 1) := by decide +kernel
theorem dX1_rankAll_1 : decode cX1_rankAll 1 = .ok (.iconst 0, 1) := by decide +kernel
theorem dX1_rankAll_2 : decode cX1_rankAll 2 = .ok (.putfield 30, 3) := by decide +kernel
theorem dX1_rankAll_5 : decode cX1_rankAll 5 = .ok (.iconst 0, 1) := by decide +kernel
theorem dX1_rankAll_6 : decode cX1_rankAll 6 = .ok (.istore_n 1, 1) := by decide +kernel
theorem dX1_rankAll_7 : decode cX1_rankAll 7 = .ok (.iload_n 1, 1) := by decide +kernel
theorem dX1_rankAll_8 : decode cX1_rankAll 8 = .ok (.aload_n 0, 1) := by decide +kernel
theorem dX1_rankAll_9 : decode cX1_rankAll 9 = .ok (.getfield 23, 3) := by decide +kernel
theorem dX1_rankAll_12 : decode cX1_rankAll 12 = .ok (.arraylength, 1) := by decide +kernel
theorem dX1_rankAll_13 : decode cX1_rankAll 13 = .ok (.if_icmp .ge 16, 3) := by decide +kernel
theorem dX1_rankAll_16 : decode cX1_rankAll 16 = .ok (.aload_n 0, 1) := by decide +kernel
theorem dX1_rankAll_17 : decode cX1_rankAll 17 = .ok (.getfield 23, 3) := by decide +kernel
theorem dX1_rankAll_20 : decode cX1_rankAll 20 = .ok (.iload_n 1, 1) := by decide +kernel
theorem dX1_rankAll_21 : decode cX1_rankAll 21 = .ok (.iconst 0, 1) := by decide +kernel
theorem dX1_rankAll_22 : decode cX1_rankAll 22 = .ok (.iastore, 1) := by decide +kernel
theorem dX1_rankAll_23 : decode cX1_rankAll 23 = .ok (.iinc 1 1, 3) := by decide +kernel
theorem dX1_rankAll_26 : decode cX1_rankAll 26 = .ok (.goto (-19), 3) := by decide +kernel
theorem dX1_rankAll_29 : decode cX1_rankAll 29 = .ok (.iconst 0, 1) := by decide +kernel
theorem dX1_rankAll_30 : decode cX1_rankAll 30 = .ok (.istore_n 1, 1) := by decide +kernel
theorem dX1_rankAll_31 : decode cX1_rankAll 31 = .ok (.iload_n 1, 1) := by decide +kernel
theorem dX1_rankAll_32 : decode cX1_rankAll 32 = .ok (.aload_n 0, 1) := by decide +kernel
theorem dX1_rankAll_33 : decode cX1_rankAll 33 = .ok (.getfield 19, 3) := by decide +kernel
theorem dX1_rankAll_36 : decode cX1_rankAll 36 = .ok (.arraylength, 1) := by decide +kernel
theorem dX1_rankAll_37 : decode cX1_rankAll 37 = .ok (.if_icmp .ge 37, 3) := by decide +kernel
theorem dX1_rankAll_40 : decode cX1_rankAll 40 = .ok (.aload_n 0, 1) := by decide +kernel
theorem dX1_rankAll_41 : decode cX1_rankAll 41 = .ok (.iload_n 1, 1) := by decide +kernel
theorem dX1_rankAll_42 : decode cX1_rankAll 42 = .ok (.invokevirtual 91, 3) := by decide +kernel
theorem dX1_rankAll_45 : decode cX1_rankAll 45 = .ok (.ifCond .eq 23, 3) := by decide +kernel
theorem dX1_rankAll_48 : decode cX1_rankAll 48 = .ok (.aload_n 0, 1) := by decide +kernel
theorem dX1_rankAll_49 : decode cX1_rankAll 49 = .ok (.dup, 1) := by decide +kernel
theorem dX1_rankAll_50 : decode cX1_rankAll 50 = .ok (.getfield 30, 3) := by decide +kernel
theorem dX1_rankAll_53 : decode cX1_rankAll 53 = .ok (.iconst 1, 1) := by decide +kernel
theorem dX1_rankAll_54 : decode cX1_rankAll 54 = .ok (.iadd, 1) := by decide +kernel
theorem dX1_rankAll_55 : decode cX1_rankAll 55 = .ok (.putfield 30, 3) := by decide +kernel
theorem dX1_rankAll_58 : decode cX1_rankAll 58 = .ok (.aload_n 0, 1) := by decide +kernel
theorem dX1_rankAll_59 : decode cX1_rankAll 59 = .ok (.aload_n 0, 1) := by decide +kernel
theorem dX1_rankAll_60 : decode cX1_rankAll 60 = .ok (.getfield 19, 3) := by decide +kernel
theorem dX1_rankAll_63 : decode cX1_rankAll 63 = .ok (.iload_n 1, 1) := by decide +kernel
theorem dX1_rankAll_64 : decode cX1_rankAll 64 = .ok (.laload, 1) := by decide +kernel
theorem dX1_rankAll_65 : decode cX1_rankAll 65 = .ok (.invokevirtual 94, 3) := by decide +kernel
theorem dX1_rankAll_68 : decode cX1_rankAll 68 = .ok (.iinc 1 1, 3) := by decide +kernel
theorem dX1_rankAll_71 : decode cX1_rankAll 71 = .ok (.goto (-40), 3) := by decide +kernel
theorem dX1_rankAll_74 : decode cX1_rankAll 74 = .ok (.return_, 1) := by decide +kernel
theorem dX1_isFirstOfClass_0 : decode cX1_isFirstOfClass 0 = .ok (.iconst 0, 1) := by decide +kernel
theorem dX1_isFirstOfClass_1 : decode cX1_isFirstOfClass 1 = .ok (.istore_n 2, 1) := by decide +kernel
theorem dX1_isFirstOfClass_2 : decode cX1_isFirstOfClass 2 = .ok (.iload_n 2, 1) := by decide +kernel
theorem dX1_isFirstOfClass_3 : decode cX1_isFirstOfClass 3 = .ok (.iload_n 1, 1) := by decide +kernel
theorem dX1_isFirstOfClass_4 : decode cX1_isFirstOfClass 4 = .ok (.if_icmp .ge 36, 3) := by decide +kernel
theorem dX1_isFirstOfClass_7 : decode cX1_isFirstOfClass 7 = .ok (.iload_n 1, 1) := by decide +kernel
theorem dX1_isFirstOfClass_8 : decode cX1_isFirstOfClass 8 = .ok (.aload_n 0, 1) := by decide +kernel
theorem dX1_isFirstOfClass_9 : decode cX1_isFirstOfClass 9 = .ok (.getfield 19, 3) := by decide +kernel
theorem dX1_isFirstOfClass_12 : decode cX1_isFirstOfClass 12 = .ok (.arraylength, 1) := by decide +kernel
theorem dX1_isFirstOfClass_13 : decode cX1_isFirstOfClass 13 = .ok (.if_icmp .ge 27, 3) := by decide +kernel
theorem dX1_isFirstOfClass_16 : decode cX1_isFirstOfClass 16 = .ok (.aload_n 0, 1) := by decide +kernel
theorem dX1_isFirstOfClass_17 : decode cX1_isFirstOfClass 17 = .ok (.getfield 19, 3) := by decide +kernel
theorem dX1_isFirstOfClass_20 : decode cX1_isFirstOfClass 20 = .ok (.iload_n 2, 1) := by decide +kernel
theorem dX1_isFirstOfClass_21 : decode cX1_isFirstOfClass 21 = .ok (.laload, 1) := by decide +kernel
theorem dX1_isFirstOfClass_22 : decode cX1_isFirstOfClass 22 = .ok (.aload_n 0, 1) := by decide +kernel
theorem dX1_isFirstOfClass_23 : decode cX1_isFirstOfClass 23 = .ok (.getfield 19, 3) := by decide +kernel
theorem dX1_isFirstOfClass_26 : decode cX1_isFirstOfClass 26 = .ok (.iload_n 1, 1) := by decide +kernel
theorem dX1_isFirstOfClass_27 : decode cX1_isFirstOfClass 27 = .ok (.laload, 1) := by decide +kernel
theorem dX1_isFirstOfClass_28 : decode cX1_isFirstOfClass 28 = .ok (.lcmp, 1) := by decide +kernel
theorem dX1_isFirstOfClass_29 : decode cX1_isFirstOfClass 29 = .ok (.ifCond .ne 5, 3) := by decide +kernel
theorem dX1_isFirstOfClass_32 : decode cX1_isFirstOfClass 32 = .ok (.iconst 0, 1) := by decide +kernel
theorem dX1_isFirstOfClass_33 : decode cX1_isFirstOfClass 33 = .ok (.ireturn, 1) := by decide +kernel
theorem dX1_isFirstOfClass_34 : decode cX1_isFirstOfClass 34 = .ok (.iinc 2 1, 3) := by decide +kernel
theorem dX1_isFirstOfClass_37 : decode cX1_isFirstOfClass 37 = .ok (.goto (-35), 3) := by decide +kernel
theorem dX1_isFirstOfClass_40 : decode cX1_isFirstOfClass 40 = .ok (.iconst 1, 1) := by decide +kernel
theorem dX1_isFirstOfClass_41 : decode cX1_isFirstOfClass 41 = .ok (.ireturn, 1) := by decide +kernel
theorem dX1_pushBackBehind_0 : decode cX1_pushBackBehind 0 = .ok (.iconst 0, 1) := by decide +kernel
theorem dX1_pushBackBehind_1 : decode cX1_pushBackBehind 1 = .ok (.istore_n 3, 1) := by decide +kernel
theorem dX1_pushBackBehind_2 : decode cX1_pushBackBehind 2 = .ok (.iload_n 3, 1) := by decide +kernel
theorem dX1_pushBackBehind_3 : decode cX1_pushBackBehind 3 = .ok (.aload_n 0, 1) := by decide +kernel
theorem dX1_pushBackBehind_4 : decode cX1_pushBackBehind 4 = .ok (.getfield 23, 3) := by decide +kernel
theorem dX1_pushBackBehind_7 : decode cX1_pushBackBehind 7 = .ok (.arraylength, 1) := by decide +kernel
theorem dX1_pushBackBehind_8 : decode cX1_pushBackBehind 8 = .ok (.if_icmp .ge 39, 3) := by decide +kernel
theorem dX1_pushBackBehind_11 : decode cX1_pushBackBehind 11 = .ok (.iload_n 3, 1) := by decide +kernel
theorem dX1_pushBackBehind_12 : decode cX1_pushBackBehind 12 = .ok (.aload_n 0, 1) := by decide +kernel
theorem dX1_pushBackBehind_13 : decode cX1_pushBackBehind 13 = .ok (.getfield 19, 3) := by decide +kernel
theorem dX1_pushBackBehind_16 : decode cX1_pushBackBehind 16 = .ok (.arraylength, 1) := by decide +kernel
theorem dX1_pushBackBehind_17 : decode cX1_pushBackBehind 17 = .ok (.if_icmp .ge 30, 3) := by decide +kernel
theorem dX1_pushBackBehind_20 : decode cX1_pushBackBehind 20 = .ok (.lload_n 1, 1) := by decide +kernel
theorem dX1_pushBackBehind_21 : decode cX1_pushBackBehind 21 = .ok (.aload_n 0, 1) := by decide +kernel
theorem dX1_pushBackBehind_22 : decode cX1_pushBackBehind 22 = .ok (.getfield 19, 3) := by decide +kernel
theorem dX1_pushBackBehind_25 : decode cX1_pushBackBehind 25 = .ok (.iload_n 3, 1) := by decide +kernel
theorem dX1_pushBackBehind_26 : decode cX1_pushBackBehind 26 = .ok (.laload, 1) := by decide +kernel
theorem dX1_pushBackBehind_27 : decode cX1_pushBackBehind 27 = .ok (.lcmp, 1) := by decide +kernel
theorem dX1_pushBackBehind_28 : decode cX1_pushBackBehind 28 = .ok (.ifCond .ge 13, 3) := by decide +kernel
theorem dX1_pushBackBehind_31 : decode cX1_pushBackBehind 31 = .ok (.aload_n 0, 1) := by decide +kernel
theorem dX1_pushBackBehind_32 : decode cX1_pushBackBehind 32 = .ok (.getfield 23, 3) := by decide +kernel
theorem dX1_pushBackBehind_35 : decode cX1_pushBackBehind 35 = .ok (.iload_n 3, 1) := by decide +kernel
theorem dX1_pushBackBehind_36 : decode cX1_pushBackBehind 36 = .ok (.dup2, 1) := by decide +kernel
theorem dX1_pushBackBehind_37 : decode cX1_pushBackBehind 37 = .ok (.iaload, 1) := by decide +kernel
theorem dX1_pushBackBehind_38 : decode cX1_pushBackBehind 38 = .ok (.iconst 1, 1) := by decide +kernel
theorem dX1_pushBackBehind_39 : decode cX1_pushBackBehind 39 = .ok (.iadd, 1) := by decide +kernel
theorem dX1_pushBackBehind_40 : decode cX1_pushBackBehind 40 = .ok (.iastore, 1) := by decide +kernel
theorem dX1_pushBackBehind_41 : decode cX1_pushBackBehind 41 = .ok (.iinc 3 1, 3) := by decide +kernel
theorem dX1_pushBackBehind_44 : decode cX1_pushBackBehind 44 = .ok (.goto (-42), 3) := by decide +kernel
theorem dX1_pushBackBehind_47 : decode cX1_pushBackBehind 47 = .ok (.return_, 1) := by decide +kernel
theorem dX2_init_0 : decode cX2_init 0 = .ok (.aload_n 0, 1) := by decide +kernel
theorem dX2_init_1 : decode cX2_init 1 = .ok (.invokespecial 3, 3) := by decide +kernel
theorem dX2_init_4 : decode cX2_init 4 = .ok (.aload_n 0, 1) := by decide +kernel
theorem dX2_init_5 : decode cX2_init 5 = .ok (.bipush 16, 2) := by decide +kernel
theorem dX2_init_7 : decode cX2_init 7 = .ok (.newarray .int, 2) := by decide +kernel
theorem dX2_init_9 : decode cX2_init 9 = .ok (.putfield 11, 3) := by decide +kernel
theorem dX2_init_12 : decode cX2_init 12 = .ok (.aload_n 0, 1) := by decide +kernel
theorem dX2_init_13 : decode cX2_init 13 = .ok (.bipush 16, 2) := by decide +kernel
theorem dX2_init_15 : decode cX2_init 15 = .ok (.newarray .int, 2) := by decide +kernel
theorem dX2_init_17 : decode cX2_init 17 = .ok (.putfield 15, 3) := by decide +kernel
theorem dX2_init_20 : decode cX2_init 20 = .ok (.aload_n 0, 1) := by decide +kernel
theorem dX2_init_21 : decode cX2_init 21 = .ok (.iconst 0, 1) := by decide +kernel
theorem dX2_init_22 : decode cX2_init 22 = .ok (.putfield 18, 3) := by decide +kernel
theorem dX2_init_25 : decode cX2_init 25 = .ok (.return_, 1) := by decide +kernel
theorem dX2_length_0 : decode cX2_length 0 = .ok (.aload_n 0, 1) := by decide +kernel
theorem dX2_length_1 : decode cX2_length 1 = .ok (.getfield 18, 3) := by decide +kernel
theorem dX2_length_4 : decode cX2_length 4 = .ok (.ireturn, 1) := by decide +kernel
theorem dX2_valueOn_0 : decode cX2_valueOn 0 = .ok (.iload_n 1, 1) := by decide +kernel
theorem dX2_valueOn_1 : decode cX2_valueOn 1 = .ok (.ifCond .lt 21, 3) := by decide +kernel
theorem dX2_valueOn_4 : decode cX2_valueOn 4 = .ok (.iload_n 1, 1) := by decide +kernel
theorem dX2_valueOn_5 : decode cX2_valueOn 5 = .ok (.aload_n 0, 1) := by decide +kernel
theorem dX2_valueOn_6 : decode cX2_valueOn 6 = .ok (.getfield 11, 3) := by decide +kernel
theorem dX2_valueOn_9 : decode cX2_valueOn 9 = .ok (.arraylength, 1) := by decide +kernel
theorem dX2_valueOn_10 : decode cX2_valueOn 10 = .ok (.if_icmp .ge 12, 3) := by decide +kernel
theorem dX2_valueOn_13 : decode cX2_valueOn 13 = .ok (.aload_n 0, 1) := by decide +kernel
theorem dX2_valueOn_14 : decode cX2_valueOn 14 = .ok (.getfield 11, 3) := by decide +kernel
theorem dX2_valueOn_17 : decode cX2_valueOn 17 = .ok (.iload_n 1, 1) := by decide +kernel
theorem dX2_valueOn_18 : decode cX2_valueOn 18 = .ok (.iaload, 1) := by decide +kernel
theorem dX2_valueOn_19 : decode cX2_valueOn 19 = .ok (.goto 4, 3) := by decide +kernel
theorem dX2_valueOn_22 : decode cX2_valueOn 22 = .ok (.iconst 0, 1) := by decide +kernel
theorem dX2_valueOn_23 : decode cX2_valueOn 23 = .ok (.ireturn, 1) := by decide +kernel
theorem dX2_markOn_0 : decode cX2_markOn 0 = .ok (.iload_n 1, 1) := by decide +kernel
theorem dX2_markOn_1 : decode cX2_markOn 1 = .ok (.ifCond .lt 21, 3) := by decide +kernel
theorem dX2_markOn_4 : decode cX2_markOn 4 = .ok (.iload_n 1, 1) := by decide +kernel
theorem dX2_markOn_5 : decode cX2_markOn 5 = .ok (.aload_n 0, 1) := by decide +kernel
theorem dX2_markOn_6 : decode cX2_markOn 6 = .ok (.getfield 15, 3) := by decide +kernel
theorem dX2_markOn_9 : decode cX2_markOn 9 = .ok (.arraylength, 1) := by decide +kernel
theorem dX2_markOn_10 : decode cX2_markOn 10 = .ok (.if_icmp .ge 12, 3) := by decide +kernel
theorem dX2_markOn_13 : decode cX2_markOn 13 = .ok (.aload_n 0, 1) := by decide +kernel
theorem dX2_markOn_14 : decode cX2_markOn 14 = .ok (.getfield 15, 3) := by decide +kernel
theorem dX2_markOn_17 : decode cX2_markOn 17 = .ok (.iload_n 1, 1) := by decide +kernel
theorem dX2_markOn_18 : decode cX2_markOn 18 = .ok (.iaload, 1) := by decide +kernel
theorem dX2_markOn_19 : decode cX2_markOn 19 = .ok (.goto 4, 3) := by decide +kernel
theorem dX2_markOn_22 : decode cX2_markOn 22 = .ok (.iconst (-1), 1) := by decide +kernel
theorem dX2_markOn_23 : decode cX2_markOn 23 = .ok (.ireturn, 1) := by decide +kernel
theorem dX2_replace_0 : decode cX2_replace 0 = .ok (.iload_n 1, 1) := by decide +kernel
theorem dX2_replace_1 : decode cX2_replace 1 = .ok (.ifCond .lt 35, 3) := by decide +kernel
theorem dX2_replace_4 : decode cX2_replace 4 = .ok (.iload_n 1, 1) := by decide +kernel
theorem dX2_replace_5 : decode cX2_replace 5 = .ok (.aload_n 0, 1) := by decide +kernel
theorem dX2_replace_6 : decode cX2_replace 6 = .ok (.getfield 11, 3) := by decide +kernel
theorem dX2_replace_9 : decode cX2_replace 9 = .ok (.arraylength, 1) := by decide +kernel
theorem dX2_replace_10 : decode cX2_replace 10 = .ok (.if_icmp .ge 26, 3) := by decide +kernel
theorem dX2_replace_13 : decode cX2_replace 13 = .ok (.iload_n 1, 1) := by decide +kernel
theorem dX2_replace_14 : decode cX2_replace 14 = .ok (.aload_n 0, 1) := by decide +kernel
theorem dX2_replace_15 : decode cX2_replace 15 = .ok (.getfield 15, 3) := by decide +kernel
theorem dX2_replace_18 : decode cX2_replace 18 = .ok (.arraylength, 1) := by decide +kernel
theorem dX2_replace_19 : decode cX2_replace 19 = .ok (.if_icmp .ge 17, 3) := by decide +kernel
theorem dX2_replace_22 : decode cX2_replace 22 = .ok (.aload_n 0, 1) := by decide +kernel
theorem dX2_replace_23 : decode cX2_replace 23 = .ok (.getfield 11, 3) := by decide +kernel
theorem dX2_replace_26 : decode cX2_replace 26 = .ok (.iload_n 1, 1) := by decide +kernel
theorem dX2_replace_27 : decode cX2_replace 27 = .ok (.iload_n 2, 1) := by decide +kernel
theorem dX2_replace_28 : decode cX2_replace 28 = .ok (.iastore, 1) := by decide +kernel
theorem dX2_replace_29 : decode cX2_replace 29 = .ok (.aload_n 0, 1) := by decide +kernel
theorem dX2_replace_30 : decode cX2_replace 30 = .ok (.getfield 15, 3) := by decide +kernel
theorem dX2_replace_33 : decode cX2_replace 33 = .ok (.iload_n 1, 1) := by decide +kernel
theorem dX2_replace_34 : decode cX2_replace 34 = .ok (.iload_n 3, 1) := by decide +kernel
theorem dX2_replace_35 : decode cX2_replace 35 = .ok (.iastore, 1) := by decide +kernel
theorem dX2_replace_36 : decode cX2_replace 36 = .ok (.return_, 1) := by decide +kernel
theorem dX2_append_0 : decode cX2_append 0 = .ok (.aload_n 0, 1) := by decide +kernel
theorem dX2_append_1 : decode cX2_append 1 = .ok (.getfield 18, 3) := by decide +kernel
theorem dX2_append_4 : decode cX2_append 4 = .ok (.ifCond .lt 57, 3) := by decide +kernel
theorem dX2_append_7 : decode cX2_append 7 = .ok (.aload_n 0, 1) := by decide +kernel
theorem dX2_append_8 : decode cX2_append 8 = .ok (.getfield 18, 3) := by decide +kernel
theorem dX2_append_11 : decode cX2_append 11 = .ok (.aload_n 0, 1) := by decide +kernel
theorem dX2_append_12 : decode cX2_append 12 = .ok (.getfield 11, 3) := by decide +kernel
theorem dX2_append_15 : decode cX2_append 15 = .ok (.arraylength, 1) := by decide +kernel
theorem dX2_append_16 : decode cX2_append 16 = .ok (.if_icmp .ge 45, 3) := by decide +kernel
theorem dX2_append_19 : decode cX2_append 19 = .ok (.aload_n 0, 1) := by decide +kernel
theorem dX2_append_20 : decode cX2_append 20 = .ok (.getfield 18, 3) := by decide +kernel
theorem dX2_append_23 : decode cX2_append 23 = .ok (.aload_n 0, 1) := by decide +kernel
theorem dX2_append_24 : decode cX2_append 24 = .ok (.getfield 15, 3) := by decide +kernel
theorem dX2_append_27 : decode cX2_append 27 = .ok (.arraylength, 1) := by decide +kernel
theorem dX2_append_28 : decode cX2_append 28 = .ok (.if_icmp .ge 33, 3) := by decide +kernel
theorem dX2_append_31 : decode cX2_append 31 = .ok (.aload_n 0, 1) := by decide +kernel
theorem dX2_append_32 : decode cX2_append 32 = .ok (.getfield 11, 3) := by decide +kernel
theorem dX2_append_35 : decode cX2_append 35 = .ok (.aload_n 0, 1) := by decide +kernel
theorem dX2_append_36 : decode cX2_append 36 = .ok (.getfield 18, 3) := by decide +kernel
theorem dX2_append_39 : decode cX2_append 39 = .ok (.iload_n 1, 1) := by decide +kernel
theorem dX2_append_40 : decode cX2_append 40 = .ok (.iastore, 1) := by decide +kernel
theorem dX2_append_41 : decode cX2_append 41 = .ok (.aload_n 0, 1) := by decide +kernel
theorem dX2_append_42 : decode cX2_append 42 = .ok (.getfield 15, 3) := by decide +kernel
theorem dX2_append_45 : decode cX2_append 45 = .ok (.aload_n 0, 1) := by decide +kernel
theorem dX2_append_46 : decode cX2_append 46 = .ok (.getfield 18, 3) := by decide +kernel
theorem dX2_append_49 : decode cX2_append 49 = .ok (.iload_n 2, 1) := by decide +kernel
theorem dX2_append_50 : decode cX2_append 50 = .ok (.iastore, 1) := by decide +kernel
theorem dX2_append_51 : decode cX2_append 51 = .ok (.aload_n 0, 1) := by decide +kernel
theorem dX2_append_52 : decode cX2_append 52 = .ok (.dup, 1) := by decide +kernel
theorem dX2_append_53 : decode cX2_append 53 = .ok (.getfield 18, 3) := by decide +kernel
theorem dX2_append_56 : decode cX2_append 56 = .ok (.iconst 1, 1) := by decide +kernel
theorem dX2_append_57 : decode cX2_append 57 = .ok (.iadd, 1) := by decide +kernel
theorem dX2_append_58 : decode cX2_append 58 = .ok (.putfield 18, 3) := by decide +kernel
theorem dX2_append_61 : decode cX2_append 61 = .ok (.return_, 1) := by decide +kernel
set_option maxRecDepth 20000 in
theorem ggX2_insert_X2_valueOn : GoodIn wsX2_insert wsX2_valueOn := goodIn_r _ [6, 7, 17, 18, 19] (by decide +kernel) (by decide +kernel)
set_option maxRecDepth 20000 in
theorem gX2_insert_X2_valueOn : GoodIn wsX2_insert (wsV RX2 22 RX2 yX2_valueOn wsX2_valueOn) := goodIn_app (goodIn_of _ (by decide +kernel)) ggX2_insert_X2_valueOn
set_option maxRecDepth 20000 in
theorem ggX2_insert_X2_markOn : GoodIn wsX2_insert wsX2_markOn := goodIn_r _ [11, 12, 17, 18, 19] (by decide +kernel) (by decide +kernel)
set_option maxRecDepth 20000 in
theorem gX2_insert_X2_markOn : GoodIn wsX2_insert (wsV RX2 26 RX2 yX2_markOn wsX2_markOn) := goodIn_app (goodIn_of _ (by decide +kernel)) ggX2_insert_X2_markOn
set_option maxRecDepth 20000 in
theorem ggX2_insert_X2_replace : GoodIn wsX2_insert wsX2_replace := goodIn_r _ [16, 7, 12, 17, 18, 19] (by decide +kernel) (by decide +kernel)
set_option maxRecDepth 20000 in
theorem gX2_insert_X2_replace : GoodIn wsX2_insert (wsV RX2 29 RX2 yX2_replace wsX2_replace) := goodIn_app (goodIn_of _ (by decide +kernel)) ggX2_insert_X2_replace
theorem dX2_insert_0 : decode cX2_insert 0 = .ok (.aload_n 0, 1) := by decide +kernel
theorem dX2_insert_1 : decode cX2_insert 1 = .ok (.getfield 18, 3) := by decide +kernel
theorem dX2_insert_4 : decode cX2_insert 4 = .ok (.bipush 16, 2) := by decide +kernel
theorem dX2_insert_6 : decode cX2_insert 6 = .ok (.if_icmp .lt 4, 3) := by decide +kernel
theorem dX2_insert_9 : decode cX2_insert 9 = .ok (.return_, 1) := by decide +kernel
theorem dX2_insert_10 : decode cX2_insert 10 = .ok (.aload_n 0, 1) := by decide +kernel
theorem dX2_insert_11 : decode cX2_insert 11 = .ok (.getfield 18, 3) := by decide +kernel
theorem dX2_insert_14 : decode cX2_insert 14 = .ok (.istore 4, 2) := by decide +kernel
theorem dX2_insert_16 : decode cX2_insert 16 = .ok (.iload 4, 2) := by decide +kernel
theorem dX2_insert_18 : decode cX2_insert 18 = .ok (.iload_n 1, 1) := by decide +kernel
theorem dX2_insert_19 : decode cX2_insert 19 = .ok (.if_icmp .le 31, 3) := by decide +kernel
theorem dX2_insert_22 : decode cX2_insert 22 = .ok (.aload_n 0, 1) := by decide +kernel
theorem dX2_insert_23 : decode cX2_insert 23 = .ok (.iload 4, 2) := by decide +kernel
theorem dX2_insert_25 : decode cX2_insert 25 = .ok (.aload_n 0, 1) := by decide +kernel
theorem dX2_insert_26 : decode cX2_insert 26 = .ok (.iload 4, 2) := by decide +kernel
theorem dX2_insert_28 : decode cX2_insert 28 = .ok (.iconst 1, 1) := by decide +kernel
theorem dX2_insert_29 : decode cX2_insert 29 = .ok (.isub, 1) := by decide +kernel
theorem dX2_insert_30 : decode cX2_insert 30 = .ok (.invokevirtual 22, 3) := by decide +kernel
theorem dX2_insert_33 : decode cX2_insert 33 = .ok (.aload_n 0, 1) := by decide +kernel
theorem dX2_insert_34 : decode cX2_insert 34 = .ok (.iload 4, 2) := by decide +kernel
theorem dX2_insert_36 : decode cX2_insert 36 = .ok (.iconst 1, 1) := by decide +kernel
theorem dX2_insert_37 : decode cX2_insert 37 = .ok (.isub, 1) := by decide +kernel
theorem dX2_insert_38 : decode cX2_insert 38 = .ok (.invokevirtual 26, 3) := by decide +kernel
theorem dX2_insert_41 : decode cX2_insert 41 = .ok (.invokevirtual 29, 3) := by decide +kernel
theorem dX2_insert_44 : decode cX2_insert 44 = .ok (.iinc 4 (-1), 3) := by decide +kernel
theorem dX2_insert_47 : decode cX2_insert 47 = .ok (.goto (-31), 3) := by decide +kernel
theorem dX2_insert_50 : decode cX2_insert 50 = .ok (.aload_n 0, 1) := by decide +kernel
theorem dX2_insert_51 : decode cX2_insert 51 = .ok (.iload_n 1, 1) := by decide +kernel
theorem dX2_insert_52 : decode cX2_insert 52 = .ok (.iload_n 2, 1) := by decide +kernel
theorem dX2_insert_53 : decode cX2_insert 53 = .ok (.iload_n 3, 1) := by decide +kernel
theorem dX2_insert_54 : decode cX2_insert 54 = .ok (.invokevirtual 29, 3) := by decide +kernel
theorem dX2_insert_57 : decode cX2_insert 57 = .ok (.aload_n 0, 1) := by decide +kernel
theorem dX2_insert_58 : decode cX2_insert 58 = .ok (.dup, 1) := by decide +kernel
theorem dX2_insert_59 : decode cX2_insert 59 = .ok (.getfield 18, 3) := by decide +kernel
theorem dX2_insert_62 : decode cX2_insert 62 = .ok (.iconst 1, 1) := by decide +kernel
theorem dX2_insert_63 : decode cX2_insert 63 = .ok (.iadd, 1) := by decide +kernel
theorem dX2_insert_64 : decode cX2_insert 64 = .ok (.putfield 18, 3) := by decide +kernel
theorem dX2_insert_67 : decode cX2_insert 67 = .ok (.return_, 1) := by decide +kernel
set_option maxRecDepth 20000 in
theorem ggX2_remove_X2_valueOn : GoodIn wsX2_remove wsX2_valueOn := goodIn_r _ [6, 7, 17, 18, 19] (by decide +kernel) (by decide +kernel)
set_option maxRecDepth 20000 in
theorem gX2_remove_X2_valueOn : GoodIn wsX2_remove (wsV RX2 22 RX2 yX2_valueOn wsX2_valueOn) := goodIn_app (goodIn_of _ (by decide +kernel)) ggX2_remove_X2_valueOn
set_option maxRecDepth 20000 in
theorem ggX2_remove_X2_markOn : GoodIn wsX2_remove wsX2_markOn := goodIn_r _ [11, 12, 17, 18, 19] (by decide +kernel) (by decide +kernel)
set_option maxRecDepth 20000 in
theorem gX2_remove_X2_markOn : GoodIn wsX2_remove (wsV RX2 26 RX2 yX2_markOn wsX2_markOn) := goodIn_app (goodIn_of _ (by decide +kernel)) ggX2_remove_X2_markOn
set_option maxRecDepth 20000 in
theorem ggX2_remove_X2_replace : GoodIn wsX2_remove wsX2_replace := goodIn_r _ [16, 7, 12, 17, 18, 19] (by decide +kernel) (by decide +kernel)
set_option maxRecDepth 20000 in
theorem gX2_remove_X2_replace : GoodIn wsX2_remove (wsV RX2 29 RX2 yX2_replace wsX2_replace) := goodIn_app (goodIn_of _ (by decide +kernel)) ggX2_remove_X2_replace
theorem dX2_remove_0 : decode cX2_remove 0 = .ok (.iload_n 1, 1) := by decide +kernel
theorem dX2_remove_1 : decode cX2_remove 1 = .ok (.ifCond .lt 11, 3) := by decide +kernel
theorem dX2_remove_4 : decode cX2_remove 4 = .ok (.iload_n 1, 1) := by decide +kernel
theorem dX2_remove_5 : decode cX2_remove 5 = .ok (.aload_n 0, 1) := by decide +kernel
theorem dX2_remove_6 : decode cX2_remove 6 = .ok (.getfield 18, 3) := by decide +kernel
theorem dX2_remove_9 : decode cX2_remove 9 = .ok (.if_icmp .lt 4, 3) := by decide +kernel
theorem dX2_remove_12 : decode cX2_remove 12 = .ok (.return_, 1) := by decide +kernel
theorem dX2_remove_13 : decode cX2_remove 13 = .ok (.aload_n 0, 1) := by decide +kernel
theorem dX2_remove_14 : decode cX2_remove 14 = .ok (.dup, 1) := by decide +kernel
theorem dX2_remove_15 : decode cX2_remove 15 = .ok (.getfield 18, 3) := by decide +kernel
theorem dX2_remove_18 : decode cX2_remove 18 = .ok (.iconst 1, 1) := by decide +kernel
theorem dX2_remove_19 : decode cX2_remove 19 = .ok (.isub, 1) := by decide +kernel
theorem dX2_remove_20 : decode cX2_remove 20 = .ok (.putfield 18, 3) := by decide +kernel
theorem dX2_remove_23 : decode cX2_remove 23 = .ok (.iload_n 1, 1) := by decide +kernel
theorem dX2_remove_24 : decode cX2_remove 24 = .ok (.istore_n 2, 1) := by decide +kernel
theorem dX2_remove_25 : decode cX2_remove 25 = .ok (.iload_n 2, 1) := by decide +kernel
theorem dX2_remove_26 : decode cX2_remove 26 = .ok (.aload_n 0, 1) := by decide +kernel
theorem dX2_remove_27 : decode cX2_remove 27 = .ok (.getfield 18, 3) := by decide +kernel
theorem dX2_remove_30 : decode cX2_remove 30 = .ok (.if_icmp .ge 28, 3) := by decide +kernel
theorem dX2_remove_33 : decode cX2_remove 33 = .ok (.aload_n 0, 1) := by decide +kernel
theorem dX2_remove_34 : decode cX2_remove 34 = .ok (.iload_n 2, 1) := by decide +kernel
theorem dX2_remove_35 : decode cX2_remove 35 = .ok (.aload_n 0, 1) := by decide +kernel
theorem dX2_remove_36 : decode cX2_remove 36 = .ok (.iload_n 2, 1) := by decide +kernel
theorem dX2_remove_37 : decode cX2_remove 37 = .ok (.iconst 1, 1) := by decide +kernel
theorem dX2_remove_38 : decode cX2_remove 38 = .ok (.iadd, 1) := by decide +kernel
theorem dX2_remove_39 : decode cX2_remove 39 = .ok (.invokevirtual 22, 3) := by decide +kernel
theorem dX2_remove_42 : decode cX2_remove 42 = .ok (.aload_n 0, 1) := by decide +kernel
theorem dX2_remove_43 : decode cX2_remove 43 = .ok (.iload_n 2, 1) := by decide +kernel
theorem dX2_remove_44 : decode cX2_remove 44 = .ok (.iconst 1, 1) := by decide +kernel
theorem dX2_remove_45 : decode cX2_remove 45 = .ok (.iadd, 1) := by decide +kernel
theorem dX2_remove_46 : decode cX2_remove 46 = .ok (.invokevirtual 26, 3) := by decide +kernel
theorem dX2_remove_49 : decode cX2_remove 49 = .ok (.invokevirtual 29, 3) := by decide +kernel
theorem dX2_remove_52 : decode cX2_remove 52 = .ok (.iinc 2 1, 3) := by decide +kernel
theorem dX2_remove_55 : decode cX2_remove 55 = .ok (.goto (-30), 3) := by decide +kernel
theorem dX2_remove_58 : decode cX2_remove 58 = .ok (.return_, 1) := by decide +kernel
theorem dX2_empty_0 : decode cX2_empty 0 = .ok (.aload_n 0, 1) := by decide +kernel
theorem dX2_empty_1 : decode cX2_empty 1 = .ok (.iconst 0, 1) := by decide +kernel
theorem dX2_empty_2 : decode cX2_empty 2 = .ok (.putfield 18, 3) := by decide +kernel
theorem dX2_empty_5 : decode cX2_empty 5 = .ok (.return_, 1) := by decide +kernel
set_option maxRecDepth 20000 in
theorem ggX2_becomeCopyOf_X2_length : GoodIn wsX2_becomeCopyOf wsX2_length := goodIn_r _ [6, 1, 21, 22, 23] (by decide +kernel) (by decide +kernel)
set_option maxRecDepth 20000 in
theorem gX2_becomeCopyOf_X2_length : GoodIn wsX2_becomeCopyOf (wsV RX2 33 RX2 yX2_length wsX2_length) := goodIn_app (goodIn_of _ (by decide +kernel)) ggX2_becomeCopyOf_X2_length
set_option maxRecDepth 20000 in
theorem ggX2_becomeCopyOf_X2_valueOn : GoodIn wsX2_becomeCopyOf wsX2_valueOn := goodIn_r _ [10, 11, 21, 22, 23] (by decide +kernel) (by decide +kernel)
set_option maxRecDepth 20000 in
theorem gX2_becomeCopyOf_X2_valueOn : GoodIn wsX2_becomeCopyOf (wsV RX2 22 RX2 yX2_valueOn wsX2_valueOn) := goodIn_app (goodIn_of _ (by decide +kernel)) ggX2_becomeCopyOf_X2_valueOn
set_option maxRecDepth 20000 in
theorem ggX2_becomeCopyOf_X2_markOn : GoodIn wsX2_becomeCopyOf wsX2_markOn := goodIn_r _ [15, 16, 21, 22, 23] (by decide +kernel) (by decide +kernel)
set_option maxRecDepth 20000 in
theorem gX2_becomeCopyOf_X2_markOn : GoodIn wsX2_becomeCopyOf (wsV RX2 26 RX2 yX2_markOn wsX2_markOn) := goodIn_app (goodIn_of _ (by decide +kernel)) ggX2_becomeCopyOf_X2_markOn
set_option maxRecDepth 20000 in
theorem ggX2_becomeCopyOf_X2_replace : GoodIn wsX2_becomeCopyOf wsX2_replace := goodIn_r _ [20, 11, 16, 21, 22, 23] (by decide +kernel) (by decide +kernel)
set_option maxRecDepth 20000 in
theorem gX2_becomeCopyOf_X2_replace : GoodIn wsX2_becomeCopyOf (wsV RX2 29 RX2 yX2_replace wsX2_replace) := goodIn_app (goodIn_of _ (by decide +kernel)) ggX2_becomeCopyOf_X2_replace
theorem dX2_becomeCopyOf_0 : decode cX2_becomeCopyOf 0 = .ok (.aload_n 1, 1) := by decide +kernel
theorem dX2_becomeCopyOf_1 : decode cX2_becomeCopyOf 1 = .ok (.invokevirtual 33, 3) := by decide +kernel
theorem dX2_becomeCopyOf_4 : decode cX2_becomeCopyOf 4 = .ok (.istore_n 2, 1) := by decide +kernel
theorem dX2_becomeCopyOf_5 : decode cX2_becomeCopyOf 5 = .ok (.iconst 0, 1) := by decide +kernel
theorem dX2_becomeCopyOf_6 : decode cX2_becomeCopyOf 6 = .ok (.istore_n 3, 1) := by decide +kernel
theorem dX2_becomeCopyOf_7 : decode cX2_becomeCopyOf 7 = .ok (.iload_n 3, 1) := by decide +kernel
theorem dX2_becomeCopyOf_8 : decode cX2_becomeCopyOf 8 = .ok (.iload_n 2, 1) := by decide +kernel
theorem dX2_becomeCopyOf_9 : decode cX2_becomeCopyOf 9 = .ok (.if_icmp .ge 24, 3) := by decide +kernel
theorem dX2_becomeCopyOf_12 : decode cX2_becomeCopyOf 12 = .ok (.aload_n 0, 1) := by decide +kernel
theorem dX2_becomeCopyOf_13 : decode cX2_becomeCopyOf 13 = .ok (.iload_n 3, 1) := by decide +kernel
theorem dX2_becomeCopyOf_14 : decode cX2_becomeCopyOf 14 = .ok (.aload_n 1, 1) := by decide +kernel
theorem dX2_becomeCopyOf_15 : decode cX2_becomeCopyOf 15 = .ok (.iload_n 3, 1) := by decide +kernel
theorem dX2_becomeCopyOf_16 : decode cX2_becomeCopyOf 16 = .ok (.invokevirtual 22, 3) := by decide +kernel
theorem dX2_becomeCopyOf_19 : decode cX2_becomeCopyOf 19 = .ok (.aload_n 1, 1) := by decide +kernel
theorem dX2_becomeCopyOf_20 : decode cX2_becomeCopyOf 20 = .ok (.iload_n 3, 1) := by decide +kernel
theorem dX2_becomeCopyOf_21 : decode cX2_becomeCopyOf 21 = .ok (.invokevirtual 26, 3) := by decide +kernel
theorem dX2_becomeCopyOf_24 : decode cX2_becomeCopyOf 24 = .ok (.invokevirtual 29, 3) := by decide +kernel
theorem dX2_becomeCopyOf_27 : decode cX2_becomeCopyOf 27 = .ok (.iinc 3 1, 3) := by decide +kernel
theorem dX2_becomeCopyOf_30 : decode cX2_becomeCopyOf 30 = .ok (.goto (-23), 3) := by decide +kernel
theorem dX2_becomeCopyOf_33 : decode cX2_becomeCopyOf 33 = .ok (.aload_n 0, 1) := by decide +kernel
theorem dX2_becomeCopyOf_34 : decode cX2_becomeCopyOf 34 = .ok (.iload_n 2, 1) := by decide +kernel
theorem dX2_becomeCopyOf_35 : decode cX2_becomeCopyOf 35 = .ok (.putfield 18, 3) := by decide +kernel
theorem dX2_becomeCopyOf_38 : decode cX2_becomeCopyOf 38 = .ok (.return_, 1) := by decide +kernel
set_option maxRecDepth 20000 in
theorem ggX2_becomeAllValues_X2_append : GoodIn wsX2_becomeAllValues wsX2_append := goodIn_r _ [6, 1, 7, 8, 9, 10, 11] (by decide +kernel) (by decide +kernel)
set_option maxRecDepth 20000 in
theorem gX2_becomeAllValues_X2_append : GoodIn wsX2_becomeAllValues (wsV RX2 37 RX2 yX2_append wsX2_append) := goodIn_app (goodIn_of _ (by decide +kernel)) ggX2_becomeAllValues_X2_append
theorem dX2_becomeAllValues_0 : decode cX2_becomeAllValues 0 = .ok (.aload_n 0, 1) := by decide +kernel
theorem dX2_becomeAllValues_1 : decode cX2_becomeAllValues 1 = .ok (.iconst 0, 1) := by decide +kernel
theorem dX2_becomeAllValues_2 : decode cX2_becomeAllValues 2 = .ok (.putfield 18, 3) := by decide +kernel
theorem dX2_becomeAllValues_5 : decode cX2_becomeAllValues 5 = .ok (.iconst 0, 1) := by decide +kernel
theorem dX2_becomeAllValues_6 : decode cX2_becomeAllValues 6 = .ok (.istore_n 1, 1) := by decide +kernel
theorem dX2_becomeAllValues_7 : decode cX2_becomeAllValues 7 = .ok (.iload_n 1, 1) := by decide +kernel
theorem dX2_becomeAllValues_8 : decode cX2_becomeAllValues 8 = .ok (.bipush 16, 2) := by decide +kernel
theorem dX2_becomeAllValues_10 : decode cX2_becomeAllValues 10 = .ok (.if_icmp .ge 15, 3) := by decide +kernel
theorem dX2_becomeAllValues_13 : decode cX2_becomeAllValues 13 = .ok (.aload_n 0, 1) := by decide +kernel
theorem dX2_becomeAllValues_14 : decode cX2_becomeAllValues 14 = .ok (.iload_n 1, 1) := by decide +kernel
theorem dX2_becomeAllValues_15 : decode cX2_becomeAllValues 15 = .ok (.iload_n 1, 1) := by decide +kernel
theorem dX2_becomeAllValues_16 : decode cX2_becomeAllValues 16 = .ok (.invokevirtual 37, 3) := by decide +kernel
theorem dX2_becomeAllValues_19 : decode cX2_becomeAllValues 19 = .ok (.iinc 1 1, 3) := by decide +kernel
theorem dX2_becomeAllValues_22 : decode cX2_becomeAllValues 22 = .ok (.goto (-15), 3) := by decide +kernel
theorem dX2_becomeAllValues_25 : decode cX2_becomeAllValues 25 = .ok (.return_, 1) := by decide +kernel
set_option maxRecDepth 20000 in
theorem ggX2_reverse_X2_exchange : GoodIn wsX2_reverse wsX2_exchange := goodIn_r _ [6, 7, 8, 9, 5, 10, 11, 12, 13, 14, 15, 16, 17, 18, 19, 20, 21, 22, 23] (by decide +kernel) (by decide +kernel)
set_option maxRecDepth 20000 in
theorem gX2_reverse_X2_exchange : GoodIn wsX2_reverse (wsV RX2 41 RX2 yX2_exchange wsX2_exchange) := goodIn_app (goodIn_of _ (by decide +kernel)) ggX2_reverse_X2_exchange
theorem dX2_reverse_0 : decode cX2_reverse 0 = .ok (.iconst 0, 1) := by decide +kernel
theorem dX2_reverse_1 : decode cX2_reverse 1 = .ok (.istore_n 1, 1) := by decide +kernel
theorem dX2_reverse_2 : decode cX2_reverse 2 = .ok (.aload_n 0, 1) := by decide +kernel
theorem dX2_reverse_3 : decode cX2_reverse 3 = .ok (.getfield 18, 3) := by decide +kernel
theorem dX2_reverse_6 : decode cX2_reverse 6 = .ok (.iconst 1, 1) := by decide +kernel
theorem dX2_reverse_7 : decode cX2_reverse 7 = .ok (.isub, 1) := by decide +kernel
theorem dX2_reverse_8 : decode cX2_reverse 8 = .ok (.istore_n 2, 1) := by decide +kernel
theorem dX2_reverse_9 : decode cX2_reverse 9 = .ok (.iload_n 1, 1) := by decide +kernel
theorem dX2_reverse_10 : decode cX2_reverse 10 = .ok (.iload_n 2, 1) := by decide +kernel
theorem dX2_reverse_11 : decode cX2_reverse 11 = .ok (.if_icmp .ge 18, 3) := by decide +kernel
theorem dX2_reverse_14 : decode cX2_reverse 14 = .ok (.aload_n 0, 1) := by decide +kernel
theorem dX2_reverse_15 : decode cX2_reverse 15 = .ok (.iload_n 1, 1) := by decide +kernel
theorem dX2_reverse_16 : decode cX2_reverse 16 = .ok (.iload_n 2, 1) := by decide +kernel
theorem dX2_reverse_17 : decode cX2_reverse 17 = .ok (.invokevirtual 41, 3) := by decide +kernel
theorem dX2_reverse_20 : decode cX2_reverse 20 = .ok (.iinc 1 1, 3) := by decide +kernel
theorem dX2_reverse_23 : decode cX2_reverse 23 = .ok (.iinc 2 (-1), 3) := by decide +kernel
theorem dX2_reverse_26 : decode cX2_reverse 26 = .ok (.goto (-17), 3) := by decide +kernel
theorem dX2_reverse_29 : decode cX2_reverse 29 = .ok (.return_, 1) := by decide +kernel
set_option maxRecDepth 20000 in
theorem ggX2_exchange_X2_valueOn : GoodIn wsX2_exchange wsX2_valueOn := goodIn_r _ [5, 6, 16, 17, 18] (by decide +kernel) (by decide +kernel)
set_option maxRecDepth 20000 in
theorem gX2_exchange_X2_valueOn : GoodIn wsX2_exchange (wsV RX2 22 RX2 yX2_valueOn wsX2_valueOn) := goodIn_app (goodIn_of _ (by decide +kernel)) ggX2_exchange_X2_valueOn
set_option maxRecDepth 20000 in
theorem ggX2_exchange_X2_markOn : GoodIn wsX2_exchange wsX2_markOn := goodIn_r _ [10, 11, 16, 17, 18] (by decide +kernel) (by decide +kernel)
set_option maxRecDepth 20000 in
theorem gX2_exchange_X2_markOn : GoodIn wsX2_exchange (wsV RX2 26 RX2 yX2_markOn wsX2_markOn) := goodIn_app (goodIn_of _ (by decide +kernel)) ggX2_exchange_X2_markOn
set_option maxRecDepth 20000 in
theorem ggX2_exchange_X2_replace : GoodIn wsX2_exchange wsX2_replace := goodIn_r _ [15, 6, 11, 16, 17, 18] (by decide +kernel) (by decide +kernel)
set_option maxRecDepth 20000 in
theorem gX2_exchange_X2_replace : GoodIn wsX2_exchange (wsV RX2 29 RX2 yX2_replace wsX2_replace) := goodIn_app (goodIn_of _ (by decide +kernel)) ggX2_exchange_X2_replace
theorem dX2_exchange_0 : decode cX2_exchange 0 = .ok (.aload_n 0, 1) := by decide +kernel
theorem dX2_exchange_1 : decode cX2_exchange 1 = .ok (.iload_n 1, 1) := by decide +kernel
theorem dX2_exchange_2 : decode cX2_exchange 2 = .ok (.invokevirtual 22, 3) := by decide +kernel
theorem dX2_exchange_5 : decode cX2_exchange 5 = .ok (.istore_n 3, 1) := by decide +kernel
theorem dX2_exchange_6 : decode cX2_exchange 6 = .ok (.aload_n 0, 1) := by decide +kernel
theorem dX2_exchange_7 : decode cX2_exchange 7 = .ok (.iload_n 1, 1) := by decide +kernel
theorem dX2_exchange_8 : decode cX2_exchange 8 = .ok (.invokevirtual 26, 3) := by decide +kernel
theorem dX2_exchange_11 : decode cX2_exchange 11 = .ok (.istore 4, 2) := by decide +kernel
theorem dX2_exchange_13 : decode cX2_exchange 13 = .ok (.aload_n 0, 1) := by decide +kernel
theorem dX2_exchange_14 : decode cX2_exchange 14 = .ok (.iload_n 1, 1) := by decide +kernel
theorem dX2_exchange_15 : decode cX2_exchange 15 = .ok (.aload_n 0, 1) := by decide +kernel
theorem dX2_exchange_16 : decode cX2_exchange 16 = .ok (.iload_n 2, 1) := by decide +kernel
theorem dX2_exchange_17 : decode cX2_exchange 17 = .ok (.invokevirtual 22, 3) := by decide +kernel
theorem dX2_exchange_20 : decode cX2_exchange 20 = .ok (.aload_n 0, 1) := by decide +kernel
theorem dX2_exchange_21 : decode cX2_exchange 21 = .ok (.iload_n 2, 1) := by decide +kernel
theorem dX2_exchange_22 : decode cX2_exchange 22 = .ok (.invokevirtual 26, 3) := by decide +kernel
theorem dX2_exchange_25 : decode cX2_exchange 25 = .ok (.invokevirtual 29, 3) := by decide +kernel
theorem dX2_exchange_28 : decode cX2_exchange 28 = .ok (.aload_n 0, 1) := by decide +kernel
theorem dX2_exchange_29 : decode cX2_exchange 29 = .ok (.iload_n 2, 1) := by decide +kernel
theorem dX2_exchange_30 : decode cX2_exchange 30 = .ok (.iload_n 3, 1) := by decide +kernel
theorem dX2_exchange_31 : decode cX2_exchange 31 = .ok (.iload 4, 2) := by decide +kernel
theorem dX2_exchange_33 : decode cX2_exchange 33 = .ok (.invokevirtual 29, 3) := by decide +kernel
theorem dX2_exchange_36 : decode cX2_exchange 36 = .ok (.return_, 1) := by decide +kernel
set_option maxRecDepth 20000 in
theorem ggX2_placesUnlike_X2_markOn : GoodIn wsX2_placesUnlike wsX2_markOn := goodIn_r _ [6, 7, 8, 9, 10] (by decide +kernel) (by decide +kernel)
set_option maxRecDepth 20000 in
theorem gX2_placesUnlike_X2_markOn : GoodIn wsX2_placesUnlike (wsV RX2 26 RX2 yX2_markOn wsX2_markOn) := goodIn_app (goodIn_of _ (by decide +kernel)) ggX2_placesUnlike_X2_markOn
theorem dX2_placesUnlike_0 : decode cX2_placesUnlike 0 = .ok (.iconst 0, 1) := by decide +kernel
theorem dX2_placesUnlike_1 : decode cX2_placesUnlike 1 = .ok (.istore_n 2, 1) := by decide +kernel
theorem dX2_placesUnlike_2 : decode cX2_placesUnlike 2 = .ok (.iconst 0, 1) := by decide +kernel
theorem dX2_placesUnlike_3 : decode cX2_placesUnlike 3 = .ok (.istore_n 3, 1) := by decide +kernel
theorem dX2_placesUnlike_4 : decode cX2_placesUnlike 4 = .ok (.iload_n 3, 1) := by decide +kernel
theorem dX2_placesUnlike_5 : decode cX2_placesUnlike 5 = .ok (.aload_n 0, 1) := by decide +kernel
theorem dX2_placesUnlike_6 : decode cX2_placesUnlike 6 = .ok (.getfield 18, 3) := by decide +kernel
theorem dX2_placesUnlike_9 : decode cX2_placesUnlike 9 = .ok (.if_icmp .ge 25, 3) := by decide +kernel
theorem dX2_placesUnlike_12 : decode cX2_placesUnlike 12 = .ok (.aload_n 0, 1) := by decide +kernel
theorem dX2_placesUnlike_13 : decode cX2_placesUnlike 13 = .ok (.iload_n 3, 1) := by decide +kernel
theorem dX2_placesUnlike_14 : decode cX2_placesUnlike 14 = .ok (.invokevirtual 26, 3) := by decide +kernel
theorem dX2_placesUnlike_17 : decode cX2_placesUnlike 17 = .ok (.aload_n 1, 1) := by decide +kernel
theorem dX2_placesUnlike_18 : decode cX2_placesUnlike 18 = .ok (.iload_n 3, 1) := by decide +kernel
theorem dX2_placesUnlike_19 : decode cX2_placesUnlike 19 = .ok (.invokevirtual 26, 3) := by decide +kernel
theorem dX2_placesUnlike_22 : decode cX2_placesUnlike 22 = .ok (.if_icmp .eq 6, 3) := by decide +kernel
theorem dX2_placesUnlike_25 : decode cX2_placesUnlike 25 = .ok (.iinc 2 1, 3) := by decide +kernel
theorem dX2_placesUnlike_28 : decode cX2_placesUnlike 28 = .ok (.iinc 3 1, 3) := by decide +kernel
theorem dX2_placesUnlike_31 : decode cX2_placesUnlike 31 = .ok (.goto (-27), 3) := by decide +kernel
theorem dX2_placesUnlike_34 : decode cX2_placesUnlike 34 = .ok (.iload_n 2, 1) := by decide +kernel
theorem dX2_placesUnlike_35 : decode cX2_placesUnlike 35 = .ok (.ireturn, 1) := by decide +kernel
set_option maxRecDepth 20000 in
theorem ggX2_isLike_X2_length : GoodIn wsX2_isLike wsX2_length := goodIn_r _ [6, 1, 17, 18, 19] (by decide +kernel) (by decide +kernel)
set_option maxRecDepth 20000 in
theorem gX2_isLike_X2_length : GoodIn wsX2_isLike (wsV RX2 33 RX2 yX2_length wsX2_length) := goodIn_app (goodIn_of _ (by decide +kernel)) ggX2_isLike_X2_length
set_option maxRecDepth 20000 in
theorem ggX2_isLike_X2_markOn : GoodIn wsX2_isLike wsX2_markOn := goodIn_r _ [10, 11, 17, 18, 19] (by decide +kernel) (by decide +kernel)
set_option maxRecDepth 20000 in
theorem gX2_isLike_X2_markOn : GoodIn wsX2_isLike (wsV RX2 26 RX2 yX2_markOn wsX2_markOn) := goodIn_app (goodIn_of _ (by decide +kernel)) ggX2_isLike_X2_markOn
set_option maxRecDepth 20000 in
theorem ggX2_isLike_X2_valueOn : GoodIn wsX2_isLike wsX2_valueOn := goodIn_r _ [15, 16, 17, 18, 19] (by decide +kernel) (by decide +kernel)
set_option maxRecDepth 20000 in
theorem gX2_isLike_X2_valueOn : GoodIn wsX2_isLike (wsV RX2 22 RX2 yX2_valueOn wsX2_valueOn) := goodIn_app (goodIn_of _ (by decide +kernel)) ggX2_isLike_X2_valueOn
theorem dX2_isLike_0 : decode cX2_isLike 0 = .ok (.aload_n 0, 1) := by decide +kernel
theorem dX2_isLike_1 : decode cX2_isLike 1 = .ok (.getfield 18, 3) := by decide +kernel
theorem dX2_isLike_4 : decode cX2_isLike 4 = .ok (.aload_n 1, 1) := by decide +kernel
theorem dX2_isLike_5 : decode cX2_isLike 5 = .ok (.invokevirtual 33, 3) := by decide +kernel
theorem dX2_isLike_8 : decode cX2_isLike 8 = .ok (.if_icmp .eq 5, 3) := by decide +kernel
theorem dX2_isLike_11 : decode cX2_isLike 11 = .ok (.iconst 0, 1) := by decide +kernel
theorem dX2_isLike_12 : decode cX2_isLike 12 = .ok (.ireturn, 1) := by decide +kernel
theorem dX2_isLike_13 : decode cX2_isLike 13 = .ok (.iconst 0, 1) := by decide +kernel
theorem dX2_isLike_14 : decode cX2_isLike 14 = .ok (.istore_n 2, 1) := by decide +kernel
theorem dX2_isLike_15 : decode cX2_isLike 15 = .ok (.iload_n 2, 1) := by decide +kernel
theorem dX2_isLike_16 : decode cX2_isLike 16 = .ok (.aload_n 0, 1) := by decide +kernel
theorem dX2_isLike_17 : decode cX2_isLike 17 = .ok (.getfield 18, 3) := by decide +kernel
theorem dX2_isLike_20 : decode cX2_isLike 20 = .ok (.if_icmp .ge 37, 3) := by decide +kernel
theorem dX2_isLike_23 : decode cX2_isLike 23 = .ok (.aload_n 0, 1) := by decide +kernel
theorem dX2_isLike_24 : decode cX2_isLike 24 = .ok (.iload_n 2, 1) := by decide +kernel
theorem dX2_isLike_25 : decode cX2_isLike 25 = .ok (.invokevirtual 26, 3) := by decide +kernel
theorem dX2_isLike_28 : decode cX2_isLike 28 = .ok (.aload_n 1, 1) := by decide +kernel
theorem dX2_isLike_29 : decode cX2_isLike 29 = .ok (.iload_n 2, 1) := by decide +kernel
theorem dX2_isLike_30 : decode cX2_isLike 30 = .ok (.invokevirtual 26, 3) := by decide +kernel
theorem dX2_isLike_33 : decode cX2_isLike 33 = .ok (.if_icmp .ne 16, 3) := by decide +kernel
theorem dX2_isLike_36 : decode cX2_isLike 36 = .ok (.aload_n 0, 1) := by decide +kernel
theorem dX2_isLike_37 : decode cX2_isLike 37 = .ok (.iload_n 2, 1) := by decide +kernel
theorem dX2_isLike_38 : decode cX2_isLike 38 = .ok (.invokevirtual 22, 3) := by decide +kernel
theorem dX2_isLike_41 : decode cX2_isLike 41 = .ok (.aload_n 1, 1) := by decide +kernel
theorem dX2_isLike_42 : decode cX2_isLike 42 = .ok (.iload_n 2, 1) := by decide +kernel
theorem dX2_isLike_43 : decode cX2_isLike 43 = .ok (.invokevirtual 22, 3) := by decide +kernel
theorem dX2_isLike_46 : decode cX2_isLike 46 = .ok (.if_icmp .eq 5, 3) := by decide +kernel
theorem dX2_isLike_49 : decode cX2_isLike 49 = .ok (.iconst 0, 1) := by decide +kernel
theorem dX2_isLike_50 : decode cX2_isLike 50 = .ok (.ireturn, 1) := by decide +kernel
theorem dX2_isLike_51 : decode cX2_isLike 51 = .ok (.iinc 2 1, 3) := by decide +kernel
theorem dX2_isLike_54 : decode cX2_isLike 54 = .ok (.goto (-39), 3) := by decide +kernel
theorem dX2_isLike_57 : decode cX2_isLike 57 = .ok (.iconst 1, 1) := by decide +kernel
theorem dX2_isLike_58 : decode cX2_isLike 58 = .ok (.ireturn, 1) := by decide +kernel
set_option maxRecDepth 20000 in
theorem ggX2_isInSequenceBy_X2_valueOn : GoodIn wsX2_isInSequenceBy wsX2_valueOn := goodIn_r _ [6, 7, 14, 15, 16] (by decide +kernel) (by decide +kernel)
set_option maxRecDepth 20000 in
theorem gX2_isInSequenceBy_X2_valueOn : GoodIn wsX2_isInSequenceBy (wsV RX2 22 RX2 yX2_valueOn wsX2_valueOn) := goodIn_app (goodIn_of _ (by decide +kernel)) ggX2_isInSequenceBy_X2_valueOn
set_option maxRecDepth 20000 in
theorem ggX2_isInSequenceBy_X1_compared : GoodIn wsX2_isInSequenceBy wsX1_compared := goodIn_r _ [12, 13, 17, 18, 19, 20, 21, 22] (by decide +kernel) (by decide +kernel)
set_option maxRecDepth 20000 in
theorem gX2_isInSequenceBy_X1_compared : GoodIn wsX2_isInSequenceBy (wsV RX2 44 RX1 yX1_compared wsX1_compared) := goodIn_app (goodIn_of _ (by decide +kernel)) ggX2_isInSequenceBy_X1_compared
theorem dX2_isInSequenceBy_0 : decode cX2_isInSequenceBy 0 = .ok (.iconst 1, 1) := by decide +kernel
theorem dX2_isInSequenceBy_1 : decode cX2_isInSequenceBy 1 = .ok (.istore_n 2, 1) := by decide +kernel
theorem dX2_isInSequenceBy_2 : decode cX2_isInSequenceBy 2 = .ok (.iload_n 2, 1) := by decide +kernel
theorem dX2_isInSequenceBy_3 : decode cX2_isInSequenceBy 3 = .ok (.aload_n 0, 1) := by decide +kernel
theorem dX2_isInSequenceBy_4 : decode cX2_isInSequenceBy 4 = .ok (.getfield 18, 3) := by decide +kernel
theorem dX2_isInSequenceBy_7 : decode cX2_isInSequenceBy 7 = .ok (.if_icmp .ge 30, 3) := by decide +kernel
theorem dX2_isInSequenceBy_10 : decode cX2_isInSequenceBy 10 = .ok (.aload_n 1, 1) := by decide +kernel
theorem dX2_isInSequenceBy_11 : decode cX2_isInSequenceBy 11 = .ok (.aload_n 0, 1) := by decide +kernel
theorem dX2_isInSequenceBy_12 : decode cX2_isInSequenceBy 12 = .ok (.iload_n 2, 1) := by decide +kernel
theorem dX2_isInSequenceBy_13 : decode cX2_isInSequenceBy 13 = .ok (.invokevirtual 22, 3) := by decide +kernel
theorem dX2_isInSequenceBy_16 : decode cX2_isInSequenceBy 16 = .ok (.aload_n 0, 1) := by decide +kernel
theorem dX2_isInSequenceBy_17 : decode cX2_isInSequenceBy 17 = .ok (.iload_n 2, 1) := by decide +kernel
theorem dX2_isInSequenceBy_18 : decode cX2_isInSequenceBy 18 = .ok (.iconst 1, 1) := by decide +kernel
theorem dX2_isInSequenceBy_19 : decode cX2_isInSequenceBy 19 = .ok (.isub, 1) := by decide +kernel
theorem dX2_isInSequenceBy_20 : decode cX2_isInSequenceBy 20 = .ok (.invokevirtual 22, 3) := by decide +kernel
theorem dX2_isInSequenceBy_23 : decode cX2_isInSequenceBy 23 = .ok (.invokevirtual 44, 3) := by decide +kernel
theorem dX2_isInSequenceBy_26 : decode cX2_isInSequenceBy 26 = .ok (.ifCond .ge 5, 3) := by decide +kernel
theorem dX2_isInSequenceBy_29 : decode cX2_isInSequenceBy 29 = .ok (.iconst 0, 1) := by decide +kernel
theorem dX2_isInSequenceBy_30 : decode cX2_isInSequenceBy 30 = .ok (.ireturn, 1) := by decide +kernel
theorem dX2_isInSequenceBy_31 : decode cX2_isInSequenceBy 31 = .ok (.iinc 2 1, 3) := by decide +kernel
theorem dX2_isInSequenceBy_34 : decode cX2_isInSequenceBy 34 = .ok (.goto (-32), 3) := by decide +kernel
theorem dX2_isInSequenceBy_37 : decode cX2_isInSequenceBy 37 = .ok (.iconst 1, 1) := by decide +kernel
theorem dX2_isInSequenceBy_38 : decode cX2_isInSequenceBy 38 = .ok (.ireturn, 1) := by decide +kernel
set_option maxRecDepth 20000 in
theorem ggX2_hasAlike_X2_valueOn : GoodIn wsX2_hasAlike wsX2_valueOn := goodIn_r _ [6, 7, 14, 15, 16] (by decide +kernel) (by decide +kernel)
set_option maxRecDepth 20000 in
theorem gX2_hasAlike_X2_valueOn : GoodIn wsX2_hasAlike (wsV RX2 22 RX2 yX2_valueOn wsX2_valueOn) := goodIn_app (goodIn_of _ (by decide +kernel)) ggX2_hasAlike_X2_valueOn
set_option maxRecDepth 20000 in
theorem ggX2_hasAlike_X1_compared : GoodIn wsX2_hasAlike wsX1_compared := goodIn_r _ [12, 13, 17, 18, 19, 20, 21, 22] (by decide +kernel) (by decide +kernel)
set_option maxRecDepth 20000 in
theorem gX2_hasAlike_X1_compared : GoodIn wsX2_hasAlike (wsV RX2 44 RX1 yX1_compared wsX1_compared) := goodIn_app (goodIn_of _ (by decide +kernel)) ggX2_hasAlike_X1_compared
theorem dX2_hasAlike_0 : decode cX2_hasAlike 0 = .ok (.iconst 0, 1) := by decide +kernel
theorem dX2_hasAlike_1 : decode cX2_hasAlike 1 = .ok (.istore_n 3, 1) := by decide +kernel
theorem dX2_hasAlike_2 : decode cX2_hasAlike 2 = .ok (.iload_n 3, 1) := by decide +kernel
theorem dX2_hasAlike_3 : decode cX2_hasAlike 3 = .ok (.aload_n 0, 1) := by decide +kernel
theorem dX2_hasAlike_4 : decode cX2_hasAlike 4 = .ok (.getfield 18, 3) := by decide +kernel
theorem dX2_hasAlike_7 : decode cX2_hasAlike 7 = .ok (.if_icmp .ge 24, 3) := by decide +kernel
theorem dX2_hasAlike_10 : decode cX2_hasAlike 10 = .ok (.aload_n 1, 1) := by decide +kernel
theorem dX2_hasAlike_11 : decode cX2_hasAlike 11 = .ok (.aload_n 0, 1) := by decide +kernel
theorem dX2_hasAlike_12 : decode cX2_hasAlike 12 = .ok (.iload_n 3, 1) := by decide +kernel
theorem dX2_hasAlike_13 : decode cX2_hasAlike 13 = .ok (.invokevirtual 22, 3) := by decide +kernel
theorem dX2_hasAlike_16 : decode cX2_hasAlike 16 = .ok (.iload_n 2, 1) := by decide +kernel
theorem dX2_hasAlike_17 : decode cX2_hasAlike 17 = .ok (.invokevirtual 44, 3) := by decide +kernel
theorem dX2_hasAlike_20 : decode cX2_hasAlike 20 = .ok (.ifCond .ne 5, 3) := by decide +kernel
theorem dX2_hasAlike_23 : decode cX2_hasAlike 23 = .ok (.iconst 1, 1) := by decide +kernel
theorem dX2_hasAlike_24 : decode cX2_hasAlike 24 = .ok (.ireturn, 1) := by decide +kernel
theorem dX2_hasAlike_25 : decode cX2_hasAlike 25 = .ok (.iinc 3 1, 3) := by decide +kernel
theorem dX2_hasAlike_28 : decode cX2_hasAlike 28 = .ok (.goto (-26), 3) := by decide +kernel
theorem dX2_hasAlike_31 : decode cX2_hasAlike 31 = .ok (.iconst 0, 1) := by decide +kernel
theorem dX2_hasAlike_32 : decode cX2_hasAlike 32 = .ok (.ireturn, 1) := by decide +kernel
set_option maxRecDepth 20000 in
theorem ggX2_thingsAhead_X2_valueOn : GoodIn wsX2_thingsAhead wsX2_valueOn := goodIn_r _ [6, 7, 14, 15, 16] (by decide +kernel) (by decide +kernel)
set_option maxRecDepth 20000 in
theorem gX2_thingsAhead_X2_valueOn : GoodIn wsX2_thingsAhead (wsV RX2 22 RX2 yX2_valueOn wsX2_valueOn) := goodIn_app (goodIn_of _ (by decide +kernel)) ggX2_thingsAhead_X2_valueOn
set_option maxRecDepth 20000 in
theorem ggX2_thingsAhead_X1_compared : GoodIn wsX2_thingsAhead wsX1_compared := goodIn_r _ [12, 13, 17, 18, 19, 20, 21, 22] (by decide +kernel) (by decide +kernel)
set_option maxRecDepth 20000 in
theorem gX2_thingsAhead_X1_compared : GoodIn wsX2_thingsAhead (wsV RX2 44 RX1 yX1_compared wsX1_compared) := goodIn_app (goodIn_of _ (by decide +kernel)) ggX2_thingsAhead_X1_compared
theorem dX2_thingsAhead_0 : decode cX2_thingsAhead 0 = .ok (.iconst 0, 1) := by decide +kernel
theorem dX2_thingsAhead_1 : decode cX2_thingsAhead 1 = .ok (.istore_n 3, 1) := by decide +kernel
theorem dX2_thingsAhead_2 : decode cX2_thingsAhead 2 = .ok (.iconst 0, 1) := by decide +kernel
theorem dX2_thingsAhead_3 : decode cX2_thingsAhead 3 = .ok (.istore 4, 2) := by decide +kernel
theorem dX2_thingsAhead_5 : decode cX2_thingsAhead 5 = .ok (.iload 4, 2) := by decide +kernel
theorem dX2_thingsAhead_7 : decode cX2_thingsAhead 7 = .ok (.aload_n 0, 1) := by decide +kernel
theorem dX2_thingsAhead_8 : decode cX2_thingsAhead 8 = .ok (.getfield 18, 3) := by decide +kernel
theorem dX2_thingsAhead_11 : decode cX2_thingsAhead 11 = .ok (.if_icmp .ge 26, 3) := by decide +kernel
theorem dX2_thingsAhead_14 : decode cX2_thingsAhead 14 = .ok (.aload_n 1, 1) := by decide +kernel
theorem dX2_thingsAhead_15 : decode cX2_thingsAhead 15 = .ok (.aload_n 0, 1) := by decide +kernel
theorem dX2_thingsAhead_16 : decode cX2_thingsAhead 16 = .ok (.iload 4, 2) := by decide +kernel
theorem dX2_thingsAhead_18 : decode cX2_thingsAhead 18 = .ok (.invokevirtual 22, 3) := by decide +kernel
theorem dX2_thingsAhead_21 : decode cX2_thingsAhead 21 = .ok (.iload_n 2, 1) := by decide +kernel
theorem dX2_thingsAhead_22 : decode cX2_thingsAhead 22 = .ok (.invokevirtual 44, 3) := by decide +kernel
theorem dX2_thingsAhead_25 : decode cX2_thingsAhead 25 = .ok (.ifCond .ge 6, 3) := by decide +kernel
theorem dX2_thingsAhead_28 : decode cX2_thingsAhead 28 = .ok (.iinc 3 1, 3) := by decide +kernel
theorem dX2_thingsAhead_31 : decode cX2_thingsAhead 31 = .ok (.iinc 4 1, 3) := by decide +kernel
theorem dX2_thingsAhead_34 : decode cX2_thingsAhead 34 = .ok (.goto (-29), 3) := by decide +kernel
theorem dX2_thingsAhead_37 : decode cX2_thingsAhead 37 = .ok (.iload_n 3, 1) := by decide +kernel
theorem dX2_thingsAhead_38 : decode cX2_thingsAhead 38 = .ok (.ireturn, 1) := by decide +kernel
set_option maxRecDepth 20000 in
theorem ggX2_firstPlaceBy_X2_valueOn : GoodIn wsX2_firstPlaceBy wsX2_valueOn := goodIn_r _ [6, 7, 14, 15, 16] (by decide +kernel) (by decide +kernel)
set_option maxRecDepth 20000 in
theorem gX2_firstPlaceBy_X2_valueOn : GoodIn wsX2_firstPlaceBy (wsV RX2 22 RX2 yX2_valueOn wsX2_valueOn) := goodIn_app (goodIn_of _ (by decide +kernel)) ggX2_firstPlaceBy_X2_valueOn
set_option maxRecDepth 20000 in
theorem ggX2_firstPlaceBy_X1_compared : GoodIn wsX2_firstPlaceBy wsX1_compared := goodIn_r _ [12, 13, 17, 18, 19, 20, 21, 22] (by decide +kernel) (by decide +kernel)
set_option maxRecDepth 20000 in
theorem gX2_firstPlaceBy_X1_compared : GoodIn wsX2_firstPlaceBy (wsV RX2 44 RX1 yX1_compared wsX1_compared) := goodIn_app (goodIn_of _ (by decide +kernel)) ggX2_firstPlaceBy_X1_compared
theorem dX2_firstPlaceBy_0 : decode cX2_firstPlaceBy 0 = .ok (.iconst (-1), 1) := by decide +kernel
theorem dX2_firstPlaceBy_1 : decode cX2_firstPlaceBy 1 = .ok (.istore_n 2, 1) := by decide +kernel
theorem dX2_firstPlaceBy_2 : decode cX2_firstPlaceBy 2 = .ok (.iconst 0, 1) := by decide +kernel
theorem dX2_firstPlaceBy_3 : decode cX2_firstPlaceBy 3 = .ok (.istore_n 3, 1) := by decide +kernel
theorem dX2_firstPlaceBy_4 : decode cX2_firstPlaceBy 4 = .ok (.iload_n 3, 1) := by decide +kernel
theorem dX2_firstPlaceBy_5 : decode cX2_firstPlaceBy 5 = .ok (.aload_n 0, 1) := by decide +kernel
theorem dX2_firstPlaceBy_6 : decode cX2_firstPlaceBy 6 = .ok (.getfield 18, 3) := by decide +kernel
theorem dX2_firstPlaceBy_9 : decode cX2_firstPlaceBy 9 = .ok (.if_icmp .ge 33, 3) := by decide +kernel
theorem dX2_firstPlaceBy_12 : decode cX2_firstPlaceBy 12 = .ok (.iload_n 2, 1) := by decide +kernel
theorem dX2_firstPlaceBy_13 : decode cX2_firstPlaceBy 13 = .ok (.iconst (-1), 1) := by decide +kernel
theorem dX2_firstPlaceBy_14 : decode cX2_firstPlaceBy 14 = .ok (.if_icmp .eq 20, 3) := by decide +kernel
theorem dX2_firstPlaceBy_17 : decode cX2_firstPlaceBy 17 = .ok (.aload_n 1, 1) := by decide +kernel
theorem dX2_firstPlaceBy_18 : decode cX2_firstPlaceBy 18 = .ok (.aload_n 0, 1) := by decide +kernel
theorem dX2_firstPlaceBy_19 : decode cX2_firstPlaceBy 19 = .ok (.iload_n 3, 1) := by decide +kernel
theorem dX2_firstPlaceBy_20 : decode cX2_firstPlaceBy 20 = .ok (.invokevirtual 22, 3) := by decide +kernel
theorem dX2_firstPlaceBy_23 : decode cX2_firstPlaceBy 23 = .ok (.aload_n 0, 1) := by decide +kernel
theorem dX2_firstPlaceBy_24 : decode cX2_firstPlaceBy 24 = .ok (.iload_n 2, 1) := by decide +kernel
theorem dX2_firstPlaceBy_25 : decode cX2_firstPlaceBy 25 = .ok (.invokevirtual 22, 3) := by decide +kernel
theorem dX2_firstPlaceBy_28 : decode cX2_firstPlaceBy 28 = .ok (.invokevirtual 44, 3) := by decide +kernel
theorem dX2_firstPlaceBy_31 : decode cX2_firstPlaceBy 31 = .ok (.ifCond .ge 5, 3) := by decide +kernel
theorem dX2_firstPlaceBy_34 : decode cX2_firstPlaceBy 34 = .ok (.iload_n 3, 1) := by decide +kernel
theorem dX2_firstPlaceBy_35 : decode cX2_firstPlaceBy 35 = .ok (.istore_n 2, 1) := by decide +kernel
theorem dX2_firstPlaceBy_36 : decode cX2_firstPlaceBy 36 = .ok (.iinc 3 1, 3) := by decide +kernel
theorem dX2_firstPlaceBy_39 : decode cX2_firstPlaceBy 39 = .ok (.goto (-35), 3) := by decide +kernel
theorem dX2_firstPlaceBy_42 : decode cX2_firstPlaceBy 42 = .ok (.iload_n 2, 1) := by decide +kernel
theorem dX2_firstPlaceBy_43 : decode cX2_firstPlaceBy 43 = .ok (.ireturn, 1) := by decide +kernel
set_option maxRecDepth 20000 in
theorem ggX2_lastPlaceBy_X2_valueOn : GoodIn wsX2_lastPlaceBy wsX2_valueOn := goodIn_r _ [6, 7, 14, 15, 16] (by decide +kernel) (by decide +kernel)
set_option maxRecDepth 20000 in
theorem gX2_lastPlaceBy_X2_valueOn : GoodIn wsX2_lastPlaceBy (wsV RX2 22 RX2 yX2_valueOn wsX2_valueOn) := goodIn_app (goodIn_of _ (by decide +kernel)) ggX2_lastPlaceBy_X2_valueOn
set_option maxRecDepth 20000 in
theorem ggX2_lastPlaceBy_X1_compared : GoodIn wsX2_lastPlaceBy wsX1_compared := goodIn_r _ [12, 13, 17, 18, 19, 20, 21, 22] (by decide +kernel) (by decide +kernel)
set_option maxRecDepth 20000 in
theorem gX2_lastPlaceBy_X1_compared : GoodIn wsX2_lastPlaceBy (wsV RX2 44 RX1 yX1_compared wsX1_compared) := goodIn_app (goodIn_of _ (by decide +kernel)) ggX2_lastPlaceBy_X1_compared
theorem dX2_lastPlaceBy_0 : decode cX2_lastPlaceBy 0 = .ok (.iconst (-1), 1) := by decide +kernel
theorem dX2_lastPlaceBy_1 : decode cX2_lastPlaceBy 1 = .ok (.istore_n 2, 1) := by decide +kernel
theorem dX2_lastPlaceBy_2 : decode cX2_lastPlaceBy 2 = .ok (.iconst 0, 1) := by decide +kernel
theorem dX2_lastPlaceBy_3 : decode cX2_lastPlaceBy 3 = .ok (.istore_n 3, 1) := by decide +kernel
theorem dX2_lastPlaceBy_4 : decode cX2_lastPlaceBy 4 = .ok (.iload_n 3, 1) := by decide +kernel
theorem dX2_lastPlaceBy_5 : decode cX2_lastPlaceBy 5 = .ok (.aload_n 0, 1) := by decide +kernel
theorem dX2_lastPlaceBy_6 : decode cX2_lastPlaceBy 6 = .ok (.getfield 18, 3) := by decide +kernel
theorem dX2_lastPlaceBy_9 : decode cX2_lastPlaceBy 9 = .ok (.if_icmp .ge 33, 3) := by decide +kernel
theorem dX2_lastPlaceBy_12 : decode cX2_lastPlaceBy 12 = .ok (.iload_n 2, 1) := by decide +kernel
theorem dX2_lastPlaceBy_13 : decode cX2_lastPlaceBy 13 = .ok (.iconst (-1), 1) := by decide +kernel
theorem dX2_lastPlaceBy_14 : decode cX2_lastPlaceBy 14 = .ok (.if_icmp .eq 20, 3) := by decide +kernel
theorem dX2_lastPlaceBy_17 : decode cX2_lastPlaceBy 17 = .ok (.aload_n 1, 1) := by decide +kernel
theorem dX2_lastPlaceBy_18 : decode cX2_lastPlaceBy 18 = .ok (.aload_n 0, 1) := by decide +kernel
theorem dX2_lastPlaceBy_19 : decode cX2_lastPlaceBy 19 = .ok (.iload_n 3, 1) := by decide +kernel
theorem dX2_lastPlaceBy_20 : decode cX2_lastPlaceBy 20 = .ok (.invokevirtual 22, 3) := by decide +kernel
theorem dX2_lastPlaceBy_23 : decode cX2_lastPlaceBy 23 = .ok (.aload_n 0, 1) := by decide +kernel
theorem dX2_lastPlaceBy_24 : decode cX2_lastPlaceBy 24 = .ok (.iload_n 2, 1) := by decide +kernel
theorem dX2_lastPlaceBy_25 : decode cX2_lastPlaceBy 25 = .ok (.invokevirtual 22, 3) := by decide +kernel
theorem dX2_lastPlaceBy_28 : decode cX2_lastPlaceBy 28 = .ok (.invokevirtual 44, 3) := by decide +kernel
theorem dX2_lastPlaceBy_31 : decode cX2_lastPlaceBy 31 = .ok (.ifCond .le 5, 3) := by decide +kernel
theorem dX2_lastPlaceBy_34 : decode cX2_lastPlaceBy 34 = .ok (.iload_n 3, 1) := by decide +kernel
theorem dX2_lastPlaceBy_35 : decode cX2_lastPlaceBy 35 = .ok (.istore_n 2, 1) := by decide +kernel
theorem dX2_lastPlaceBy_36 : decode cX2_lastPlaceBy 36 = .ok (.iinc 3 1, 3) := by decide +kernel
theorem dX2_lastPlaceBy_39 : decode cX2_lastPlaceBy 39 = .ok (.goto (-35), 3) := by decide +kernel
theorem dX2_lastPlaceBy_42 : decode cX2_lastPlaceBy 42 = .ok (.iload_n 2, 1) := by decide +kernel
theorem dX2_lastPlaceBy_43 : decode cX2_lastPlaceBy 43 = .ok (.ireturn, 1) := by decide +kernel
set_option maxRecDepth 20000 in
theorem ggX2_nearestPlace_X2_valueOn : GoodIn wsX2_nearestPlace wsX2_valueOn := goodIn_r _ [6, 7, 21, 22, 23] (by decide +kernel) (by decide +kernel)
set_option maxRecDepth 20000 in
theorem gX2_nearestPlace_X2_valueOn : GoodIn wsX2_nearestPlace (wsV RX2 22 RX2 yX2_valueOn wsX2_valueOn) := goodIn_app (goodIn_of _ (by decide +kernel)) ggX2_nearestPlace_X2_valueOn
set_option maxRecDepth 20000 in
theorem ggX2_nearestPlace_X1_compared : GoodIn wsX2_nearestPlace wsX1_compared := goodIn_r _ [12, 13, 24, 25, 26, 27, 28, 29] (by decide +kernel) (by decide +kernel)
set_option maxRecDepth 20000 in
theorem gX2_nearestPlace_X1_compared : GoodIn wsX2_nearestPlace (wsV RX2 44 RX1 yX1_compared wsX1_compared) := goodIn_app (goodIn_of _ (by decide +kernel)) ggX2_nearestPlace_X1_compared
set_option maxRecDepth 20000 in
theorem ggX2_nearestPlace_X2_isOnSide : GoodIn wsX2_nearestPlace wsX2_isOnSide := goodIn_r _ [16] (by decide +kernel) (by decide +kernel)
set_option maxRecDepth 20000 in
theorem gX2_nearestPlace_X2_isOnSide : GoodIn wsX2_nearestPlace (va_wsS RX2 50 yX2_isOnSide wsX2_isOnSide) := goodIn_app (goodIn_of _ (by decide +kernel)) ggX2_nearestPlace_X2_isOnSide
set_option maxRecDepth 20000 in
theorem ggX2_nearestPlace_X2_isNearer : GoodIn wsX2_nearestPlace wsX2_isNearer := goodIn_r _ [20, 2, 3, 4, 5, 6, 7, 8, 9, 10, 11, 12, 13, 21, 22, 23, 24, 25, 26, 27, 28, 29] (by decide +kernel) (by decide +kernel)
set_option maxRecDepth 20000 in
theorem gX2_nearestPlace_X2_isNearer : GoodIn wsX2_nearestPlace (wsV RX2 54 RX2 yX2_isNearer wsX2_isNearer) := goodIn_app (goodIn_of _ (by decide +kernel)) ggX2_nearestPlace_X2_isNearer
theorem dX2_nearestPlace_0 : decode cX2_nearestPlace 0 = .ok (.iconst (-1), 1) := by decide +kernel
theorem dX2_nearestPlace_1 : decode cX2_nearestPlace 1 = .ok (.istore 4, 2) := by decide +kernel
theorem dX2_nearestPlace_3 : decode cX2_nearestPlace 3 = .ok (.iconst 0, 1) := by decide +kernel
theorem dX2_nearestPlace_4 : decode cX2_nearestPlace 4 = .ok (.istore 5, 2) := by decide +kernel
theorem dX2_nearestPlace_6 : decode cX2_nearestPlace 6 = .ok (.iload 5, 2) := by decide +kernel
theorem dX2_nearestPlace_8 : decode cX2_nearestPlace 8 = .ok (.aload_n 0, 1) := by decide +kernel
theorem dX2_nearestPlace_9 : decode cX2_nearestPlace 9 = .ok (.getfield 18, 3) := by decide +kernel
theorem dX2_nearestPlace_12 : decode cX2_nearestPlace 12 = .ok (.if_icmp .ge 50, 3) := by decide +kernel
theorem dX2_nearestPlace_15 : decode cX2_nearestPlace 15 = .ok (.aload_n 1, 1) := by decide +kernel
theorem dX2_nearestPlace_16 : decode cX2_nearestPlace 16 = .ok (.aload_n 0, 1) := by decide +kernel
theorem dX2_nearestPlace_17 : decode cX2_nearestPlace 17 = .ok (.iload 5, 2) := by decide +kernel
theorem dX2_nearestPlace_19 : decode cX2_nearestPlace 19 = .ok (.invokevirtual 22, 3) := by decide +kernel
theorem dX2_nearestPlace_22 : decode cX2_nearestPlace 22 = .ok (.iload_n 2, 1) := by decide +kernel
theorem dX2_nearestPlace_23 : decode cX2_nearestPlace 23 = .ok (.invokevirtual 44, 3) := by decide +kernel
theorem dX2_nearestPlace_26 : decode cX2_nearestPlace 26 = .ok (.iload_n 3, 1) := by decide +kernel
theorem dX2_nearestPlace_27 : decode cX2_nearestPlace 27 = .ok (.invokestatic 50, 3) := by decide +kernel
theorem dX2_nearestPlace_30 : decode cX2_nearestPlace 30 = .ok (.ifCond .eq 26, 3) := by decide +kernel
theorem dX2_nearestPlace_33 : decode cX2_nearestPlace 33 = .ok (.iload 4, 2) := by decide +kernel
theorem dX2_nearestPlace_35 : decode cX2_nearestPlace 35 = .ok (.iconst (-1), 1) := by decide +kernel
theorem dX2_nearestPlace_36 : decode cX2_nearestPlace 36 = .ok (.if_icmp .eq 16, 3) := by decide +kernel
theorem dX2_nearestPlace_39 : decode cX2_nearestPlace 39 = .ok (.aload_n 0, 1) := by decide +kernel
theorem dX2_nearestPlace_40 : decode cX2_nearestPlace 40 = .ok (.aload_n 1, 1) := by decide +kernel
theorem dX2_nearestPlace_41 : decode cX2_nearestPlace 41 = .ok (.iload 5, 2) := by decide +kernel
theorem dX2_nearestPlace_43 : decode cX2_nearestPlace 43 = .ok (.iload 4, 2) := by decide +kernel
theorem dX2_nearestPlace_45 : decode cX2_nearestPlace 45 = .ok (.iload_n 3, 1) := by decide +kernel
theorem dX2_nearestPlace_46 : decode cX2_nearestPlace 46 = .ok (.invokevirtual 54, 3) := by decide +kernel
theorem dX2_nearestPlace_49 : decode cX2_nearestPlace 49 = .ok (.ifCond .eq 7, 3) := by decide +kernel
theorem dX2_nearestPlace_52 : decode cX2_nearestPlace 52 = .ok (.iload 5, 2) := by decide +kernel
theorem dX2_nearestPlace_54 : decode cX2_nearestPlace 54 = .ok (.istore 4, 2) := by decide +kernel
theorem dX2_nearestPlace_56 : decode cX2_nearestPlace 56 = .ok (.iinc 5 1, 3) := by decide +kernel
theorem dX2_nearestPlace_59 : decode cX2_nearestPlace 59 = .ok (.goto (-53), 3) := by decide +kernel
theorem dX2_nearestPlace_62 : decode cX2_nearestPlace 62 = .ok (.iload 4, 2) := by decide +kernel
theorem dX2_nearestPlace_64 : decode cX2_nearestPlace 64 = .ok (.ireturn, 1) := by decide +kernel
set_option maxRecDepth 20000 in
theorem ggX2_lots_X2_isFirstOfLot : GoodIn wsX2_lots wsX2_isFirstOfLot := goodIn_r _ [6, 7, 8, 9, 5, 10, 11, 12, 13, 14, 15, 16, 17, 18, 19, 20, 21, 22, 23, 24, 25, 26] (by decide +kernel) (by decide +kernel)
set_option maxRecDepth 20000 in
theorem gX2_lots_X2_isFirstOfLot : GoodIn wsX2_lots (wsV RX2 58 RX2 yX2_isFirstOfLot wsX2_isFirstOfLot) := goodIn_app (goodIn_of _ (by decide +kernel)) ggX2_lots_X2_isFirstOfLot
theorem dX2_lots_0 : decode cX2_lots 0 = .ok (.iconst 0, 1) := by decide +kernel
theorem dX2_lots_1 : decode cX2_lots 1 = .ok (.istore_n 2, 1) := by decide +kernel
theorem dX2_lots_2 : decode cX2_lots 2 = .ok (.iconst 0, 1) := by decide +kernel
theorem dX2_lots_3 : decode cX2_lots 3 = .ok (.istore_n 3, 1) := by decide +kernel
theorem dX2_lots_4 : decode cX2_lots 4 = .ok (.iload_n 3, 1) := by decide +kernel
theorem dX2_lots_5 : decode cX2_lots 5 = .ok (.aload_n 0, 1) := by decide +kernel
theorem dX2_lots_6 : decode cX2_lots 6 = .ok (.getfield 18, 3) := by decide +kernel
theorem dX2_lots_9 : decode cX2_lots 9 = .ok (.if_icmp .ge 21, 3) := by decide +kernel
theorem dX2_lots_12 : decode cX2_lots 12 = .ok (.aload_n 0, 1) := by decide +kernel
theorem dX2_lots_13 : decode cX2_lots 13 = .ok (.aload_n 1, 1) := by decide +kernel
theorem dX2_lots_14 : decode cX2_lots 14 = .ok (.iload_n 3, 1) := by decide +kernel
theorem dX2_lots_15 : decode cX2_lots 15 = .ok (.invokevirtual 58, 3) := by decide +kernel
theorem dX2_lots_18 : decode cX2_lots 18 = .ok (.ifCond .eq 6, 3) := by decide +kernel
theorem dX2_lots_21 : decode cX2_lots 21 = .ok (.iinc 2 1, 3) := by decide +kernel
theorem dX2_lots_24 : decode cX2_lots 24 = .ok (.iinc 3 1, 3) := by decide +kernel
theorem dX2_lots_27 : decode cX2_lots 27 = .ok (.goto (-23), 3) := by decide +kernel
theorem dX2_lots_30 : decode cX2_lots 30 = .ok (.iload_n 2, 1) := by decide +kernel
theorem dX2_lots_31 : decode cX2_lots 31 = .ok (.ireturn, 1) := by decide +kernel
set_option maxRecDepth 20000 in
theorem ggX2_lotsAhead_X2_valueOn : GoodIn wsX2_lotsAhead wsX2_valueOn := goodIn_r _ [6, 7, 18, 19, 20] (by decide +kernel) (by decide +kernel)
set_option maxRecDepth 20000 in
theorem gX2_lotsAhead_X2_valueOn : GoodIn wsX2_lotsAhead (wsV RX2 22 RX2 yX2_valueOn wsX2_valueOn) := goodIn_app (goodIn_of _ (by decide +kernel)) ggX2_lotsAhead_X2_valueOn
set_option maxRecDepth 20000 in
theorem ggX2_lotsAhead_X1_compared : GoodIn wsX2_lotsAhead wsX1_compared := goodIn_r _ [12, 13, 21, 22, 23, 24, 25, 26] (by decide +kernel) (by decide +kernel)
set_option maxRecDepth 20000 in
theorem gX2_lotsAhead_X1_compared : GoodIn wsX2_lotsAhead (wsV RX2 44 RX1 yX1_compared wsX1_compared) := goodIn_app (goodIn_of _ (by decide +kernel)) ggX2_lotsAhead_X1_compared
set_option maxRecDepth 20000 in
theorem ggX2_lotsAhead_X2_isFirstOfLot : GoodIn wsX2_lotsAhead wsX2_isFirstOfLot := goodIn_r _ [17, 2, 3, 4, 5, 6, 7, 8, 9, 10, 11, 12, 13, 18, 19, 20, 21, 22, 23, 24, 25, 26] (by decide +kernel) (by decide +kernel)
set_option maxRecDepth 20000 in
theorem gX2_lotsAhead_X2_isFirstOfLot : GoodIn wsX2_lotsAhead (wsV RX2 58 RX2 yX2_isFirstOfLot wsX2_isFirstOfLot) := goodIn_app (goodIn_of _ (by decide +kernel)) ggX2_lotsAhead_X2_isFirstOfLot
theorem dX2_lotsAhead_0 : decode cX2_lotsAhead 0 = .ok (.iconst 0, 1) := by decide +kernel
theorem dX2_lotsAhead_1 : decode cX2_lotsAhead 1 = .ok (.istore_n 3, 1) := by decide +kernel
theorem dX2_lotsAhead_2 : decode cX2_lotsAhead 2 = .ok (.iconst 0, 1) := by decide +kernel
theorem dX2_lotsAhead_3 : decode cX2_lotsAhead 3 = .ok (.istore 4, 2) := by decide +kernel
theorem dX2_lotsAhead_5 : decode cX2_lotsAhead 5 = .ok (.iload 4, 2) := by decide +kernel
theorem dX2_lotsAhead_7 : decode cX2_lotsAhead 7 = .ok (.aload_n 0, 1) := by decide +kernel
theorem dX2_lotsAhead_8 : decode cX2_lotsAhead 8 = .ok (.getfield 18, 3) := by decide +kernel
theorem dX2_lotsAhead_11 : decode cX2_lotsAhead 11 = .ok (.if_icmp .ge 36, 3) := by decide +kernel
theorem dX2_lotsAhead_14 : decode cX2_lotsAhead 14 = .ok (.aload_n 1, 1) := by decide +kernel
theorem dX2_lotsAhead_15 : decode cX2_lotsAhead 15 = .ok (.aload_n 0, 1) := by decide +kernel
theorem dX2_lotsAhead_16 : decode cX2_lotsAhead 16 = .ok (.iload 4, 2) := by decide +kernel
theorem dX2_lotsAhead_18 : decode cX2_lotsAhead 18 = .ok (.invokevirtual 22, 3) := by decide +kernel
theorem dX2_lotsAhead_21 : decode cX2_lotsAhead 21 = .ok (.iload_n 2, 1) := by decide +kernel
theorem dX2_lotsAhead_22 : decode cX2_lotsAhead 22 = .ok (.invokevirtual 44, 3) := by decide +kernel
theorem dX2_lotsAhead_25 : decode cX2_lotsAhead 25 = .ok (.ifCond .ge 16, 3) := by decide +kernel
theorem dX2_lotsAhead_28 : decode cX2_lotsAhead 28 = .ok (.aload_n 0, 1) := by decide +kernel
theorem dX2_lotsAhead_29 : decode cX2_lotsAhead 29 = .ok (.aload_n 1, 1) := by decide +kernel
theorem dX2_lotsAhead_30 : decode cX2_lotsAhead 30 = .ok (.iload 4, 2) := by decide +kernel
theorem dX2_lotsAhead_32 : decode cX2_lotsAhead 32 = .ok (.invokevirtual 58, 3) := by decide +kernel
theorem dX2_lotsAhead_35 : decode cX2_lotsAhead 35 = .ok (.ifCond .eq 6, 3) := by decide +kernel
theorem dX2_lotsAhead_38 : decode cX2_lotsAhead 38 = .ok (.iinc 3 1, 3) := by decide +kernel
theorem dX2_lotsAhead_41 : decode cX2_lotsAhead 41 = .ok (.iinc 4 1, 3) := by decide +kernel
theorem dX2_lotsAhead_44 : decode cX2_lotsAhead 44 = .ok (.goto (-39), 3) := by decide +kernel
theorem dX2_lotsAhead_47 : decode cX2_lotsAhead 47 = .ok (.iload_n 3, 1) := by decide +kernel
theorem dX2_lotsAhead_48 : decode cX2_lotsAhead 48 = .ok (.ireturn, 1) := by decide +kernel
set_option maxRecDepth 20000 in
theorem ggX2_told_J4_init_da8c8 : GoodIn wsX2_told wsJ4_init_da8c8 := goodIn_r _ [7, 8, 9, 10, 11, 12, 13, 14, 15, 16, 17, 18, 19, 20, 21, 22, 23, 24, 25, 26, 236, 237, 238, 239] (by decide +kernel) (by decide +kernel)
set_option maxRecDepth 20000 in
theorem gX2_told_J4_init_da8c8 : GoodIn wsX2_told (wsJ4_init_da8c8) := ggX2_told_J4_init_da8c8
set_option maxRecDepth 20000 in
theorem ggX2_told_X4_appendGap : GoodIn wsX2_told wsX4_appendGap := goodIn_r _ [29, 30, 31, 32, 3, 33, 34, 35, 36, 37, 10, 38, 39, 40, 41, 42, 43, 44, 45, 46, 47, 17, 48, 49, 50, 51, 52, 18, 53, 54, 55, 56, 57, 58, 59, 60, 61, 62, 63, 64, 65, 66, 67, 68, 69, 70, 71, 72, 73, 74, 75, 76, 77, 78, 79, 80, 16, 81, 82, 83, 84, 85, 86, 87, 88, 89, 90, 91, 92, 15, 93, 94, 95, 96, 97, 98, 99, 100, 101, 19, 20, 21, 22, 23, 24, 25, 26, 102, 103, 104, 105, 106, 107, 108, 109, 110, 111, 112, 113, 114, 115, 116, 117, 118, 119, 120, 121, 122, 123, 124, 125, 126, 127, 128, 129, 130, 131, 132, 133, 134, 135, 136, 137, 138, 139, 140, 236, 237, 238, 239] (by decide +kernel) (by decide +kernel)
set_option maxRecDepth 20000 in
theorem gX2_told_X4_appendGap_n65 : GoodIn wsX2_told (wsX4_appendGap) := ggX2_told_X4_appendGap
set_option maxRecDepth 20000 in
theorem ggX2_told_X2_valueOn : GoodIn wsX2_told wsX2_valueOn := goodIn_r _ [145, 146, 240, 241, 242] (by decide +kernel) (by decide +kernel)
set_option maxRecDepth 20000 in
theorem gX2_told_X2_valueOn : GoodIn wsX2_told (wsV RX2 22 RX2 yX2_valueOn wsX2_valueOn) := goodIn_app (goodIn_of _ (by decide +kernel)) ggX2_told_X2_valueOn
set_option maxRecDepth 20000 in
theorem ggX2_told_J4_append_bf812 : GoodIn wsX2_told wsJ4_append_bf812 := goodIn_r _ [150, 151, 152, 36, 153, 10, 154, 39, 17, 155, 156, 157, 158, 48, 49, 50, 51, 52, 18, 53, 54, 55, 56, 57, 58, 59, 60, 61, 62, 63, 64, 65, 66, 67, 68, 69, 70, 71, 72, 73, 74, 75, 76, 77, 78, 79, 80, 16, 81, 82, 83, 84, 85, 86, 87, 88, 89, 90, 91, 92, 15, 159, 160, 161, 162, 163, 164, 165, 21, 166, 126, 167, 168, 169, 111, 112, 113, 170, 171, 116, 172, 118, 173, 174, 121, 175, 176, 177, 178, 179, 180, 123, 124, 125, 127, 128, 236, 237, 238, 239] (by decide +kernel) (by decide +kernel)
set_option maxRecDepth 20000 in
theorem gX2_told_J4_append_bf812 : GoodIn wsX2_told (wsV RX2 69 RJ4 yJ4_append_bf812 wsJ4_append_bf812) := goodIn_app (goodIn_of _ (by decide +kernel)) ggX2_told_J4_append_bf812
set_option maxRecDepth 20000 in
theorem ggX2_told_J4_append_cf468 : GoodIn wsX2_told wsJ4_append_cf468 := goodIn_r _ [43, 44, 45, 36, 46, 10, 47, 39, 17, 48, 49, 50, 51, 52, 18, 53, 54, 55, 56, 57, 58, 59, 60, 61, 62, 63, 64, 65, 66, 67, 68, 69, 70, 71, 72, 73, 74, 75, 76, 77, 78, 79, 80, 16, 81, 82, 83, 84, 85, 86, 87, 88, 89, 90, 91, 92, 15, 93, 94, 95, 96, 97, 98, 99, 100, 101, 19, 20, 21, 22, 23, 24, 25, 26, 102, 103, 104, 105, 106, 107, 108, 109, 110, 111, 112, 113, 114, 115, 116, 117, 118, 119, 120, 121, 122, 123, 124, 125, 126, 127, 128, 129, 130, 131, 132, 133, 134, 135, 136, 137, 138, 139, 140, 236, 237, 238, 239] (by decide +kernel) (by decide +kernel)
set_option maxRecDepth 20000 in
theorem gX2_told_J4_append_cf468 : GoodIn wsX2_told (wsV RX2 72 RJ4 yJ4_append_cf468 wsJ4_append_cf468) := goodIn_app (goodIn_of _ (by decide +kernel)) ggX2_told_J4_append_cf468
set_option maxRecDepth 20000 in
theorem ggX2_told_X2_markOn : GoodIn wsX2_told wsX2_markOn := goodIn_r _ [185, 186, 240, 241, 242] (by decide +kernel) (by decide +kernel)
set_option maxRecDepth 20000 in
theorem gX2_told_X2_markOn : GoodIn wsX2_told (wsV RX2 26 RX2 yX2_markOn wsX2_markOn) := goodIn_app (goodIn_of _ (by decide +kernel)) ggX2_told_X2_markOn
set_option maxRecDepth 20000 in
theorem ggX2_told_J4_toString_0e30d : GoodIn wsX2_told wsJ4_toString_0e30d := goodIn_r _ [190, 191, 192, 116, 193, 194, 195, 196, 197, 198, 199, 13, 14, 200, 201, 202, 203, 204, 205, 206, 207, 10, 208, 17, 209, 35, 210, 211, 31, 3, 33, 34, 36, 37, 38, 39, 212, 89, 90, 91, 92, 15, 18, 213, 214, 73, 215, 75, 76, 77, 78, 79, 80, 216, 217, 218, 16, 81, 82, 65, 83, 84, 85, 86, 87, 219, 220, 221, 222, 2, 223, 224, 21, 225, 226, 227, 228, 108, 109, 110, 111, 112, 113, 114, 115, 117, 118, 119, 120, 121, 122, 229, 230, 231, 126, 127, 128, 23, 24, 25, 26, 232, 233, 234, 235, 243, 244, 245, 246, 236, 237, 238, 239] (by decide +kernel) (by decide +kernel)
set_option maxRecDepth 20000 in
theorem gX2_told_J4_toString_0e30d : GoodIn wsX2_told (wsV RX2 75 RJ4 yJ4_toString_0e30d wsJ4_toString_0e30d) := goodIn_app (goodIn_of _ (by decide +kernel)) ggX2_told_J4_toString_0e30d
theorem dX2_told_0 : decode cX2_told 0 = .ok (.new 62, 3) := by decide +kernel
theorem dX2_told_3 : decode cX2_told 3 = .ok (.dup, 1) := by decide +kernel
theorem dX2_told_4 : decode cX2_told 4 = .ok (.invokespecial 64, 3) := by decide +kernel
theorem dX2_told_7 : decode cX2_told 7 = .ok (.astore_n 1, 1) := by decide +kernel
theorem dX2_told_8 : decode cX2_told 8 = .ok (.iconst 0, 1) := by decide +kernel
theorem dX2_told_9 : decode cX2_told 9 = .ok (.istore_n 2, 1) := by decide +kernel
theorem dX2_told_10 : decode cX2_told 10 = .ok (.iload_n 2, 1) := by decide +kernel
theorem dX2_told_11 : decode cX2_told 11 = .ok (.aload_n 0, 1) := by decide +kernel
theorem dX2_told_12 : decode cX2_told 12 = .ok (.getfield 18, 3) := by decide +kernel
theorem dX2_told_15 : decode cX2_told 15 = .ok (.if_icmp .ge 36, 3) := by decide +kernel
theorem dX2_told_18 : decode cX2_told 18 = .ok (.aload_n 1, 1) := by decide +kernel
theorem dX2_told_19 : decode cX2_told 19 = .ok (.invokestatic 65, 3) := by decide +kernel
theorem dX2_told_22 : decode cX2_told 22 = .ok (.aload_n 1, 1) := by decide +kernel
theorem dX2_told_23 : decode cX2_told 23 = .ok (.aload_n 0, 1) := by decide +kernel
theorem dX2_told_24 : decode cX2_told 24 = .ok (.iload_n 2, 1) := by decide +kernel
theorem dX2_told_25 : decode cX2_told 25 = .ok (.invokevirtual 22, 3) := by decide +kernel
theorem dX2_told_28 : decode cX2_told 28 = .ok (.invokevirtual 69, 3) := by decide +kernel
theorem dX2_told_31 : decode cX2_told 31 = .ok (.bipush 46, 2) := by decide +kernel
theorem dX2_told_33 : decode cX2_told 33 = .ok (.invokevirtual 72, 3) := by decide +kernel
theorem dX2_told_36 : decode cX2_told 36 = .ok (.aload_n 0, 1) := by decide +kernel
theorem dX2_told_37 : decode cX2_told 37 = .ok (.iload_n 2, 1) := by decide +kernel
theorem dX2_told_38 : decode cX2_told 38 = .ok (.invokevirtual 26, 3) := by decide +kernel
theorem dX2_told_41 : decode cX2_told 41 = .ok (.invokevirtual 69, 3) := by decide +kernel
theorem dX2_told_44 : decode cX2_told 44 = .ok (.pop, 1) := by decide +kernel
theorem dX2_told_45 : decode cX2_told 45 = .ok (.iinc 2 1, 3) := by decide +kernel
theorem dX2_told_48 : decode cX2_told 48 = .ok (.goto (-38), 3) := by decide +kernel
theorem dX2_told_51 : decode cX2_told 51 = .ok (.aload_n 1, 1) := by decide +kernel
theorem dX2_told_52 : decode cX2_told 52 = .ok (.invokevirtual 75, 3) := by decide +kernel
theorem dX2_told_55 : decode cX2_told 55 = .ok (.areturn, 1) := by decide +kernel
set_option maxRecDepth 20000 in
theorem ggX2_lotsTold_J4_init_da8c8 : GoodIn wsX2_lotsTold wsJ4_init_da8c8 := goodIn_r _ [6, 7, 8, 9, 10, 11, 12, 13, 14, 15, 16, 17, 18, 19, 20, 21, 22, 23, 24, 25, 251, 252, 253, 254] (by decide +kernel) (by decide +kernel)
set_option maxRecDepth 20000 in
theorem gX2_lotsTold_J4_init_da8c8 : GoodIn wsX2_lotsTold (wsJ4_init_da8c8) := ggX2_lotsTold_J4_init_da8c8
set_option maxRecDepth 20000 in
theorem ggX2_lotsTold_X1_classCount : GoodIn wsX2_lotsTold wsX1_classCount := goodIn_r _ [30, 31, 255, 256, 257, 258, 259, 260] (by decide +kernel) (by decide +kernel)
set_option maxRecDepth 20000 in
theorem gX2_lotsTold_X1_classCount : GoodIn wsX2_lotsTold (wsV RX2 79 RX1 yX1_classCount wsX1_classCount) := goodIn_app (goodIn_of _ (by decide +kernel)) ggX2_lotsTold_X1_classCount
set_option maxRecDepth 20000 in
theorem ggX2_lotsTold_X2_appendLot : GoodIn wsX2_lotsTold wsX2_appendLot := goodIn_r _ [36, 37, 38, 39, 40, 35, 41, 42, 43, 44, 45, 29, 46, 47, 48, 49, 50, 51, 52, 53, 3, 54, 55, 56, 57, 58, 9, 59, 60, 61, 62, 63, 64, 65, 66, 67, 68, 16, 69, 70, 71, 72, 73, 17, 74, 75, 76, 77, 78, 79, 80, 81, 82, 83, 84, 85, 86, 87, 88, 89, 90, 91, 92, 93, 94, 95, 96, 97, 98, 99, 100, 101, 15, 102, 103, 104, 105, 106, 107, 108, 109, 110, 111, 112, 113, 14, 114, 115, 116, 117, 118, 119, 120, 121, 122, 18, 19, 20, 21, 22, 23, 24, 25, 123, 124, 125, 126, 127, 128, 129, 130, 131, 132, 133, 134, 135, 136, 137, 138, 139, 140, 141, 142, 143, 144, 145, 146, 147, 148, 149, 150, 151, 152, 153, 154, 155, 156, 157, 158, 159, 160, 161, 162, 163, 164, 165, 166, 167, 168, 169, 170, 171, 172, 173, 174, 175, 176, 177, 178, 179, 180, 181, 182, 183, 184, 185, 186, 187, 188, 189, 190, 191, 192, 193, 194, 195, 196, 197, 198, 199, 200, 201, 261, 262, 263, 255, 256, 257, 258, 259, 260, 251, 252, 253, 254] (by decide +kernel) (by decide +kernel)
set_option maxRecDepth 20000 in
theorem gX2_lotsTold_X2_appendLot : GoodIn wsX2_lotsTold (wsV RX2 82 RX2 yX2_appendLot wsX2_appendLot) := goodIn_app (goodIn_of _ (by decide +kernel)) ggX2_lotsTold_X2_appendLot
set_option maxRecDepth 20000 in
theorem ggX2_lotsTold_J4_toString_0e30d : GoodIn wsX2_lotsTold wsJ4_toString_0e30d := goodIn_r _ [205, 206, 207, 137, 208, 209, 210, 211, 212, 213, 214, 12, 13, 215, 216, 217, 218, 219, 220, 221, 222, 9, 223, 16, 224, 56, 225, 226, 52, 3, 54, 55, 57, 58, 59, 60, 227, 110, 111, 112, 113, 14, 17, 228, 229, 94, 230, 96, 97, 98, 99, 100, 101, 231, 232, 233, 15, 102, 103, 86, 104, 105, 106, 107, 108, 234, 235, 236, 237, 2, 238, 239, 20, 240, 241, 242, 243, 129, 130, 131, 132, 133, 134, 135, 136, 138, 139, 140, 141, 142, 143, 244, 245, 246, 147, 148, 149, 22, 23, 24, 25, 247, 248, 249, 250, 264, 265, 266, 267, 251, 252, 253, 254] (by decide +kernel) (by decide +kernel)
set_option maxRecDepth 20000 in
theorem gX2_lotsTold_J4_toString_0e30d : GoodIn wsX2_lotsTold (wsV RX2 75 RJ4 yJ4_toString_0e30d wsJ4_toString_0e30d) := goodIn_app (goodIn_of _ (by decide +kernel)) ggX2_lotsTold_J4_toString_0e30d
theorem dX2_lotsTold_0 : decode cX2_lotsTold 0 = .ok (.new 62, 3) := by decide +kernel
theorem dX2_lotsTold_3 : decode cX2_lotsTold 3 = .ok (.dup, 1) := by decide +kernel
theorem dX2_lotsTold_4 : decode cX2_lotsTold 4 = .ok (.invokespecial 64, 3) := by decide +kernel
theorem dX2_lotsTold_7 : decode cX2_lotsTold 7 = .ok (.astore_n 2, 1) := by decide +kernel
theorem dX2_lotsTold_8 : decode cX2_lotsTold 8 = .ok (.iconst 0, 1) := by decide +kernel
theorem dX2_lotsTold_9 : decode cX2_lotsTold 9 = .ok (.istore_n 3, 1) := by decide +kernel
theorem dX2_lotsTold_10 : decode cX2_lotsTold 10 = .ok (.iload_n 3, 1) := by decide +kernel
theorem dX2_lotsTold_11 : decode cX2_lotsTold 11 = .ok (.aload_n 1, 1) := by decide +kernel
theorem dX2_lotsTold_12 : decode cX2_lotsTold 12 = .ok (.invokevirtual 79, 3) := by decide +kernel
theorem dX2_lotsTold_15 : decode cX2_lotsTold 15 = .ok (.if_icmp .ge 16, 3) := by decide +kernel
theorem dX2_lotsTold_18 : decode cX2_lotsTold 18 = .ok (.aload_n 0, 1) := by decide +kernel
theorem dX2_lotsTold_19 : decode cX2_lotsTold 19 = .ok (.aload_n 2, 1) := by decide +kernel
theorem dX2_lotsTold_20 : decode cX2_lotsTold 20 = .ok (.aload_n 1, 1) := by decide +kernel
theorem dX2_lotsTold_21 : decode cX2_lotsTold 21 = .ok (.iload_n 3, 1) := by decide +kernel
theorem dX2_lotsTold_22 : decode cX2_lotsTold 22 = .ok (.invokevirtual 82, 3) := by decide +kernel
theorem dX2_lotsTold_25 : decode cX2_lotsTold 25 = .ok (.iinc 3 1, 3) := by decide +kernel
theorem dX2_lotsTold_28 : decode cX2_lotsTold 28 = .ok (.goto (-18), 3) := by decide +kernel
theorem dX2_lotsTold_31 : decode cX2_lotsTold 31 = .ok (.aload_n 2, 1) := by decide +kernel
theorem dX2_lotsTold_32 : decode cX2_lotsTold 32 = .ok (.invokevirtual 75, 3) := by decide +kernel
theorem dX2_lotsTold_35 : decode cX2_lotsTold 35 = .ok (.areturn, 1) := by decide +kernel
set_option maxRecDepth 20000 in
theorem ggX2_appendLot_X2_valueOn : GoodIn wsX2_appendLot wsX2_valueOn := goodIn_r _ [6, 7, 182, 183, 184] (by decide +kernel) (by decide +kernel)
set_option maxRecDepth 20000 in
theorem gX2_appendLot_X2_valueOn : GoodIn wsX2_appendLot (wsV RX2 22 RX2 yX2_valueOn wsX2_valueOn) := goodIn_app (goodIn_of _ (by decide +kernel)) ggX2_appendLot_X2_valueOn
set_option maxRecDepth 20000 in
theorem ggX2_appendLot_X1_rankOf : GoodIn wsX2_appendLot wsX1_rankOf := goodIn_r _ [12, 13, 185, 186, 187, 188, 189, 190] (by decide +kernel) (by decide +kernel)
set_option maxRecDepth 20000 in
theorem gX2_appendLot_X1_rankOf : GoodIn wsX2_appendLot (wsV RX2 86 RX1 yX1_rankOf wsX1_rankOf) := goodIn_app (goodIn_of _ (by decide +kernel)) ggX2_appendLot_X1_rankOf
set_option maxRecDepth 20000 in
theorem ggX2_appendLot_X4_appendGap : GoodIn wsX2_appendLot wsX4_appendGap := goodIn_r _ [16, 17, 18, 19, 20, 21, 22, 23, 24, 25, 26, 27, 28, 29, 30, 31, 32, 33, 34, 35, 36, 37, 38, 39, 40, 41, 42, 43, 44, 45, 46, 47, 48, 49, 50, 51, 52, 53, 54, 55, 56, 57, 58, 59, 60, 61, 62, 63, 64, 65, 66, 67, 68, 69, 70, 71, 72, 73, 74, 75, 76, 77, 78, 79, 80, 81, 82, 83, 84, 85, 86, 87, 88, 89, 90, 91, 92, 93, 94, 95, 96, 97, 98, 99, 100, 101, 102, 103, 104, 105, 106, 107, 108, 109, 110, 111, 112, 113, 114, 115, 116, 117, 118, 119, 120, 121, 122, 123, 124, 125, 126, 127, 128, 129, 130, 131, 132, 133, 134, 135, 136, 137, 138, 139, 140, 141, 191, 192, 193, 194] (by decide +kernel) (by decide +kernel)
set_option maxRecDepth 20000 in
theorem gX2_appendLot_X4_appendGap_n65 : GoodIn wsX2_appendLot (wsX4_appendGap) := ggX2_appendLot_X4_appendGap
set_option maxRecDepth 20000 in
theorem ggX2_appendLot_X2_markOn : GoodIn wsX2_appendLot wsX2_markOn := goodIn_r _ [145, 146, 182, 183, 184] (by decide +kernel) (by decide +kernel)
set_option maxRecDepth 20000 in
theorem gX2_appendLot_X2_markOn : GoodIn wsX2_appendLot (wsV RX2 26 RX2 yX2_markOn wsX2_markOn) := goodIn_app (goodIn_of _ (by decide +kernel)) ggX2_appendLot_X2_markOn
set_option maxRecDepth 20000 in
theorem ggX2_appendLot_J4_append_bf812 : GoodIn wsX2_appendLot wsJ4_append_bf812 := goodIn_r _ [150, 151, 152, 24, 153, 26, 154, 28, 37, 155, 156, 157, 158, 38, 39, 40, 41, 42, 43, 44, 45, 46, 47, 48, 49, 50, 51, 52, 53, 54, 55, 56, 57, 58, 59, 60, 61, 62, 63, 64, 65, 66, 67, 68, 69, 70, 71, 72, 73, 74, 75, 76, 77, 78, 79, 80, 81, 82, 83, 84, 85, 159, 160, 161, 162, 163, 164, 165, 97, 166, 127, 167, 168, 169, 112, 113, 114, 170, 171, 117, 172, 119, 173, 174, 122, 175, 176, 177, 178, 179, 180, 124, 125, 126, 128, 129, 191, 192, 193, 194] (by decide +kernel) (by decide +kernel)
set_option maxRecDepth 20000 in
theorem gX2_appendLot_J4_append_bf812 : GoodIn wsX2_appendLot (wsV RX2 69 RJ4 yJ4_append_bf812 wsJ4_append_bf812) := goodIn_app (goodIn_of _ (by decide +kernel)) ggX2_appendLot_J4_append_bf812
set_option maxRecDepth 20000 in
theorem ggX2_appendLot_J4_append_cf468 : GoodIn wsX2_appendLot wsJ4_append_cf468 := goodIn_r _ [32, 33, 34, 24, 35, 26, 36, 28, 37, 38, 39, 40, 41, 42, 43, 44, 45, 46, 47, 48, 49, 50, 51, 52, 53, 54, 55, 56, 57, 58, 59, 60, 61, 62, 63, 64, 65, 66, 67, 68, 69, 70, 71, 72, 73, 74, 75, 76, 77, 78, 79, 80, 81, 82, 83, 84, 85, 86, 87, 88, 89, 90, 91, 92, 93, 94, 95, 96, 97, 98, 99, 100, 101, 102, 103, 104, 105, 106, 107, 108, 109, 110, 111, 112, 113, 114, 115, 116, 117, 118, 119, 120, 121, 122, 123, 124, 125, 126, 127, 128, 129, 130, 131, 132, 133, 134, 135, 136, 137, 138, 139, 140, 141, 191, 192, 193, 194] (by decide +kernel) (by decide +kernel)
set_option maxRecDepth 20000 in
theorem gX2_appendLot_J4_append_cf468 : GoodIn wsX2_appendLot (wsV RX2 72 RJ4 yJ4_append_cf468 wsJ4_append_cf468) := goodIn_app (goodIn_of _ (by decide +kernel)) ggX2_appendLot_J4_append_cf468
theorem dX2_appendLot_0 : decode cX2_appendLot 0 = .ok (.iconst (-1), 1) := by decide +kernel
theorem dX2_appendLot_1 : decode cX2_appendLot 1 = .ok (.istore 4, 2) := by decide +kernel
theorem dX2_appendLot_3 : decode cX2_appendLot 3 = .ok (.iconst 0, 1) := by decide +kernel
theorem dX2_appendLot_4 : decode cX2_appendLot 4 = .ok (.istore 5, 2) := by decide +kernel
theorem dX2_appendLot_6 : decode cX2_appendLot 6 = .ok (.iconst 0, 1) := by decide +kernel
theorem dX2_appendLot_7 : decode cX2_appendLot 7 = .ok (.istore 6, 2) := by decide +kernel
theorem dX2_appendLot_9 : decode cX2_appendLot 9 = .ok (.iload 6, 2) := by decide +kernel
theorem dX2_appendLot_11 : decode cX2_appendLot 11 = .ok (.aload_n 0, 1) := by decide +kernel
theorem dX2_appendLot_12 : decode cX2_appendLot 12 = .ok (.getfield 18, 3) := by decide +kernel
theorem dX2_appendLot_15 : decode cX2_appendLot 15 = .ok (.if_icmp .ge 41, 3) := by decide +kernel
theorem dX2_appendLot_18 : decode cX2_appendLot 18 = .ok (.aload_n 2, 1) := by decide +kernel
theorem dX2_appendLot_19 : decode cX2_appendLot 19 = .ok (.aload_n 0, 1) := by decide +kernel
theorem dX2_appendLot_20 : decode cX2_appendLot 20 = .ok (.iload 6, 2) := by decide +kernel
theorem dX2_appendLot_22 : decode cX2_appendLot 22 = .ok (.invokevirtual 22, 3) := by decide +kernel
theorem dX2_appendLot_25 : decode cX2_appendLot 25 = .ok (.invokevirtual 86, 3) := by decide +kernel
theorem dX2_appendLot_28 : decode cX2_appendLot 28 = .ok (.iload_n 3, 1) := by decide +kernel
theorem dX2_appendLot_29 : decode cX2_appendLot 29 = .ok (.if_icmp .ne 21, 3) := by decide +kernel
theorem dX2_appendLot_32 : decode cX2_appendLot 32 = .ok (.iload 4, 2) := by decide +kernel
theorem dX2_appendLot_34 : decode cX2_appendLot 34 = .ok (.iconst (-1), 1) := by decide +kernel
theorem dX2_appendLot_35 : decode cX2_appendLot 35 = .ok (.if_icmp .ne 8, 3) := by decide +kernel
theorem dX2_appendLot_38 : decode cX2_appendLot 38 = .ok (.iload 6, 2) := by decide +kernel
theorem dX2_appendLot_40 : decode cX2_appendLot 40 = .ok (.goto 5, 3) := by decide +kernel
theorem dX2_appendLot_43 : decode cX2_appendLot 43 = .ok (.iload 4, 2) := by decide +kernel
theorem dX2_appendLot_45 : decode cX2_appendLot 45 = .ok (.istore 4, 2) := by decide +kernel
theorem dX2_appendLot_47 : decode cX2_appendLot 47 = .ok (.iinc 5 1, 3) := by decide +kernel
theorem dX2_appendLot_50 : decode cX2_appendLot 50 = .ok (.iinc 6 1, 3) := by decide +kernel
theorem dX2_appendLot_53 : decode cX2_appendLot 53 = .ok (.goto (-44), 3) := by decide +kernel
theorem dX2_appendLot_56 : decode cX2_appendLot 56 = .ok (.iload 5, 2) := by decide +kernel
theorem dX2_appendLot_58 : decode cX2_appendLot 58 = .ok (.ifCond .le 28, 3) := by decide +kernel
theorem dX2_appendLot_61 : decode cX2_appendLot 61 = .ok (.aload_n 1, 1) := by decide +kernel
theorem dX2_appendLot_62 : decode cX2_appendLot 62 = .ok (.invokestatic 65, 3) := by decide +kernel
theorem dX2_appendLot_65 : decode cX2_appendLot 65 = .ok (.aload_n 1, 1) := by decide +kernel
theorem dX2_appendLot_66 : decode cX2_appendLot 66 = .ok (.aload_n 0, 1) := by decide +kernel
theorem dX2_appendLot_67 : decode cX2_appendLot 67 = .ok (.iload 4, 2) := by decide +kernel
theorem dX2_appendLot_69 : decode cX2_appendLot 69 = .ok (.invokevirtual 26, 3) := by decide +kernel
theorem dX2_appendLot_72 : decode cX2_appendLot 72 = .ok (.invokevirtual 69, 3) := by decide +kernel
theorem dX2_appendLot_75 : decode cX2_appendLot 75 = .ok (.bipush 58, 2) := by decide +kernel
theorem dX2_appendLot_77 : decode cX2_appendLot 77 = .ok (.invokevirtual 72, 3) := by decide +kernel
theorem dX2_appendLot_80 : decode cX2_appendLot 80 = .ok (.iload 5, 2) := by decide +kernel
theorem dX2_appendLot_82 : decode cX2_appendLot 82 = .ok (.invokevirtual 69, 3) := by decide +kernel
theorem dX2_appendLot_85 : decode cX2_appendLot 85 = .ok (.pop, 1) := by decide +kernel
theorem dX2_appendLot_86 : decode cX2_appendLot 86 = .ok (.return_, 1) := by decide +kernel
theorem dX2_isOnSide_0 : decode cX2_isOnSide 0 = .ok (.iload_n 1, 1) := by decide +kernel
theorem dX2_isOnSide_1 : decode cX2_isOnSide 1 = .ok (.tableswitch 57 0 2 #[27, 37, 47], 27) := by decide +kernel
theorem dX2_isOnSide_28 : decode cX2_isOnSide 28 = .ok (.iload_n 0, 1) := by decide +kernel
theorem dX2_isOnSide_29 : decode cX2_isOnSide 29 = .ok (.ifCond .ge 7, 3) := by decide +kernel
theorem dX2_isOnSide_32 : decode cX2_isOnSide 32 = .ok (.iconst 1, 1) := by decide +kernel
theorem dX2_isOnSide_33 : decode cX2_isOnSide 33 = .ok (.goto 4, 3) := by decide +kernel
theorem dX2_isOnSide_36 : decode cX2_isOnSide 36 = .ok (.iconst 0, 1) := by decide +kernel
theorem dX2_isOnSide_37 : decode cX2_isOnSide 37 = .ok (.ireturn, 1) := by decide +kernel
theorem dX2_isOnSide_38 : decode cX2_isOnSide 38 = .ok (.iload_n 0, 1) := by decide +kernel
theorem dX2_isOnSide_39 : decode cX2_isOnSide 39 = .ok (.ifCond .gt 7, 3) := by decide +kernel
theorem dX2_isOnSide_42 : decode cX2_isOnSide 42 = .ok (.iconst 1, 1) := by decide +kernel
theorem dX2_isOnSide_43 : decode cX2_isOnSide 43 = .ok (.goto 4, 3) := by decide +kernel
theorem dX2_isOnSide_46 : decode cX2_isOnSide 46 = .ok (.iconst 0, 1) := by decide +kernel
theorem dX2_isOnSide_47 : decode cX2_isOnSide 47 = .ok (.ireturn, 1) := by decide +kernel
theorem dX2_isOnSide_48 : decode cX2_isOnSide 48 = .ok (.iload_n 0, 1) := by decide +kernel
theorem dX2_isOnSide_49 : decode cX2_isOnSide 49 = .ok (.ifCond .lt 7, 3) := by decide +kernel
theorem dX2_isOnSide_52 : decode cX2_isOnSide 52 = .ok (.iconst 1, 1) := by decide +kernel
theorem dX2_isOnSide_53 : decode cX2_isOnSide 53 = .ok (.goto 4, 3) := by decide +kernel
theorem dX2_isOnSide_56 : decode cX2_isOnSide 56 = .ok (.iconst 0, 1) := by decide +kernel
theorem dX2_isOnSide_57 : decode cX2_isOnSide 57 = .ok (.ireturn, 1) := by decide +kernel
theorem dX2_isOnSide_58 : decode cX2_isOnSide 58 = .ok (.iload_n 0, 1) := by decide +kernel
theorem dX2_isOnSide_59 : decode cX2_isOnSide 59 = .ok (.ifCond .le 7, 3) := by decide +kernel
theorem dX2_isOnSide_62 : decode cX2_isOnSide 62 = .ok (.iconst 1, 1) := by decide +kernel
theorem dX2_isOnSide_63 : decode cX2_isOnSide 63 = .ok (.goto 4, 3) := by decide +kernel
theorem dX2_isOnSide_66 : decode cX2_isOnSide 66 = .ok (.iconst 0, 1) := by decide +kernel
theorem dX2_isOnSide_67 : decode cX2_isOnSide 67 = .ok (.ireturn, 1) := by decide +kernel
set_option maxRecDepth 20000 in
theorem ggX2_isNearer_X2_valueOn : GoodIn wsX2_isNearer wsX2_valueOn := goodIn_r _ [5, 6, 13, 14, 15] (by decide +kernel) (by decide +kernel)
set_option maxRecDepth 20000 in
theorem gX2_isNearer_X2_valueOn : GoodIn wsX2_isNearer (wsV RX2 22 RX2 yX2_valueOn wsX2_valueOn) := goodIn_app (goodIn_of _ (by decide +kernel)) ggX2_isNearer_X2_valueOn
set_option maxRecDepth 20000 in
theorem ggX2_isNearer_X1_compared : GoodIn wsX2_isNearer wsX1_compared := goodIn_r _ [11, 12, 16, 17, 18, 19, 20, 21] (by decide +kernel) (by decide +kernel)
set_option maxRecDepth 20000 in
theorem gX2_isNearer_X1_compared : GoodIn wsX2_isNearer (wsV RX2 44 RX1 yX1_compared wsX1_compared) := goodIn_app (goodIn_of _ (by decide +kernel)) ggX2_isNearer_X1_compared
theorem dX2_isNearer_0 : decode cX2_isNearer 0 = .ok (.aload_n 1, 1) := by decide +kernel
theorem dX2_isNearer_1 : decode cX2_isNearer 1 = .ok (.aload_n 0, 1) := by decide +kernel
theorem dX2_isNearer_2 : decode cX2_isNearer 2 = .ok (.iload_n 2, 1) := by decide +kernel
theorem dX2_isNearer_3 : decode cX2_isNearer 3 = .ok (.invokevirtual 22, 3) := by decide +kernel
theorem dX2_isNearer_6 : decode cX2_isNearer 6 = .ok (.aload_n 0, 1) := by decide +kernel
theorem dX2_isNearer_7 : decode cX2_isNearer 7 = .ok (.iload_n 3, 1) := by decide +kernel
theorem dX2_isNearer_8 : decode cX2_isNearer 8 = .ok (.invokevirtual 22, 3) := by decide +kernel
theorem dX2_isNearer_11 : decode cX2_isNearer 11 = .ok (.invokevirtual 44, 3) := by decide +kernel
theorem dX2_isNearer_14 : decode cX2_isNearer 14 = .ok (.istore 5, 2) := by decide +kernel
theorem dX2_isNearer_16 : decode cX2_isNearer 16 = .ok (.iload 4, 2) := by decide +kernel
theorem dX2_isNearer_18 : decode cX2_isNearer 18 = .ok (.iconst 1, 1) := by decide +kernel
theorem dX2_isNearer_19 : decode cX2_isNearer 19 = .ok (.if_icmp .gt 16, 3) := by decide +kernel
theorem dX2_isNearer_22 : decode cX2_isNearer 22 = .ok (.iload 5, 2) := by decide +kernel
theorem dX2_isNearer_24 : decode cX2_isNearer 24 = .ok (.ifCond .le 7, 3) := by decide +kernel
theorem dX2_isNearer_27 : decode cX2_isNearer 27 = .ok (.iconst 1, 1) := by decide +kernel
theorem dX2_isNearer_28 : decode cX2_isNearer 28 = .ok (.goto 17, 3) := by decide +kernel
theorem dX2_isNearer_31 : decode cX2_isNearer 31 = .ok (.iconst 0, 1) := by decide +kernel
theorem dX2_isNearer_32 : decode cX2_isNearer 32 = .ok (.goto 13, 3) := by decide +kernel
theorem dX2_isNearer_35 : decode cX2_isNearer 35 = .ok (.iload 5, 2) := by decide +kernel
theorem dX2_isNearer_37 : decode cX2_isNearer 37 = .ok (.ifCond .ge 7, 3) := by decide +kernel
theorem dX2_isNearer_40 : decode cX2_isNearer 40 = .ok (.iconst 1, 1) := by decide +kernel
theorem dX2_isNearer_41 : decode cX2_isNearer 41 = .ok (.goto 4, 3) := by decide +kernel
theorem dX2_isNearer_44 : decode cX2_isNearer 44 = .ok (.iconst 0, 1) := by decide +kernel
theorem dX2_isNearer_45 : decode cX2_isNearer 45 = .ok (.ireturn, 1) := by decide +kernel
set_option maxRecDepth 20000 in
theorem ggX2_isFirstOfLot_X2_valueOn : GoodIn wsX2_isFirstOfLot wsX2_valueOn := goodIn_r _ [5, 6, 13, 14, 15] (by decide +kernel) (by decide +kernel)
set_option maxRecDepth 20000 in
theorem gX2_isFirstOfLot_X2_valueOn : GoodIn wsX2_isFirstOfLot (wsV RX2 22 RX2 yX2_valueOn wsX2_valueOn) := goodIn_app (goodIn_of _ (by decide +kernel)) ggX2_isFirstOfLot_X2_valueOn
set_option maxRecDepth 20000 in
theorem ggX2_isFirstOfLot_X1_compared : GoodIn wsX2_isFirstOfLot wsX1_compared := goodIn_r _ [11, 12, 16, 17, 18, 19, 20, 21] (by decide +kernel) (by decide +kernel)
set_option maxRecDepth 20000 in
theorem gX2_isFirstOfLot_X1_compared : GoodIn wsX2_isFirstOfLot (wsV RX2 44 RX1 yX1_compared wsX1_compared) := goodIn_app (goodIn_of _ (by decide +kernel)) ggX2_isFirstOfLot_X1_compared
theorem dX2_isFirstOfLot_0 : decode cX2_isFirstOfLot 0 = .ok (.iconst 0, 1) := by decide +kernel
theorem dX2_isFirstOfLot_1 : decode cX2_isFirstOfLot 1 = .ok (.istore_n 3, 1) := by decide +kernel
theorem dX2_isFirstOfLot_2 : decode cX2_isFirstOfLot 2 = .ok (.iload_n 3, 1) := by decide +kernel
theorem dX2_isFirstOfLot_3 : decode cX2_isFirstOfLot 3 = .ok (.iload_n 2, 1) := by decide +kernel
theorem dX2_isFirstOfLot_4 : decode cX2_isFirstOfLot 4 = .ok (.if_icmp .ge 28, 3) := by decide +kernel
theorem dX2_isFirstOfLot_7 : decode cX2_isFirstOfLot 7 = .ok (.aload_n 1, 1) := by decide +kernel
theorem dX2_isFirstOfLot_8 : decode cX2_isFirstOfLot 8 = .ok (.aload_n 0, 1) := by decide +kernel
theorem dX2_isFirstOfLot_9 : decode cX2_isFirstOfLot 9 = .ok (.iload_n 3, 1) := by decide +kernel
theorem dX2_isFirstOfLot_10 : decode cX2_isFirstOfLot 10 = .ok (.invokevirtual 22, 3) := by decide +kernel
theorem dX2_isFirstOfLot_13 : decode cX2_isFirstOfLot 13 = .ok (.aload_n 0, 1) := by decide +kernel
theorem dX2_isFirstOfLot_14 : decode cX2_isFirstOfLot 14 = .ok (.iload_n 2, 1) := by decide +kernel
theorem dX2_isFirstOfLot_15 : decode cX2_isFirstOfLot 15 = .ok (.invokevirtual 22, 3) := by decide +kernel
theorem dX2_isFirstOfLot_18 : decode cX2_isFirstOfLot 18 = .ok (.invokevirtual 44, 3) := by decide +kernel
theorem dX2_isFirstOfLot_21 : decode cX2_isFirstOfLot 21 = .ok (.ifCond .ne 5, 3) := by decide +kernel
theorem dX2_isFirstOfLot_24 : decode cX2_isFirstOfLot 24 = .ok (.iconst 0, 1) := by decide +kernel
theorem dX2_isFirstOfLot_25 : decode cX2_isFirstOfLot 25 = .ok (.ireturn, 1) := by decide +kernel
theorem dX2_isFirstOfLot_26 : decode cX2_isFirstOfLot 26 = .ok (.iinc 3 1, 3) := by decide +kernel
theorem dX2_isFirstOfLot_29 : decode cX2_isFirstOfLot 29 = .ok (.goto (-27), 3) := by decide +kernel
theorem dX2_isFirstOfLot_32 : decode cX2_isFirstOfLot 32 = .ok (.iconst 1, 1) := by decide +kernel
theorem dX2_isFirstOfLot_33 : decode cX2_isFirstOfLot 33 = .ok (.ireturn, 1) := by decide +kernel
