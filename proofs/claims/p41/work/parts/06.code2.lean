theorem dX4_wheel_69 : decode cX4_wheel 69 = .ok (.invokevirtual 91, 3) := by decide +kernel
theorem dX4_wheel_72 : decode cX4_wheel 72 = .ok (.invokevirtual 117, 3) := by decide +kernel
theorem dX4_wheel_75 : decode cX4_wheel 75 = .ok (.iinc 6 1, 3) := by decide +kernel
theorem dX4_wheel_78 : decode cX4_wheel 78 = .ok (.goto (-40), 3) := by decide +kernel
theorem dX4_wheel_81 : decode cX4_wheel 81 = .ok (.aload_n 3, 1) := by decide +kernel
theorem dX4_wheel_82 : decode cX4_wheel 82 = .ok (.iconst 0, 1) := by decide +kernel
theorem dX4_wheel_83 : decode cX4_wheel 83 = .ok (.invokevirtual 91, 3) := by decide +kernel
theorem dX4_wheel_86 : decode cX4_wheel 86 = .ok (.ireturn, 1) := by decide +kernel
set_option maxRecDepth 20000 in
theorem ggX4_swap_X4_rowAt : GoodIn wsX4_swap wsX4_rowAt := goodIn_ca (goodIn_r _ [5, 6, 7, 8, 37, 38, 39, 40, 41, 42, 43, 44, 45] (by decide +kernel) (by decide +kernel)) (goodIn_sub (fun _ h => List.mem_cons_of_mem _ (List.mem_append_right _ h)) (by decide +kernel))
set_option maxRecDepth 20000 in
theorem gX4_swap_X4_rowAt : GoodIn wsX4_swap (wsV RX4 55 RX4 yX4_rowAt wsX4_rowAt) := goodIn_app (goodIn_of _ (by decide +kernel)) ggX4_swap_X4_rowAt
set_option maxRecDepth 20000 in
theorem ggX4_swap_X4_demandPlace : GoodIn wsX4_swap wsX4_demandPlace := goodIn_ca (goodIn_r _ [11, 6, 7, 12, 13, 14, 15, 16, 17, 46, 47, 48] (by decide +kernel) (by decide +kernel)) (goodIn_sub (fun _ h => List.mem_cons_of_mem _ (List.mem_append_right _ h)) (by decide +kernel))
set_option maxRecDepth 20000 in
theorem gX4_swap_X4_demandPlace : GoodIn wsX4_swap (va_wsS RX4 88 yX4_demandPlace wsX4_demandPlace) := goodIn_app (goodIn_of _ (by decide +kernel)) ggX4_swap_X4_demandPlace
set_option maxRecDepth 20000 in
theorem ggX4_swap_X2_exchange : GoodIn wsX4_swap wsX2_exchange := goodIn_r _ [21, 22, 23, 24, 15, 25, 26, 27, 28, 29, 30, 31, 32, 33, 34, 35, 46, 47, 48] (by decide +kernel) (by decide +kernel)
set_option maxRecDepth 20000 in
theorem gX4_swap_X2_exchange : GoodIn wsX4_swap (wsV RX4 121 RX2 yX2_exchange wsX2_exchange) := goodIn_app (goodIn_of _ (by decide +kernel)) ggX4_swap_X2_exchange
set_option maxRecDepth 20000 in
theorem ggX4_swap_X2_valueOn : GoodIn wsX4_swap wsX2_valueOn := goodIn_r _ [25, 26, 46, 47, 48] (by decide +kernel) (by decide +kernel)
set_option maxRecDepth 20000 in
theorem gX4_swap_X2_valueOn : GoodIn wsX4_swap (wsV RX4 114 RX2 yX2_valueOn wsX2_valueOn) := goodIn_app (goodIn_of _ (by decide +kernel)) ggX4_swap_X2_valueOn
theorem dX4_swap_0 : decode cX4_swap 0 = .ok (.aload_n 0, 1) := by decide +kernel
theorem dX4_swap_1 : decode cX4_swap 1 = .ok (.iload_n 1, 1) := by decide +kernel
theorem dX4_swap_2 : decode cX4_swap 2 = .ok (.invokevirtual 55, 3) := by decide +kernel
theorem dX4_swap_5 : decode cX4_swap 5 = .ok (.astore 4, 2) := by decide +kernel
theorem dX4_swap_7 : decode cX4_swap 7 = .ok (.aload 4, 2) := by decide +kernel
theorem dX4_swap_9 : decode cX4_swap 9 = .ok (.iload_n 2, 1) := by decide +kernel
theorem dX4_swap_10 : decode cX4_swap 10 = .ok (.invokestatic 88, 3) := by decide +kernel
theorem dX4_swap_13 : decode cX4_swap 13 = .ok (.aload 4, 2) := by decide +kernel
theorem dX4_swap_15 : decode cX4_swap 15 = .ok (.iload_n 3, 1) := by decide +kernel
theorem dX4_swap_16 : decode cX4_swap 16 = .ok (.invokestatic 88, 3) := by decide +kernel
theorem dX4_swap_19 : decode cX4_swap 19 = .ok (.aload 4, 2) := by decide +kernel
theorem dX4_swap_21 : decode cX4_swap 21 = .ok (.iload_n 2, 1) := by decide +kernel
theorem dX4_swap_22 : decode cX4_swap 22 = .ok (.iload_n 3, 1) := by decide +kernel
theorem dX4_swap_23 : decode cX4_swap 23 = .ok (.invokevirtual 121, 3) := by decide +kernel
theorem dX4_swap_26 : decode cX4_swap 26 = .ok (.aload 4, 2) := by decide +kernel
theorem dX4_swap_28 : decode cX4_swap 28 = .ok (.iload_n 2, 1) := by decide +kernel
theorem dX4_swap_29 : decode cX4_swap 29 = .ok (.invokevirtual 114, 3) := by decide +kernel
theorem dX4_swap_32 : decode cX4_swap 32 = .ok (.aload 4, 2) := by decide +kernel
theorem dX4_swap_34 : decode cX4_swap 34 = .ok (.iload_n 3, 1) := by decide +kernel
theorem dX4_swap_35 : decode cX4_swap 35 = .ok (.invokevirtual 114, 3) := by decide +kernel
theorem dX4_swap_38 : decode cX4_swap 38 = .ok (.if_icmp .eq 7, 3) := by decide +kernel
theorem dX4_swap_41 : decode cX4_swap 41 = .ok (.iconst 1, 1) := by decide +kernel
theorem dX4_swap_42 : decode cX4_swap 42 = .ok (.goto 4, 3) := by decide +kernel
theorem dX4_swap_45 : decode cX4_swap 45 = .ok (.iconst 0, 1) := by decide +kernel
theorem dX4_swap_46 : decode cX4_swap 46 = .ok (.ireturn, 1) := by decide +kernel
set_option maxRecDepth 20000 in
theorem ggX4_sort_X4_rowAt : GoodIn wsX4_sort wsX4_rowAt := goodIn_ca (goodIn_r _ [7, 8, 9, 10, 107, 108, 109, 110, 111, 112, 113, 114, 115] (by decide +kernel) (by decide +kernel)) (goodIn_sub (fun _ h => List.mem_cons_of_mem _ (List.mem_append_left _ (List.mem_append_right _ h))) (by decide +kernel))
set_option maxRecDepth 20000 in
theorem gX4_sort_X4_rowAt : GoodIn wsX4_sort (wsV RX4 55 RX4 yX4_rowAt wsX4_rowAt) := goodIn_app (goodIn_of _ (by decide +kernel)) ggX4_sort_X4_rowAt
set_option maxRecDepth 20000 in
theorem ggX4_sort_X4_orderAt : GoodIn wsX4_sort wsX4_orderAt := goodIn_ca (goodIn_r _ [14, 8, 9, 15, 107, 108, 109, 110, 111, 112, 113, 114, 115] (by decide +kernel) (by decide +kernel)) (goodIn_sub (fun _ h => List.mem_cons_of_mem _ (List.mem_append_left _ (List.mem_append_right _ h))) (by decide +kernel))
set_option maxRecDepth 20000 in
theorem gX4_sort_X4_orderAt : GoodIn wsX4_sort (wsV RX4 124 RX4 yX4_orderAt wsX4_orderAt) := goodIn_app (goodIn_of _ (by decide +kernel)) ggX4_sort_X4_orderAt
set_option maxRecDepth 20000 in
theorem ggX4_sort_X4_demandWithin : GoodIn wsX4_sort wsX4_demandWithin := goodIn_ca (goodIn_r _ [18, 19, 20] (by decide +kernel) (by decide +kernel)) (goodIn_sub (fun _ h => List.mem_cons_of_mem _ (List.mem_append_right _ h)) (by decide +kernel))
set_option maxRecDepth 20000 in
theorem gX4_sort_X4_demandWithin : GoodIn wsX4_sort (va_wsS RX4 75 yX4_demandWithin wsX4_demandWithin) := goodIn_app (goodIn_of _ (by decide +kernel)) ggX4_sort_X4_demandWithin
set_option maxRecDepth 20000 in
theorem ggX4_sort_X2_becomeCopyOf : GoodIn wsX4_sort wsX2_becomeCopyOf := goodIn_r _ [25, 26, 27, 28, 29, 24, 30, 31, 32, 33, 34, 35, 36, 37, 38, 39, 40, 41, 42, 43, 44, 116, 117, 118] (by decide +kernel) (by decide +kernel)
set_option maxRecDepth 20000 in
theorem gX4_sort_X2_becomeCopyOf : GoodIn wsX4_sort (wsV RX4 101 RX2 yX2_becomeCopyOf wsX2_becomeCopyOf) := goodIn_app (goodIn_of _ (by decide +kernel)) ggX4_sort_X2_becomeCopyOf
set_option maxRecDepth 20000 in
theorem ggX4_sort_X3_arrangeAll : GoodIn wsX4_sort wsX3_arrangeAll := goodIn_r _ [49, 50, 28, 29, 24, 30, 26, 51, 52, 53, 48, 54, 55, 32, 33, 34, 35, 56, 57, 58, 59, 60, 61, 62, 63, 64, 65, 31, 36, 37, 38, 39, 40, 41, 42, 43, 44, 66, 67, 68, 69, 70, 71, 72, 73, 74, 75, 76, 77, 78, 79, 80, 81, 82, 83, 84, 85, 86, 87, 88, 22, 23, 25, 27, 89, 90, 91, 92, 93, 94, 95, 96, 97, 98, 99, 100, 101, 102, 116, 117, 118, 119, 120, 121, 122, 123, 124, 125] (by decide +kernel) (by decide +kernel)
set_option maxRecDepth 20000 in
theorem gX4_sort_X3_arrangeAll : GoodIn wsX4_sort (wsV RX4 128 RX3 yX3_arrangeAll wsX3_arrangeAll) := goodIn_app (goodIn_of _ (by decide +kernel)) ggX4_sort_X3_arrangeAll
set_option maxRecDepth 20000 in
theorem ggX4_sort_X2_placesUnlike : GoodIn wsX4_sort wsX2_placesUnlike := goodIn_r _ [106, 26, 36, 37, 38, 24, 39, 40, 116, 117, 118] (by decide +kernel) (by decide +kernel)
set_option maxRecDepth 20000 in
theorem gX4_sort_X2_placesUnlike : GoodIn wsX4_sort (wsV RX4 132 RX2 yX2_placesUnlike wsX2_placesUnlike) := goodIn_app (goodIn_of _ (by decide +kernel)) ggX4_sort_X2_placesUnlike
theorem dX4_sort_0 : decode cX4_sort 0 = .ok (.aload_n 0, 1) := by decide +kernel
theorem dX4_sort_1 : decode cX4_sort 1 = .ok (.iload_n 1, 1) := by decide +kernel
theorem dX4_sort_2 : decode cX4_sort 2 = .ok (.invokevirtual 55, 3) := by decide +kernel
theorem dX4_sort_5 : decode cX4_sort 5 = .ok (.astore 4, 2) := by decide +kernel
theorem dX4_sort_7 : decode cX4_sort 7 = .ok (.aload_n 0, 1) := by decide +kernel
theorem dX4_sort_8 : decode cX4_sort 8 = .ok (.iload_n 2, 1) := by decide +kernel
theorem dX4_sort_9 : decode cX4_sort 9 = .ok (.invokevirtual 124, 3) := by decide +kernel
theorem dX4_sort_12 : decode cX4_sort 12 = .ok (.astore 5, 2) := by decide +kernel
theorem dX4_sort_14 : decode cX4_sort 14 = .ok (.iload_n 3, 1) := by decide +kernel
theorem dX4_sort_15 : decode cX4_sort 15 = .ok (.iconst 2, 1) := by decide +kernel
theorem dX4_sort_16 : decode cX4_sort 16 = .ok (.invokestatic 75, 3) := by decide +kernel
theorem dX4_sort_19 : decode cX4_sort 19 = .ok (.aload_n 0, 1) := by decide +kernel
theorem dX4_sort_20 : decode cX4_sort 20 = .ok (.getfield 36, 3) := by decide +kernel
theorem dX4_sort_23 : decode cX4_sort 23 = .ok (.aload 4, 2) := by decide +kernel
theorem dX4_sort_25 : decode cX4_sort 25 = .ok (.invokevirtual 101, 3) := by decide +kernel
theorem dX4_sort_28 : decode cX4_sort 28 = .ok (.aload_n 0, 1) := by decide +kernel
theorem dX4_sort_29 : decode cX4_sort 29 = .ok (.getfield 24, 3) := by decide +kernel
theorem dX4_sort_32 : decode cX4_sort 32 = .ok (.aload 4, 2) := by decide +kernel
theorem dX4_sort_34 : decode cX4_sort 34 = .ok (.aload 5, 2) := by decide +kernel
theorem dX4_sort_36 : decode cX4_sort 36 = .ok (.iload_n 3, 1) := by decide +kernel
theorem dX4_sort_37 : decode cX4_sort 37 = .ok (.invokevirtual 128, 3) := by decide +kernel
theorem dX4_sort_40 : decode cX4_sort 40 = .ok (.aload 4, 2) := by decide +kernel
theorem dX4_sort_42 : decode cX4_sort 42 = .ok (.aload_n 0, 1) := by decide +kernel
theorem dX4_sort_43 : decode cX4_sort 43 = .ok (.getfield 36, 3) := by decide +kernel
theorem dX4_sort_46 : decode cX4_sort 46 = .ok (.invokevirtual 132, 3) := by decide +kernel
theorem dX4_sort_49 : decode cX4_sort 49 = .ok (.ireturn, 1) := by decide +kernel
set_option maxRecDepth 20000 in
theorem ggX4_sortPart_X4_rowAt : GoodIn wsX4_sortPart wsX4_rowAt := goodIn_ca (goodIn_r _ [9, 10, 11, 12, 66, 67, 68, 69, 70, 71, 72, 73, 74] (by decide +kernel) (by decide +kernel)) (goodIn_sub (fun _ h => List.mem_cons_of_mem _ (List.mem_append_right _ h)) (by decide +kernel))
set_option maxRecDepth 20000 in
theorem gX4_sortPart_X4_rowAt : GoodIn wsX4_sortPart (wsV RX4 55 RX4 yX4_rowAt wsX4_rowAt) := goodIn_app (goodIn_of _ (by decide +kernel)) ggX4_sortPart_X4_rowAt
set_option maxRecDepth 20000 in
theorem ggX4_sortPart_X4_orderAt : GoodIn wsX4_sortPart wsX4_orderAt := goodIn_ca (goodIn_r _ [16, 10, 11, 17, 66, 67, 68, 69, 70, 71, 72, 73, 74] (by decide +kernel) (by decide +kernel)) (goodIn_sub (fun _ h => List.mem_cons_of_mem _ (List.mem_append_right _ h)) (by decide +kernel))
set_option maxRecDepth 20000 in
theorem gX4_sortPart_X4_orderAt : GoodIn wsX4_sortPart (wsV RX4 124 RX4 yX4_orderAt wsX4_orderAt) := goodIn_app (goodIn_of _ (by decide +kernel)) ggX4_sortPart_X4_orderAt
set_option maxRecDepth 20000 in
theorem ggX4_sortPart_X4_demandGap : GoodIn wsX4_sortPart wsX4_demandGap := goodIn_ca (goodIn_r _ [20, 10, 11, 21, 22, 23, 24, 25, 26, 75, 76, 77] (by decide +kernel) (by decide +kernel)) (goodIn_sub (fun _ h => List.mem_cons_of_mem _ (List.mem_append_right _ h)) (by decide +kernel))
set_option maxRecDepth 20000 in
theorem gX4_sortPart_X4_demandGap : GoodIn wsX4_sortPart (va_wsS RX4 71 yX4_demandGap wsX4_demandGap) := goodIn_app (goodIn_of _ (by decide +kernel)) ggX4_sortPart_X4_demandGap
set_option maxRecDepth 20000 in
theorem ggX4_sortPart_X2_becomeCopyOf : GoodIn wsX4_sortPart wsX2_becomeCopyOf := goodIn_r _ [30, 26, 31, 22, 23, 24, 25, 32, 33, 34, 35, 36, 37, 38, 39, 40, 41, 42, 43, 44, 45, 75, 76, 77] (by decide +kernel) (by decide +kernel)
set_option maxRecDepth 20000 in
theorem gX4_sortPart_X2_becomeCopyOf : GoodIn wsX4_sortPart (wsV RX4 101 RX2 yX2_becomeCopyOf wsX2_becomeCopyOf) := goodIn_app (goodIn_of _ (by decide +kernel)) ggX4_sortPart_X2_becomeCopyOf
set_option maxRecDepth 20000 in
theorem ggX4_sortPart_X3_insertEach : GoodIn wsX4_sortPart wsX3_insertEach := goodIn_r _ [50, 51, 33, 34, 24, 35, 36, 52, 53, 54, 55, 56, 57, 58, 59, 60, 61, 32, 37, 38, 39, 40, 41, 42, 43, 44, 45, 75, 76, 77, 78, 79, 80, 81, 82, 83] (by decide +kernel) (by decide +kernel)
set_option maxRecDepth 20000 in
theorem gX4_sortPart_X3_insertEach : GoodIn wsX4_sortPart (wsV RX4 143 RX3 yX3_insertEach wsX3_insertEach) := goodIn_app (goodIn_of _ (by decide +kernel)) ggX4_sortPart_X3_insertEach
set_option maxRecDepth 20000 in
theorem ggX4_sortPart_X2_placesUnlike : GoodIn wsX4_sortPart wsX2_placesUnlike := goodIn_r _ [65, 26, 37, 38, 39, 24, 40, 41, 75, 76, 77] (by decide +kernel) (by decide +kernel)
set_option maxRecDepth 20000 in
theorem gX4_sortPart_X2_placesUnlike : GoodIn wsX4_sortPart (wsV RX4 132 RX2 yX2_placesUnlike wsX2_placesUnlike) := goodIn_app (goodIn_of _ (by decide +kernel)) ggX4_sortPart_X2_placesUnlike
theorem dX4_sortPart_0 : decode cX4_sortPart 0 = .ok (.aload_n 0, 1) := by decide +kernel
theorem dX4_sortPart_1 : decode cX4_sortPart 1 = .ok (.iload_n 1, 1) := by decide +kernel
theorem dX4_sortPart_2 : decode cX4_sortPart 2 = .ok (.invokevirtual 55, 3) := by decide +kernel
theorem dX4_sortPart_5 : decode cX4_sortPart 5 = .ok (.astore 5, 2) := by decide +kernel
theorem dX4_sortPart_7 : decode cX4_sortPart 7 = .ok (.aload_n 0, 1) := by decide +kernel
theorem dX4_sortPart_8 : decode cX4_sortPart 8 = .ok (.iload_n 2, 1) := by decide +kernel
theorem dX4_sortPart_9 : decode cX4_sortPart 9 = .ok (.invokevirtual 124, 3) := by decide +kernel
theorem dX4_sortPart_12 : decode cX4_sortPart 12 = .ok (.astore 6, 2) := by decide +kernel
theorem dX4_sortPart_14 : decode cX4_sortPart 14 = .ok (.aload 5, 2) := by decide +kernel
theorem dX4_sortPart_16 : decode cX4_sortPart 16 = .ok (.iload_n 3, 1) := by decide +kernel
theorem dX4_sortPart_17 : decode cX4_sortPart 17 = .ok (.invokestatic 71, 3) := by decide +kernel
theorem dX4_sortPart_20 : decode cX4_sortPart 20 = .ok (.aload 5, 2) := by decide +kernel
theorem dX4_sortPart_22 : decode cX4_sortPart 22 = .ok (.iload 4, 2) := by decide +kernel
theorem dX4_sortPart_24 : decode cX4_sortPart 24 = .ok (.invokestatic 71, 3) := by decide +kernel
theorem dX4_sortPart_27 : decode cX4_sortPart 27 = .ok (.iload_n 3, 1) := by decide +kernel
theorem dX4_sortPart_28 : decode cX4_sortPart 28 = .ok (.iload 4, 2) := by decide +kernel
theorem dX4_sortPart_30 : decode cX4_sortPart 30 = .ok (.if_icmp .le 13, 3) := by decide +kernel
theorem dX4_sortPart_33 : decode cX4_sortPart 33 = .ok (.new 136, 3) := by decide +kernel
theorem dX4_sortPart_36 : decode cX4_sortPart 36 = .ok (.dup, 1) := by decide +kernel
theorem dX4_sortPart_37 : decode cX4_sortPart 37 = .ok (.ldc 138, 2) := by decide +kernel
theorem dX4_sortPart_39 : decode cX4_sortPart 39 = .ok (.invokespecial 140, 3) := by decide +kernel
theorem dX4_sortPart_42 : decode cX4_sortPart 42 = .ok (.athrow, 1) := by decide +kernel
theorem dX4_sortPart_43 : decode cX4_sortPart 43 = .ok (.aload_n 0, 1) := by decide +kernel
theorem dX4_sortPart_44 : decode cX4_sortPart 44 = .ok (.getfield 36, 3) := by decide +kernel
theorem dX4_sortPart_47 : decode cX4_sortPart 47 = .ok (.aload 5, 2) := by decide +kernel
theorem dX4_sortPart_49 : decode cX4_sortPart 49 = .ok (.invokevirtual 101, 3) := by decide +kernel
theorem dX4_sortPart_52 : decode cX4_sortPart 52 = .ok (.aload_n 0, 1) := by decide +kernel
theorem dX4_sortPart_53 : decode cX4_sortPart 53 = .ok (.getfield 24, 3) := by decide +kernel
theorem dX4_sortPart_56 : decode cX4_sortPart 56 = .ok (.aload 5, 2) := by decide +kernel
theorem dX4_sortPart_58 : decode cX4_sortPart 58 = .ok (.aload 6, 2) := by decide +kernel
theorem dX4_sortPart_60 : decode cX4_sortPart 60 = .ok (.iload_n 3, 1) := by decide +kernel
theorem dX4_sortPart_61 : decode cX4_sortPart 61 = .ok (.iload 4, 2) := by decide +kernel
theorem dX4_sortPart_63 : decode cX4_sortPart 63 = .ok (.invokevirtual 143, 3) := by decide +kernel
theorem dX4_sortPart_66 : decode cX4_sortPart 66 = .ok (.aload 5, 2) := by decide +kernel
theorem dX4_sortPart_68 : decode cX4_sortPart 68 = .ok (.aload_n 0, 1) := by decide +kernel
theorem dX4_sortPart_69 : decode cX4_sortPart 69 = .ok (.getfield 36, 3) := by decide +kernel
theorem dX4_sortPart_72 : decode cX4_sortPart 72 = .ok (.invokevirtual 132, 3) := by decide +kernel
theorem dX4_sortPart_75 : decode cX4_sortPart 75 = .ok (.ireturn, 1) := by decide +kernel
set_option maxRecDepth 20000 in
theorem ggX4_isSorted_X4_rowAt : GoodIn wsX4_isSorted wsX4_rowAt := goodIn_ca (goodIn_r _ [5, 6, 7, 8, 31, 32, 33, 34, 35, 36, 37, 38, 39] (by decide +kernel) (by decide +kernel)) (goodIn_sub (fun _ h => List.mem_cons_of_mem _ (List.mem_append_right _ h)) (by decide +kernel))
set_option maxRecDepth 20000 in
theorem gX4_isSorted_X4_rowAt : GoodIn wsX4_isSorted (wsV RX4 55 RX4 yX4_rowAt wsX4_rowAt) := goodIn_app (goodIn_of _ (by decide +kernel)) ggX4_isSorted_X4_rowAt
set_option maxRecDepth 20000 in
theorem ggX4_isSorted_X4_orderAt : GoodIn wsX4_isSorted wsX4_orderAt := goodIn_ca (goodIn_r _ [12, 6, 7, 13, 31, 32, 33, 34, 35, 36, 37, 38, 39] (by decide +kernel) (by decide +kernel)) (goodIn_sub (fun _ h => List.mem_cons_of_mem _ (List.mem_append_right _ h)) (by decide +kernel))
set_option maxRecDepth 20000 in
theorem gX4_isSorted_X4_orderAt : GoodIn wsX4_isSorted (wsV RX4 124 RX4 yX4_orderAt wsX4_orderAt) := goodIn_app (goodIn_of _ (by decide +kernel)) ggX4_isSorted_X4_orderAt
set_option maxRecDepth 20000 in
theorem ggX4_isSorted_X2_isInSequenceBy : GoodIn wsX4_isSorted wsX2_isInSequenceBy := goodIn_r _ [18, 19, 20, 21, 22, 17, 23, 24, 25, 26, 27, 28, 29, 30, 40, 41, 42, 43, 44, 45, 46, 47, 48] (by decide +kernel) (by decide +kernel)
set_option maxRecDepth 20000 in
theorem gX4_isSorted_X2_isInSequenceBy : GoodIn wsX4_isSorted (wsV RX4 147 RX2 yX2_isInSequenceBy wsX2_isInSequenceBy) := goodIn_app (goodIn_of _ (by decide +kernel)) ggX4_isSorted_X2_isInSequenceBy
theorem dX4_isSorted_0 : decode cX4_isSorted 0 = .ok (.aload_n 0, 1) := by decide +kernel
theorem dX4_isSorted_1 : decode cX4_isSorted 1 = .ok (.iload_n 1, 1) := by decide +kernel
theorem dX4_isSorted_2 : decode cX4_isSorted 2 = .ok (.invokevirtual 55, 3) := by decide +kernel
theorem dX4_isSorted_5 : decode cX4_isSorted 5 = .ok (.astore_n 3, 1) := by decide +kernel
theorem dX4_isSorted_6 : decode cX4_isSorted 6 = .ok (.aload_n 3, 1) := by decide +kernel
theorem dX4_isSorted_7 : decode cX4_isSorted 7 = .ok (.aload_n 0, 1) := by decide +kernel
theorem dX4_isSorted_8 : decode cX4_isSorted 8 = .ok (.iload_n 2, 1) := by decide +kernel
theorem dX4_isSorted_9 : decode cX4_isSorted 9 = .ok (.invokevirtual 124, 3) := by decide +kernel
theorem dX4_isSorted_12 : decode cX4_isSorted 12 = .ok (.invokevirtual 147, 3) := by decide +kernel
theorem dX4_isSorted_15 : decode cX4_isSorted 15 = .ok (.ireturn, 1) := by decide +kernel
set_option maxRecDepth 20000 in
theorem ggX4_size_X4_rowAt : GoodIn wsX4_size wsX4_rowAt := goodIn_ca (goodIn_r _ [5, 6, 7, 8, 15, 16, 17, 18, 19, 20, 21, 22, 23] (by decide +kernel) (by decide +kernel)) (goodIn_sub (fun _ h => List.mem_cons_of_mem _ (List.mem_append_right _ h)) (by decide +kernel))
set_option maxRecDepth 20000 in
theorem gX4_size_X4_rowAt : GoodIn wsX4_size (wsV RX4 55 RX4 yX4_rowAt wsX4_rowAt) := goodIn_app (goodIn_of _ (by decide +kernel)) ggX4_size_X4_rowAt
set_option maxRecDepth 20000 in
theorem ggX4_size_X2_length : GoodIn wsX4_size wsX2_length := goodIn_r _ [13, 14, 24, 25, 26] (by decide +kernel) (by decide +kernel)
set_option maxRecDepth 20000 in
theorem gX4_size_X2_length : GoodIn wsX4_size (wsV RX4 63 RX2 yX2_length wsX2_length) := goodIn_app (goodIn_of _ (by decide +kernel)) ggX4_size_X2_length
theorem dX4_size_0 : decode cX4_size 0 = .ok (.aload_n 0, 1) := by decide +kernel
theorem dX4_size_1 : decode cX4_size 1 = .ok (.iload_n 1, 1) := by decide +kernel
theorem dX4_size_2 : decode cX4_size 2 = .ok (.invokevirtual 55, 3) := by decide +kernel
theorem dX4_size_5 : decode cX4_size 5 = .ok (.invokevirtual 63, 3) := by decide +kernel
theorem dX4_size_8 : decode cX4_size 8 = .ok (.ireturn, 1) := by decide +kernel
set_option maxRecDepth 20000 in
theorem ggX4_valueAt_X4_rowAt : GoodIn wsX4_valueAt wsX4_rowAt := goodIn_ca (goodIn_r _ [5, 6, 7, 8, 23, 24, 25, 26, 27, 28, 29, 30, 31] (by decide +kernel) (by decide +kernel)) (goodIn_sub (fun _ h => List.mem_cons_of_mem _ (List.mem_append_right _ h)) (by decide +kernel))
set_option maxRecDepth 20000 in
theorem gX4_valueAt_X4_rowAt : GoodIn wsX4_valueAt (wsV RX4 55 RX4 yX4_rowAt wsX4_rowAt) := goodIn_app (goodIn_of _ (by decide +kernel)) ggX4_valueAt_X4_rowAt
set_option maxRecDepth 20000 in
theorem ggX4_valueAt_X4_demandPlace : GoodIn wsX4_valueAt wsX4_demandPlace := goodIn_ca (goodIn_r _ [11, 6, 7, 12, 13, 14, 15, 16, 17, 32, 33, 34] (by decide +kernel) (by decide +kernel)) (goodIn_sub (fun _ h => List.mem_cons_of_mem _ (List.mem_append_right _ h)) (by decide +kernel))
set_option maxRecDepth 20000 in
theorem gX4_valueAt_X4_demandPlace : GoodIn wsX4_valueAt (va_wsS RX4 88 yX4_demandPlace wsX4_demandPlace) := goodIn_app (goodIn_of _ (by decide +kernel)) ggX4_valueAt_X4_demandPlace
set_option maxRecDepth 20000 in
theorem ggX4_valueAt_X2_valueOn : GoodIn wsX4_valueAt wsX2_valueOn := goodIn_r _ [21, 22, 32, 33, 34] (by decide +kernel) (by decide +kernel)
set_option maxRecDepth 20000 in
theorem gX4_valueAt_X2_valueOn : GoodIn wsX4_valueAt (wsV RX4 114 RX2 yX2_valueOn wsX2_valueOn) := goodIn_app (goodIn_of _ (by decide +kernel)) ggX4_valueAt_X2_valueOn
theorem dX4_valueAt_0 : decode cX4_valueAt 0 = .ok (.aload_n 0, 1) := by decide +kernel
theorem dX4_valueAt_1 : decode cX4_valueAt 1 = .ok (.iload_n 1, 1) := by decide +kernel
theorem dX4_valueAt_2 : decode cX4_valueAt 2 = .ok (.invokevirtual 55, 3) := by decide +kernel
theorem dX4_valueAt_5 : decode cX4_valueAt 5 = .ok (.astore_n 3, 1) := by decide +kernel
theorem dX4_valueAt_6 : decode cX4_valueAt 6 = .ok (.aload_n 3, 1) := by decide +kernel
theorem dX4_valueAt_7 : decode cX4_valueAt 7 = .ok (.iload_n 2, 1) := by decide +kernel
theorem dX4_valueAt_8 : decode cX4_valueAt 8 = .ok (.invokestatic 88, 3) := by decide +kernel
theorem dX4_valueAt_11 : decode cX4_valueAt 11 = .ok (.aload_n 3, 1) := by decide +kernel
theorem dX4_valueAt_12 : decode cX4_valueAt 12 = .ok (.iload_n 2, 1) := by decide +kernel
theorem dX4_valueAt_13 : decode cX4_valueAt 13 = .ok (.invokevirtual 114, 3) := by decide +kernel
theorem dX4_valueAt_16 : decode cX4_valueAt 16 = .ok (.ireturn, 1) := by decide +kernel
set_option maxRecDepth 20000 in
theorem ggX4_markAt_X4_rowAt : GoodIn wsX4_markAt wsX4_rowAt := goodIn_ca (goodIn_r _ [5, 6, 7, 8, 23, 24, 25, 26, 27, 28, 29, 30, 31] (by decide +kernel) (by decide +kernel)) (goodIn_sub (fun _ h => List.mem_cons_of_mem _ (List.mem_append_right _ h)) (by decide +kernel))
set_option maxRecDepth 20000 in
theorem gX4_markAt_X4_rowAt : GoodIn wsX4_markAt (wsV RX4 55 RX4 yX4_rowAt wsX4_rowAt) := goodIn_app (goodIn_of _ (by decide +kernel)) ggX4_markAt_X4_rowAt
set_option maxRecDepth 20000 in
theorem ggX4_markAt_X4_demandPlace : GoodIn wsX4_markAt wsX4_demandPlace := goodIn_ca (goodIn_r _ [11, 6, 7, 12, 13, 14, 15, 16, 17, 32, 33, 34] (by decide +kernel) (by decide +kernel)) (goodIn_sub (fun _ h => List.mem_cons_of_mem _ (List.mem_append_right _ h)) (by decide +kernel))
set_option maxRecDepth 20000 in
theorem gX4_markAt_X4_demandPlace : GoodIn wsX4_markAt (va_wsS RX4 88 yX4_demandPlace wsX4_demandPlace) := goodIn_app (goodIn_of _ (by decide +kernel)) ggX4_markAt_X4_demandPlace
set_option maxRecDepth 20000 in
theorem ggX4_markAt_X2_markOn : GoodIn wsX4_markAt wsX2_markOn := goodIn_r _ [21, 22, 32, 33, 34] (by decide +kernel) (by decide +kernel)
set_option maxRecDepth 20000 in
theorem gX4_markAt_X2_markOn : GoodIn wsX4_markAt (wsV RX4 91 RX2 yX2_markOn wsX2_markOn) := goodIn_app (goodIn_of _ (by decide +kernel)) ggX4_markAt_X2_markOn
theorem dX4_markAt_0 : decode cX4_markAt 0 = .ok (.aload_n 0, 1) := by decide +kernel
theorem dX4_markAt_1 : decode cX4_markAt 1 = .ok (.iload_n 1, 1) := by decide +kernel
theorem dX4_markAt_2 : decode cX4_markAt 2 = .ok (.invokevirtual 55, 3) := by decide +kernel
theorem dX4_markAt_5 : decode cX4_markAt 5 = .ok (.astore_n 3, 1) := by decide +kernel
theorem dX4_markAt_6 : decode cX4_markAt 6 = .ok (.aload_n 3, 1) := by decide +kernel
theorem dX4_markAt_7 : decode cX4_markAt 7 = .ok (.iload_n 2, 1) := by decide +kernel
theorem dX4_markAt_8 : decode cX4_markAt 8 = .ok (.invokestatic 88, 3) := by decide +kernel
theorem dX4_markAt_11 : decode cX4_markAt 11 = .ok (.aload_n 3, 1) := by decide +kernel
theorem dX4_markAt_12 : decode cX4_markAt 12 = .ok (.iload_n 2, 1) := by decide +kernel
theorem dX4_markAt_13 : decode cX4_markAt 13 = .ok (.invokevirtual 91, 3) := by decide +kernel
theorem dX4_markAt_16 : decode cX4_markAt 16 = .ok (.ireturn, 1) := by decide +kernel
set_option maxRecDepth 20000 in
theorem ggX4_text_X4_rowAt : GoodIn wsX4_text wsX4_rowAt := goodIn_ca (goodIn_r _ [5, 6, 7, 8, 247, 248, 249, 250, 251, 252, 253, 254, 255] (by decide +kernel) (by decide +kernel)) (goodIn_sub (fun _ h => List.mem_cons_of_mem _ (List.mem_append_right _ h)) (by decide +kernel))
set_option maxRecDepth 20000 in
theorem gX4_text_X4_rowAt : GoodIn wsX4_text (wsV RX4 55 RX4 yX4_rowAt wsX4_rowAt) := goodIn_app (goodIn_of _ (by decide +kernel)) ggX4_text_X4_rowAt
set_option maxRecDepth 20000 in
theorem ggX4_text_X2_told : GoodIn wsX4_text wsX2_told := goodIn_r _ [13, 14, 15, 16, 17, 18, 19, 20, 21, 22, 23, 24, 25, 26, 27, 28, 29, 30, 31, 32, 33, 34, 35, 36, 37, 38, 39, 40, 4, 41, 42, 43, 44, 45, 46, 47, 48, 49, 50, 51, 52, 53, 54, 55, 56, 57, 58, 59, 60, 61, 62, 63, 64, 65, 66, 67, 68, 69, 70, 71, 72, 73, 74, 75, 76, 77, 78, 79, 80, 81, 82, 83, 84, 85, 86, 87, 88, 89, 90, 91, 92, 93, 94, 95, 96, 97, 98, 99, 100, 101, 102, 103, 104, 105, 106, 107, 108, 109, 110, 111, 112, 113, 114, 115, 116, 117, 118, 119, 120, 121, 122, 123, 124, 125, 126, 127, 128, 129, 130, 131, 132, 133, 134, 135, 136, 137, 138, 139, 140, 141, 142, 143, 144, 145, 146, 147, 148, 149, 150, 151, 152, 153, 154, 155, 12, 156, 157, 158, 159, 160, 161, 162, 163, 164, 165, 166, 167, 168, 169, 170, 171, 172, 173, 174, 175, 176, 177, 178, 179, 180, 181, 182, 183, 184, 185, 186, 187, 188, 189, 190, 191, 192, 193, 194, 195, 196, 197, 198, 199, 200, 201, 202, 203, 204, 205, 206, 207, 208, 209, 210, 211, 212, 213, 214, 215, 216, 217, 218, 219, 220, 221, 222, 223, 224, 225, 226, 227, 228, 229, 230, 231, 232, 233, 234, 235, 236, 237, 238, 239, 240, 241, 242, 243, 244, 245, 246, 256, 257, 258, 259, 260, 261, 262, 263, 264, 265, 266] (by decide +kernel) (by decide +kernel)
set_option maxRecDepth 20000 in
theorem gX4_text_X2_told : GoodIn wsX4_text (wsV RX4 151 RX2 yX2_told wsX2_told) := goodIn_app (goodIn_of _ (by decide +kernel)) ggX4_text_X2_told
theorem dX4_text_0 : decode cX4_text 0 = .ok (.aload_n 0, 1) := by decide +kernel
theorem dX4_text_1 : decode cX4_text 1 = .ok (.iload_n 1, 1) := by decide +kernel
theorem dX4_text_2 : decode cX4_text 2 = .ok (.invokevirtual 55, 3) := by decide +kernel
theorem dX4_text_5 : decode cX4_text 5 = .ok (.invokevirtual 151, 3) := by decide +kernel
theorem dX4_text_8 : decode cX4_text 8 = .ok (.areturn, 1) := by decide +kernel
set_option maxRecDepth 20000 in
theorem ggX4_extreme_X4_rowAt : GoodIn wsX4_extreme wsX4_rowAt := goodIn_ca (goodIn_r _ [5, 6, 7, 8, 41, 42, 43, 44, 45, 46, 47, 48, 49] (by decide +kernel) (by decide +kernel)) (goodIn_sub (fun _ h => List.mem_cons_of_mem _ (List.mem_append_right _ h)) (by decide +kernel))
set_option maxRecDepth 20000 in
theorem gX4_extreme_X4_rowAt : GoodIn wsX4_extreme (wsV RX4 55 RX4 yX4_rowAt wsX4_rowAt) := goodIn_app (goodIn_of _ (by decide +kernel)) ggX4_extreme_X4_rowAt
set_option maxRecDepth 20000 in
theorem ggX4_extreme_X4_orderAt : GoodIn wsX4_extreme wsX4_orderAt := goodIn_ca (goodIn_r _ [12, 6, 7, 13, 41, 42, 43, 44, 45, 46, 47, 48, 49] (by decide +kernel) (by decide +kernel)) (goodIn_sub (fun _ h => List.mem_cons_of_mem _ (List.mem_append_right _ h)) (by decide +kernel))
set_option maxRecDepth 20000 in
theorem gX4_extreme_X4_orderAt : GoodIn wsX4_extreme (wsV RX4 124 RX4 yX4_orderAt wsX4_orderAt) := goodIn_app (goodIn_of _ (by decide +kernel)) ggX4_extreme_X4_orderAt
set_option maxRecDepth 20000 in
theorem ggX4_extreme_X2_lastPlaceBy : GoodIn wsX4_extreme wsX2_lastPlaceBy := goodIn_r _ [18, 19, 20, 21, 22, 17, 23, 24, 25, 26, 27, 28, 29, 30, 50, 51, 52, 53, 54, 55, 56, 57, 58] (by decide +kernel) (by decide +kernel)
set_option maxRecDepth 20000 in
theorem gX4_extreme_X2_lastPlaceBy : GoodIn wsX4_extreme (wsV RX4 155 RX2 yX2_lastPlaceBy wsX2_lastPlaceBy) := goodIn_app (goodIn_of _ (by decide +kernel)) ggX4_extreme_X2_lastPlaceBy
set_option maxRecDepth 20000 in
theorem ggX4_extreme_X2_firstPlaceBy : GoodIn wsX4_extreme wsX2_firstPlaceBy := goodIn_r _ [34, 19, 20, 21, 22, 17, 23, 24, 25, 26, 27, 28, 29, 30, 50, 51, 52, 53, 54, 55, 56, 57, 58] (by decide +kernel) (by decide +kernel)
set_option maxRecDepth 20000 in
theorem gX4_extreme_X2_firstPlaceBy : GoodIn wsX4_extreme (wsV RX4 159 RX2 yX2_firstPlaceBy wsX2_firstPlaceBy) := goodIn_app (goodIn_of _ (by decide +kernel)) ggX4_extreme_X2_firstPlaceBy
set_option maxRecDepth 20000 in
theorem ggX4_extreme_X2_valueOn : GoodIn wsX4_extreme wsX2_valueOn := goodIn_r _ [23, 24, 50, 51, 52] (by decide +kernel) (by decide +kernel)
set_option maxRecDepth 20000 in
theorem gX4_extreme_X2_valueOn : GoodIn wsX4_extreme (wsV RX4 114 RX2 yX2_valueOn wsX2_valueOn) := goodIn_app (goodIn_of _ (by decide +kernel)) ggX4_extreme_X2_valueOn
set_option maxRecDepth 20000 in
theorem ggX4_extreme_X1_rankOf : GoodIn wsX4_extreme wsX1_rankOf := goodIn_r _ [39, 40, 53, 54, 55, 56, 57, 58] (by decide +kernel) (by decide +kernel)
set_option maxRecDepth 20000 in
theorem gX4_extreme_X1_rankOf : GoodIn wsX4_extreme (wsV RX4 162 RX1 yX1_rankOf wsX1_rankOf) := goodIn_app (goodIn_of _ (by decide +kernel)) ggX4_extreme_X1_rankOf
theorem dX4_extreme_0 : decode cX4_extreme 0 = .ok (.aload_n 0, 1) := by decide +kernel
theorem dX4_extreme_1 : decode cX4_extreme 1 = .ok (.iload_n 1, 1) := by decide +kernel
theorem dX4_extreme_2 : decode cX4_extreme 2 = .ok (.invokevirtual 55, 3) := by decide +kernel
theorem dX4_extreme_5 : decode cX4_extreme 5 = .ok (.astore 4, 2) := by decide +kernel
theorem dX4_extreme_7 : decode cX4_extreme 7 = .ok (.aload_n 0, 1) := by decide +kernel
theorem dX4_extreme_8 : decode cX4_extreme 8 = .ok (.iload_n 2, 1) := by decide +kernel
theorem dX4_extreme_9 : decode cX4_extreme 9 = .ok (.invokevirtual 124, 3) := by decide +kernel
theorem dX4_extreme_12 : decode cX4_extreme 12 = .ok (.astore 5, 2) := by decide +kernel
theorem dX4_extreme_14 : decode cX4_extreme 14 = .ok (.iload_n 3, 1) := by decide +kernel
theorem dX4_extreme_15 : decode cX4_extreme 15 = .ok (.ifCond .eq 13, 3) := by decide +kernel
theorem dX4_extreme_18 : decode cX4_extreme 18 = .ok (.aload 4, 2) := by decide +kernel
theorem dX4_extreme_20 : decode cX4_extreme 20 = .ok (.aload 5, 2) := by decide +kernel
theorem dX4_extreme_22 : decode cX4_extreme 22 = .ok (.invokevirtual 155, 3) := by decide +kernel
theorem dX4_extreme_25 : decode cX4_extreme 25 = .ok (.goto 10, 3) := by decide +kernel
theorem dX4_extreme_28 : decode cX4_extreme 28 = .ok (.aload 4, 2) := by decide +kernel
theorem dX4_extreme_30 : decode cX4_extreme 30 = .ok (.aload 5, 2) := by decide +kernel
theorem dX4_extreme_32 : decode cX4_extreme 32 = .ok (.invokevirtual 159, 3) := by decide +kernel
theorem dX4_extreme_35 : decode cX4_extreme 35 = .ok (.istore 6, 2) := by decide +kernel
theorem dX4_extreme_37 : decode cX4_extreme 37 = .ok (.iload 6, 2) := by decide +kernel
theorem dX4_extreme_39 : decode cX4_extreme 39 = .ok (.iconst (-1), 1) := by decide +kernel
theorem dX4_extreme_40 : decode cX4_extreme 40 = .ok (.if_icmp .ne 7, 3) := by decide +kernel
theorem dX4_extreme_43 : decode cX4_extreme 43 = .ok (.iconst (-1), 1) := by decide +kernel
theorem dX4_extreme_44 : decode cX4_extreme 44 = .ok (.goto 15, 3) := by decide +kernel
theorem dX4_extreme_47 : decode cX4_extreme 47 = .ok (.aload 5, 2) := by decide +kernel
theorem dX4_extreme_49 : decode cX4_extreme 49 = .ok (.aload 4, 2) := by decide +kernel
theorem dX4_extreme_51 : decode cX4_extreme 51 = .ok (.iload 6, 2) := by decide +kernel
theorem dX4_extreme_53 : decode cX4_extreme 53 = .ok (.invokevirtual 114, 3) := by decide +kernel
theorem dX4_extreme_56 : decode cX4_extreme 56 = .ok (.invokevirtual 162, 3) := by decide +kernel
theorem dX4_extreme_59 : decode cX4_extreme 59 = .ok (.ireturn, 1) := by decide +kernel
set_option maxRecDepth 20000 in
theorem ggX4_search_X4_rowAt : GoodIn wsX4_search wsX4_rowAt := goodIn_ca (goodIn_r _ [5, 6, 7, 8, 52, 53, 54, 55, 56, 57, 58, 59, 60] (by decide +kernel) (by decide +kernel)) (goodIn_sub (fun _ h => List.mem_cons_of_mem _ (List.mem_append_left _ (List.mem_append_right _ h))) (by decide +kernel))
set_option maxRecDepth 20000 in
theorem gX4_search_X4_rowAt : GoodIn wsX4_search (wsV RX4 55 RX4 yX4_rowAt wsX4_rowAt) := goodIn_app (goodIn_of _ (by decide +kernel)) ggX4_search_X4_rowAt
set_option maxRecDepth 20000 in
theorem ggX4_search_X4_orderAt : GoodIn wsX4_search wsX4_orderAt := goodIn_ca (goodIn_r _ [12, 6, 7, 13, 52, 53, 54, 55, 56, 57, 58, 59, 60] (by decide +kernel) (by decide +kernel)) (goodIn_sub (fun _ h => List.mem_cons_of_mem _ (List.mem_append_left _ (List.mem_append_right _ h))) (by decide +kernel))
set_option maxRecDepth 20000 in
theorem gX4_search_X4_orderAt : GoodIn wsX4_search (wsV RX4 124 RX4 yX4_orderAt wsX4_orderAt) := goodIn_app (goodIn_of _ (by decide +kernel)) ggX4_search_X4_orderAt
set_option maxRecDepth 20000 in
theorem ggX4_search_X4_demandValue : GoodIn wsX4_search wsX4_demandValue := goodIn_ca (goodIn_r _ [16, 17, 18, 4, 19, 20, 21] (by decide +kernel) (by decide +kernel)) (goodIn_sub (fun _ h => List.mem_cons_of_mem _ (List.mem_append_right _ h)) (by decide +kernel))
set_option maxRecDepth 20000 in
theorem gX4_search_X4_demandValue : GoodIn wsX4_search (va_wsS RX4 59 yX4_demandValue wsX4_demandValue) := goodIn_app (goodIn_of _ (by decide +kernel)) ggX4_search_X4_demandValue
set_option maxRecDepth 20000 in
theorem ggX4_search_X2_isInSequenceBy : GoodIn wsX4_search wsX2_isInSequenceBy := goodIn_r _ [26, 27, 28, 29, 30, 25, 31, 32, 33, 34, 35, 36, 37, 38, 61, 62, 63, 64, 65, 66, 67, 68, 69] (by decide +kernel) (by decide +kernel)
set_option maxRecDepth 20000 in
theorem gX4_search_X2_isInSequenceBy : GoodIn wsX4_search (wsV RX4 147 RX2 yX2_isInSequenceBy wsX2_isInSequenceBy) := goodIn_app (goodIn_of _ (by decide +kernel)) ggX4_search_X2_isInSequenceBy
set_option maxRecDepth 20000 in
theorem ggX4_search_X4_refuse : GoodIn wsX4_search wsX4_refuse := goodIn_r _ [42, 43, 52, 53, 54, 55, 56, 57, 58, 59, 60] (by decide +kernel) (by decide +kernel)
set_option maxRecDepth 20000 in
theorem gX4_search_X4_refuse : GoodIn wsX4_search (wsV RX4 79 RX4 yX4_refuse wsX4_refuse) := goodIn_app (goodIn_of _ (by decide +kernel)) ggX4_search_X4_refuse
set_option maxRecDepth 20000 in
theorem ggX4_search_X2_hasAlike : GoodIn wsX4_search wsX2_hasAlike := goodIn_r _ [47, 27, 28, 29, 30, 25, 31, 32, 33, 34, 35, 36, 37, 38, 61, 62, 63, 64, 65, 66, 67, 68, 69] (by decide +kernel) (by decide +kernel)
set_option maxRecDepth 20000 in
theorem gX4_search_X2_hasAlike : GoodIn wsX4_search (wsV RX4 165 RX2 yX2_hasAlike wsX2_hasAlike) := goodIn_app (goodIn_of _ (by decide +kernel)) ggX4_search_X2_hasAlike
set_option maxRecDepth 20000 in
theorem ggX4_search_X2_thingsAhead : GoodIn wsX4_search wsX2_thingsAhead := goodIn_r _ [51, 27, 28, 29, 30, 25, 31, 32, 33, 34, 35, 36, 37, 38, 61, 62, 63, 64, 65, 66, 67, 68, 69] (by decide +kernel) (by decide +kernel)
set_option maxRecDepth 20000 in
theorem gX4_search_X2_thingsAhead : GoodIn wsX4_search (wsV RX4 169 RX2 yX2_thingsAhead wsX2_thingsAhead) := goodIn_app (goodIn_of _ (by decide +kernel)) ggX4_search_X2_thingsAhead
theorem dX4_search_0 : decode cX4_search 0 = .ok (.aload_n 0, 1) := by decide +kernel
theorem dX4_search_1 : decode cX4_search 1 = .ok (.iload_n 1, 1) := by decide +kernel
theorem dX4_search_2 : decode cX4_search 2 = .ok (.invokevirtual 55, 3) := by decide +kernel
theorem dX4_search_5 : decode cX4_search 5 = .ok (.astore 4, 2) := by decide +kernel
theorem dX4_search_7 : decode cX4_search 7 = .ok (.aload_n 0, 1) := by decide +kernel
theorem dX4_search_8 : decode cX4_search 8 = .ok (.iload_n 2, 1) := by decide +kernel
theorem dX4_search_9 : decode cX4_search 9 = .ok (.invokevirtual 124, 3) := by decide +kernel
theorem dX4_search_12 : decode cX4_search 12 = .ok (.astore 5, 2) := by decide +kernel
theorem dX4_search_14 : decode cX4_search 14 = .ok (.iload_n 3, 1) := by decide +kernel
theorem dX4_search_15 : decode cX4_search 15 = .ok (.invokestatic 59, 3) := by decide +kernel
theorem dX4_search_18 : decode cX4_search 18 = .ok (.aload 4, 2) := by decide +kernel
theorem dX4_search_20 : decode cX4_search 20 = .ok (.aload 5, 2) := by decide +kernel
theorem dX4_search_22 : decode cX4_search 22 = .ok (.invokevirtual 147, 3) := by decide +kernel
theorem dX4_search_25 : decode cX4_search 25 = .ok (.ifCond .ne 8, 3) := by decide +kernel
theorem dX4_search_28 : decode cX4_search 28 = .ok (.aload_n 0, 1) := by decide +kernel
theorem dX4_search_29 : decode cX4_search 29 = .ok (.invokevirtual 79, 3) := by decide +kernel
theorem dX4_search_32 : decode cX4_search 32 = .ok (.ireturn, 1) := by decide +kernel
theorem dX4_search_33 : decode cX4_search 33 = .ok (.aload 4, 2) := by decide +kernel
theorem dX4_search_35 : decode cX4_search 35 = .ok (.aload 5, 2) := by decide +kernel
theorem dX4_search_37 : decode cX4_search 37 = .ok (.iload_n 3, 1) := by decide +kernel
theorem dX4_search_38 : decode cX4_search 38 = .ok (.invokevirtual 165, 3) := by decide +kernel
theorem dX4_search_41 : decode cX4_search 41 = .ok (.ifCond .eq 8, 3) := by decide +kernel
theorem dX4_search_44 : decode cX4_search 44 = .ok (.bipush 16, 2) := by decide +kernel
theorem dX4_search_46 : decode cX4_search 46 = .ok (.goto 11, 3) := by decide +kernel
theorem dX4_search_49 : decode cX4_search 49 = .ok (.aload 4, 2) := by decide +kernel
theorem dX4_search_51 : decode cX4_search 51 = .ok (.aload 5, 2) := by decide +kernel
theorem dX4_search_53 : decode cX4_search 53 = .ok (.iload_n 3, 1) := by decide +kernel
theorem dX4_search_54 : decode cX4_search 54 = .ok (.invokevirtual 169, 3) := by decide +kernel
theorem dX4_search_57 : decode cX4_search 57 = .ok (.ireturn, 1) := by decide +kernel
set_option maxRecDepth 20000 in
theorem ggX4_near_X4_rowAt : GoodIn wsX4_near wsX4_rowAt := goodIn_ca (goodIn_r _ [5, 6, 7, 8, 51, 52, 53, 54, 55, 56, 57, 58, 59] (by decide +kernel) (by decide +kernel)) (goodIn_sub (fun _ h => List.mem_cons_of_mem _ (List.mem_append_left _ (List.mem_append_right _ h))) (by decide +kernel))
set_option maxRecDepth 20000 in
theorem gX4_near_X4_rowAt : GoodIn wsX4_near (wsV RX4 55 RX4 yX4_rowAt wsX4_rowAt) := goodIn_app (goodIn_of _ (by decide +kernel)) ggX4_near_X4_rowAt
set_option maxRecDepth 20000 in
theorem ggX4_near_X4_orderAt : GoodIn wsX4_near wsX4_orderAt := goodIn_ca (goodIn_r _ [12, 6, 7, 13, 51, 52, 53, 54, 55, 56, 57, 58, 59] (by decide +kernel) (by decide +kernel)) (goodIn_sub (fun _ h => List.mem_cons_of_mem _ (List.mem_append_left _ (List.mem_append_right _ h))) (by decide +kernel))
set_option maxRecDepth 20000 in
theorem gX4_near_X4_orderAt : GoodIn wsX4_near (wsV RX4 124 RX4 yX4_orderAt wsX4_orderAt) := goodIn_app (goodIn_of _ (by decide +kernel)) ggX4_near_X4_orderAt
set_option maxRecDepth 20000 in
theorem ggX4_near_X4_demandValue : GoodIn wsX4_near wsX4_demandValue := goodIn_ca (goodIn_r _ [16, 17, 18, 4, 19, 20, 21] (by decide +kernel) (by decide +kernel)) (goodIn_sub (fun _ h => List.mem_cons_of_mem _ (List.mem_append_right _ h)) (by decide +kernel))
set_option maxRecDepth 20000 in
theorem gX4_near_X4_demandValue : GoodIn wsX4_near (va_wsS RX4 59 yX4_demandValue wsX4_demandValue) := goodIn_app (goodIn_of _ (by decide +kernel)) ggX4_near_X4_demandValue
set_option maxRecDepth 20000 in
theorem ggX4_near_X4_demandWithin : GoodIn wsX4_near wsX4_demandWithin := goodIn_ca (goodIn_r _ [19, 20, 21] (by decide +kernel) (by decide +kernel)) (goodIn_sub (fun _ h => List.mem_cons_of_mem _ (List.mem_append_right _ h)) (by decide +kernel))
set_option maxRecDepth 20000 in
theorem gX4_near_X4_demandWithin : GoodIn wsX4_near (va_wsS RX4 75 yX4_demandWithin wsX4_demandWithin) := goodIn_app (goodIn_of _ (by decide +kernel)) ggX4_near_X4_demandWithin
set_option maxRecDepth 20000 in
theorem ggX4_near_X2_nearestPlace : GoodIn wsX4_near wsX2_nearestPlace := goodIn_r _ [26, 27, 28, 29, 30, 25, 31, 32, 33, 34, 35, 36, 37, 38, 39, 40, 41, 42, 43, 44, 45, 60, 61, 62, 63, 64, 65, 66, 67, 68] (by decide +kernel) (by decide +kernel)
set_option maxRecDepth 20000 in
theorem gX4_near_X2_nearestPlace : GoodIn wsX4_near (wsV RX4 173 RX2 yX2_nearestPlace wsX2_nearestPlace) := goodIn_app (goodIn_of _ (by decide +kernel)) ggX4_near_X2_nearestPlace
set_option maxRecDepth 20000 in
theorem ggX4_near_X2_markOn : GoodIn wsX4_near wsX2_markOn := goodIn_r _ [49, 50, 60, 61, 62] (by decide +kernel) (by decide +kernel)
set_option maxRecDepth 20000 in
theorem gX4_near_X2_markOn : GoodIn wsX4_near (wsV RX4 91 RX2 yX2_markOn wsX2_markOn) := goodIn_app (goodIn_of _ (by decide +kernel)) ggX4_near_X2_markOn
theorem dX4_near_0 : decode cX4_near 0 = .ok (.aload_n 0, 1) := by decide +kernel
theorem dX4_near_1 : decode cX4_near 1 = .ok (.iload_n 1, 1) := by decide +kernel
theorem dX4_near_2 : decode cX4_near 2 = .ok (.invokevirtual 55, 3) := by decide +kernel
theorem dX4_near_5 : decode cX4_near 5 = .ok (.astore 5, 2) := by decide +kernel
theorem dX4_near_7 : decode cX4_near 7 = .ok (.aload_n 0, 1) := by decide +kernel
theorem dX4_near_8 : decode cX4_near 8 = .ok (.iload_n 2, 1) := by decide +kernel
theorem dX4_near_9 : decode cX4_near 9 = .ok (.invokevirtual 124, 3) := by decide +kernel
theorem dX4_near_12 : decode cX4_near 12 = .ok (.astore 6, 2) := by decide +kernel
theorem dX4_near_14 : decode cX4_near 14 = .ok (.iload_n 3, 1) := by decide +kernel
theorem dX4_near_15 : decode cX4_near 15 = .ok (.invokestatic 59, 3) := by decide +kernel
theorem dX4_near_18 : decode cX4_near 18 = .ok (.iload 4, 2) := by decide +kernel
theorem dX4_near_20 : decode cX4_near 20 = .ok (.iconst 3, 1) := by decide +kernel
theorem dX4_near_21 : decode cX4_near 21 = .ok (.invokestatic 75, 3) := by decide +kernel
theorem dX4_near_24 : decode cX4_near 24 = .ok (.aload 5, 2) := by decide +kernel
theorem dX4_near_26 : decode cX4_near 26 = .ok (.aload 6, 2) := by decide +kernel
theorem dX4_near_28 : decode cX4_near 28 = .ok (.iload_n 3, 1) := by decide +kernel
theorem dX4_near_29 : decode cX4_near 29 = .ok (.iload 4, 2) := by decide +kernel
theorem dX4_near_31 : decode cX4_near 31 = .ok (.invokevirtual 173, 3) := by decide +kernel
theorem dX4_near_34 : decode cX4_near 34 = .ok (.istore 7, 2) := by decide +kernel
theorem dX4_near_36 : decode cX4_near 36 = .ok (.iload 7, 2) := by decide +kernel
theorem dX4_near_38 : decode cX4_near 38 = .ok (.iconst (-1), 1) := by decide +kernel
theorem dX4_near_39 : decode cX4_near 39 = .ok (.if_icmp .ne 7, 3) := by decide +kernel
theorem dX4_near_42 : decode cX4_near 42 = .ok (.iconst (-1), 1) := by decide +kernel
theorem dX4_near_43 : decode cX4_near 43 = .ok (.goto 10, 3) := by decide +kernel
theorem dX4_near_46 : decode cX4_near 46 = .ok (.aload 5, 2) := by decide +kernel
theorem dX4_near_48 : decode cX4_near 48 = .ok (.iload 7, 2) := by decide +kernel
theorem dX4_near_50 : decode cX4_near 50 = .ok (.invokevirtual 91, 3) := by decide +kernel
theorem dX4_near_53 : decode cX4_near 53 = .ok (.ireturn, 1) := by decide +kernel
set_option maxRecDepth 20000 in
theorem ggX4_kinds_X4_rowAt : GoodIn wsX4_kinds wsX4_rowAt := goodIn_ca (goodIn_r _ [5, 6, 7, 8, 35, 36, 37, 38, 39, 40, 41, 42, 43] (by decide +kernel) (by decide +kernel)) (goodIn_sub (fun _ h => List.mem_cons_of_mem _ (List.mem_append_right _ h)) (by decide +kernel))
set_option maxRecDepth 20000 in
theorem gX4_kinds_X4_rowAt : GoodIn wsX4_kinds (wsV RX4 55 RX4 yX4_rowAt wsX4_rowAt) := goodIn_app (goodIn_of _ (by decide +kernel)) ggX4_kinds_X4_rowAt
set_option maxRecDepth 20000 in
theorem ggX4_kinds_X4_orderAt : GoodIn wsX4_kinds wsX4_orderAt := goodIn_ca (goodIn_r _ [12, 6, 7, 13, 35, 36, 37, 38, 39, 40, 41, 42, 43] (by decide +kernel) (by decide +kernel)) (goodIn_sub (fun _ h => List.mem_cons_of_mem _ (List.mem_append_right _ h)) (by decide +kernel))
set_option maxRecDepth 20000 in
theorem gX4_kinds_X4_orderAt : GoodIn wsX4_kinds (wsV RX4 124 RX4 yX4_orderAt wsX4_orderAt) := goodIn_app (goodIn_of _ (by decide +kernel)) ggX4_kinds_X4_orderAt
set_option maxRecDepth 20000 in
theorem ggX4_kinds_X2_lots : GoodIn wsX4_kinds wsX2_lots := goodIn_r _ [18, 19, 20, 21, 22, 17, 23, 24, 25, 26, 27, 28, 29, 30, 31, 32, 33, 34, 44, 45, 46, 47, 48, 49, 50, 51, 52] (by decide +kernel) (by decide +kernel)
set_option maxRecDepth 20000 in
theorem gX4_kinds_X2_lots : GoodIn wsX4_kinds (wsV RX4 177 RX2 yX2_lots wsX2_lots) := goodIn_app (goodIn_of _ (by decide +kernel)) ggX4_kinds_X2_lots
theorem dX4_kinds_0 : decode cX4_kinds 0 = .ok (.aload_n 0, 1) := by decide +kernel
theorem dX4_kinds_1 : decode cX4_kinds 1 = .ok (.iload_n 1, 1) := by decide +kernel
theorem dX4_kinds_2 : decode cX4_kinds 2 = .ok (.invokevirtual 55, 3) := by decide +kernel
theorem dX4_kinds_5 : decode cX4_kinds 5 = .ok (.astore_n 3, 1) := by decide +kernel
theorem dX4_kinds_6 : decode cX4_kinds 6 = .ok (.aload_n 3, 1) := by decide +kernel
theorem dX4_kinds_7 : decode cX4_kinds 7 = .ok (.aload_n 0, 1) := by decide +kernel
theorem dX4_kinds_8 : decode cX4_kinds 8 = .ok (.iload_n 2, 1) := by decide +kernel
theorem dX4_kinds_9 : decode cX4_kinds 9 = .ok (.invokevirtual 124, 3) := by decide +kernel
theorem dX4_kinds_12 : decode cX4_kinds 12 = .ok (.invokevirtual 177, 3) := by decide +kernel
theorem dX4_kinds_15 : decode cX4_kinds 15 = .ok (.ireturn, 1) := by decide +kernel
set_option maxRecDepth 20000 in
theorem ggX4_ahead_X4_rowAt : GoodIn wsX4_ahead wsX4_rowAt := goodIn_ca (goodIn_r _ [5, 6, 7, 8, 43, 44, 45, 46, 47, 48, 49, 50, 51] (by decide +kernel) (by decide +kernel)) (goodIn_sub (fun _ h => List.mem_cons_of_mem _ (List.mem_append_left _ (List.mem_append_right _ h))) (by decide +kernel))
set_option maxRecDepth 20000 in
theorem gX4_ahead_X4_rowAt : GoodIn wsX4_ahead (wsV RX4 55 RX4 yX4_rowAt wsX4_rowAt) := goodIn_app (goodIn_of _ (by decide +kernel)) ggX4_ahead_X4_rowAt
set_option maxRecDepth 20000 in
theorem ggX4_ahead_X4_orderAt : GoodIn wsX4_ahead wsX4_orderAt := goodIn_ca (goodIn_r _ [12, 6, 7, 13, 43, 44, 45, 46, 47, 48, 49, 50, 51] (by decide +kernel) (by decide +kernel)) (goodIn_sub (fun _ h => List.mem_cons_of_mem _ (List.mem_append_left _ (List.mem_append_right _ h))) (by decide +kernel))
set_option maxRecDepth 20000 in
theorem gX4_ahead_X4_orderAt : GoodIn wsX4_ahead (wsV RX4 124 RX4 yX4_orderAt wsX4_orderAt) := goodIn_app (goodIn_of _ (by decide +kernel)) ggX4_ahead_X4_orderAt
set_option maxRecDepth 20000 in
theorem ggX4_ahead_X4_demandValue : GoodIn wsX4_ahead wsX4_demandValue := goodIn_ca (goodIn_r _ [16, 17, 18, 4, 19, 20, 21] (by decide +kernel) (by decide +kernel)) (goodIn_sub (fun _ h => List.mem_cons_of_mem _ (List.mem_append_right _ h)) (by decide +kernel))
set_option maxRecDepth 20000 in
theorem gX4_ahead_X4_demandValue : GoodIn wsX4_ahead (va_wsS RX4 59 yX4_demandValue wsX4_demandValue) := goodIn_app (goodIn_of _ (by decide +kernel)) ggX4_ahead_X4_demandValue
set_option maxRecDepth 20000 in
theorem ggX4_ahead_X2_lotsAhead : GoodIn wsX4_ahead wsX2_lotsAhead := goodIn_r _ [26, 27, 28, 29, 30, 25, 31, 32, 33, 34, 35, 36, 37, 38, 39, 40, 41, 42, 52, 53, 54, 55, 56, 57, 58, 59, 60] (by decide +kernel) (by decide +kernel)
set_option maxRecDepth 20000 in
theorem gX4_ahead_X2_lotsAhead : GoodIn wsX4_ahead (wsV RX4 180 RX2 yX2_lotsAhead wsX2_lotsAhead) := goodIn_app (goodIn_of _ (by decide +kernel)) ggX4_ahead_X2_lotsAhead
theorem dX4_ahead_0 : decode cX4_ahead 0 = .ok (.aload_n 0, 1) := by decide +kernel
theorem dX4_ahead_1 : decode cX4_ahead 1 = .ok (.iload_n 1, 1) := by decide +kernel
theorem dX4_ahead_2 : decode cX4_ahead 2 = .ok (.invokevirtual 55, 3) := by decide +kernel
theorem dX4_ahead_5 : decode cX4_ahead 5 = .ok (.astore 4, 2) := by decide +kernel
theorem dX4_ahead_7 : decode cX4_ahead 7 = .ok (.aload_n 0, 1) := by decide +kernel
theorem dX4_ahead_8 : decode cX4_ahead 8 = .ok (.iload_n 2, 1) := by decide +kernel
theorem dX4_ahead_9 : decode cX4_ahead 9 = .ok (.invokevirtual 124, 3) := by decide +kernel
theorem dX4_ahead_12 : decode cX4_ahead 12 = .ok (.astore 5, 2) := by decide +kernel
theorem dX4_ahead_14 : decode cX4_ahead 14 = .ok (.iload_n 3, 1) := by decide +kernel
theorem dX4_ahead_15 : decode cX4_ahead 15 = .ok (.invokestatic 59, 3) := by decide +kernel
theorem dX4_ahead_18 : decode cX4_ahead 18 = .ok (.aload 4, 2) := by decide +kernel
theorem dX4_ahead_20 : decode cX4_ahead 20 = .ok (.aload 5, 2) := by decide +kernel
theorem dX4_ahead_22 : decode cX4_ahead 22 = .ok (.iload_n 3, 1) := by decide +kernel
theorem dX4_ahead_23 : decode cX4_ahead 23 = .ok (.invokevirtual 180, 3) := by decide +kernel
theorem dX4_ahead_26 : decode cX4_ahead 26 = .ok (.ireturn, 1) := by decide +kernel
set_option maxRecDepth 20000 in
theorem ggX4_groups_X4_rowAt : GoodIn wsX4_groups wsX4_rowAt := goodIn_ca (goodIn_r _ [5, 6, 7, 8, 267, 268, 269, 270, 271, 272, 273, 274, 275] (by decide +kernel) (by decide +kernel)) (goodIn_sub (fun _ h => List.mem_cons_of_mem _ (List.mem_append_right _ h)) (by decide +kernel))
set_option maxRecDepth 20000 in
theorem gX4_groups_X4_rowAt : GoodIn wsX4_groups (wsV RX4 55 RX4 yX4_rowAt wsX4_rowAt) := goodIn_app (goodIn_of _ (by decide +kernel)) ggX4_groups_X4_rowAt
set_option maxRecDepth 20000 in
theorem ggX4_groups_X4_orderAt : GoodIn wsX4_groups wsX4_orderAt := goodIn_ca (goodIn_r _ [12, 6, 7, 13, 267, 268, 269, 270, 271, 272, 273, 274, 275] (by decide +kernel) (by decide +kernel)) (goodIn_sub (fun _ h => List.mem_cons_of_mem _ (List.mem_append_right _ h)) (by decide +kernel))
set_option maxRecDepth 20000 in
theorem gX4_groups_X4_orderAt : GoodIn wsX4_groups (wsV RX4 124 RX4 yX4_orderAt wsX4_orderAt) := goodIn_app (goodIn_of _ (by decide +kernel)) ggX4_groups_X4_orderAt
set_option maxRecDepth 20000 in
theorem ggX4_groups_X2_lotsTold : GoodIn wsX4_groups wsX2_lotsTold := goodIn_r _ [18, 19, 20, 21, 22, 23, 24, 25, 26, 27, 28, 29, 30, 31, 32, 33, 34, 35, 36, 37, 38, 39, 40, 41, 42, 43, 44, 45, 46, 47, 48, 49, 50, 51, 52, 17, 53, 54, 55, 56, 57, 58, 59, 60, 61, 62, 63, 64, 65, 4, 66, 67, 68, 69, 70, 71, 72, 73, 74, 75, 76, 77, 78, 79, 80, 81, 82, 83, 84, 85, 86, 87, 88, 89, 90, 91, 92, 93, 94, 95, 96, 97, 98, 99, 100, 101, 102, 103, 104, 105, 106, 107, 108, 109, 110, 111, 112, 113, 114, 115, 116, 117, 118, 119, 120, 121, 122, 123, 124, 125, 126, 127, 128, 129, 130, 131, 132, 133, 134, 135, 136, 137, 138, 139, 140, 141, 142, 143, 144, 145, 146, 147, 148, 149, 150, 151, 152, 153, 154, 155, 156, 157, 158, 159, 160, 161, 162, 163, 164, 165, 166, 167, 168, 169, 170, 171, 172, 173, 174, 175, 176, 177, 178, 179, 180, 181, 182, 183, 184, 185, 186, 187, 188, 189, 190, 191, 192, 193, 194, 195, 196, 197, 198, 199, 200, 201, 202, 203, 204, 205, 206, 207, 208, 209, 210, 211, 212, 213, 214, 215, 216, 217, 218, 219, 220, 221, 222, 223, 224, 225, 226, 227, 228, 229, 230, 231, 232, 233, 234, 235, 236, 237, 238, 239, 240, 241, 242, 243, 244, 245, 246, 247, 248, 249, 250, 251, 252, 253, 254, 255, 256, 257, 258, 259, 260, 261, 262, 263, 264, 265, 266, 276, 277, 278, 279, 280, 281, 282, 283, 284, 285, 286, 287, 288, 289, 290, 291, 292] (by decide +kernel) (by decide +kernel)
set_option maxRecDepth 20000 in
theorem gX4_groups_X2_lotsTold : GoodIn wsX4_groups (wsV RX4 183 RX2 yX2_lotsTold wsX2_lotsTold) := goodIn_app (goodIn_of _ (by decide +kernel)) ggX4_groups_X2_lotsTold
theorem dX4_groups_0 : decode cX4_groups 0 = .ok (.aload_n 0, 1) := by decide +kernel
theorem dX4_groups_1 : decode cX4_groups 1 = .ok (.iload_n 1, 1) := by decide +kernel
theorem dX4_groups_2 : decode cX4_groups 2 = .ok (.invokevirtual 55, 3) := by decide +kernel
theorem dX4_groups_5 : decode cX4_groups 5 = .ok (.astore_n 3, 1) := by decide +kernel
theorem dX4_groups_6 : decode cX4_groups 6 = .ok (.aload_n 3, 1) := by decide +kernel
theorem dX4_groups_7 : decode cX4_groups 7 = .ok (.aload_n 0, 1) := by decide +kernel
theorem dX4_groups_8 : decode cX4_groups 8 = .ok (.iload_n 2, 1) := by decide +kernel
theorem dX4_groups_9 : decode cX4_groups 9 = .ok (.invokevirtual 124, 3) := by decide +kernel
theorem dX4_groups_12 : decode cX4_groups 12 = .ok (.invokevirtual 183, 3) := by decide +kernel
theorem dX4_groups_15 : decode cX4_groups 15 = .ok (.areturn, 1) := by decide +kernel
set_option maxRecDepth 20000 in
theorem ggX4_ranks_X4_rowAt : GoodIn wsX4_ranks wsX4_rowAt := goodIn_ca (goodIn_r _ [9, 10, 11, 12, 282, 283, 284, 285, 286, 287, 288, 289, 290] (by decide +kernel) (by decide +kernel)) (goodIn_sub (fun _ h => List.mem_cons_of_mem _ (List.mem_append_right _ h)) (by decide +kernel))
set_option maxRecDepth 20000 in
theorem gX4_ranks_X4_rowAt : GoodIn wsX4_ranks (wsV RX4 55 RX4 yX4_rowAt wsX4_rowAt) := goodIn_app (goodIn_of _ (by decide +kernel)) ggX4_ranks_X4_rowAt
set_option maxRecDepth 20000 in
theorem ggX4_ranks_X4_orderAt : GoodIn wsX4_ranks wsX4_orderAt := goodIn_ca (goodIn_r _ [16, 10, 11, 17, 282, 283, 284, 285, 286, 287, 288, 289, 290] (by decide +kernel) (by decide +kernel)) (goodIn_sub (fun _ h => List.mem_cons_of_mem _ (List.mem_append_right _ h)) (by decide +kernel))
set_option maxRecDepth 20000 in
theorem gX4_ranks_X4_orderAt : GoodIn wsX4_ranks (wsV RX4 124 RX4 yX4_orderAt wsX4_orderAt) := goodIn_app (goodIn_of _ (by decide +kernel)) ggX4_ranks_X4_orderAt
set_option maxRecDepth 20000 in
theorem ggX4_ranks_X2_becomeCopyOf : GoodIn wsX4_ranks wsX2_becomeCopyOf := goodIn_r _ [22, 23, 24, 25, 26, 21, 27, 28, 29, 30, 31, 32, 33, 34, 35, 36, 37, 38, 39, 40, 41, 295, 296, 297] (by decide +kernel) (by decide +kernel)
set_option maxRecDepth 20000 in
theorem gX4_ranks_X2_becomeCopyOf : GoodIn wsX4_ranks (wsV RX4 101 RX2 yX2_becomeCopyOf wsX2_becomeCopyOf) := goodIn_app (goodIn_of _ (by decide +kernel)) ggX4_ranks_X2_becomeCopyOf
set_option maxRecDepth 20000 in
theorem ggX4_ranks_J4_init_da8c8 : GoodIn wsX4_ranks wsJ4_init_da8c8 := goodIn_r _ [44, 45, 46, 47, 48, 49, 50, 51, 52, 53, 54, 55, 56, 57, 58, 59, 60, 61, 62, 63, 291, 292, 293, 294] (by decide +kernel) (by decide +kernel)
set_option maxRecDepth 20000 in
theorem gX4_ranks_J4_init_da8c8 : GoodIn wsX4_ranks (wsJ4_init_da8c8) := ggX4_ranks_J4_init_da8c8
set_option maxRecDepth 20000 in
theorem ggX4_ranks_X2_length : GoodIn wsX4_ranks wsX2_length := goodIn_r _ [27, 23, 295, 296, 297] (by decide +kernel) (by decide +kernel)
set_option maxRecDepth 20000 in
theorem gX4_ranks_X2_length : GoodIn wsX4_ranks (wsV RX4 63 RX2 yX2_length wsX2_length) := goodIn_app (goodIn_of _ (by decide +kernel)) ggX4_ranks_X2_length
set_option maxRecDepth 20000 in
theorem ggX4_ranks_X2_firstPlaceBy : GoodIn wsX4_ranks wsX2_firstPlaceBy := goodIn_r _ [68, 23, 28, 29, 30, 21, 31, 32, 69, 70, 71, 72, 73, 74, 295, 296, 297, 298, 299, 300, 301, 302, 303] (by decide +kernel) (by decide +kernel)
set_option maxRecDepth 20000 in
theorem gX4_ranks_X2_firstPlaceBy : GoodIn wsX4_ranks (wsV RX4 159 RX2 yX2_firstPlaceBy wsX2_firstPlaceBy) := goodIn_app (goodIn_of _ (by decide +kernel)) ggX4_ranks_X2_firstPlaceBy
set_option maxRecDepth 20000 in
theorem ggX4_ranks_X4_appendGap : GoodIn wsX4_ranks wsX4_appendGap := goodIn_r _ [77, 78, 79, 80, 4, 81, 82, 83, 84, 85, 47, 86, 87, 88, 89, 90, 91, 92, 93, 94, 95, 54, 96, 97, 98, 99, 100, 55, 101, 102, 103, 104, 105, 106, 107, 108, 109, 110, 111, 112, 113, 114, 115, 116, 117, 118, 119, 120, 121, 122, 123, 124, 125, 126, 127, 128, 53, 129, 130, 131, 132, 133, 134, 135, 136, 137, 138, 139, 140, 52, 141, 142, 143, 144, 145, 146, 147, 148, 149, 56, 57, 58, 59, 60, 61, 62, 63, 150, 151, 152, 153, 154, 155, 156, 157, 158, 159, 160, 161, 162, 163, 164, 165, 166, 167, 168, 169, 170, 171, 172, 173, 174, 175, 176, 177, 178, 179, 180, 181, 182, 183, 184, 185, 186, 187, 188, 291, 292, 293, 294] (by decide +kernel) (by decide +kernel)
set_option maxRecDepth 20000 in
theorem gX4_ranks_X4_appendGap : GoodIn wsX4_ranks (va_wsS RX4 190 yX4_appendGap wsX4_appendGap) := goodIn_app (goodIn_of _ (by decide +kernel)) ggX4_ranks_X4_appendGap
set_option maxRecDepth 20000 in
theorem ggX4_ranks_X2_valueOn : GoodIn wsX4_ranks wsX2_valueOn := goodIn_r _ [31, 32, 295, 296, 297] (by decide +kernel) (by decide +kernel)
set_option maxRecDepth 20000 in
theorem gX4_ranks_X2_valueOn : GoodIn wsX4_ranks (wsV RX4 114 RX2 yX2_valueOn wsX2_valueOn) := goodIn_app (goodIn_of _ (by decide +kernel)) ggX4_ranks_X2_valueOn
set_option maxRecDepth 20000 in
theorem ggX4_ranks_X1_rankOf : GoodIn wsX4_ranks wsX1_rankOf := goodIn_r _ [193, 194, 298, 299, 300, 301, 302, 303] (by decide +kernel) (by decide +kernel)
set_option maxRecDepth 20000 in
theorem gX4_ranks_X1_rankOf : GoodIn wsX4_ranks (wsV RX4 162 RX1 yX1_rankOf wsX1_rankOf) := goodIn_app (goodIn_of _ (by decide +kernel)) ggX4_ranks_X1_rankOf
set_option maxRecDepth 20000 in
theorem ggX4_ranks_J4_append_bf812 : GoodIn wsX4_ranks wsJ4_append_bf812 := goodIn_r _ [198, 199, 200, 84, 201, 47, 202, 87, 54, 203, 204, 205, 206, 96, 97, 98, 99, 100, 55, 101, 102, 103, 104, 105, 106, 107, 108, 109, 110, 111, 112, 113, 114, 115, 116, 117, 118, 119, 120, 121, 122, 123, 124, 125, 126, 127, 128, 53, 129, 130, 131, 132, 133, 134, 135, 136, 137, 138, 139, 140, 52, 207, 208, 209, 210, 211, 212, 213, 58, 214, 174, 215, 216, 217, 159, 160, 161, 218, 219, 164, 220, 166, 221, 222, 169, 223, 224, 225, 226, 227, 228, 171, 172, 173, 175, 176, 291, 292, 293, 294] (by decide +kernel) (by decide +kernel)
set_option maxRecDepth 20000 in
theorem gX4_ranks_J4_append_bf812 : GoodIn wsX4_ranks (wsV RX4 194 RJ4 yJ4_append_bf812 wsJ4_append_bf812) := goodIn_app (goodIn_of _ (by decide +kernel)) ggX4_ranks_J4_append_bf812
set_option maxRecDepth 20000 in
theorem ggX4_ranks_X2_remove : GoodIn wsX4_ranks wsX2_remove := goodIn_r _ [232, 23, 28, 29, 30, 21, 31, 32, 33, 34, 35, 36, 37, 38, 39, 40, 41, 295, 296, 297] (by decide +kernel) (by decide +kernel)
set_option maxRecDepth 20000 in
theorem gX4_ranks_X2_remove : GoodIn wsX4_ranks (wsV RX4 95 RX2 yX2_remove wsX2_remove) := goodIn_app (goodIn_of _ (by decide +kernel)) ggX4_ranks_X2_remove
set_option maxRecDepth 20000 in
theorem ggX4_ranks_J4_toString_0e30d : GoodIn wsX4_ranks wsJ4_toString_0e30d := goodIn_r _ [236, 237, 238, 164, 239, 240, 241, 242, 243, 244, 245, 50, 51, 246, 247, 248, 249, 250, 251, 252, 253, 47, 254, 54, 255, 83, 256, 257, 79, 4, 81, 82, 84, 85, 86, 87, 258, 137, 138, 139, 140, 52, 55, 259, 260, 121, 261, 123, 124, 125, 126, 127, 128, 262, 263, 264, 53, 129, 130, 113, 131, 132, 133, 134, 135, 265, 266, 267, 268, 3, 269, 270, 58, 271, 272, 273, 274, 156, 157, 158, 159, 160, 161, 162, 163, 165, 166, 167, 168, 169, 170, 275, 276, 277, 174, 175, 176, 60, 61, 62, 63, 278, 279, 280, 281, 304, 305, 306, 307, 291, 292, 293, 294] (by decide +kernel) (by decide +kernel)
set_option maxRecDepth 20000 in
theorem gX4_ranks_J4_toString_0e30d : GoodIn wsX4_ranks (wsV RX4 197 RJ4 yJ4_toString_0e30d wsJ4_toString_0e30d) := goodIn_app (goodIn_of _ (by decide +kernel)) ggX4_ranks_J4_toString_0e30d
theorem dX4_ranks_0 : decode cX4_ranks 0 = .ok (.aload_n 0, 1) := by decide +kernel
theorem dX4_ranks_1 : decode cX4_ranks 1 = .ok (.iload_n 1, 1) := by decide +kernel
theorem dX4_ranks_2 : decode cX4_ranks 2 = .ok (.invokevirtual 55, 3) := by decide +kernel
theorem dX4_ranks_5 : decode cX4_ranks 5 = .ok (.astore 4, 2) := by decide +kernel
theorem dX4_ranks_7 : decode cX4_ranks 7 = .ok (.aload_n 0, 1) := by decide +kernel
theorem dX4_ranks_8 : decode cX4_ranks 8 = .ok (.iload_n 2, 1) := by decide +kernel
theorem dX4_ranks_9 : decode cX4_ranks 9 = .ok (.invokevirtual 124, 3) := by decide +kernel
theorem dX4_ranks_12 : decode cX4_ranks 12 = .ok (.astore 5, 2) := by decide +kernel
theorem dX4_ranks_14 : decode cX4_ranks 14 = .ok (.aload_n 0, 1) := by decide +kernel
theorem dX4_ranks_15 : decode cX4_ranks 15 = .ok (.getfield 36, 3) := by decide +kernel
theorem dX4_ranks_18 : decode cX4_ranks 18 = .ok (.aload 4, 2) := by decide +kernel
theorem dX4_ranks_20 : decode cX4_ranks 20 = .ok (.invokevirtual 101, 3) := by decide +kernel
theorem dX4_ranks_23 : decode cX4_ranks 23 = .ok (.new 187, 3) := by decide +kernel
theorem dX4_ranks_26 : decode cX4_ranks 26 = .ok (.dup, 1) := by decide +kernel
theorem dX4_ranks_27 : decode cX4_ranks 27 = .ok (.invokespecial 189, 3) := by decide +kernel
theorem dX4_ranks_30 : decode cX4_ranks 30 = .ok (.astore 6, 2) := by decide +kernel
theorem dX4_ranks_32 : decode cX4_ranks 32 = .ok (.aload_n 0, 1) := by decide +kernel
theorem dX4_ranks_33 : decode cX4_ranks 33 = .ok (.getfield 36, 3) := by decide +kernel
theorem dX4_ranks_36 : decode cX4_ranks 36 = .ok (.invokevirtual 63, 3) := by decide +kernel
theorem dX4_ranks_39 : decode cX4_ranks 39 = .ok (.istore 7, 2) := by decide +kernel
theorem dX4_ranks_41 : decode cX4_ranks 41 = .ok (.iload 7, 2) := by decide +kernel
theorem dX4_ranks_43 : decode cX4_ranks 43 = .ok (.ifCond .le 62, 3) := by decide +kernel
theorem dX4_ranks_46 : decode cX4_ranks 46 = .ok (.iload_n 3, 1) := by decide +kernel
theorem dX4_ranks_47 : decode cX4_ranks 47 = .ok (.ifCond .eq 15, 3) := by decide +kernel
theorem dX4_ranks_50 : decode cX4_ranks 50 = .ok (.aload_n 0, 1) := by decide +kernel
theorem dX4_ranks_51 : decode cX4_ranks 51 = .ok (.getfield 36, 3) := by decide +kernel
theorem dX4_ranks_54 : decode cX4_ranks 54 = .ok (.aload 5, 2) := by decide +kernel
theorem dX4_ranks_56 : decode cX4_ranks 56 = .ok (.invokevirtual 159, 3) := by decide +kernel
theorem dX4_ranks_59 : decode cX4_ranks 59 = .ok (.goto 4, 3) := by decide +kernel
theorem dX4_ranks_62 : decode cX4_ranks 62 = .ok (.iconst 0, 1) := by decide +kernel
theorem dX4_ranks_63 : decode cX4_ranks 63 = .ok (.istore 8, 2) := by decide +kernel
theorem dX4_ranks_65 : decode cX4_ranks 65 = .ok (.aload 6, 2) := by decide +kernel
theorem dX4_ranks_67 : decode cX4_ranks 67 = .ok (.invokestatic 190, 3) := by decide +kernel
theorem dX4_ranks_70 : decode cX4_ranks 70 = .ok (.aload 6, 2) := by decide +kernel
theorem dX4_ranks_72 : decode cX4_ranks 72 = .ok (.aload 5, 2) := by decide +kernel
theorem dX4_ranks_74 : decode cX4_ranks 74 = .ok (.aload_n 0, 1) := by decide +kernel
theorem dX4_ranks_75 : decode cX4_ranks 75 = .ok (.getfield 36, 3) := by decide +kernel
theorem dX4_ranks_78 : decode cX4_ranks 78 = .ok (.iload 8, 2) := by decide +kernel
theorem dX4_ranks_80 : decode cX4_ranks 80 = .ok (.invokevirtual 114, 3) := by decide +kernel
theorem dX4_ranks_83 : decode cX4_ranks 83 = .ok (.invokevirtual 162, 3) := by decide +kernel
theorem dX4_ranks_86 : decode cX4_ranks 86 = .ok (.invokevirtual 194, 3) := by decide +kernel
theorem dX4_ranks_89 : decode cX4_ranks 89 = .ok (.pop, 1) := by decide +kernel
theorem dX4_ranks_90 : decode cX4_ranks 90 = .ok (.aload_n 0, 1) := by decide +kernel
theorem dX4_ranks_91 : decode cX4_ranks 91 = .ok (.getfield 36, 3) := by decide +kernel
theorem dX4_ranks_94 : decode cX4_ranks 94 = .ok (.iload 8, 2) := by decide +kernel
theorem dX4_ranks_96 : decode cX4_ranks 96 = .ok (.invokevirtual 95, 3) := by decide +kernel
theorem dX4_ranks_99 : decode cX4_ranks 99 = .ok (.iinc 7 (-1), 3) := by decide +kernel
theorem dX4_ranks_102 : decode cX4_ranks 102 = .ok (.goto (-61), 3) := by decide +kernel
theorem dX4_ranks_105 : decode cX4_ranks 105 = .ok (.aload 6, 2) := by decide +kernel
theorem dX4_ranks_107 : decode cX4_ranks 107 = .ok (.invokevirtual 197, 3) := by decide +kernel
theorem dX4_ranks_110 : decode cX4_ranks 110 = .ok (.areturn, 1) := by decide +kernel
set_option maxRecDepth 20000 in
theorem ggX4_step_X4_orderAt : GoodIn wsX4_step wsX4_orderAt := goodIn_ca (goodIn_r _ [5, 6, 7, 8, 69, 70, 71, 72, 73, 74, 75, 76, 77] (by decide +kernel) (by decide +kernel)) (goodIn_sub (fun _ h => List.mem_cons_of_mem _ (List.mem_append_left _ (List.mem_append_right _ h))) (by decide +kernel))
set_option maxRecDepth 20000 in
theorem gX4_step_X4_orderAt : GoodIn wsX4_step (wsV RX4 124 RX4 yX4_orderAt wsX4_orderAt) := goodIn_app (goodIn_of _ (by decide +kernel)) ggX4_step_X4_orderAt
set_option maxRecDepth 20000 in
theorem ggX4_step_X4_demandWithin : GoodIn wsX4_step wsX4_demandWithin := goodIn_ca (goodIn_r _ [11, 12, 13] (by decide +kernel) (by decide +kernel)) (goodIn_sub (fun _ h => List.mem_cons_of_mem _ (List.mem_append_right _ h)) (by decide +kernel))
set_option maxRecDepth 20000 in
theorem gX4_step_X4_demandWithin : GoodIn wsX4_step (va_wsS RX4 75 yX4_demandWithin wsX4_demandWithin) := goodIn_app (goodIn_of _ (by decide +kernel)) ggX4_step_X4_demandWithin
set_option maxRecDepth 20000 in
theorem ggX4_step_X1_length : GoodIn wsX4_step wsX1_length := goodIn_r _ [18, 19, 78, 79, 80, 81, 82, 83] (by decide +kernel) (by decide +kernel)
set_option maxRecDepth 20000 in
theorem gX4_step_X1_length : GoodIn wsX4_step (wsV RX4 200 RX1 yX1_length wsX1_length) := goodIn_app (goodIn_of _ (by decide +kernel)) ggX4_step_X1_length
set_option maxRecDepth 20000 in
theorem ggX4_step_X4_refuse : GoodIn wsX4_step wsX4_refuse := goodIn_r _ [23, 24, 69, 70, 71, 72, 73, 74, 75, 76, 77] (by decide +kernel) (by decide +kernel)
set_option maxRecDepth 20000 in
theorem gX4_step_X4_refuse : GoodIn wsX4_step (wsV RX4 79 RX4 yX4_refuse wsX4_refuse) := goodIn_app (goodIn_of _ (by decide +kernel)) ggX4_step_X4_refuse
set_option maxRecDepth 20000 in
theorem ggX4_step_X1_append : GoodIn wsX4_step wsX1_append := goodIn_r _ [28, 29, 30, 31, 17, 32, 19, 33, 34, 35, 36, 37, 38, 39, 40, 41, 42, 43, 44, 45, 46, 47, 48, 49, 50, 51, 52, 53, 54, 55, 56, 57, 58, 59, 60, 61, 62, 63, 64, 78, 79, 80, 81, 82, 83] (by decide +kernel) (by decide +kernel)
set_option maxRecDepth 20000 in
theorem gX4_step_X1_append : GoodIn wsX4_step (wsV RX4 201 RX1 yX1_append wsX1_append) := goodIn_app (goodIn_of _ (by decide +kernel)) ggX4_step_X1_append
set_option maxRecDepth 20000 in
theorem ggX4_step_X1_classCount : GoodIn wsX4_step wsX1_classCount := goodIn_r _ [68, 55, 78, 79, 80, 81, 82, 83] (by decide +kernel) (by decide +kernel)
set_option maxRecDepth 20000 in
theorem gX4_step_X1_classCount : GoodIn wsX4_step (wsV RX4 204 RX1 yX1_classCount wsX1_classCount) := goodIn_app (goodIn_of _ (by decide +kernel)) ggX4_step_X1_classCount
theorem dX4_step_0 : decode cX4_step 0 = .ok (.aload_n 0, 1) := by decide +kernel
theorem dX4_step_1 : decode cX4_step 1 = .ok (.iload_n 1, 1) := by decide +kernel
theorem dX4_step_2 : decode cX4_step 2 = .ok (.invokevirtual 124, 3) := by decide +kernel
theorem dX4_step_5 : decode cX4_step 5 = .ok (.astore 4, 2) := by decide +kernel
theorem dX4_step_7 : decode cX4_step 7 = .ok (.iload_n 2, 1) := by decide +kernel
theorem dX4_step_8 : decode cX4_step 8 = .ok (.bipush 7, 2) := by decide +kernel
theorem dX4_step_10 : decode cX4_step 10 = .ok (.invokestatic 75, 3) := by decide +kernel
theorem dX4_step_13 : decode cX4_step 13 = .ok (.aload 4, 2) := by decide +kernel
theorem dX4_step_15 : decode cX4_step 15 = .ok (.invokevirtual 200, 3) := by decide +kernel
theorem dX4_step_18 : decode cX4_step 18 = .ok (.iconst 5, 1) := by decide +kernel
theorem dX4_step_19 : decode cX4_step 19 = .ok (.if_icmp .lt 8, 3) := by decide +kernel
theorem dX4_step_22 : decode cX4_step 22 = .ok (.aload_n 0, 1) := by decide +kernel
theorem dX4_step_23 : decode cX4_step 23 = .ok (.invokevirtual 79, 3) := by decide +kernel
theorem dX4_step_26 : decode cX4_step 26 = .ok (.ireturn, 1) := by decide +kernel
theorem dX4_step_27 : decode cX4_step 27 = .ok (.aload 4, 2) := by decide +kernel
theorem dX4_step_29 : decode cX4_step 29 = .ok (.iload_n 2, 1) := by decide +kernel
theorem dX4_step_30 : decode cX4_step 30 = .ok (.iload_n 3, 1) := by decide +kernel
theorem dX4_step_31 : decode cX4_step 31 = .ok (.invokevirtual 201, 3) := by decide +kernel
theorem dX4_step_34 : decode cX4_step 34 = .ok (.aload 4, 2) := by decide +kernel
theorem dX4_step_36 : decode cX4_step 36 = .ok (.invokevirtual 204, 3) := by decide +kernel
theorem dX4_step_39 : decode cX4_step 39 = .ok (.ireturn, 1) := by decide +kernel
set_option maxRecDepth 20000 in
theorem ggX4_unstep_X4_orderAt : GoodIn wsX4_unstep wsX4_orderAt := goodIn_ca (goodIn_r _ [5, 6, 7, 8, 60, 61, 62, 63, 64, 65, 66, 67, 68] (by decide +kernel) (by decide +kernel)) (goodIn_sub (fun _ h => List.mem_cons_of_mem _ (List.mem_append_right _ h)) (by decide +kernel))
set_option maxRecDepth 20000 in
theorem gX4_unstep_X4_orderAt : GoodIn wsX4_unstep (wsV RX4 124 RX4 yX4_orderAt wsX4_orderAt) := goodIn_app (goodIn_of _ (by decide +kernel)) ggX4_unstep_X4_orderAt
set_option maxRecDepth 20000 in
theorem ggX4_unstep_X1_length : GoodIn wsX4_unstep wsX1_length := goodIn_r _ [13, 14, 69, 70, 71, 72, 73, 74] (by decide +kernel) (by decide +kernel)
set_option maxRecDepth 20000 in
theorem gX4_unstep_X1_length : GoodIn wsX4_unstep (wsV RX4 200 RX1 yX1_length wsX1_length) := goodIn_app (goodIn_of _ (by decide +kernel)) ggX4_unstep_X1_length
set_option maxRecDepth 20000 in
theorem ggX4_unstep_X4_refuse : GoodIn wsX4_unstep wsX4_refuse := goodIn_r _ [18, 19, 60, 61, 62, 63, 64, 65, 66, 67, 68] (by decide +kernel) (by decide +kernel)
set_option maxRecDepth 20000 in
theorem gX4_unstep_X4_refuse : GoodIn wsX4_unstep (wsV RX4 79 RX4 yX4_refuse wsX4_refuse) := goodIn_app (goodIn_of _ (by decide +kernel)) ggX4_unstep_X4_refuse
set_option maxRecDepth 20000 in
theorem ggX4_unstep_X1_keyOn : GoodIn wsX4_unstep wsX1_keyOn := goodIn_r _ [23, 24, 69, 70, 71, 72, 73, 74] (by decide +kernel) (by decide +kernel)
set_option maxRecDepth 20000 in
theorem gX4_unstep_X1_keyOn : GoodIn wsX4_unstep (wsV RX4 207 RX1 yX1_keyOn wsX1_keyOn) := goodIn_app (goodIn_of _ (by decide +kernel)) ggX4_unstep_X1_keyOn
set_option maxRecDepth 20000 in
theorem ggX4_unstep_X1_removeLast : GoodIn wsX4_unstep wsX1_removeLast := goodIn_r _ [28, 14, 29, 30, 31, 12, 32, 33, 24, 34, 35, 36, 37, 38, 39, 40, 41, 42, 43, 44, 45, 46, 47, 48, 49, 50, 51, 52, 53, 54, 55, 56, 57, 58, 59, 69, 70, 71, 72, 73, 74] (by decide +kernel) (by decide +kernel)
set_option maxRecDepth 20000 in
theorem gX4_unstep_X1_removeLast : GoodIn wsX4_unstep (wsV RX4 210 RX1 yX1_removeLast wsX1_removeLast) := goodIn_app (goodIn_of _ (by decide +kernel)) ggX4_unstep_X1_removeLast
theorem dX4_unstep_0 : decode cX4_unstep 0 = .ok (.aload_n 0, 1) := by decide +kernel
theorem dX4_unstep_1 : decode cX4_unstep 1 = .ok (.iload_n 1, 1) := by decide +kernel
theorem dX4_unstep_2 : decode cX4_unstep 2 = .ok (.invokevirtual 124, 3) := by decide +kernel
theorem dX4_unstep_5 : decode cX4_unstep 5 = .ok (.astore_n 2, 1) := by decide +kernel
theorem dX4_unstep_6 : decode cX4_unstep 6 = .ok (.aload_n 2, 1) := by decide +kernel
theorem dX4_unstep_7 : decode cX4_unstep 7 = .ok (.invokevirtual 200, 3) := by decide +kernel
theorem dX4_unstep_10 : decode cX4_unstep 10 = .ok (.ifCond .ne 8, 3) := by decide +kernel
theorem dX4_unstep_13 : decode cX4_unstep 13 = .ok (.aload_n 0, 1) := by decide +kernel
theorem dX4_unstep_14 : decode cX4_unstep 14 = .ok (.invokevirtual 79, 3) := by decide +kernel
theorem dX4_unstep_17 : decode cX4_unstep 17 = .ok (.ireturn, 1) := by decide +kernel
theorem dX4_unstep_18 : decode cX4_unstep 18 = .ok (.aload_n 2, 1) := by decide +kernel
theorem dX4_unstep_19 : decode cX4_unstep 19 = .ok (.aload_n 2, 1) := by decide +kernel
theorem dX4_unstep_20 : decode cX4_unstep 20 = .ok (.invokevirtual 200, 3) := by decide +kernel
theorem dX4_unstep_23 : decode cX4_unstep 23 = .ok (.iconst 1, 1) := by decide +kernel
theorem dX4_unstep_24 : decode cX4_unstep 24 = .ok (.isub, 1) := by decide +kernel
theorem dX4_unstep_25 : decode cX4_unstep 25 = .ok (.invokevirtual 207, 3) := by decide +kernel
theorem dX4_unstep_28 : decode cX4_unstep 28 = .ok (.istore_n 3, 1) := by decide +kernel
theorem dX4_unstep_29 : decode cX4_unstep 29 = .ok (.aload_n 2, 1) := by decide +kernel
theorem dX4_unstep_30 : decode cX4_unstep 30 = .ok (.invokevirtual 210, 3) := by decide +kernel
theorem dX4_unstep_33 : decode cX4_unstep 33 = .ok (.iload_n 3, 1) := by decide +kernel
theorem dX4_unstep_34 : decode cX4_unstep 34 = .ok (.ireturn, 1) := by decide +kernel
set_option maxRecDepth 20000 in
theorem ggX4_wipe_X4_orderAt : GoodIn wsX4_wipe wsX4_orderAt := goodIn_ca (goodIn_r _ [5, 6, 7, 8, 51, 52, 53, 54, 55, 56, 57, 58, 59] (by decide +kernel) (by decide +kernel)) (goodIn_sub (fun _ h => List.mem_cons_of_mem _ (List.mem_append_right _ h)) (by decide +kernel))
set_option maxRecDepth 20000 in
theorem gX4_wipe_X4_orderAt : GoodIn wsX4_wipe (wsV RX4 124 RX4 yX4_orderAt wsX4_orderAt) := goodIn_app (goodIn_of _ (by decide +kernel)) ggX4_wipe_X4_orderAt
set_option maxRecDepth 20000 in
theorem ggX4_wipe_X1_length : GoodIn wsX4_wipe wsX1_length := goodIn_r _ [13, 14, 60, 61, 62, 63, 64, 65] (by decide +kernel) (by decide +kernel)
set_option maxRecDepth 20000 in
theorem gX4_wipe_X1_length : GoodIn wsX4_wipe (wsV RX4 200 RX1 yX1_length wsX1_length) := goodIn_app (goodIn_of _ (by decide +kernel)) ggX4_wipe_X1_length
set_option maxRecDepth 20000 in
theorem ggX4_wipe_X1_empty : GoodIn wsX4_wipe wsX1_empty := goodIn_r _ [18, 14, 19, 20, 21, 12, 22, 23, 24, 25, 26, 27, 28, 29, 30, 31, 32, 33, 34, 35, 36, 37, 38, 39, 40, 41, 42, 43, 44, 45, 46, 47, 48, 49, 50, 60, 61, 62, 63, 64, 65] (by decide +kernel) (by decide +kernel)
set_option maxRecDepth 20000 in
theorem gX4_wipe_X1_empty : GoodIn wsX4_wipe (wsV RX4 213 RX1 yX1_empty wsX1_empty) := goodIn_app (goodIn_of _ (by decide +kernel)) ggX4_wipe_X1_empty
theorem dX4_wipe_0 : decode cX4_wipe 0 = .ok (.aload_n 0, 1) := by decide +kernel
theorem dX4_wipe_1 : decode cX4_wipe 1 = .ok (.iload_n 1, 1) := by decide +kernel
theorem dX4_wipe_2 : decode cX4_wipe 2 = .ok (.invokevirtual 124, 3) := by decide +kernel
theorem dX4_wipe_5 : decode cX4_wipe 5 = .ok (.astore_n 2, 1) := by decide +kernel
theorem dX4_wipe_6 : decode cX4_wipe 6 = .ok (.aload_n 2, 1) := by decide +kernel
theorem dX4_wipe_7 : decode cX4_wipe 7 = .ok (.invokevirtual 200, 3) := by decide +kernel
theorem dX4_wipe_10 : decode cX4_wipe 10 = .ok (.istore_n 3, 1) := by decide +kernel
theorem dX4_wipe_11 : decode cX4_wipe 11 = .ok (.aload_n 2, 1) := by decide +kernel
theorem dX4_wipe_12 : decode cX4_wipe 12 = .ok (.invokevirtual 213, 3) := by decide +kernel
theorem dX4_wipe_15 : decode cX4_wipe 15 = .ok (.iload_n 3, 1) := by decide +kernel
theorem dX4_wipe_16 : decode cX4_wipe 16 = .ok (.ireturn, 1) := by decide +kernel
set_option maxRecDepth 20000 in
theorem ggX4_copyOrder_X4_orderAt : GoodIn wsX4_copyOrder wsX4_orderAt := goodIn_ca (goodIn_r _ [5, 6, 7, 8, 68, 69, 70, 71, 72, 73, 74, 75, 76] (by decide +kernel) (by decide +kernel)) (goodIn_sub (fun _ h => List.mem_cons_of_mem _ (List.mem_append_right _ h)) (by decide +kernel))
set_option maxRecDepth 20000 in
theorem gX4_copyOrder_X4_orderAt : GoodIn wsX4_copyOrder (wsV RX4 124 RX4 yX4_orderAt wsX4_orderAt) := goodIn_app (goodIn_of _ (by decide +kernel)) ggX4_copyOrder_X4_orderAt
set_option maxRecDepth 20000 in
theorem ggX4_copyOrder_X1_becomeCopyOf : GoodIn wsX4_copyOrder wsX1_becomeCopyOf := goodIn_r _ [13, 14, 15, 16, 17, 12, 18, 19, 20, 21, 22, 23, 24, 25, 26, 27, 28, 29, 30, 31, 32, 33, 34, 35, 36, 37, 38, 39, 40, 41, 42, 43, 44, 45, 46, 47, 48, 49, 50, 51, 52, 53, 54, 55, 56, 57, 58, 59, 60, 61, 62, 63, 64, 65, 66, 77, 78, 79, 80, 81, 82] (by decide +kernel) (by decide +kernel)
set_option maxRecDepth 20000 in
theorem gX4_copyOrder_X1_becomeCopyOf : GoodIn wsX4_copyOrder (wsV RX4 214 RX1 yX1_becomeCopyOf wsX1_becomeCopyOf) := goodIn_app (goodIn_of _ (by decide +kernel)) ggX4_copyOrder_X1_becomeCopyOf
set_option maxRecDepth 20000 in
theorem ggX4_copyOrder_X1_length : GoodIn wsX4_copyOrder wsX1_length := goodIn_r _ [18, 14, 77, 78, 79, 80, 81, 82] (by decide +kernel) (by decide +kernel)
set_option maxRecDepth 20000 in
theorem gX4_copyOrder_X1_length : GoodIn wsX4_copyOrder (wsV RX4 200 RX1 yX1_length wsX1_length) := goodIn_app (goodIn_of _ (by decide +kernel)) ggX4_copyOrder_X1_length
theorem dX4_copyOrder_0 : decode cX4_copyOrder 0 = .ok (.aload_n 0, 1) := by decide +kernel
theorem dX4_copyOrder_1 : decode cX4_copyOrder 1 = .ok (.iload_n 1, 1) := by decide +kernel
theorem dX4_copyOrder_2 : decode cX4_copyOrder 2 = .ok (.invokevirtual 124, 3) := by decide +kernel
theorem dX4_copyOrder_5 : decode cX4_copyOrder 5 = .ok (.astore_n 3, 1) := by decide +kernel
theorem dX4_copyOrder_6 : decode cX4_copyOrder 6 = .ok (.aload_n 0, 1) := by decide +kernel
theorem dX4_copyOrder_7 : decode cX4_copyOrder 7 = .ok (.iload_n 2, 1) := by decide +kernel
theorem dX4_copyOrder_8 : decode cX4_copyOrder 8 = .ok (.invokevirtual 124, 3) := by decide +kernel
theorem dX4_copyOrder_11 : decode cX4_copyOrder 11 = .ok (.astore 4, 2) := by decide +kernel
theorem dX4_copyOrder_13 : decode cX4_copyOrder 13 = .ok (.aload 4, 2) := by decide +kernel
theorem dX4_copyOrder_15 : decode cX4_copyOrder 15 = .ok (.aload_n 3, 1) := by decide +kernel
theorem dX4_copyOrder_16 : decode cX4_copyOrder 16 = .ok (.invokevirtual 214, 3) := by decide +kernel
theorem dX4_copyOrder_19 : decode cX4_copyOrder 19 = .ok (.aload 4, 2) := by decide +kernel
theorem dX4_copyOrder_21 : decode cX4_copyOrder 21 = .ok (.invokevirtual 200, 3) := by decide +kernel
theorem dX4_copyOrder_24 : decode cX4_copyOrder 24 = .ok (.ireturn, 1) := by decide +kernel
set_option maxRecDepth 20000 in
theorem ggX4_turn_X4_orderAt : GoodIn wsX4_turn wsX4_orderAt := goodIn_ca (goodIn_r _ [5, 6, 7, 8, 55, 56, 57, 58, 59, 60, 61, 62, 63] (by decide +kernel) (by decide +kernel)) (goodIn_sub (fun _ h => List.mem_cons_of_mem _ (List.mem_append_right _ h)) (by decide +kernel))
set_option maxRecDepth 20000 in
theorem gX4_turn_X4_orderAt : GoodIn wsX4_turn (wsV RX4 124 RX4 yX4_orderAt wsX4_orderAt) := goodIn_app (goodIn_of _ (by decide +kernel)) ggX4_turn_X4_orderAt
set_option maxRecDepth 20000 in
theorem ggX4_turn_X1_reverse : GoodIn wsX4_turn wsX1_reverse := goodIn_r _ [13, 14, 15, 16, 17, 18, 12, 19, 20, 21, 22, 23, 24, 25, 26, 27, 28, 29, 30, 31, 32, 33, 34, 35, 36, 37, 38, 39, 40, 41, 42, 43, 44, 45, 46, 64, 65, 66, 67, 68, 69] (by decide +kernel) (by decide +kernel)
set_option maxRecDepth 20000 in
theorem gX4_turn_X1_reverse : GoodIn wsX4_turn (wsV RX4 217 RX1 yX1_reverse wsX1_reverse) := goodIn_app (goodIn_of _ (by decide +kernel)) ggX4_turn_X1_reverse
set_option maxRecDepth 20000 in
theorem ggX4_turn_X1_downSteps : GoodIn wsX4_turn wsX1_downSteps := goodIn_r _ [50, 14, 51, 52, 53, 12, 54, 15, 64, 65, 66, 67, 68, 69] (by decide +kernel) (by decide +kernel)
set_option maxRecDepth 20000 in
theorem gX4_turn_X1_downSteps : GoodIn wsX4_turn (wsV RX4 218 RX1 yX1_downSteps wsX1_downSteps) := goodIn_app (goodIn_of _ (by decide +kernel)) ggX4_turn_X1_downSteps
theorem dX4_turn_0 : decode cX4_turn 0 = .ok (.aload_n 0, 1) := by decide +kernel
theorem dX4_turn_1 : decode cX4_turn 1 = .ok (.iload_n 1, 1) := by decide +kernel
theorem dX4_turn_2 : decode cX4_turn 2 = .ok (.invokevirtual 124, 3) := by decide +kernel
theorem dX4_turn_5 : decode cX4_turn 5 = .ok (.astore_n 2, 1) := by decide +kernel
theorem dX4_turn_6 : decode cX4_turn 6 = .ok (.aload_n 2, 1) := by decide +kernel
theorem dX4_turn_7 : decode cX4_turn 7 = .ok (.invokevirtual 217, 3) := by decide +kernel
theorem dX4_turn_10 : decode cX4_turn 10 = .ok (.aload_n 2, 1) := by decide +kernel
theorem dX4_turn_11 : decode cX4_turn 11 = .ok (.invokevirtual 218, 3) := by decide +kernel
theorem dX4_turn_14 : decode cX4_turn 14 = .ok (.ireturn, 1) := by decide +kernel
set_option maxRecDepth 20000 in
theorem ggX4_product_X4_orderAt : GoodIn wsX4_product wsX4_orderAt := goodIn_ca (goodIn_r _ [6, 7, 8, 9, 82, 83, 84, 85, 86, 87, 88, 89, 90] (by decide +kernel) (by decide +kernel)) (goodIn_sub (fun _ h => List.mem_cons_of_mem _ (List.mem_append_right _ h)) (by decide +kernel))
set_option maxRecDepth 20000 in
theorem gX4_product_X4_orderAt : GoodIn wsX4_product (wsV RX4 124 RX4 yX4_orderAt wsX4_orderAt) := goodIn_app (goodIn_of _ (by decide +kernel)) ggX4_product_X4_orderAt
set_option maxRecDepth 20000 in
theorem ggX4_product_X1_length : GoodIn wsX4_product wsX1_length := goodIn_r _ [14, 15, 91, 92, 93, 94, 95, 96] (by decide +kernel) (by decide +kernel)
set_option maxRecDepth 20000 in
theorem gX4_product_X1_length : GoodIn wsX4_product (wsV RX4 200 RX1 yX1_length wsX1_length) := goodIn_app (goodIn_of _ (by decide +kernel)) ggX4_product_X1_length
set_option maxRecDepth 20000 in
theorem ggX4_product_X4_refuse : GoodIn wsX4_product wsX4_refuse := goodIn_r _ [19, 20, 82, 83, 84, 85, 86, 87, 88, 89, 90] (by decide +kernel) (by decide +kernel)
set_option maxRecDepth 20000 in
theorem gX4_product_X4_refuse : GoodIn wsX4_product (wsV RX4 79 RX4 yX4_refuse wsX4_refuse) := goodIn_app (goodIn_of _ (by decide +kernel)) ggX4_product_X4_refuse
set_option maxRecDepth 20000 in
theorem ggX4_product_X1_becomeProductOf : GoodIn wsX4_product wsX1_becomeProductOf := goodIn_r _ [24, 15, 25, 11, 12, 13, 14, 26, 27, 28, 29, 30, 31, 32, 33, 34, 35, 36, 37, 38, 39, 40, 41, 42, 43, 44, 45, 46, 47, 48, 49, 50, 51, 52, 53, 54, 55, 56, 57, 58, 59, 60, 61, 62, 63, 64, 65, 66, 67, 68, 69, 70, 71, 72, 73, 91, 92, 93, 94, 95, 96] (by decide +kernel) (by decide +kernel)
set_option maxRecDepth 20000 in
theorem gX4_product_X1_becomeProductOf : GoodIn wsX4_product (wsV RX4 221 RX1 yX1_becomeProductOf wsX1_becomeProductOf) := goodIn_app (goodIn_of _ (by decide +kernel)) ggX4_product_X1_becomeProductOf
set_option maxRecDepth 20000 in
theorem ggX4_product_X1_becomeCopyOf : GoodIn wsX4_product wsX1_becomeCopyOf := goodIn_r _ [77, 15, 25, 11, 12, 13, 14, 26, 27, 28, 29, 30, 31, 32, 33, 34, 35, 36, 37, 38, 39, 40, 41, 42, 43, 44, 45, 46, 47, 48, 49, 50, 51, 52, 53, 54, 55, 56, 57, 58, 59, 60, 61, 62, 63, 64, 65, 66, 67, 68, 69, 70, 71, 72, 73, 91, 92, 93, 94, 95, 96] (by decide +kernel) (by decide +kernel)
set_option maxRecDepth 20000 in
theorem gX4_product_X1_becomeCopyOf : GoodIn wsX4_product (wsV RX4 214 RX1 yX1_becomeCopyOf wsX1_becomeCopyOf) := goodIn_app (goodIn_of _ (by decide +kernel)) ggX4_product_X1_becomeCopyOf
set_option maxRecDepth 20000 in
theorem ggX4_product_X1_classCount : GoodIn wsX4_product wsX1_classCount := goodIn_r _ [81, 64, 91, 92, 93, 94, 95, 96] (by decide +kernel) (by decide +kernel)
set_option maxRecDepth 20000 in
theorem gX4_product_X1_classCount : GoodIn wsX4_product (wsV RX4 204 RX1 yX1_classCount wsX1_classCount) := goodIn_app (goodIn_of _ (by decide +kernel)) ggX4_product_X1_classCount
theorem dX4_product_0 : decode cX4_product 0 = .ok (.aload_n 0, 1) := by decide +kernel
theorem dX4_product_1 : decode cX4_product 1 = .ok (.iload_n 1, 1) := by decide +kernel
theorem dX4_product_2 : decode cX4_product 2 = .ok (.invokevirtual 124, 3) := by decide +kernel
theorem dX4_product_5 : decode cX4_product 5 = .ok (.astore 4, 2) := by decide +kernel
theorem dX4_product_7 : decode cX4_product 7 = .ok (.aload_n 0, 1) := by decide +kernel
theorem dX4_product_8 : decode cX4_product 8 = .ok (.iload_n 2, 1) := by decide +kernel
theorem dX4_product_9 : decode cX4_product 9 = .ok (.invokevirtual 124, 3) := by decide +kernel
theorem dX4_product_12 : decode cX4_product 12 = .ok (.astore 5, 2) := by decide +kernel
theorem dX4_product_14 : decode cX4_product 14 = .ok (.aload_n 0, 1) := by decide +kernel
theorem dX4_product_15 : decode cX4_product 15 = .ok (.iload_n 3, 1) := by decide +kernel
theorem dX4_product_16 : decode cX4_product 16 = .ok (.invokevirtual 124, 3) := by decide +kernel
theorem dX4_product_19 : decode cX4_product 19 = .ok (.astore 6, 2) := by decide +kernel
theorem dX4_product_21 : decode cX4_product 21 = .ok (.aload 4, 2) := by decide +kernel
theorem dX4_product_23 : decode cX4_product 23 = .ok (.invokevirtual 200, 3) := by decide +kernel
theorem dX4_product_26 : decode cX4_product 26 = .ok (.aload 5, 2) := by decide +kernel
theorem dX4_product_28 : decode cX4_product 28 = .ok (.invokevirtual 200, 3) := by decide +kernel
theorem dX4_product_31 : decode cX4_product 31 = .ok (.iadd, 1) := by decide +kernel
theorem dX4_product_32 : decode cX4_product 32 = .ok (.iconst 5, 1) := by decide +kernel
theorem dX4_product_33 : decode cX4_product 33 = .ok (.if_icmp .le 8, 3) := by decide +kernel
theorem dX4_product_36 : decode cX4_product 36 = .ok (.aload_n 0, 1) := by decide +kernel
theorem dX4_product_37 : decode cX4_product 37 = .ok (.invokevirtual 79, 3) := by decide +kernel
theorem dX4_product_40 : decode cX4_product 40 = .ok (.ireturn, 1) := by decide +kernel
theorem dX4_product_41 : decode cX4_product 41 = .ok (.aload_n 0, 1) := by decide +kernel
theorem dX4_product_42 : decode cX4_product 42 = .ok (.getfield 41, 3) := by decide +kernel
theorem dX4_product_45 : decode cX4_product 45 = .ok (.aload 4, 2) := by decide +kernel
theorem dX4_product_47 : decode cX4_product 47 = .ok (.aload 5, 2) := by decide +kernel
theorem dX4_product_49 : decode cX4_product 49 = .ok (.invokevirtual 221, 3) := by decide +kernel
theorem dX4_product_52 : decode cX4_product 52 = .ok (.aload 6, 2) := by decide +kernel
theorem dX4_product_54 : decode cX4_product 54 = .ok (.aload_n 0, 1) := by decide +kernel
theorem dX4_product_55 : decode cX4_product 55 = .ok (.getfield 41, 3) := by decide +kernel
theorem dX4_product_58 : decode cX4_product 58 = .ok (.invokevirtual 214, 3) := by decide +kernel
theorem dX4_product_61 : decode cX4_product 61 = .ok (.aload 6, 2) := by decide +kernel
theorem dX4_product_63 : decode cX4_product 63 = .ok (.invokevirtual 204, 3) := by decide +kernel
theorem dX4_product_66 : decode cX4_product 66 = .ok (.ireturn, 1) := by decide +kernel
set_option maxRecDepth 20000 in
theorem ggX4_tellApart_X4_orderAt : GoodIn wsX4_tellApart wsX4_orderAt := goodIn_ca (goodIn_r _ [5, 6, 7, 8, 99, 100, 101, 102, 103, 104, 105, 106, 107] (by decide +kernel) (by decide +kernel)) (goodIn_sub (fun _ h => List.mem_cons_of_mem _ (List.mem_append_left _ (List.mem_append_right _ h))) (by decide +kernel))
set_option maxRecDepth 20000 in
theorem gX4_tellApart_X4_orderAt : GoodIn wsX4_tellApart (wsV RX4 124 RX4 yX4_orderAt wsX4_orderAt) := goodIn_app (goodIn_of _ (by decide +kernel)) ggX4_tellApart_X4_orderAt
set_option maxRecDepth 20000 in
theorem ggX4_tellApart_X4_demandValue : GoodIn wsX4_tellApart wsX4_demandValue := goodIn_ca (goodIn_r _ [11, 12, 13, 4, 14, 15, 16] (by decide +kernel) (by decide +kernel)) (goodIn_sub (fun _ h => List.mem_cons_of_mem _ (List.mem_append_right _ h)) (by decide +kernel))
set_option maxRecDepth 20000 in
theorem gX4_tellApart_X4_demandValue : GoodIn wsX4_tellApart (va_wsS RX4 59 yX4_demandValue wsX4_demandValue) := goodIn_app (goodIn_of _ (by decide +kernel)) ggX4_tellApart_X4_demandValue
set_option maxRecDepth 20000 in
theorem ggX4_tellApart_X1_compared : GoodIn wsX4_tellApart wsX1_compared := goodIn_r _ [21, 22, 108, 109, 110, 111, 112, 113] (by decide +kernel) (by decide +kernel)
set_option maxRecDepth 20000 in
theorem gX4_tellApart_X1_compared : GoodIn wsX4_tellApart (wsV RX4 225 RX1 yX1_compared wsX1_compared) := goodIn_app (goodIn_of _ (by decide +kernel)) ggX4_tellApart_X1_compared
set_option maxRecDepth 20000 in
theorem ggX4_tellApart_X1_length : GoodIn wsX4_tellApart wsX1_length := goodIn_r _ [26, 27, 108, 109, 110, 111, 112, 113] (by decide +kernel) (by decide +kernel)
set_option maxRecDepth 20000 in
theorem gX4_tellApart_X1_length : GoodIn wsX4_tellApart (wsV RX4 200 RX1 yX1_length wsX1_length) := goodIn_app (goodIn_of _ (by decide +kernel)) ggX4_tellApart_X1_length
set_option maxRecDepth 20000 in
theorem ggX4_tellApart_X4_refuse : GoodIn wsX4_tellApart wsX4_refuse := goodIn_r _ [31, 32, 99, 100, 101, 102, 103, 104, 105, 106, 107] (by decide +kernel) (by decide +kernel)
set_option maxRecDepth 20000 in
theorem gX4_tellApart_X4_refuse : GoodIn wsX4_tellApart (wsV RX4 79 RX4 yX4_refuse wsX4_refuse) := goodIn_app (goodIn_of _ (by decide +kernel)) ggX4_tellApart_X4_refuse
set_option maxRecDepth 20000 in
theorem ggX4_tellApart_X4_coarsestKey : GoodIn wsX4_tellApart wsX4_coarsestKey := goodIn_r _ [36, 37, 38, 39, 20, 40, 41, 42, 43, 44, 45, 46, 47, 48, 49, 50, 51, 27, 52, 24, 25, 26, 53, 54, 55, 56, 57, 58, 59, 60, 61, 62, 63, 64, 65, 66, 67, 68, 69, 70, 71, 72, 73, 74, 22, 75, 76, 77, 78, 79, 80, 81, 82, 83, 84, 85, 86, 87, 88, 89, 90, 91, 92, 93, 94, 95, 96, 97, 98, 99, 100, 101, 102, 103, 104, 105, 106, 107, 108, 109, 110, 111, 112, 113] (by decide +kernel) (by decide +kernel)
set_option maxRecDepth 20000 in
theorem gX4_tellApart_X4_coarsestKey : GoodIn wsX4_tellApart (wsV RX4 228 RX4 yX4_coarsestKey wsX4_coarsestKey) := goodIn_app (goodIn_of _ (by decide +kernel)) ggX4_tellApart_X4_coarsestKey
set_option maxRecDepth 20000 in
theorem ggX4_tellApart_X1_append : GoodIn wsX4_tellApart wsX1_append := goodIn_r _ [94, 67, 68, 69, 20, 70, 27, 61, 66, 71, 72, 73, 74, 22, 75, 76, 39, 40, 41, 42, 43, 44, 45, 46, 47, 77, 78, 79, 80, 81, 82, 83, 84, 85, 86, 87, 88, 89, 90, 108, 109, 110, 111, 112, 113] (by decide +kernel) (by decide +kernel)
set_option maxRecDepth 20000 in
theorem gX4_tellApart_X1_append : GoodIn wsX4_tellApart (wsV RX4 201 RX1 yX1_append wsX1_append) := goodIn_app (goodIn_of _ (by decide +kernel)) ggX4_tellApart_X1_append
theorem dX4_tellApart_0 : decode cX4_tellApart 0 = .ok (.aload_n 0, 1) := by decide +kernel
theorem dX4_tellApart_1 : decode cX4_tellApart 1 = .ok (.iload_n 1, 1) := by decide +kernel
theorem dX4_tellApart_2 : decode cX4_tellApart 2 = .ok (.invokevirtual 124, 3) := by decide +kernel
theorem dX4_tellApart_5 : decode cX4_tellApart 5 = .ok (.astore 4, 2) := by decide +kernel
theorem dX4_tellApart_7 : decode cX4_tellApart 7 = .ok (.iload_n 2, 1) := by decide +kernel
theorem dX4_tellApart_8 : decode cX4_tellApart 8 = .ok (.invokestatic 59, 3) := by decide +kernel
theorem dX4_tellApart_11 : decode cX4_tellApart 11 = .ok (.iload_n 3, 1) := by decide +kernel
theorem dX4_tellApart_12 : decode cX4_tellApart 12 = .ok (.invokestatic 59, 3) := by decide +kernel
theorem dX4_tellApart_15 : decode cX4_tellApart 15 = .ok (.iload_n 2, 1) := by decide +kernel
theorem dX4_tellApart_16 : decode cX4_tellApart 16 = .ok (.iload_n 3, 1) := by decide +kernel
theorem dX4_tellApart_17 : decode cX4_tellApart 17 = .ok (.if_icmp .eq 22, 3) := by decide +kernel
theorem dX4_tellApart_20 : decode cX4_tellApart 20 = .ok (.aload 4, 2) := by decide +kernel
theorem dX4_tellApart_22 : decode cX4_tellApart 22 = .ok (.iload_n 2, 1) := by decide +kernel
theorem dX4_tellApart_23 : decode cX4_tellApart 23 = .ok (.iload_n 3, 1) := by decide +kernel
theorem dX4_tellApart_24 : decode cX4_tellApart 24 = .ok (.invokevirtual 225, 3) := by decide +kernel
theorem dX4_tellApart_27 : decode cX4_tellApart 27 = .ok (.ifCond .ne 12, 3) := by decide +kernel
theorem dX4_tellApart_30 : decode cX4_tellApart 30 = .ok (.aload 4, 2) := by decide +kernel
theorem dX4_tellApart_32 : decode cX4_tellApart 32 = .ok (.invokevirtual 200, 3) := by decide +kernel
theorem dX4_tellApart_35 : decode cX4_tellApart 35 = .ok (.iconst 5, 1) := by decide +kernel
theorem dX4_tellApart_36 : decode cX4_tellApart 36 = .ok (.if_icmp .lt 8, 3) := by decide +kernel
theorem dX4_tellApart_39 : decode cX4_tellApart 39 = .ok (.aload_n 0, 1) := by decide +kernel
theorem dX4_tellApart_40 : decode cX4_tellApart 40 = .ok (.invokevirtual 79, 3) := by decide +kernel
theorem dX4_tellApart_43 : decode cX4_tellApart 43 = .ok (.ireturn, 1) := by decide +kernel
theorem dX4_tellApart_44 : decode cX4_tellApart 44 = .ok (.aload_n 0, 1) := by decide +kernel
theorem dX4_tellApart_45 : decode cX4_tellApart 45 = .ok (.aload 4, 2) := by decide +kernel
theorem dX4_tellApart_47 : decode cX4_tellApart 47 = .ok (.iload_n 2, 1) := by decide +kernel
theorem dX4_tellApart_48 : decode cX4_tellApart 48 = .ok (.iload_n 3, 1) := by decide +kernel
theorem dX4_tellApart_49 : decode cX4_tellApart 49 = .ok (.invokevirtual 228, 3) := by decide +kernel
theorem dX4_tellApart_52 : decode cX4_tellApart 52 = .ok (.istore 5, 2) := by decide +kernel
theorem dX4_tellApart_54 : decode cX4_tellApart 54 = .ok (.aload 4, 2) := by decide +kernel
theorem dX4_tellApart_56 : decode cX4_tellApart 56 = .ok (.iload 5, 2) := by decide +kernel
theorem dX4_tellApart_58 : decode cX4_tellApart 58 = .ok (.iconst 0, 1) := by decide +kernel
theorem dX4_tellApart_59 : decode cX4_tellApart 59 = .ok (.invokevirtual 201, 3) := by decide +kernel
theorem dX4_tellApart_62 : decode cX4_tellApart 62 = .ok (.iload 5, 2) := by decide +kernel
theorem dX4_tellApart_64 : decode cX4_tellApart 64 = .ok (.ireturn, 1) := by decide +kernel
set_option maxRecDepth 20000 in
theorem ggX4_orderText_X4_orderAt : GoodIn wsX4_orderText wsX4_orderAt := goodIn_ca (goodIn_r _ [5, 6, 7, 8, 247, 248, 249, 250, 251, 252, 253, 254, 255] (by decide +kernel) (by decide +kernel)) (goodIn_sub (fun _ h => List.mem_cons_of_mem _ (List.mem_append_right _ h)) (by decide +kernel))
set_option maxRecDepth 20000 in
theorem gX4_orderText_X4_orderAt : GoodIn wsX4_orderText (wsV RX4 124 RX4 yX4_orderAt wsX4_orderAt) := goodIn_app (goodIn_of _ (by decide +kernel)) ggX4_orderText_X4_orderAt
set_option maxRecDepth 20000 in
theorem ggX4_orderText_X1_told : GoodIn wsX4_orderText wsX1_told := goodIn_r _ [13, 14, 15, 16, 17, 18, 19, 20, 21, 22, 23, 24, 25, 26, 27, 28, 29, 30, 31, 32, 33, 34, 35, 36, 37, 38, 39, 40, 4, 41, 42, 43, 44, 45, 46, 47, 48, 49, 50, 51, 52, 53, 54, 55, 56, 57, 58, 59, 60, 61, 62, 63, 64, 65, 66, 67, 68, 69, 70, 71, 72, 73, 74, 75, 76, 77, 78, 79, 80, 81, 82, 83, 84, 85, 86, 87, 88, 89, 90, 91, 92, 93, 94, 95, 96, 97, 98, 99, 100, 101, 102, 103, 104, 105, 106, 107, 108, 109, 110, 111, 112, 113, 114, 115, 116, 117, 118, 119, 120, 121, 122, 123, 124, 125, 126, 127, 128, 129, 130, 131, 132, 133, 134, 135, 136, 137, 138, 139, 140, 141, 142, 143, 144, 145, 146, 147, 148, 149, 150, 151, 152, 153, 154, 155, 12, 156, 157, 158, 159, 160, 161, 162, 163, 164, 165, 166, 167, 168, 169, 170, 171, 172, 173, 174, 175, 176, 177, 178, 179, 180, 181, 182, 183, 184, 185, 186, 187, 188, 189, 190, 191, 192, 193, 194, 195, 196, 197, 198, 199, 200, 201, 202, 203, 204, 205, 206, 207, 208, 209, 210, 211, 212, 213, 214, 215, 216, 217, 218, 219, 220, 221, 222, 223, 224, 225, 226, 227, 228, 229, 230, 231, 232, 233, 234, 235, 236, 237, 238, 239, 240, 241, 242, 243, 244, 245, 246, 256, 257, 258, 259, 260, 261, 262, 263, 264, 265, 266, 267, 268, 269] (by decide +kernel) (by decide +kernel)
set_option maxRecDepth 20000 in
theorem gX4_orderText_X1_told : GoodIn wsX4_orderText (wsV RX4 231 RX1 yX1_told wsX1_told) := goodIn_app (goodIn_of _ (by decide +kernel)) ggX4_orderText_X1_told
theorem dX4_orderText_0 : decode cX4_orderText 0 = .ok (.aload_n 0, 1) := by decide +kernel
theorem dX4_orderText_1 : decode cX4_orderText 1 = .ok (.iload_n 1, 1) := by decide +kernel
theorem dX4_orderText_2 : decode cX4_orderText 2 = .ok (.invokevirtual 124, 3) := by decide +kernel
theorem dX4_orderText_5 : decode cX4_orderText 5 = .ok (.invokevirtual 231, 3) := by decide +kernel
theorem dX4_orderText_8 : decode cX4_orderText 8 = .ok (.areturn, 1) := by decide +kernel
set_option maxRecDepth 20000 in
theorem ggX4_compare_X4_orderAt : GoodIn wsX4_compare wsX4_orderAt := goodIn_ca (goodIn_r _ [5, 6, 7, 8, 23, 24, 25, 26, 27, 28, 29, 30, 31] (by decide +kernel) (by decide +kernel)) (goodIn_sub (fun _ h => List.mem_cons_of_mem _ (List.mem_append_left _ (List.mem_append_right _ h))) (by decide +kernel))
set_option maxRecDepth 20000 in
theorem gX4_compare_X4_orderAt : GoodIn wsX4_compare (wsV RX4 124 RX4 yX4_orderAt wsX4_orderAt) := goodIn_app (goodIn_of _ (by decide +kernel)) ggX4_compare_X4_orderAt
set_option maxRecDepth 20000 in
theorem ggX4_compare_X4_demandValue : GoodIn wsX4_compare wsX4_demandValue := goodIn_ca (goodIn_r _ [11, 12, 13, 4, 14, 15, 16] (by decide +kernel) (by decide +kernel)) (goodIn_sub (fun _ h => List.mem_cons_of_mem _ (List.mem_append_right _ h)) (by decide +kernel))
set_option maxRecDepth 20000 in
theorem gX4_compare_X4_demandValue : GoodIn wsX4_compare (va_wsS RX4 59 yX4_demandValue wsX4_demandValue) := goodIn_app (goodIn_of _ (by decide +kernel)) ggX4_compare_X4_demandValue
set_option maxRecDepth 20000 in
theorem ggX4_compare_X1_compared : GoodIn wsX4_compare wsX1_compared := goodIn_r _ [21, 22, 32, 33, 34, 35, 36, 37] (by decide +kernel) (by decide +kernel)
set_option maxRecDepth 20000 in
theorem gX4_compare_X1_compared : GoodIn wsX4_compare (wsV RX4 225 RX1 yX1_compared wsX1_compared) := goodIn_app (goodIn_of _ (by decide +kernel)) ggX4_compare_X1_compared
theorem dX4_compare_0 : decode cX4_compare 0 = .ok (.aload_n 0, 1) := by decide +kernel
theorem dX4_compare_1 : decode cX4_compare 1 = .ok (.iload_n 1, 1) := by decide +kernel
theorem dX4_compare_2 : decode cX4_compare 2 = .ok (.invokevirtual 124, 3) := by decide +kernel
theorem dX4_compare_5 : decode cX4_compare 5 = .ok (.astore 4, 2) := by decide +kernel
theorem dX4_compare_7 : decode cX4_compare 7 = .ok (.iload_n 2, 1) := by decide +kernel
theorem dX4_compare_8 : decode cX4_compare 8 = .ok (.invokestatic 59, 3) := by decide +kernel
theorem dX4_compare_11 : decode cX4_compare 11 = .ok (.iload_n 3, 1) := by decide +kernel
theorem dX4_compare_12 : decode cX4_compare 12 = .ok (.invokestatic 59, 3) := by decide +kernel
theorem dX4_compare_15 : decode cX4_compare 15 = .ok (.aload 4, 2) := by decide +kernel
theorem dX4_compare_17 : decode cX4_compare 17 = .ok (.iload_n 2, 1) := by decide +kernel
theorem dX4_compare_18 : decode cX4_compare 18 = .ok (.iload_n 3, 1) := by decide +kernel
theorem dX4_compare_19 : decode cX4_compare 19 = .ok (.invokevirtual 225, 3) := by decide +kernel
theorem dX4_compare_22 : decode cX4_compare 22 = .ok (.ireturn, 1) := by decide +kernel
set_option maxRecDepth 20000 in
theorem ggX4_both_X4_orderAt : GoodIn wsX4_both wsX4_orderAt := goodIn_ca (goodIn_r _ [5, 6, 7, 8, 26, 27, 28, 29, 30, 31, 32, 33, 34] (by decide +kernel) (by decide +kernel)) (goodIn_sub (fun _ h => List.mem_cons_of_mem _ (List.mem_append_left _ (List.mem_append_right _ h))) (by decide +kernel))
set_option maxRecDepth 20000 in
theorem gX4_both_X4_orderAt : GoodIn wsX4_both (wsV RX4 124 RX4 yX4_orderAt wsX4_orderAt) := goodIn_app (goodIn_of _ (by decide +kernel)) ggX4_both_X4_orderAt
set_option maxRecDepth 20000 in
theorem ggX4_both_X4_demandValue : GoodIn wsX4_both wsX4_demandValue := goodIn_ca (goodIn_r _ [11, 12, 13, 4, 14, 15, 16] (by decide +kernel) (by decide +kernel)) (goodIn_sub (fun _ h => List.mem_cons_of_mem _ (List.mem_append_right _ h)) (by decide +kernel))
set_option maxRecDepth 20000 in
theorem gX4_both_X4_demandValue : GoodIn wsX4_both (va_wsS RX4 59 yX4_demandValue wsX4_demandValue) := goodIn_app (goodIn_of _ (by decide +kernel)) ggX4_both_X4_demandValue
set_option maxRecDepth 20000 in
theorem ggX4_both_X4_comparedByBoth : GoodIn wsX4_both wsX4_comparedByBoth := goodIn_r _ [19, 20, 21, 22, 23, 24, 25, 35, 36, 37, 38, 39, 40] (by decide +kernel) (by decide +kernel)
set_option maxRecDepth 20000 in
theorem gX4_both_X4_comparedByBoth : GoodIn wsX4_both (va_wsS RX4 232 yX4_comparedByBoth wsX4_comparedByBoth) := goodIn_app (goodIn_of _ (by decide +kernel)) ggX4_both_X4_comparedByBoth
theorem dX4_both_0 : decode cX4_both 0 = .ok (.aload_n 0, 1) := by decide +kernel
theorem dX4_both_1 : decode cX4_both 1 = .ok (.iload_n 1, 1) := by decide +kernel
theorem dX4_both_2 : decode cX4_both 2 = .ok (.invokevirtual 124, 3) := by decide +kernel
theorem dX4_both_5 : decode cX4_both 5 = .ok (.astore 5, 2) := by decide +kernel
theorem dX4_both_7 : decode cX4_both 7 = .ok (.aload_n 0, 1) := by decide +kernel
theorem dX4_both_8 : decode cX4_both 8 = .ok (.iload_n 2, 1) := by decide +kernel
theorem dX4_both_9 : decode cX4_both 9 = .ok (.invokevirtual 124, 3) := by decide +kernel
theorem dX4_both_12 : decode cX4_both 12 = .ok (.astore 6, 2) := by decide +kernel
theorem dX4_both_14 : decode cX4_both 14 = .ok (.iload_n 3, 1) := by decide +kernel
theorem dX4_both_15 : decode cX4_both 15 = .ok (.invokestatic 59, 3) := by decide +kernel
theorem dX4_both_18 : decode cX4_both 18 = .ok (.iload 4, 2) := by decide +kernel
theorem dX4_both_20 : decode cX4_both 20 = .ok (.invokestatic 59, 3) := by decide +kernel
theorem dX4_both_23 : decode cX4_both 23 = .ok (.aload 5, 2) := by decide +kernel
theorem dX4_both_25 : decode cX4_both 25 = .ok (.aload 6, 2) := by decide +kernel
theorem dX4_both_27 : decode cX4_both 27 = .ok (.iload_n 3, 1) := by decide +kernel
theorem dX4_both_28 : decode cX4_both 28 = .ok (.iload 4, 2) := by decide +kernel
theorem dX4_both_30 : decode cX4_both 30 = .ok (.invokestatic 232, 3) := by decide +kernel
theorem dX4_both_33 : decode cX4_both 33 = .ok (.ireturn, 1) := by decide +kernel
set_option maxRecDepth 20000 in
theorem ggX4_refines_X4_orderAt : GoodIn wsX4_refines wsX4_orderAt := goodIn_ca (goodIn_r _ [5, 6, 7, 8, 19, 20, 21, 22, 23, 24, 25, 26, 27] (by decide +kernel) (by decide +kernel)) (goodIn_sub (fun _ h => List.mem_cons_of_mem _ (List.mem_append_right _ h)) (by decide +kernel))
set_option maxRecDepth 20000 in
theorem gX4_refines_X4_orderAt : GoodIn wsX4_refines (wsV RX4 124 RX4 yX4_orderAt wsX4_orderAt) := goodIn_app (goodIn_of _ (by decide +kernel)) ggX4_refines_X4_orderAt
set_option maxRecDepth 20000 in
theorem ggX4_refines_X1_isFinerThan : GoodIn wsX4_refines wsX1_isFinerThan := goodIn_r _ [13, 14, 15, 16, 12, 17, 18, 28, 29, 30, 31, 32, 33] (by decide +kernel) (by decide +kernel)
set_option maxRecDepth 20000 in
theorem gX4_refines_X1_isFinerThan : GoodIn wsX4_refines (wsV RX4 236 RX1 yX1_isFinerThan wsX1_isFinerThan) := goodIn_app (goodIn_of _ (by decide +kernel)) ggX4_refines_X1_isFinerThan
theorem dX4_refines_0 : decode cX4_refines 0 = .ok (.aload_n 0, 1) := by decide +kernel
theorem dX4_refines_1 : decode cX4_refines 1 = .ok (.iload_n 1, 1) := by decide +kernel
theorem dX4_refines_2 : decode cX4_refines 2 = .ok (.invokevirtual 124, 3) := by decide +kernel
theorem dX4_refines_5 : decode cX4_refines 5 = .ok (.astore_n 3, 1) := by decide +kernel
theorem dX4_refines_6 : decode cX4_refines 6 = .ok (.aload_n 3, 1) := by decide +kernel
theorem dX4_refines_7 : decode cX4_refines 7 = .ok (.aload_n 0, 1) := by decide +kernel
theorem dX4_refines_8 : decode cX4_refines 8 = .ok (.iload_n 2, 1) := by decide +kernel
theorem dX4_refines_9 : decode cX4_refines 9 = .ok (.invokevirtual 124, 3) := by decide +kernel
theorem dX4_refines_12 : decode cX4_refines 12 = .ok (.invokevirtual 236, 3) := by decide +kernel
theorem dX4_refines_15 : decode cX4_refines 15 = .ok (.ireturn, 1) := by decide +kernel
set_option maxRecDepth 20000 in
theorem ggX4_areSame_X4_orderAt : GoodIn wsX4_areSame wsX4_orderAt := goodIn_ca (goodIn_r _ [5, 6, 7, 8, 19, 20, 21, 22, 23, 24, 25, 26, 27] (by decide +kernel) (by decide +kernel)) (goodIn_sub (fun _ h => List.mem_cons_of_mem _ (List.mem_append_right _ h)) (by decide +kernel))
set_option maxRecDepth 20000 in
theorem gX4_areSame_X4_orderAt : GoodIn wsX4_areSame (wsV RX4 124 RX4 yX4_orderAt wsX4_orderAt) := goodIn_app (goodIn_of _ (by decide +kernel)) ggX4_areSame_X4_orderAt
set_option maxRecDepth 20000 in
theorem ggX4_areSame_X1_comparesLike : GoodIn wsX4_areSame wsX1_comparesLike := goodIn_r _ [13, 14, 15, 16, 12, 17, 18, 28, 29, 30, 31, 32, 33] (by decide +kernel) (by decide +kernel)
set_option maxRecDepth 20000 in
theorem gX4_areSame_X1_comparesLike : GoodIn wsX4_areSame (wsV RX4 239 RX1 yX1_comparesLike wsX1_comparesLike) := goodIn_app (goodIn_of _ (by decide +kernel)) ggX4_areSame_X1_comparesLike
theorem dX4_areSame_0 : decode cX4_areSame 0 = .ok (.aload_n 0, 1) := by decide +kernel
theorem dX4_areSame_1 : decode cX4_areSame 1 = .ok (.iload_n 1, 1) := by decide +kernel
theorem dX4_areSame_2 : decode cX4_areSame 2 = .ok (.invokevirtual 124, 3) := by decide +kernel
theorem dX4_areSame_5 : decode cX4_areSame 5 = .ok (.astore_n 3, 1) := by decide +kernel
theorem dX4_areSame_6 : decode cX4_areSame 6 = .ok (.aload_n 3, 1) := by decide +kernel
theorem dX4_areSame_7 : decode cX4_areSame 7 = .ok (.aload_n 0, 1) := by decide +kernel
theorem dX4_areSame_8 : decode cX4_areSame 8 = .ok (.iload_n 2, 1) := by decide +kernel
theorem dX4_areSame_9 : decode cX4_areSame 9 = .ok (.invokevirtual 124, 3) := by decide +kernel
theorem dX4_areSame_12 : decode cX4_areSame 12 = .ok (.invokevirtual 239, 3) := by decide +kernel
theorem dX4_areSame_15 : decode cX4_areSame 15 = .ok (.ireturn, 1) := by decide +kernel
set_option maxRecDepth 20000 in
theorem ggX4_apart_X4_orderAt : GoodIn wsX4_apart wsX4_orderAt := goodIn_ca (goodIn_r _ [5, 6, 7, 8, 21, 22, 23, 24, 25, 26, 27, 28, 29] (by decide +kernel) (by decide +kernel)) (goodIn_sub (fun _ h => List.mem_cons_of_mem _ (List.mem_append_right _ h)) (by decide +kernel))
set_option maxRecDepth 20000 in
theorem gX4_apart_X4_orderAt : GoodIn wsX4_apart (wsV RX4 124 RX4 yX4_orderAt wsX4_orderAt) := goodIn_app (goodIn_of _ (by decide +kernel)) ggX4_apart_X4_orderAt
set_option maxRecDepth 20000 in
theorem ggX4_apart_X4_pairsApart : GoodIn wsX4_apart wsX4_pairsApart := goodIn_r _ [11, 12, 13, 4, 14, 15, 16, 17, 18, 19, 20, 30, 31, 32, 33, 34, 35] (by decide +kernel) (by decide +kernel)
set_option maxRecDepth 20000 in
theorem gX4_apart_X4_pairsApart : GoodIn wsX4_apart (va_wsS RX4 242 yX4_pairsApart wsX4_pairsApart) := goodIn_app (goodIn_of _ (by decide +kernel)) ggX4_apart_X4_pairsApart
theorem dX4_apart_0 : decode cX4_apart 0 = .ok (.aload_n 0, 1) := by decide +kernel
theorem dX4_apart_1 : decode cX4_apart 1 = .ok (.iload_n 1, 1) := by decide +kernel
theorem dX4_apart_2 : decode cX4_apart 2 = .ok (.invokevirtual 124, 3) := by decide +kernel
theorem dX4_apart_5 : decode cX4_apart 5 = .ok (.astore_n 3, 1) := by decide +kernel
theorem dX4_apart_6 : decode cX4_apart 6 = .ok (.aload_n 3, 1) := by decide +kernel
theorem dX4_apart_7 : decode cX4_apart 7 = .ok (.aload_n 0, 1) := by decide +kernel
theorem dX4_apart_8 : decode cX4_apart 8 = .ok (.iload_n 2, 1) := by decide +kernel
theorem dX4_apart_9 : decode cX4_apart 9 = .ok (.invokevirtual 124, 3) := by decide +kernel
theorem dX4_apart_12 : decode cX4_apart 12 = .ok (.invokestatic 242, 3) := by decide +kernel
theorem dX4_apart_15 : decode cX4_apart 15 = .ok (.ireturn, 1) := by decide +kernel
set_option maxRecDepth 20000 in
theorem ggX4_classes_X4_orderAt : GoodIn wsX4_classes wsX4_orderAt := goodIn_ca (goodIn_r _ [5, 6, 7, 8, 15, 16, 17, 18, 19, 20, 21, 22, 23] (by decide +kernel) (by decide +kernel)) (goodIn_sub (fun _ h => List.mem_cons_of_mem _ (List.mem_append_right _ h)) (by decide +kernel))
set_option maxRecDepth 20000 in
theorem gX4_classes_X4_orderAt : GoodIn wsX4_classes (wsV RX4 124 RX4 yX4_orderAt wsX4_orderAt) := goodIn_app (goodIn_of _ (by decide +kernel)) ggX4_classes_X4_orderAt
set_option maxRecDepth 20000 in
theorem ggX4_classes_X1_classCount : GoodIn wsX4_classes wsX1_classCount := goodIn_r _ [13, 14, 24, 25, 26, 27, 28, 29] (by decide +kernel) (by decide +kernel)
set_option maxRecDepth 20000 in
theorem gX4_classes_X1_classCount : GoodIn wsX4_classes (wsV RX4 204 RX1 yX1_classCount wsX1_classCount) := goodIn_app (goodIn_of _ (by decide +kernel)) ggX4_classes_X1_classCount
theorem dX4_classes_0 : decode cX4_classes 0 = .ok (.aload_n 0, 1) := by decide +kernel
theorem dX4_classes_1 : decode cX4_classes 1 = .ok (.iload_n 1, 1) := by decide +kernel
theorem dX4_classes_2 : decode cX4_classes 2 = .ok (.invokevirtual 124, 3) := by decide +kernel
theorem dX4_classes_5 : decode cX4_classes 5 = .ok (.invokevirtual 204, 3) := by decide +kernel
theorem dX4_classes_8 : decode cX4_classes 8 = .ok (.ireturn, 1) := by decide +kernel
set_option maxRecDepth 20000 in
theorem ggX4_rank_X4_orderAt : GoodIn wsX4_rank wsX4_orderAt := goodIn_ca (goodIn_r _ [5, 6, 7, 8, 23, 24, 25, 26, 27, 28, 29, 30, 31] (by decide +kernel) (by decide +kernel)) (goodIn_sub (fun _ h => List.mem_cons_of_mem _ (List.mem_append_left _ (List.mem_append_right _ h))) (by decide +kernel))
set_option maxRecDepth 20000 in
theorem gX4_rank_X4_orderAt : GoodIn wsX4_rank (wsV RX4 124 RX4 yX4_orderAt wsX4_orderAt) := goodIn_app (goodIn_of _ (by decide +kernel)) ggX4_rank_X4_orderAt
set_option maxRecDepth 20000 in
theorem ggX4_rank_X4_demandValue : GoodIn wsX4_rank wsX4_demandValue := goodIn_ca (goodIn_r _ [11, 12, 13, 4, 14, 15, 16] (by decide +kernel) (by decide +kernel)) (goodIn_sub (fun _ h => List.mem_cons_of_mem _ (List.mem_append_right _ h)) (by decide +kernel))
set_option maxRecDepth 20000 in
theorem gX4_rank_X4_demandValue : GoodIn wsX4_rank (va_wsS RX4 59 yX4_demandValue wsX4_demandValue) := goodIn_app (goodIn_of _ (by decide +kernel)) ggX4_rank_X4_demandValue
set_option maxRecDepth 20000 in
theorem ggX4_rank_X1_rankOf : GoodIn wsX4_rank wsX1_rankOf := goodIn_r _ [21, 22, 32, 33, 34, 35, 36, 37] (by decide +kernel) (by decide +kernel)
set_option maxRecDepth 20000 in
theorem gX4_rank_X1_rankOf : GoodIn wsX4_rank (wsV RX4 162 RX1 yX1_rankOf wsX1_rankOf) := goodIn_app (goodIn_of _ (by decide +kernel)) ggX4_rank_X1_rankOf
theorem dX4_rank_0 : decode cX4_rank 0 = .ok (.aload_n 0, 1) := by decide +kernel
theorem dX4_rank_1 : decode cX4_rank 1 = .ok (.iload_n 1, 1) := by decide +kernel
theorem dX4_rank_2 : decode cX4_rank 2 = .ok (.invokevirtual 124, 3) := by decide +kernel
theorem dX4_rank_5 : decode cX4_rank 5 = .ok (.astore_n 3, 1) := by decide +kernel
theorem dX4_rank_6 : decode cX4_rank 6 = .ok (.iload_n 2, 1) := by decide +kernel
theorem dX4_rank_7 : decode cX4_rank 7 = .ok (.invokestatic 59, 3) := by decide +kernel
theorem dX4_rank_10 : decode cX4_rank 10 = .ok (.aload_n 3, 1) := by decide +kernel
theorem dX4_rank_11 : decode cX4_rank 11 = .ok (.iload_n 2, 1) := by decide +kernel
theorem dX4_rank_12 : decode cX4_rank 12 = .ok (.invokevirtual 162, 3) := by decide +kernel
theorem dX4_rank_15 : decode cX4_rank 15 = .ok (.ireturn, 1) := by decide +kernel
set_option maxRecDepth 20000 in
theorem ggX4_keyOf_X4_demandWithin : GoodIn wsX4_keyOf wsX4_demandWithin := goodIn_ca (goodIn_r _ [4, 5, 6] (by decide +kernel) (by decide +kernel)) (goodIn_sub (fun _ h => List.mem_cons_of_mem _ (List.mem_append_right _ h)) (by decide +kernel))
set_option maxRecDepth 20000 in
theorem gX4_keyOf_X4_demandWithin : GoodIn wsX4_keyOf (va_wsS RX4 75 yX4_demandWithin wsX4_demandWithin) := goodIn_app (goodIn_of _ (by decide +kernel)) ggX4_keyOf_X4_demandWithin
set_option maxRecDepth 20000 in
theorem ggX4_keyOf_X4_demandValue : GoodIn wsX4_keyOf wsX4_demandValue := goodIn_ca (goodIn_r _ [9, 1, 2, 3, 4, 5, 6] (by decide +kernel) (by decide +kernel)) (goodIn_sub (fun _ h => List.mem_cons_of_mem _ (List.mem_append_right _ h)) (by decide +kernel))
set_option maxRecDepth 20000 in
theorem gX4_keyOf_X4_demandValue : GoodIn wsX4_keyOf (va_wsS RX4 59 yX4_demandValue wsX4_demandValue) := goodIn_app (goodIn_of _ (by decide +kernel)) ggX4_keyOf_X4_demandValue
set_option maxRecDepth 20000 in
theorem ggX4_keyOf_X1_numberBy : GoodIn wsX4_keyOf wsX1_numberBy := goodIn_r _ [13, 14, 15, 16, 17, 18, 19, 20] (by decide +kernel) (by decide +kernel)
set_option maxRecDepth 20000 in
theorem gX4_keyOf_X1_numberBy : GoodIn wsX4_keyOf (va_wsS RX4 246 yX1_numberBy wsX1_numberBy) := goodIn_app (goodIn_of _ (by decide +kernel)) ggX4_keyOf_X1_numberBy
theorem dX4_keyOf_0 : decode cX4_keyOf 0 = .ok (.iload_n 1, 1) := by decide +kernel
theorem dX4_keyOf_1 : decode cX4_keyOf 1 = .ok (.bipush 7, 2) := by decide +kernel
theorem dX4_keyOf_3 : decode cX4_keyOf 3 = .ok (.invokestatic 75, 3) := by decide +kernel
theorem dX4_keyOf_6 : decode cX4_keyOf 6 = .ok (.iload_n 2, 1) := by decide +kernel
theorem dX4_keyOf_7 : decode cX4_keyOf 7 = .ok (.invokestatic 59, 3) := by decide +kernel
theorem dX4_keyOf_10 : decode cX4_keyOf 10 = .ok (.iload_n 1, 1) := by decide +kernel
theorem dX4_keyOf_11 : decode cX4_keyOf 11 = .ok (.iload_n 2, 1) := by decide +kernel
theorem dX4_keyOf_12 : decode cX4_keyOf 12 = .ok (.invokestatic 246, 3) := by decide +kernel
theorem dX4_keyOf_15 : decode cX4_keyOf 15 = .ok (.ireturn, 1) := by decide +kernel
theorem dX4_knock_0 : decode cX4_knock 0 = .ok (.aload_n 0, 1) := by decide +kernel
theorem dX4_knock_1 : decode cX4_knock 1 = .ok (.dup, 1) := by decide +kernel
theorem dX4_knock_2 : decode cX4_knock 2 = .ok (.getfield 52, 3) := by decide +kernel
theorem dX4_knock_5 : decode cX4_knock 5 = .ok (.iconst 1, 1) := by decide +kernel
theorem dX4_knock_6 : decode cX4_knock 6 = .ok (.iadd, 1) := by decide +kernel
theorem dX4_knock_7 : decode cX4_knock 7 = .ok (.putfield 52, 3) := by decide +kernel
theorem dX4_knock_10 : decode cX4_knock 10 = .ok (.aload_n 0, 1) := by decide +kernel
theorem dX4_knock_11 : decode cX4_knock 11 = .ok (.getfield 52, 3) := by decide +kernel
theorem dX4_knock_14 : decode cX4_knock 14 = .ok (.ireturn, 1) := by decide +kernel
set_option maxRecDepth 20000 in
theorem ggX4_house_X4_demandWithin : GoodIn wsX4_house wsX4_demandWithin := goodIn_ca (goodIn_r _ [4, 5, 6] (by decide +kernel) (by decide +kernel)) (goodIn_sub (fun _ h => List.mem_cons_of_mem _ (List.mem_append_left _ (List.mem_append_right _ h))) (by decide +kernel))
set_option maxRecDepth 20000 in
theorem gX4_house_X4_demandWithin : GoodIn wsX4_house (va_wsS RX4 75 yX4_demandWithin wsX4_demandWithin) := goodIn_app (goodIn_of _ (by decide +kernel)) ggX4_house_X4_demandWithin
set_option maxRecDepth 20000 in
theorem ggX4_house_X4_count : GoodIn wsX4_house wsX4_count := goodIn_ca (goodIn_r _ [10, 11, 12, 13, 14, 15, 16, 3, 17, 18, 19, 20, 21, 22, 23, 24, 25, 26, 27, 28, 29, 30, 31, 32, 33, 34, 35, 36, 37, 38, 39, 40, 41, 42, 43, 44, 45, 46, 47, 48, 49, 50, 51, 52, 53, 54, 55, 56, 57, 58, 59, 60, 61, 62, 63] (by decide +kernel) (by decide +kernel)) (goodIn_sub (fun _ h => List.mem_cons_of_mem _ (List.mem_append_right _ h)) (by decide +kernel))
set_option maxRecDepth 20000 in
theorem gX4_house_X4_count : GoodIn wsX4_house (wsV RX4 249 RX4 yX4_count wsX4_count) := goodIn_app (goodIn_of _ (by decide +kernel)) ggX4_house_X4_count
theorem dX4_house_0 : decode cX4_house 0 = .ok (.iload_n 1, 1) := by decide +kernel
theorem dX4_house_1 : decode cX4_house 1 = .ok (.iconst 4, 1) := by decide +kernel
theorem dX4_house_2 : decode cX4_house 2 = .ok (.invokestatic 75, 3) := by decide +kernel
theorem dX4_house_5 : decode cX4_house 5 = .ok (.aload_n 0, 1) := by decide +kernel
theorem dX4_house_6 : decode cX4_house 6 = .ok (.iload_n 1, 1) := by decide +kernel
theorem dX4_house_7 : decode cX4_house 7 = .ok (.invokevirtual 249, 3) := by decide +kernel
theorem dX4_house_10 : decode cX4_house 10 = .ok (.ireturn, 1) := by decide +kernel
set_option maxRecDepth 20000 in
theorem ggX4_isSound_X4_orderAt : GoodIn wsX4_isSound wsX4_orderAt := goodIn_ca (goodIn_r _ [6, 7, 8, 9, 244, 245, 246, 247, 248, 249, 250, 251, 252] (by decide +kernel) (by decide +kernel)) (goodIn_sub (fun _ h => List.mem_cons_of_mem _ (List.mem_append_right _ h)) (by decide +kernel))
set_option maxRecDepth 20000 in
theorem gX4_isSound_X4_orderAt : GoodIn wsX4_isSound (wsV RX4 124 RX4 yX4_orderAt wsX4_orderAt) := goodIn_app (goodIn_of _ (by decide +kernel)) ggX4_isSound_X4_orderAt
set_option maxRecDepth 20000 in
theorem ggX4_isSound_X0_areSignsTurned : GoodIn wsX4_isSound wsX0_areSignsTurned := goodIn_r _ [14, 15, 16, 17, 18, 19, 20, 253, 254, 255, 256, 257, 258] (by decide +kernel) (by decide +kernel)
set_option maxRecDepth 20000 in
theorem gX4_isSound_X0_areSignsTurned : GoodIn wsX4_isSound (wsV RX4 252 RX0 yX0_areSignsTurned wsX0_areSignsTurned) := goodIn_app (goodIn_of _ (by decide +kernel)) ggX4_isSound_X0_areSignsTurned
set_option maxRecDepth 20000 in
theorem ggX4_isSound_X0_areRanksAsClasses : GoodIn wsX4_isSound wsX0_areRanksAsClasses := goodIn_r _ [24, 25, 26, 13, 27, 28, 29, 30, 18, 31, 32, 33, 34, 35, 36, 37, 253, 254, 255, 256, 257, 258] (by decide +kernel) (by decide +kernel)
set_option maxRecDepth 20000 in
theorem gX4_isSound_X0_areRanksAsClasses : GoodIn wsX4_isSound (wsV RX4 255 RX0 yX0_areRanksAsClasses wsX0_areRanksAsClasses) := goodIn_app (goodIn_of _ (by decide +kernel)) ggX4_isSound_X0_areRanksAsClasses
set_option maxRecDepth 20000 in
theorem ggX4_isSound_X4_rowAt : GoodIn wsX4_isSound wsX4_rowAt := goodIn_ca (goodIn_r _ [41, 7, 8, 42, 244, 245, 246, 247, 248, 249, 250, 251, 252] (by decide +kernel) (by decide +kernel)) (goodIn_sub (fun _ h => List.mem_cons_of_mem _ (List.mem_append_right _ h)) (by decide +kernel))
set_option maxRecDepth 20000 in
theorem gX4_isSound_X4_rowAt : GoodIn wsX4_isSound (wsV RX4 55 RX4 yX4_rowAt wsX4_rowAt) := goodIn_app (goodIn_of _ (by decide +kernel)) ggX4_isSound_X4_rowAt
set_option maxRecDepth 20000 in
theorem ggX4_isSound_X0_areWaysAgreed : GoodIn wsX4_isSound wsX0_areWaysAgreed := goodIn_r _ [46, 47, 48, 49, 50, 51, 52, 53, 54, 55, 56, 57, 58, 59, 60, 61, 62, 63, 64, 65, 66, 67, 68, 69, 70, 71, 72, 73, 74, 75, 76, 77, 78, 79, 80, 81, 82, 83, 84, 85, 16, 17, 18, 19, 20, 86, 87, 88, 89, 90, 91, 92, 93, 94, 95, 96, 97, 98, 99, 100, 101, 102, 103, 104, 105, 106, 107, 108, 109, 110, 111, 112, 113, 114, 115, 116, 117, 34, 35, 36, 37, 118, 29, 30, 31, 32, 119, 120, 121, 122, 259, 260, 261, 262, 263, 264, 265, 253, 254, 255, 256, 257, 258, 266] (by decide +kernel) (by decide +kernel)
set_option maxRecDepth 20000 in
theorem gX4_isSound_X0_areWaysAgreed : GoodIn wsX4_isSound (wsV RX4 258 RX0 yX0_areWaysAgreed wsX0_areWaysAgreed) := goodIn_app (goodIn_of _ (by decide +kernel)) ggX4_isSound_X0_areWaysAgreed
set_option maxRecDepth 20000 in
theorem ggX4_isSound_X0_staysSorted : GoodIn wsX4_isSound wsX0_staysSorted := goodIn_r _ [126, 47, 48, 49, 50, 51, 52, 53, 54, 55, 56, 57, 58, 59, 60, 61, 62, 63, 64, 65, 66, 67, 68, 69, 70, 71, 72, 73, 74, 75, 76, 77, 78, 79, 80, 81, 82, 83, 84, 85, 16, 17, 18, 19, 20, 86, 87, 88, 89, 90, 91, 92, 93, 94, 95, 96, 97, 98, 99, 100, 101, 102, 103, 104, 105, 106, 107, 108, 109, 110, 111, 112, 113, 114, 115, 116, 117, 34, 35, 36, 37, 118, 29, 30, 31, 32, 127, 128, 129, 130, 131, 119, 120, 121, 122, 259, 260, 261, 262, 263, 264, 265, 253, 254, 255, 256, 257, 258, 266] (by decide +kernel) (by decide +kernel)
set_option maxRecDepth 20000 in
theorem gX4_isSound_X0_staysSorted : GoodIn wsX4_isSound (wsV RX4 262 RX0 yX0_staysSorted wsX0_staysSorted) := goodIn_app (goodIn_of _ (by decide +kernel)) ggX4_isSound_X0_staysSorted
set_option maxRecDepth 20000 in
theorem ggX4_isSound_X0_isTurnedAlike : GoodIn wsX4_isSound wsX0_isTurnedAlike := goodIn_r _ [135, 47, 48, 136, 49, 50, 51, 52, 53, 54, 55, 56, 57, 58, 59, 60, 61, 62, 63, 64, 65, 66, 67, 68, 69, 70, 71, 72, 73, 137, 138, 139, 140, 141, 87, 88, 89, 74, 75, 76, 77, 78, 79, 80, 81, 82, 83, 84, 85, 16, 17, 18, 19, 20, 86, 90, 91, 92, 93, 94, 95, 96, 97, 98, 99, 100, 101, 102, 103, 104, 105, 106, 107, 108, 109, 110, 111, 112, 113, 114, 115, 116, 117, 34, 35, 36, 37, 118, 29, 30, 31, 32, 142, 143, 144, 145, 146, 147, 148, 149, 150, 151, 152, 153, 154, 155, 156, 157, 158, 159, 160, 161, 162, 163, 164, 165, 166, 167, 168, 169, 170, 171, 172, 173, 174, 175, 176, 177, 178, 179, 180, 181, 182, 183, 184, 185, 186, 187, 188, 189, 190, 191, 192, 193, 194, 195, 196, 197, 198, 199, 119, 120, 121, 122, 259, 260, 261, 262, 263, 264, 265, 253, 254, 255, 256, 257, 258, 266] (by decide +kernel) (by decide +kernel)
set_option maxRecDepth 20000 in
theorem gX4_isSound_X0_isTurnedAlike : GoodIn wsX4_isSound (wsV RX4 265 RX0 yX0_isTurnedAlike wsX0_isTurnedAlike) := goodIn_app (goodIn_of _ (by decide +kernel)) ggX4_isSound_X0_isTurnedAlike
set_option maxRecDepth 20000 in
theorem ggX4_isSound_X0_isQueuedAlike : GoodIn wsX4_isSound wsX0_isQueuedAlike := goodIn_r _ [203, 47, 48, 49, 50, 51, 52, 53, 54, 55, 56, 57, 58, 59, 60, 61, 62, 63, 64, 65, 66, 67, 68, 69, 70, 71, 72, 73, 74, 75, 76, 77, 78, 79, 80, 81, 82, 83, 84, 85, 16, 17, 18, 19, 20, 86, 87, 88, 89, 90, 91, 92, 93, 94, 95, 96, 97, 98, 99, 100, 101, 102, 103, 104, 105, 106, 107, 108, 109, 110, 111, 112, 113, 114, 115, 116, 117, 34, 35, 36, 37, 118, 29, 30, 31, 32, 204, 205, 206, 207, 208, 131, 209, 28, 210, 211, 212, 213, 259, 260, 261, 262, 263, 264, 265, 253, 254, 255, 256, 257, 258, 266] (by decide +kernel) (by decide +kernel)
set_option maxRecDepth 20000 in
theorem gX4_isSound_X0_isQueuedAlike : GoodIn wsX4_isSound (wsV RX4 268 RX0 yX0_isQueuedAlike wsX0_isQueuedAlike) := goodIn_app (goodIn_of _ (by decide +kernel)) ggX4_isSound_X0_isQueuedAlike
set_option maxRecDepth 20000 in
theorem ggX4_isSound_X0_isRefiningSound : GoodIn wsX4_isSound wsX0_isRefiningSound := goodIn_r _ [217, 136, 218, 219, 220, 18, 221, 222, 16, 17, 19, 20, 223, 224, 225, 226, 146, 147, 148, 149, 150, 151, 152, 153, 154, 155, 156, 157, 158, 159, 160, 161, 162, 163, 164, 165, 166, 167, 168, 169, 170, 171, 172, 173, 174, 175, 176, 177, 178, 179, 180, 181, 182, 183, 184, 185, 186, 187, 37, 32, 188, 189, 190, 191, 192, 193, 194, 195, 227, 228, 229, 13, 230, 47, 48, 231, 232, 233, 53, 234, 55, 235, 109, 110, 111, 64, 69, 204, 57, 58, 59, 236, 81, 82, 77, 83, 84, 61, 62, 63, 85, 86, 87, 88, 89, 60, 65, 66, 67, 68, 70, 71, 72, 73, 127, 128, 129, 130, 131, 237, 238, 239, 15, 33, 34, 35, 36, 259, 260, 261, 262, 253, 254, 255, 256, 257, 258, 263, 264, 265] (by decide +kernel) (by decide +kernel)
set_option maxRecDepth 20000 in
theorem gX4_isSound_X0_isRefiningSound : GoodIn wsX4_isSound (wsV RX4 271 RX0 yX0_isRefiningSound wsX0_isRefiningSound) := goodIn_app (goodIn_of _ (by decide +kernel)) ggX4_isSound_X0_isRefiningSound
set_option maxRecDepth 20000 in
theorem ggX4_isSound_X0_isProductAlike : GoodIn wsX4_isSound wsX0_isProductAlike := goodIn_r _ [243, 47, 48, 136, 49, 50, 51, 52, 53, 54, 55, 56, 57, 58, 59, 60, 61, 62, 63, 64, 65, 66, 67, 68, 69, 70, 71, 72, 73, 74, 75, 76, 77, 78, 79, 80, 81, 82, 83, 84, 85, 16, 17, 18, 19, 20, 86, 87, 88, 89, 90, 91, 92, 93, 94, 95, 96, 97, 98, 99, 100, 101, 102, 103, 104, 105, 106, 107, 108, 109, 110, 111, 112, 113, 114, 115, 116, 117, 34, 35, 36, 37, 118, 29, 30, 31, 32, 223, 224, 225, 226, 146, 147, 148, 149, 150, 151, 152, 153, 154, 155, 156, 157, 158, 159, 160, 161, 162, 163, 164, 165, 166, 167, 168, 169, 170, 171, 172, 173, 174, 175, 176, 177, 178, 179, 180, 181, 182, 183, 184, 185, 186, 187, 188, 189, 190, 191, 192, 193, 194, 195, 119, 120, 121, 122, 259, 260, 261, 262, 263, 264, 265, 253, 254, 255, 256, 257, 258, 266] (by decide +kernel) (by decide +kernel)
set_option maxRecDepth 20000 in
theorem gX4_isSound_X0_isProductAlike : GoodIn wsX4_isSound (wsV RX4 275 RX0 yX0_isProductAlike wsX0_isProductAlike) := goodIn_app (goodIn_of _ (by decide +kernel)) ggX4_isSound_X0_isProductAlike
theorem dX4_isSound_0 : decode cX4_isSound 0 = .ok (.iconst 1, 1) := by decide +kernel
theorem dX4_isSound_1 : decode cX4_isSound 1 = .ok (.istore_n 1, 1) := by decide +kernel
theorem dX4_isSound_2 : decode cX4_isSound 2 = .ok (.iconst 0, 1) := by decide +kernel
theorem dX4_isSound_3 : decode cX4_isSound 3 = .ok (.istore_n 2, 1) := by decide +kernel
theorem dX4_isSound_4 : decode cX4_isSound 4 = .ok (.iload_n 1, 1) := by decide +kernel
theorem dX4_isSound_5 : decode cX4_isSound 5 = .ok (.ifCond .eq 207, 3) := by decide +kernel
theorem dX4_isSound_8 : decode cX4_isSound 8 = .ok (.iload_n 2, 1) := by decide +kernel
theorem dX4_isSound_9 : decode cX4_isSound 9 = .ok (.iconst 4, 1) := by decide +kernel
theorem dX4_isSound_10 : decode cX4_isSound 10 = .ok (.if_icmp .ge 202, 3) := by decide +kernel
theorem dX4_isSound_13 : decode cX4_isSound 13 = .ok (.aload_n 0, 1) := by decide +kernel
theorem dX4_isSound_14 : decode cX4_isSound 14 = .ok (.iload_n 2, 1) := by decide +kernel
theorem dX4_isSound_15 : decode cX4_isSound 15 = .ok (.invokevirtual 124, 3) := by decide +kernel
theorem dX4_isSound_18 : decode cX4_isSound 18 = .ok (.astore_n 3, 1) := by decide +kernel
theorem dX4_isSound_19 : decode cX4_isSound 19 = .ok (.aload_n 0, 1) := by decide +kernel
theorem dX4_isSound_20 : decode cX4_isSound 20 = .ok (.getfield 31, 3) := by decide +kernel
theorem dX4_isSound_23 : decode cX4_isSound 23 = .ok (.aload_n 3, 1) := by decide +kernel
theorem dX4_isSound_24 : decode cX4_isSound 24 = .ok (.invokevirtual 252, 3) := by decide +kernel
theorem dX4_isSound_27 : decode cX4_isSound 27 = .ok (.ifCond .eq 18, 3) := by decide +kernel
theorem dX4_isSound_30 : decode cX4_isSound 30 = .ok (.aload_n 0, 1) := by decide +kernel
theorem dX4_isSound_31 : decode cX4_isSound 31 = .ok (.getfield 31, 3) := by decide +kernel
theorem dX4_isSound_34 : decode cX4_isSound 34 = .ok (.aload_n 3, 1) := by decide +kernel
theorem dX4_isSound_35 : decode cX4_isSound 35 = .ok (.invokevirtual 255, 3) := by decide +kernel
theorem dX4_isSound_38 : decode cX4_isSound 38 = .ok (.ifCond .eq 7, 3) := by decide +kernel
theorem dX4_isSound_41 : decode cX4_isSound 41 = .ok (.iconst 1, 1) := by decide +kernel
theorem dX4_isSound_42 : decode cX4_isSound 42 = .ok (.goto 4, 3) := by decide +kernel
theorem dX4_isSound_45 : decode cX4_isSound 45 = .ok (.iconst 0, 1) := by decide +kernel
theorem dX4_isSound_46 : decode cX4_isSound 46 = .ok (.istore_n 1, 1) := by decide +kernel
theorem dX4_isSound_47 : decode cX4_isSound 47 = .ok (.iconst 0, 1) := by decide +kernel
theorem dX4_isSound_48 : decode cX4_isSound 48 = .ok (.istore 4, 2) := by decide +kernel
theorem dX4_isSound_50 : decode cX4_isSound 50 = .ok (.iload_n 1, 1) := by decide +kernel
theorem dX4_isSound_51 : decode cX4_isSound 51 = .ok (.ifCond .eq 81, 3) := by decide +kernel
theorem dX4_isSound_54 : decode cX4_isSound 54 = .ok (.iload 4, 2) := by decide +kernel
theorem dX4_isSound_56 : decode cX4_isSound 56 = .ok (.iconst 3, 1) := by decide +kernel
theorem dX4_isSound_57 : decode cX4_isSound 57 = .ok (.if_icmp .ge 75, 3) := by decide +kernel
theorem dX4_isSound_60 : decode cX4_isSound 60 = .ok (.aload_n 0, 1) := by decide +kernel
theorem dX4_isSound_61 : decode cX4_isSound 61 = .ok (.iload 4, 2) := by decide +kernel
theorem dX4_isSound_63 : decode cX4_isSound 63 = .ok (.invokevirtual 55, 3) := by decide +kernel
theorem dX4_isSound_66 : decode cX4_isSound 66 = .ok (.astore 5, 2) := by decide +kernel
theorem dX4_isSound_68 : decode cX4_isSound 68 = .ok (.aload_n 0, 1) := by decide +kernel
theorem dX4_isSound_69 : decode cX4_isSound 69 = .ok (.getfield 31, 3) := by decide +kernel
theorem dX4_isSound_72 : decode cX4_isSound 72 = .ok (.aload 5, 2) := by decide +kernel
theorem dX4_isSound_74 : decode cX4_isSound 74 = .ok (.aload_n 3, 1) := by decide +kernel
theorem dX4_isSound_75 : decode cX4_isSound 75 = .ok (.invokevirtual 258, 3) := by decide +kernel
theorem dX4_isSound_78 : decode cX4_isSound 78 = .ok (.ifCond .eq 46, 3) := by decide +kernel
theorem dX4_isSound_81 : decode cX4_isSound 81 = .ok (.aload_n 0, 1) := by decide +kernel
theorem dX4_isSound_82 : decode cX4_isSound 82 = .ok (.getfield 31, 3) := by decide +kernel
theorem dX4_isSound_85 : decode cX4_isSound 85 = .ok (.aload 5, 2) := by decide +kernel
theorem dX4_isSound_87 : decode cX4_isSound 87 = .ok (.aload_n 3, 1) := by decide +kernel
theorem dX4_isSound_88 : decode cX4_isSound 88 = .ok (.invokevirtual 262, 3) := by decide +kernel
theorem dX4_isSound_91 : decode cX4_isSound 91 = .ok (.ifCond .eq 33, 3) := by decide +kernel
theorem dX4_isSound_94 : decode cX4_isSound 94 = .ok (.aload_n 0, 1) := by decide +kernel
theorem dX4_isSound_95 : decode cX4_isSound 95 = .ok (.getfield 31, 3) := by decide +kernel
theorem dX4_isSound_98 : decode cX4_isSound 98 = .ok (.aload 5, 2) := by decide +kernel
theorem dX4_isSound_100 : decode cX4_isSound 100 = .ok (.aload_n 3, 1) := by decide +kernel
theorem dX4_isSound_101 : decode cX4_isSound 101 = .ok (.invokevirtual 265, 3) := by decide +kernel
theorem dX4_isSound_104 : decode cX4_isSound 104 = .ok (.ifCond .eq 20, 3) := by decide +kernel
theorem dX4_isSound_107 : decode cX4_isSound 107 = .ok (.aload_n 0, 1) := by decide +kernel
theorem dX4_isSound_108 : decode cX4_isSound 108 = .ok (.getfield 31, 3) := by decide +kernel
theorem dX4_isSound_111 : decode cX4_isSound 111 = .ok (.aload 5, 2) := by decide +kernel
theorem dX4_isSound_113 : decode cX4_isSound 113 = .ok (.aload_n 3, 1) := by decide +kernel
theorem dX4_isSound_114 : decode cX4_isSound 114 = .ok (.invokevirtual 268, 3) := by decide +kernel
theorem dX4_isSound_117 : decode cX4_isSound 117 = .ok (.ifCond .eq 7, 3) := by decide +kernel
theorem dX4_isSound_120 : decode cX4_isSound 120 = .ok (.iconst 1, 1) := by decide +kernel
theorem dX4_isSound_121 : decode cX4_isSound 121 = .ok (.goto 4, 3) := by decide +kernel
theorem dX4_isSound_124 : decode cX4_isSound 124 = .ok (.iconst 0, 1) := by decide +kernel
theorem dX4_isSound_125 : decode cX4_isSound 125 = .ok (.istore_n 1, 1) := by decide +kernel
theorem dX4_isSound_126 : decode cX4_isSound 126 = .ok (.iinc 4 1, 3) := by decide +kernel
theorem dX4_isSound_129 : decode cX4_isSound 129 = .ok (.goto (-79), 3) := by decide +kernel
theorem dX4_isSound_132 : decode cX4_isSound 132 = .ok (.iconst 0, 1) := by decide +kernel
theorem dX4_isSound_133 : decode cX4_isSound 133 = .ok (.istore 4, 2) := by decide +kernel
theorem dX4_isSound_135 : decode cX4_isSound 135 = .ok (.iload_n 1, 1) := by decide +kernel
theorem dX4_isSound_136 : decode cX4_isSound 136 = .ok (.ifCond .eq 70, 3) := by decide +kernel
theorem dX4_isSound_139 : decode cX4_isSound 139 = .ok (.iload 4, 2) := by decide +kernel
theorem dX4_isSound_141 : decode cX4_isSound 141 = .ok (.iconst 4, 1) := by decide +kernel
theorem dX4_isSound_142 : decode cX4_isSound 142 = .ok (.if_icmp .ge 64, 3) := by decide +kernel
theorem dX4_isSound_145 : decode cX4_isSound 145 = .ok (.aload_n 0, 1) := by decide +kernel
theorem dX4_isSound_146 : decode cX4_isSound 146 = .ok (.iload 4, 2) := by decide +kernel
theorem dX4_isSound_148 : decode cX4_isSound 148 = .ok (.invokevirtual 124, 3) := by decide +kernel
theorem dX4_isSound_151 : decode cX4_isSound 151 = .ok (.astore 5, 2) := by decide +kernel
theorem dX4_isSound_153 : decode cX4_isSound 153 = .ok (.aload_n 0, 1) := by decide +kernel
theorem dX4_isSound_154 : decode cX4_isSound 154 = .ok (.getfield 31, 3) := by decide +kernel
theorem dX4_isSound_157 : decode cX4_isSound 157 = .ok (.aload_n 3, 1) := by decide +kernel
theorem dX4_isSound_158 : decode cX4_isSound 158 = .ok (.aload 5, 2) := by decide +kernel
theorem dX4_isSound_160 : decode cX4_isSound 160 = .ok (.invokevirtual 271, 3) := by decide +kernel
theorem dX4_isSound_163 : decode cX4_isSound 163 = .ok (.istore_n 1, 1) := by decide +kernel
theorem dX4_isSound_164 : decode cX4_isSound 164 = .ok (.iconst 0, 1) := by decide +kernel
theorem dX4_isSound_165 : decode cX4_isSound 165 = .ok (.istore 6, 2) := by decide +kernel
theorem dX4_isSound_167 : decode cX4_isSound 167 = .ok (.iload_n 1, 1) := by decide +kernel
theorem dX4_isSound_168 : decode cX4_isSound 168 = .ok (.ifCond .eq 32, 3) := by decide +kernel
theorem dX4_isSound_171 : decode cX4_isSound 171 = .ok (.iload 6, 2) := by decide +kernel
theorem dX4_isSound_173 : decode cX4_isSound 173 = .ok (.iconst 3, 1) := by decide +kernel
theorem dX4_isSound_174 : decode cX4_isSound 174 = .ok (.if_icmp .ge 26, 3) := by decide +kernel
theorem dX4_isSound_177 : decode cX4_isSound 177 = .ok (.aload_n 0, 1) := by decide +kernel
theorem dX4_isSound_178 : decode cX4_isSound 178 = .ok (.getfield 31, 3) := by decide +kernel
theorem dX4_isSound_181 : decode cX4_isSound 181 = .ok (.aload_n 0, 1) := by decide +kernel
theorem dX4_isSound_182 : decode cX4_isSound 182 = .ok (.iload 6, 2) := by decide +kernel
theorem dX4_isSound_184 : decode cX4_isSound 184 = .ok (.invokevirtual 55, 3) := by decide +kernel
theorem dX4_isSound_187 : decode cX4_isSound 187 = .ok (.aload_n 3, 1) := by decide +kernel
theorem dX4_isSound_188 : decode cX4_isSound 188 = .ok (.aload 5, 2) := by decide +kernel
theorem dX4_isSound_190 : decode cX4_isSound 190 = .ok (.invokevirtual 275, 3) := by decide +kernel
theorem dX4_isSound_193 : decode cX4_isSound 193 = .ok (.istore_n 1, 1) := by decide +kernel
theorem dX4_isSound_194 : decode cX4_isSound 194 = .ok (.iinc 6 1, 3) := by decide +kernel
theorem dX4_isSound_197 : decode cX4_isSound 197 = .ok (.goto (-30), 3) := by decide +kernel
theorem dX4_isSound_200 : decode cX4_isSound 200 = .ok (.iinc 4 1, 3) := by decide +kernel
theorem dX4_isSound_203 : decode cX4_isSound 203 = .ok (.goto (-68), 3) := by decide +kernel
theorem dX4_isSound_206 : decode cX4_isSound 206 = .ok (.iinc 2 1, 3) := by decide +kernel
theorem dX4_isSound_209 : decode cX4_isSound 209 = .ok (.goto (-205), 3) := by decide +kernel
theorem dX4_isSound_212 : decode cX4_isSound 212 = .ok (.iload_n 1, 1) := by decide +kernel
theorem dX4_isSound_213 : decode cX4_isSound 213 = .ok (.ireturn, 1) := by decide +kernel
set_option maxRecDepth 20000 in
theorem ggX4_digest_X4_count : GoodIn wsX4_digest wsX4_count := goodIn_ca (goodIn_r _ [6, 7, 8, 9, 10, 11, 12, 5, 13, 14, 15, 16, 17, 18, 19, 20, 21, 22, 23, 24, 25, 26, 27, 28, 29, 30, 31, 32, 33, 34, 35, 36, 37, 38, 39, 40, 41, 309, 310, 311, 312, 313, 314, 315, 316, 317, 318, 319, 320, 321, 322, 323, 324, 325, 326] (by decide +kernel) (by decide +kernel)) (goodIn_sub (fun _ h => List.mem_cons_of_mem _ (List.mem_append_right _ h)) (by decide +kernel))
set_option maxRecDepth 20000 in
theorem gX4_digest_X4_count : GoodIn wsX4_digest (wsV RX4 249 RX4 yX4_count wsX4_count) := goodIn_app (goodIn_of _ (by decide +kernel)) ggX4_digest_X4_count
set_option maxRecDepth 20000 in
theorem ggX4_digest_X4_mixed : GoodIn wsX4_digest wsX4_mixed := goodIn_r _ [44, 45] (by decide +kernel) (by decide +kernel)
set_option maxRecDepth 20000 in
theorem gX4_digest_X4_mixed : GoodIn wsX4_digest (va_wsS RX4 281 yX4_mixed wsX4_mixed) := goodIn_app (goodIn_of _ (by decide +kernel)) ggX4_digest_X4_mixed
set_option maxRecDepth 20000 in
theorem ggX4_digest_X4_mixedWithRows : GoodIn wsX4_digest wsX4_mixedWithRows := goodIn_ca (goodIn_r _ [49, 14, 15, 16, 5, 17, 18, 19, 20, 21, 22, 23, 24, 25, 26, 42, 43, 44, 45, 50, 51, 52, 53, 54, 55, 56, 57, 58, 59, 309, 310, 311, 312, 313, 314, 315, 316, 317, 318, 319, 320] (by decide +kernel) (by decide +kernel)) (goodIn_sub (fun _ h => List.mem_cons_of_mem _ (List.mem_append_right _ h)) (by decide +kernel))
set_option maxRecDepth 20000 in
theorem gX4_digest_X4_mixedWithRows : GoodIn wsX4_digest (wsV RX4 285 RX4 yX4_mixedWithRows wsX4_mixedWithRows) := goodIn_app (goodIn_of _ (by decide +kernel)) ggX4_digest_X4_mixedWithRows
set_option maxRecDepth 20000 in
theorem ggX4_digest_X4_mixedWithOrders : GoodIn wsX4_digest wsX4_mixedWithOrders := goodIn_ca (goodIn_r _ [63, 31, 32, 33, 5, 34, 18, 19, 35, 36, 37, 38, 39, 40, 41, 42, 43, 44, 45, 64, 65, 66, 67, 68, 69, 70, 71, 72, 73, 74, 75, 76, 77, 78, 79, 80, 81, 82, 83, 309, 310, 311, 312, 313, 314, 315, 316, 317, 321, 322, 323, 324, 325, 326] (by decide +kernel) (by decide +kernel)) (goodIn_sub (fun _ h => List.mem_cons_of_mem _ (List.mem_append_right _ h)) (by decide +kernel))
set_option maxRecDepth 20000 in
theorem gX4_digest_X4_mixedWithOrders : GoodIn wsX4_digest (wsV RX4 289 RX4 yX4_mixedWithOrders wsX4_mixedWithOrders) := goodIn_app (goodIn_of _ (by decide +kernel)) ggX4_digest_X4_mixedWithOrders
set_option maxRecDepth 20000 in
theorem ggX4_digest_X4_mixedWithPairs : GoodIn wsX4_digest wsX4_mixedWithPairs := goodIn_ca (goodIn_r _ [87, 31, 32, 33, 5, 34, 18, 19, 35, 88, 89, 90, 91, 92, 93, 94, 95, 96, 39, 97, 98, 42, 43, 44, 45, 99, 100, 101, 102, 103, 309, 310, 311, 312, 313, 314, 315, 316, 317, 321, 322, 323, 324, 325, 326] (by decide +kernel) (by decide +kernel)) (goodIn_sub (fun _ h => List.mem_cons_of_mem _ (List.mem_append_right _ h)) (by decide +kernel))
set_option maxRecDepth 20000 in
theorem gX4_digest_X4_mixedWithPairs : GoodIn wsX4_digest (wsV RX4 292 RX4 yX4_mixedWithPairs wsX4_mixedWithPairs) := goodIn_app (goodIn_of _ (by decide +kernel)) ggX4_digest_X4_mixedWithPairs
set_option maxRecDepth 20000 in
theorem ggX4_digest_X4_mixedWithSequences : GoodIn wsX4_digest wsX4_mixedWithSequences := goodIn_ca (goodIn_r _ [107, 14, 15, 16, 5, 17, 18, 19, 20, 31, 32, 33, 34, 35, 108, 109, 110, 24, 111, 26, 112, 113, 114, 115, 116, 51, 52, 53, 54, 117, 95, 96, 39, 97, 98, 42, 43, 44, 45, 118, 119, 120, 121, 309, 310, 311, 312, 313, 314, 315, 316, 317, 318, 319, 320, 321, 322, 323, 324, 325, 326] (by decide +kernel) (by decide +kernel)) (goodIn_sub (fun _ h => List.mem_cons_of_mem _ (List.mem_append_right _ h)) (by decide +kernel))
set_option maxRecDepth 20000 in
theorem gX4_digest_X4_mixedWithSequences : GoodIn wsX4_digest (wsV RX4 295 RX4 yX4_mixedWithSequences wsX4_mixedWithSequences) := goodIn_app (goodIn_of _ (by decide +kernel)) ggX4_digest_X4_mixedWithSequences
set_option maxRecDepth 20000 in
theorem ggX4_digest_X4_isSound : GoodIn wsX4_digest wsX4_isSound := goodIn_ca (goodIn_r _ [125, 126, 31, 32, 33, 5, 34, 18, 19, 35, 127, 128, 129, 130, 131, 132, 95, 96, 39, 97, 98, 133, 134, 135, 136, 137, 138, 139, 140, 80, 81, 82, 83, 141, 75, 76, 77, 78, 14, 15, 16, 17, 20, 142, 143, 144, 145, 146, 147, 148, 149, 150, 151, 24, 152, 26, 153, 22, 23, 25, 116, 51, 52, 53, 54, 154, 56, 57, 58, 59, 155, 156, 157, 158, 159, 160, 161, 162, 163, 164, 165, 166, 167, 168, 169, 170, 171, 172, 173, 174, 175, 176, 177, 178, 179, 180, 181, 182, 183, 184, 185, 186, 187, 188, 189, 190, 191, 192, 193, 194, 195, 196, 197, 198, 199, 200, 201, 202, 203, 204, 205, 206, 207, 208, 209, 210, 211, 212, 119, 120, 121, 117, 213, 214, 215, 216, 217, 218, 219, 220, 221, 222, 223, 224, 225, 226, 41, 227, 37, 38, 40, 228, 229, 230, 231, 232, 65, 66, 67, 68, 233, 70, 71, 72, 73, 234, 235, 236, 237, 238, 239, 240, 241, 242, 243, 244, 245, 246, 247, 248, 249, 250, 251, 252, 253, 254, 255, 256, 257, 258, 259, 260, 261, 262, 263, 264, 265, 266, 267, 268, 269, 270, 271, 272, 273, 274, 275, 276, 277, 278, 279, 280, 281, 282, 283, 284, 285, 286, 287, 100, 101, 102, 103, 288, 289, 290, 291, 292, 293, 294, 295, 296, 297, 298, 299, 300, 301, 302, 303, 304, 305, 306, 307, 308, 309, 310, 311, 312, 313, 314, 315, 316, 317, 321, 322, 323, 324, 325, 326, 327, 328, 329, 330, 318, 319, 320, 331] (by decide +kernel) (by decide +kernel)) (goodIn_sub (fun _ h => List.mem_cons_of_mem _ (List.mem_append_right _ h)) (by decide +kernel))
set_option maxRecDepth 20000 in
theorem gX4_digest_X4_isSound : GoodIn wsX4_digest (wsV RX4 298 RX4 yX4_isSound wsX4_isSound) := goodIn_app (goodIn_of _ (by decide +kernel)) ggX4_digest_X4_isSound
theorem dX4_digest_0 : decode cX4_digest 0 = .ok (.ldc2_w 279, 3) := by decide +kernel
theorem dX4_digest_3 : decode cX4_digest 3 = .ok (.lstore_n 1, 1) := by decide +kernel
theorem dX4_digest_4 : decode cX4_digest 4 = .ok (.iconst 0, 1) := by decide +kernel
theorem dX4_digest_5 : decode cX4_digest 5 = .ok (.istore_n 3, 1) := by decide +kernel
theorem dX4_digest_6 : decode cX4_digest 6 = .ok (.iload_n 3, 1) := by decide +kernel
theorem dX4_digest_7 : decode cX4_digest 7 = .ok (.iconst 5, 1) := by decide +kernel
theorem dX4_digest_8 : decode cX4_digest 8 = .ok (.if_icmp .ge 19, 3) := by decide +kernel
theorem dX4_digest_11 : decode cX4_digest 11 = .ok (.lload_n 1, 1) := by decide +kernel
theorem dX4_digest_12 : decode cX4_digest 12 = .ok (.aload_n 0, 1) := by decide +kernel
theorem dX4_digest_13 : decode cX4_digest 13 = .ok (.iload_n 3, 1) := by decide +kernel
theorem dX4_digest_14 : decode cX4_digest 14 = .ok (.invokevirtual 249, 3) := by decide +kernel
theorem dX4_digest_17 : decode cX4_digest 17 = .ok (.invokestatic 281, 3) := by decide +kernel
theorem dX4_digest_20 : decode cX4_digest 20 = .ok (.lstore_n 1, 1) := by decide +kernel
theorem dX4_digest_21 : decode cX4_digest 21 = .ok (.iinc 3 1, 3) := by decide +kernel
theorem dX4_digest_24 : decode cX4_digest 24 = .ok (.goto (-18), 3) := by decide +kernel
theorem dX4_digest_27 : decode cX4_digest 27 = .ok (.aload_n 0, 1) := by decide +kernel
theorem dX4_digest_28 : decode cX4_digest 28 = .ok (.lload_n 1, 1) := by decide +kernel
theorem dX4_digest_29 : decode cX4_digest 29 = .ok (.invokevirtual 285, 3) := by decide +kernel
theorem dX4_digest_32 : decode cX4_digest 32 = .ok (.lstore_n 1, 1) := by decide +kernel
theorem dX4_digest_33 : decode cX4_digest 33 = .ok (.aload_n 0, 1) := by decide +kernel
theorem dX4_digest_34 : decode cX4_digest 34 = .ok (.lload_n 1, 1) := by decide +kernel
theorem dX4_digest_35 : decode cX4_digest 35 = .ok (.invokevirtual 289, 3) := by decide +kernel
theorem dX4_digest_38 : decode cX4_digest 38 = .ok (.lstore_n 1, 1) := by decide +kernel
theorem dX4_digest_39 : decode cX4_digest 39 = .ok (.aload_n 0, 1) := by decide +kernel
theorem dX4_digest_40 : decode cX4_digest 40 = .ok (.lload_n 1, 1) := by decide +kernel
theorem dX4_digest_41 : decode cX4_digest 41 = .ok (.invokevirtual 292, 3) := by decide +kernel
theorem dX4_digest_44 : decode cX4_digest 44 = .ok (.lstore_n 1, 1) := by decide +kernel
theorem dX4_digest_45 : decode cX4_digest 45 = .ok (.aload_n 0, 1) := by decide +kernel
theorem dX4_digest_46 : decode cX4_digest 46 = .ok (.lload_n 1, 1) := by decide +kernel
theorem dX4_digest_47 : decode cX4_digest 47 = .ok (.invokevirtual 295, 3) := by decide +kernel
theorem dX4_digest_50 : decode cX4_digest 50 = .ok (.lstore_n 1, 1) := by decide +kernel
theorem dX4_digest_51 : decode cX4_digest 51 = .ok (.lload_n 1, 1) := by decide +kernel
theorem dX4_digest_52 : decode cX4_digest 52 = .ok (.aload_n 0, 1) := by decide +kernel
theorem dX4_digest_53 : decode cX4_digest 53 = .ok (.invokevirtual 298, 3) := by decide +kernel
theorem dX4_digest_56 : decode cX4_digest 56 = .ok (.ifCond .eq 7, 3) := by decide +kernel
theorem dX4_digest_59 : decode cX4_digest 59 = .ok (.iconst 1, 1) := by decide +kernel
theorem dX4_digest_60 : decode cX4_digest 60 = .ok (.goto 4, 3) := by decide +kernel
theorem dX4_digest_63 : decode cX4_digest 63 = .ok (.iconst 0, 1) := by decide +kernel
theorem dX4_digest_64 : decode cX4_digest 64 = .ok (.invokestatic 281, 3) := by decide +kernel
theorem dX4_digest_67 : decode cX4_digest 67 = .ok (.lreturn, 1) := by decide +kernel
theorem dX4_rowAt_0 : decode cX4_rowAt 0 = .ok (.iload_n 1, 1) := by decide +kernel
theorem dX4_rowAt_1 : decode cX4_rowAt 1 = .ok (.ifCond .lt 12, 3) := by decide +kernel
theorem dX4_rowAt_4 : decode cX4_rowAt 4 = .ok (.iload_n 1, 1) := by decide +kernel
theorem dX4_rowAt_5 : decode cX4_rowAt 5 = .ok (.aload_n 0, 1) := by decide +kernel
theorem dX4_rowAt_6 : decode cX4_rowAt 6 = .ok (.getfield 11, 3) := by decide +kernel
theorem dX4_rowAt_9 : decode cX4_rowAt 9 = .ok (.arraylength, 1) := by decide +kernel
theorem dX4_rowAt_10 : decode cX4_rowAt 10 = .ok (.if_icmp .lt 7, 3) := by decide +kernel
theorem dX4_rowAt_13 : decode cX4_rowAt 13 = .ok (.aconst_null, 1) := by decide +kernel
theorem dX4_rowAt_14 : decode cX4_rowAt 14 = .ok (.goto 9, 3) := by decide +kernel
theorem dX4_rowAt_17 : decode cX4_rowAt 17 = .ok (.aload_n 0, 1) := by decide +kernel
theorem dX4_rowAt_18 : decode cX4_rowAt 18 = .ok (.getfield 11, 3) := by decide +kernel
theorem dX4_rowAt_21 : decode cX4_rowAt 21 = .ok (.iload_n 1, 1) := by decide +kernel
theorem dX4_rowAt_22 : decode cX4_rowAt 22 = .ok (.aaload, 1) := by decide +kernel
theorem dX4_rowAt_23 : decode cX4_rowAt 23 = .ok (.astore_n 2, 1) := by decide +kernel
theorem dX4_rowAt_24 : decode cX4_rowAt 24 = .ok (.aload_n 2, 1) := by decide +kernel
theorem dX4_rowAt_25 : decode cX4_rowAt 25 = .ok (.ifnonnull 14, 3) := by decide +kernel
theorem dX4_rowAt_28 : decode cX4_rowAt 28 = .ok (.new 302, 3) := by decide +kernel
theorem dX4_rowAt_31 : decode cX4_rowAt 31 = .ok (.dup, 1) := by decide +kernel
theorem dX4_rowAt_32 : decode cX4_rowAt 32 = .ok (.ldc_w 304, 3) := by decide +kernel
theorem dX4_rowAt_35 : decode cX4_rowAt 35 = .ok (.invokespecial 306, 3) := by decide +kernel
theorem dX4_rowAt_38 : decode cX4_rowAt 38 = .ok (.athrow, 1) := by decide +kernel
theorem dX4_rowAt_39 : decode cX4_rowAt 39 = .ok (.aload_n 2, 1) := by decide +kernel
theorem dX4_rowAt_40 : decode cX4_rowAt 40 = .ok (.areturn, 1) := by decide +kernel
theorem dX4_orderAt_0 : decode cX4_orderAt 0 = .ok (.iload_n 1, 1) := by decide +kernel
theorem dX4_orderAt_1 : decode cX4_orderAt 1 = .ok (.ifCond .lt 12, 3) := by decide +kernel
theorem dX4_orderAt_4 : decode cX4_orderAt 4 = .ok (.iload_n 1, 1) := by decide +kernel
theorem dX4_orderAt_5 : decode cX4_orderAt 5 = .ok (.aload_n 0, 1) := by decide +kernel
theorem dX4_orderAt_6 : decode cX4_orderAt 6 = .ok (.getfield 17, 3) := by decide +kernel
theorem dX4_orderAt_9 : decode cX4_orderAt 9 = .ok (.arraylength, 1) := by decide +kernel
theorem dX4_orderAt_10 : decode cX4_orderAt 10 = .ok (.if_icmp .lt 7, 3) := by decide +kernel
theorem dX4_orderAt_13 : decode cX4_orderAt 13 = .ok (.aconst_null, 1) := by decide +kernel
theorem dX4_orderAt_14 : decode cX4_orderAt 14 = .ok (.goto 9, 3) := by decide +kernel
theorem dX4_orderAt_17 : decode cX4_orderAt 17 = .ok (.aload_n 0, 1) := by decide +kernel
theorem dX4_orderAt_18 : decode cX4_orderAt 18 = .ok (.getfield 17, 3) := by decide +kernel
theorem dX4_orderAt_21 : decode cX4_orderAt 21 = .ok (.iload_n 1, 1) := by decide +kernel
theorem dX4_orderAt_22 : decode cX4_orderAt 22 = .ok (.aaload, 1) := by decide +kernel
theorem dX4_orderAt_23 : decode cX4_orderAt 23 = .ok (.astore_n 2, 1) := by decide +kernel
theorem dX4_orderAt_24 : decode cX4_orderAt 24 = .ok (.aload_n 2, 1) := by decide +kernel
theorem dX4_orderAt_25 : decode cX4_orderAt 25 = .ok (.ifnonnull 14, 3) := by decide +kernel
theorem dX4_orderAt_28 : decode cX4_orderAt 28 = .ok (.new 302, 3) := by decide +kernel
theorem dX4_orderAt_31 : decode cX4_orderAt 31 = .ok (.dup, 1) := by decide +kernel
theorem dX4_orderAt_32 : decode cX4_orderAt 32 = .ok (.ldc_w 307, 3) := by decide +kernel
theorem dX4_orderAt_35 : decode cX4_orderAt 35 = .ok (.invokespecial 306, 3) := by decide +kernel
theorem dX4_orderAt_38 : decode cX4_orderAt 38 = .ok (.athrow, 1) := by decide +kernel
theorem dX4_orderAt_39 : decode cX4_orderAt 39 = .ok (.aload_n 2, 1) := by decide +kernel
theorem dX4_orderAt_40 : decode cX4_orderAt 40 = .ok (.areturn, 1) := by decide +kernel
set_option maxRecDepth 20000 in
theorem ggX4_demandPlace_X2_length : GoodIn wsX4_demandPlace wsX2_length := goodIn_r _ [7, 8, 9, 10, 11] (by decide +kernel) (by decide +kernel)
set_option maxRecDepth 20000 in
theorem gX4_demandPlace_X2_length : GoodIn wsX4_demandPlace (wsV RX4 63 RX2 yX2_length wsX2_length) := goodIn_app (goodIn_of _ (by decide +kernel)) ggX4_demandPlace_X2_length
theorem dX4_demandPlace_0 : decode cX4_demandPlace 0 = .ok (.iload_n 1, 1) := by decide +kernel
theorem dX4_demandPlace_1 : decode cX4_demandPlace 1 = .ok (.ifCond .lt 11, 3) := by decide +kernel
theorem dX4_demandPlace_4 : decode cX4_demandPlace 4 = .ok (.iload_n 1, 1) := by decide +kernel
theorem dX4_demandPlace_5 : decode cX4_demandPlace 5 = .ok (.aload_n 0, 1) := by decide +kernel
theorem dX4_demandPlace_6 : decode cX4_demandPlace 6 = .ok (.invokevirtual 63, 3) := by decide +kernel
theorem dX4_demandPlace_9 : decode cX4_demandPlace 9 = .ok (.if_icmp .lt 14, 3) := by decide +kernel
theorem dX4_demandPlace_12 : decode cX4_demandPlace 12 = .ok (.new 302, 3) := by decide +kernel
theorem dX4_demandPlace_15 : decode cX4_demandPlace 15 = .ok (.dup, 1) := by decide +kernel
theorem dX4_demandPlace_16 : decode cX4_demandPlace 16 = .ok (.ldc_w 309, 3) := by decide +kernel
theorem dX4_demandPlace_19 : decode cX4_demandPlace 19 = .ok (.invokespecial 306, 3) := by decide +kernel
theorem dX4_demandPlace_22 : decode cX4_demandPlace 22 = .ok (.athrow, 1) := by decide +kernel
theorem dX4_demandPlace_23 : decode cX4_demandPlace 23 = .ok (.return_, 1) := by decide +kernel
set_option maxRecDepth 20000 in
theorem ggX4_demandGap_X2_length : GoodIn wsX4_demandGap wsX2_length := goodIn_r _ [7, 8, 9, 10, 11] (by decide +kernel) (by decide +kernel)
set_option maxRecDepth 20000 in
theorem gX4_demandGap_X2_length : GoodIn wsX4_demandGap (wsV RX4 63 RX2 yX2_length wsX2_length) := goodIn_app (goodIn_of _ (by decide +kernel)) ggX4_demandGap_X2_length
theorem dX4_demandGap_0 : decode cX4_demandGap 0 = .ok (.iload_n 1, 1) := by decide +kernel
theorem dX4_demandGap_1 : decode cX4_demandGap 1 = .ok (.ifCond .lt 11, 3) := by decide +kernel
theorem dX4_demandGap_4 : decode cX4_demandGap 4 = .ok (.iload_n 1, 1) := by decide +kernel
theorem dX4_demandGap_5 : decode cX4_demandGap 5 = .ok (.aload_n 0, 1) := by decide +kernel
theorem dX4_demandGap_6 : decode cX4_demandGap 6 = .ok (.invokevirtual 63, 3) := by decide +kernel
theorem dX4_demandGap_9 : decode cX4_demandGap 9 = .ok (.if_icmp .le 14, 3) := by decide +kernel
theorem dX4_demandGap_12 : decode cX4_demandGap 12 = .ok (.new 302, 3) := by decide +kernel
theorem dX4_demandGap_15 : decode cX4_demandGap 15 = .ok (.dup, 1) := by decide +kernel
theorem dX4_demandGap_16 : decode cX4_demandGap 16 = .ok (.ldc_w 309, 3) := by decide +kernel
theorem dX4_demandGap_19 : decode cX4_demandGap 19 = .ok (.invokespecial 306, 3) := by decide +kernel
theorem dX4_demandGap_22 : decode cX4_demandGap 22 = .ok (.athrow, 1) := by decide +kernel
theorem dX4_demandGap_23 : decode cX4_demandGap 23 = .ok (.return_, 1) := by decide +kernel
set_option maxRecDepth 20000 in
theorem ggX4_demandValue_X4_demandWithin : GoodIn wsX4_demandValue wsX4_demandWithin := goodIn_ca (goodIn_r _ [4, 5, 6] (by decide +kernel) (by decide +kernel)) (goodIn_sub (fun _ h => List.mem_cons_of_mem _ (List.mem_append_right _ h)) (by decide +kernel))
set_option maxRecDepth 20000 in
theorem gX4_demandValue_X4_demandWithin : GoodIn wsX4_demandValue (va_wsS RX4 75 yX4_demandWithin wsX4_demandWithin) := goodIn_app (goodIn_of _ (by decide +kernel)) ggX4_demandValue_X4_demandWithin
theorem dX4_demandValue_0 : decode cX4_demandValue 0 = .ok (.iload_n 0, 1) := by decide +kernel
theorem dX4_demandValue_1 : decode cX4_demandValue 1 = .ok (.bipush 15, 2) := by decide +kernel
theorem dX4_demandValue_3 : decode cX4_demandValue 3 = .ok (.invokestatic 75, 3) := by decide +kernel
theorem dX4_demandValue_6 : decode cX4_demandValue 6 = .ok (.return_, 1) := by decide +kernel
theorem dX4_demandWithin_0 : decode cX4_demandWithin 0 = .ok (.iload_n 0, 1) := by decide +kernel
theorem dX4_demandWithin_1 : decode cX4_demandWithin 1 = .ok (.ifCond .lt 8, 3) := by decide +kernel
theorem dX4_demandWithin_4 : decode cX4_demandWithin 4 = .ok (.iload_n 0, 1) := by decide +kernel
theorem dX4_demandWithin_5 : decode cX4_demandWithin 5 = .ok (.iload_n 1, 1) := by decide +kernel
theorem dX4_demandWithin_6 : decode cX4_demandWithin 6 = .ok (.if_icmp .le 14, 3) := by decide +kernel
theorem dX4_demandWithin_9 : decode cX4_demandWithin 9 = .ok (.new 136, 3) := by decide +kernel
theorem dX4_demandWithin_12 : decode cX4_demandWithin 12 = .ok (.dup, 1) := by decide +kernel
theorem dX4_demandWithin_13 : decode cX4_demandWithin 13 = .ok (.ldc_w 311, 3) := by decide +kernel
theorem dX4_demandWithin_16 : decode cX4_demandWithin 16 = .ok (.invokespecial 140, 3) := by decide +kernel
theorem dX4_demandWithin_19 : decode cX4_demandWithin 19 = .ok (.athrow, 1) := by decide +kernel
theorem dX4_demandWithin_20 : decode cX4_demandWithin 20 = .ok (.return_, 1) := by decide +kernel
theorem dX4_refuse_0 : decode cX4_refuse 0 = .ok (.aload_n 0, 1) := by decide +kernel
theorem dX4_refuse_1 : decode cX4_refuse 1 = .ok (.dup, 1) := by decide +kernel
theorem dX4_refuse_2 : decode cX4_refuse 2 = .ok (.getfield 49, 3) := by decide +kernel
theorem dX4_refuse_5 : decode cX4_refuse 5 = .ok (.iconst 1, 1) := by decide +kernel
theorem dX4_refuse_6 : decode cX4_refuse 6 = .ok (.iadd, 1) := by decide +kernel
theorem dX4_refuse_7 : decode cX4_refuse 7 = .ok (.putfield 49, 3) := by decide +kernel
theorem dX4_refuse_10 : decode cX4_refuse 10 = .ok (.bipush (-9), 2) := by decide +kernel
theorem dX4_refuse_12 : decode cX4_refuse 12 = .ok (.ireturn, 1) := by decide +kernel
theorem dX4_nextMark_0 : decode cX4_nextMark 0 = .ok (.aload_n 0, 1) := by decide +kernel
theorem dX4_nextMark_1 : decode cX4_nextMark 1 = .ok (.getfield 45, 3) := by decide +kernel
theorem dX4_nextMark_4 : decode cX4_nextMark 4 = .ok (.istore_n 1, 1) := by decide +kernel
theorem dX4_nextMark_5 : decode cX4_nextMark 5 = .ok (.aload_n 0, 1) := by decide +kernel
theorem dX4_nextMark_6 : decode cX4_nextMark 6 = .ok (.dup, 1) := by decide +kernel
theorem dX4_nextMark_7 : decode cX4_nextMark 7 = .ok (.getfield 45, 3) := by decide +kernel
theorem dX4_nextMark_10 : decode cX4_nextMark 10 = .ok (.iconst 1, 1) := by decide +kernel
theorem dX4_nextMark_11 : decode cX4_nextMark 11 = .ok (.iadd, 1) := by decide +kernel
theorem dX4_nextMark_12 : decode cX4_nextMark 12 = .ok (.putfield 45, 3) := by decide +kernel
theorem dX4_nextMark_15 : decode cX4_nextMark 15 = .ok (.iload_n 1, 1) := by decide +kernel
theorem dX4_nextMark_16 : decode cX4_nextMark 16 = .ok (.ireturn, 1) := by decide +kernel
set_option maxRecDepth 20000 in
theorem ggX4_count_X4_thingsInAll : GoodIn wsX4_count wsX4_thingsInAll := goodIn_ca (goodIn_r _ [8, 9, 10, 11, 7, 12, 13, 14, 15, 16, 17, 18, 19, 20, 21, 37, 38, 39, 40, 41, 42, 43, 44, 45, 46, 47, 48] (by decide +kernel) (by decide +kernel)) (goodIn_sub (fun _ h => List.mem_cons_of_mem _ (List.mem_append_right _ h)) (by decide +kernel))
set_option maxRecDepth 20000 in
theorem gX4_count_X4_thingsInAll : GoodIn wsX4_count (wsV RX4 313 RX4 yX4_thingsInAll wsX4_thingsInAll) := goodIn_app (goodIn_of _ (by decide +kernel)) ggX4_count_X4_thingsInAll
set_option maxRecDepth 20000 in
theorem ggX4_count_X4_stepsInAll : GoodIn wsX4_count wsX4_stepsInAll := goodIn_ca (goodIn_r _ [25, 26, 27, 28, 7, 29, 13, 14, 30, 31, 32, 33, 34, 35, 36, 37, 38, 39, 40, 41, 42, 43, 44, 45, 49, 50, 51, 52, 53, 54] (by decide +kernel) (by decide +kernel)) (goodIn_sub (fun _ h => List.mem_cons_of_mem _ (List.mem_append_right _ h)) (by decide +kernel))
set_option maxRecDepth 20000 in
theorem gX4_count_X4_stepsInAll : GoodIn wsX4_count (wsV RX4 316 RX4 yX4_stepsInAll wsX4_stepsInAll) := goodIn_app (goodIn_of _ (by decide +kernel)) ggX4_count_X4_stepsInAll
theorem dX4_count_0 : decode cX4_count 0 = .ok (.iload_n 1, 1) := by decide +kernel
theorem dX4_count_1 : decode cX4_count 1 = .ok (.tableswitch 51 0 3 #[31, 36, 41, 46], 31) := by decide +kernel
theorem dX4_count_32 : decode cX4_count 32 = .ok (.aload_n 0, 1) := by decide +kernel
theorem dX4_count_33 : decode cX4_count 33 = .ok (.invokevirtual 313, 3) := by decide +kernel
theorem dX4_count_36 : decode cX4_count 36 = .ok (.ireturn, 1) := by decide +kernel
theorem dX4_count_37 : decode cX4_count 37 = .ok (.aload_n 0, 1) := by decide +kernel
theorem dX4_count_38 : decode cX4_count 38 = .ok (.invokevirtual 316, 3) := by decide +kernel
theorem dX4_count_41 : decode cX4_count 41 = .ok (.ireturn, 1) := by decide +kernel
theorem dX4_count_42 : decode cX4_count 42 = .ok (.aload_n 0, 1) := by decide +kernel
theorem dX4_count_43 : decode cX4_count 43 = .ok (.getfield 45, 3) := by decide +kernel
theorem dX4_count_46 : decode cX4_count 46 = .ok (.ireturn, 1) := by decide +kernel
theorem dX4_count_47 : decode cX4_count 47 = .ok (.aload_n 0, 1) := by decide +kernel
theorem dX4_count_48 : decode cX4_count 48 = .ok (.getfield 49, 3) := by decide +kernel
theorem dX4_count_51 : decode cX4_count 51 = .ok (.ireturn, 1) := by decide +kernel
theorem dX4_count_52 : decode cX4_count 52 = .ok (.aload_n 0, 1) := by decide +kernel
theorem dX4_count_53 : decode cX4_count 53 = .ok (.getfield 52, 3) := by decide +kernel
theorem dX4_count_56 : decode cX4_count 56 = .ok (.ireturn, 1) := by decide +kernel
set_option maxRecDepth 20000 in
theorem ggX4_thingsInAll_X4_rowAt : GoodIn wsX4_thingsInAll wsX4_rowAt := goodIn_ca (goodIn_r _ [5, 6, 7, 8, 15, 16, 17, 18, 19, 20, 21, 22, 23] (by decide +kernel) (by decide +kernel)) (goodIn_sub (fun _ h => List.mem_cons_of_mem _ (List.mem_append_right _ h)) (by decide +kernel))
set_option maxRecDepth 20000 in
theorem gX4_thingsInAll_X4_rowAt : GoodIn wsX4_thingsInAll (wsV RX4 55 RX4 yX4_rowAt wsX4_rowAt) := goodIn_app (goodIn_of _ (by decide +kernel)) ggX4_thingsInAll_X4_rowAt
set_option maxRecDepth 20000 in
theorem ggX4_thingsInAll_X2_length : GoodIn wsX4_thingsInAll wsX2_length := goodIn_r _ [13, 14, 24, 25, 26] (by decide +kernel) (by decide +kernel)
set_option maxRecDepth 20000 in
theorem gX4_thingsInAll_X2_length : GoodIn wsX4_thingsInAll (wsV RX4 63 RX2 yX2_length wsX2_length) := goodIn_app (goodIn_of _ (by decide +kernel)) ggX4_thingsInAll_X2_length
theorem dX4_thingsInAll_0 : decode cX4_thingsInAll 0 = .ok (.iconst 0, 1) := by decide +kernel
theorem dX4_thingsInAll_1 : decode cX4_thingsInAll 1 = .ok (.istore_n 1, 1) := by decide +kernel
theorem dX4_thingsInAll_2 : decode cX4_thingsInAll 2 = .ok (.iconst 0, 1) := by decide +kernel
theorem dX4_thingsInAll_3 : decode cX4_thingsInAll 3 = .ok (.istore_n 2, 1) := by decide +kernel
theorem dX4_thingsInAll_4 : decode cX4_thingsInAll 4 = .ok (.iload_n 2, 1) := by decide +kernel
theorem dX4_thingsInAll_5 : decode cX4_thingsInAll 5 = .ok (.iconst 3, 1) := by decide +kernel
theorem dX4_thingsInAll_6 : decode cX4_thingsInAll 6 = .ok (.if_icmp .ge 20, 3) := by decide +kernel
theorem dX4_thingsInAll_9 : decode cX4_thingsInAll 9 = .ok (.iload_n 1, 1) := by decide +kernel
theorem dX4_thingsInAll_10 : decode cX4_thingsInAll 10 = .ok (.aload_n 0, 1) := by decide +kernel
theorem dX4_thingsInAll_11 : decode cX4_thingsInAll 11 = .ok (.iload_n 2, 1) := by decide +kernel
theorem dX4_thingsInAll_12 : decode cX4_thingsInAll 12 = .ok (.invokevirtual 55, 3) := by decide +kernel
theorem dX4_thingsInAll_15 : decode cX4_thingsInAll 15 = .ok (.invokevirtual 63, 3) := by decide +kernel
theorem dX4_thingsInAll_18 : decode cX4_thingsInAll 18 = .ok (.iadd, 1) := by decide +kernel
theorem dX4_thingsInAll_19 : decode cX4_thingsInAll 19 = .ok (.istore_n 1, 1) := by decide +kernel
theorem dX4_thingsInAll_20 : decode cX4_thingsInAll 20 = .ok (.iinc 2 1, 3) := by decide +kernel
theorem dX4_thingsInAll_23 : decode cX4_thingsInAll 23 = .ok (.goto (-19), 3) := by decide +kernel
theorem dX4_thingsInAll_26 : decode cX4_thingsInAll 26 = .ok (.iload_n 1, 1) := by decide +kernel
theorem dX4_thingsInAll_27 : decode cX4_thingsInAll 27 = .ok (.ireturn, 1) := by decide +kernel
set_option maxRecDepth 20000 in
theorem ggX4_stepsInAll_X4_orderAt : GoodIn wsX4_stepsInAll wsX4_orderAt := goodIn_ca (goodIn_r _ [5, 6, 7, 8, 15, 16, 17, 18, 19, 20, 21, 22, 23] (by decide +kernel) (by decide +kernel)) (goodIn_sub (fun _ h => List.mem_cons_of_mem _ (List.mem_append_right _ h)) (by decide +kernel))
set_option maxRecDepth 20000 in
theorem gX4_stepsInAll_X4_orderAt : GoodIn wsX4_stepsInAll (wsV RX4 124 RX4 yX4_orderAt wsX4_orderAt) := goodIn_app (goodIn_of _ (by decide +kernel)) ggX4_stepsInAll_X4_orderAt
set_option maxRecDepth 20000 in
theorem ggX4_stepsInAll_X1_length : GoodIn wsX4_stepsInAll wsX1_length := goodIn_r _ [13, 14, 24, 25, 26, 27, 28, 29] (by decide +kernel) (by decide +kernel)
set_option maxRecDepth 20000 in
theorem gX4_stepsInAll_X1_length : GoodIn wsX4_stepsInAll (wsV RX4 200 RX1 yX1_length wsX1_length) := goodIn_app (goodIn_of _ (by decide +kernel)) ggX4_stepsInAll_X1_length
theorem dX4_stepsInAll_0 : decode cX4_stepsInAll 0 = .ok (.iconst 0, 1) := by decide +kernel
theorem dX4_stepsInAll_1 : decode cX4_stepsInAll 1 = .ok (.istore_n 1, 1) := by decide +kernel
theorem dX4_stepsInAll_2 : decode cX4_stepsInAll 2 = .ok (.iconst 0, 1) := by decide +kernel
theorem dX4_stepsInAll_3 : decode cX4_stepsInAll 3 = .ok (.istore_n 2, 1) := by decide +kernel
theorem dX4_stepsInAll_4 : decode cX4_stepsInAll 4 = .ok (.iload_n 2, 1) := by decide +kernel
theorem dX4_stepsInAll_5 : decode cX4_stepsInAll 5 = .ok (.iconst 4, 1) := by decide +kernel
theorem dX4_stepsInAll_6 : decode cX4_stepsInAll 6 = .ok (.if_icmp .ge 20, 3) := by decide +kernel
theorem dX4_stepsInAll_9 : decode cX4_stepsInAll 9 = .ok (.iload_n 1, 1) := by decide +kernel
theorem dX4_stepsInAll_10 : decode cX4_stepsInAll 10 = .ok (.aload_n 0, 1) := by decide +kernel
theorem dX4_stepsInAll_11 : decode cX4_stepsInAll 11 = .ok (.iload_n 2, 1) := by decide +kernel
theorem dX4_stepsInAll_12 : decode cX4_stepsInAll 12 = .ok (.invokevirtual 124, 3) := by decide +kernel
theorem dX4_stepsInAll_15 : decode cX4_stepsInAll 15 = .ok (.invokevirtual 200, 3) := by decide +kernel
theorem dX4_stepsInAll_18 : decode cX4_stepsInAll 18 = .ok (.iadd, 1) := by decide +kernel
theorem dX4_stepsInAll_19 : decode cX4_stepsInAll 19 = .ok (.istore_n 1, 1) := by decide +kernel
theorem dX4_stepsInAll_20 : decode cX4_stepsInAll 20 = .ok (.iinc 2 1, 3) := by decide +kernel
theorem dX4_stepsInAll_23 : decode cX4_stepsInAll 23 = .ok (.goto (-19), 3) := by decide +kernel
theorem dX4_stepsInAll_26 : decode cX4_stepsInAll 26 = .ok (.iload_n 1, 1) := by decide +kernel
theorem dX4_stepsInAll_27 : decode cX4_stepsInAll 27 = .ok (.ireturn, 1) := by decide +kernel
set_option maxRecDepth 20000 in
theorem ggX4_placeNew_X2_length : GoodIn wsX4_placeNew wsX2_length := goodIn_r _ [5, 6, 36, 37, 38] (by decide +kernel) (by decide +kernel)
set_option maxRecDepth 20000 in
theorem gX4_placeNew_X2_length : GoodIn wsX4_placeNew (wsV RX4 63 RX2 yX2_length wsX2_length) := goodIn_app (goodIn_of _ (by decide +kernel)) ggX4_placeNew_X2_length
set_option maxRecDepth 20000 in
theorem ggX4_placeNew_X4_refuse : GoodIn wsX4_placeNew wsX4_refuse := goodIn_r _ [11, 12, 39, 40, 41, 42, 43, 44, 45, 46, 47] (by decide +kernel) (by decide +kernel)
set_option maxRecDepth 20000 in
theorem gX4_placeNew_X4_refuse : GoodIn wsX4_placeNew (wsV RX4 79 RX4 yX4_refuse wsX4_refuse) := goodIn_app (goodIn_of _ (by decide +kernel)) ggX4_placeNew_X4_refuse
set_option maxRecDepth 20000 in
theorem ggX4_placeNew_X4_nextMark : GoodIn wsX4_placeNew wsX4_nextMark := goodIn_r _ [16, 17, 39, 40, 41, 42, 43, 44, 45, 46, 47] (by decide +kernel) (by decide +kernel)
set_option maxRecDepth 20000 in
theorem gX4_placeNew_X4_nextMark : GoodIn wsX4_placeNew (wsV RX4 82 RX4 yX4_nextMark wsX4_nextMark) := goodIn_app (goodIn_of _ (by decide +kernel)) ggX4_placeNew_X4_nextMark
set_option maxRecDepth 20000 in
theorem ggX4_placeNew_X2_insert : GoodIn wsX4_placeNew wsX2_insert := goodIn_r _ [21, 6, 22, 23, 24, 4, 25, 26, 27, 28, 29, 30, 31, 32, 33, 34, 35, 36, 37, 38] (by decide +kernel) (by decide +kernel)
set_option maxRecDepth 20000 in
theorem gX4_placeNew_X2_insert : GoodIn wsX4_placeNew (wsV RX4 319 RX2 yX2_insert wsX2_insert) := goodIn_app (goodIn_of _ (by decide +kernel)) ggX4_placeNew_X2_insert
theorem dX4_placeNew_0 : decode cX4_placeNew 0 = .ok (.aload_n 1, 1) := by decide +kernel
theorem dX4_placeNew_1 : decode cX4_placeNew 1 = .ok (.invokevirtual 63, 3) := by decide +kernel
theorem dX4_placeNew_4 : decode cX4_placeNew 4 = .ok (.bipush 12, 2) := by decide +kernel
theorem dX4_placeNew_6 : decode cX4_placeNew 6 = .ok (.if_icmp .lt 8, 3) := by decide +kernel
theorem dX4_placeNew_9 : decode cX4_placeNew 9 = .ok (.aload_n 0, 1) := by decide +kernel
theorem dX4_placeNew_10 : decode cX4_placeNew 10 = .ok (.invokevirtual 79, 3) := by decide +kernel
theorem dX4_placeNew_13 : decode cX4_placeNew 13 = .ok (.ireturn, 1) := by decide +kernel
theorem dX4_placeNew_14 : decode cX4_placeNew 14 = .ok (.aload_n 0, 1) := by decide +kernel
theorem dX4_placeNew_15 : decode cX4_placeNew 15 = .ok (.invokevirtual 82, 3) := by decide +kernel
theorem dX4_placeNew_18 : decode cX4_placeNew 18 = .ok (.istore 4, 2) := by decide +kernel
theorem dX4_placeNew_20 : decode cX4_placeNew 20 = .ok (.aload_n 1, 1) := by decide +kernel
theorem dX4_placeNew_21 : decode cX4_placeNew 21 = .ok (.iload_n 2, 1) := by decide +kernel
theorem dX4_placeNew_22 : decode cX4_placeNew 22 = .ok (.iload_n 3, 1) := by decide +kernel
theorem dX4_placeNew_23 : decode cX4_placeNew 23 = .ok (.iload 4, 2) := by decide +kernel
theorem dX4_placeNew_25 : decode cX4_placeNew 25 = .ok (.invokevirtual 319, 3) := by decide +kernel
theorem dX4_placeNew_28 : decode cX4_placeNew 28 = .ok (.iload 4, 2) := by decide +kernel
theorem dX4_placeNew_30 : decode cX4_placeNew 30 = .ok (.ireturn, 1) := by decide +kernel
set_option maxRecDepth 20000 in
theorem ggX4_coarsestKey_X1_numberBy : GoodIn wsX4_coarsestKey wsX1_numberBy := goodIn_r _ [5, 6, 7, 8, 9, 10, 11, 12] (by decide +kernel) (by decide +kernel)
set_option maxRecDepth 20000 in
theorem gX4_coarsestKey_X1_numberBy : GoodIn wsX4_coarsestKey (va_wsS RX4 246 yX1_numberBy wsX1_numberBy) := goodIn_app (goodIn_of _ (by decide +kernel)) ggX4_coarsestKey_X1_numberBy
set_option maxRecDepth 20000 in
theorem ggX4_coarsestKey_X1_becomeCopyOf : GoodIn wsX4_coarsestKey wsX1_becomeCopyOf := goodIn_r _ [16, 17, 18, 19, 20, 4, 21, 22, 23, 24, 25, 26, 27, 28, 29, 30, 31, 32, 33, 34, 35, 36, 37, 38, 39, 40, 41, 42, 43, 44, 45, 46, 3, 5, 6, 7, 8, 9, 10, 11, 12, 47, 48, 49, 50, 51, 52, 53, 54, 55, 56, 57, 58, 59, 60, 78, 79, 80, 81, 82, 83] (by decide +kernel) (by decide +kernel)
set_option maxRecDepth 20000 in
theorem gX4_coarsestKey_X1_becomeCopyOf : GoodIn wsX4_coarsestKey (wsV RX4 214 RX1 yX1_becomeCopyOf wsX1_becomeCopyOf) := goodIn_app (goodIn_of _ (by decide +kernel)) ggX4_coarsestKey_X1_becomeCopyOf
set_option maxRecDepth 20000 in
theorem ggX4_coarsestKey_X1_append : GoodIn wsX4_coarsestKey wsX1_append := goodIn_r _ [64, 36, 37, 38, 4, 39, 17, 30, 35, 40, 41, 42, 43, 44, 45, 46, 3, 5, 6, 7, 8, 9, 10, 11, 12, 47, 48, 49, 50, 51, 52, 53, 54, 55, 56, 57, 58, 59, 60, 78, 79, 80, 81, 82, 83] (by decide +kernel) (by decide +kernel)
set_option maxRecDepth 20000 in
theorem gX4_coarsestKey_X1_append : GoodIn wsX4_coarsestKey (wsV RX4 201 RX1 yX1_append wsX1_append) := goodIn_app (goodIn_of _ (by decide +kernel)) ggX4_coarsestKey_X1_append
set_option maxRecDepth 20000 in
theorem ggX4_coarsestKey_X1_classCount : GoodIn wsX4_coarsestKey wsX1_classCount := goodIn_r _ [68, 51, 78, 79, 80, 81, 82, 83] (by decide +kernel) (by decide +kernel)
set_option maxRecDepth 20000 in
theorem gX4_coarsestKey_X1_classCount : GoodIn wsX4_coarsestKey (wsV RX4 204 RX1 yX1_classCount wsX1_classCount) := goodIn_app (goodIn_of _ (by decide +kernel)) ggX4_coarsestKey_X1_classCount
theorem dX4_coarsestKey_0 : decode cX4_coarsestKey 0 = .ok (.iconst 0, 1) := by decide +kernel
theorem dX4_coarsestKey_1 : decode cX4_coarsestKey 1 = .ok (.istore 4, 2) := by decide +kernel
theorem dX4_coarsestKey_3 : decode cX4_coarsestKey 3 = .ok (.bipush 17, 2) := by decide +kernel
theorem dX4_coarsestKey_5 : decode cX4_coarsestKey 5 = .ok (.istore 5, 2) := by decide +kernel
theorem dX4_coarsestKey_7 : decode cX4_coarsestKey 7 = .ok (.iconst 0, 1) := by decide +kernel
theorem dX4_coarsestKey_8 : decode cX4_coarsestKey 8 = .ok (.istore 6, 2) := by decide +kernel
theorem dX4_coarsestKey_10 : decode cX4_coarsestKey 10 = .ok (.iload 6, 2) := by decide +kernel
theorem dX4_coarsestKey_12 : decode cX4_coarsestKey 12 = .ok (.bipush 8, 2) := by decide +kernel
theorem dX4_coarsestKey_14 : decode cX4_coarsestKey 14 = .ok (.if_icmp .ge 67, 3) := by decide +kernel
theorem dX4_coarsestKey_17 : decode cX4_coarsestKey 17 = .ok (.iload 6, 2) := by decide +kernel
theorem dX4_coarsestKey_19 : decode cX4_coarsestKey 19 = .ok (.iload_n 2, 1) := by decide +kernel
theorem dX4_coarsestKey_20 : decode cX4_coarsestKey 20 = .ok (.invokestatic 246, 3) := by decide +kernel
theorem dX4_coarsestKey_23 : decode cX4_coarsestKey 23 = .ok (.iload 6, 2) := by decide +kernel
theorem dX4_coarsestKey_25 : decode cX4_coarsestKey 25 = .ok (.iload_n 3, 1) := by decide +kernel
theorem dX4_coarsestKey_26 : decode cX4_coarsestKey 26 = .ok (.invokestatic 246, 3) := by decide +kernel
theorem dX4_coarsestKey_29 : decode cX4_coarsestKey 29 = .ok (.if_icmp .eq 46, 3) := by decide +kernel
theorem dX4_coarsestKey_32 : decode cX4_coarsestKey 32 = .ok (.aload_n 0, 1) := by decide +kernel
theorem dX4_coarsestKey_33 : decode cX4_coarsestKey 33 = .ok (.getfield 41, 3) := by decide +kernel
theorem dX4_coarsestKey_36 : decode cX4_coarsestKey 36 = .ok (.aload_n 1, 1) := by decide +kernel
theorem dX4_coarsestKey_37 : decode cX4_coarsestKey 37 = .ok (.invokevirtual 214, 3) := by decide +kernel
theorem dX4_coarsestKey_40 : decode cX4_coarsestKey 40 = .ok (.aload_n 0, 1) := by decide +kernel
theorem dX4_coarsestKey_41 : decode cX4_coarsestKey 41 = .ok (.getfield 41, 3) := by decide +kernel
theorem dX4_coarsestKey_44 : decode cX4_coarsestKey 44 = .ok (.iload 6, 2) := by decide +kernel
theorem dX4_coarsestKey_46 : decode cX4_coarsestKey 46 = .ok (.iconst 0, 1) := by decide +kernel
theorem dX4_coarsestKey_47 : decode cX4_coarsestKey 47 = .ok (.invokevirtual 201, 3) := by decide +kernel
theorem dX4_coarsestKey_50 : decode cX4_coarsestKey 50 = .ok (.aload_n 0, 1) := by decide +kernel
theorem dX4_coarsestKey_51 : decode cX4_coarsestKey 51 = .ok (.getfield 41, 3) := by decide +kernel
theorem dX4_coarsestKey_54 : decode cX4_coarsestKey 54 = .ok (.invokevirtual 204, 3) := by decide +kernel
theorem dX4_coarsestKey_57 : decode cX4_coarsestKey 57 = .ok (.iload 5, 2) := by decide +kernel
theorem dX4_coarsestKey_59 : decode cX4_coarsestKey 59 = .ok (.if_icmp .ge 16, 3) := by decide +kernel
theorem dX4_coarsestKey_62 : decode cX4_coarsestKey 62 = .ok (.aload_n 0, 1) := by decide +kernel
theorem dX4_coarsestKey_63 : decode cX4_coarsestKey 63 = .ok (.getfield 41, 3) := by decide +kernel
theorem dX4_coarsestKey_66 : decode cX4_coarsestKey 66 = .ok (.invokevirtual 204, 3) := by decide +kernel
theorem dX4_coarsestKey_69 : decode cX4_coarsestKey 69 = .ok (.istore 5, 2) := by decide +kernel
theorem dX4_coarsestKey_71 : decode cX4_coarsestKey 71 = .ok (.iload 6, 2) := by decide +kernel
theorem dX4_coarsestKey_73 : decode cX4_coarsestKey 73 = .ok (.istore 4, 2) := by decide +kernel
theorem dX4_coarsestKey_75 : decode cX4_coarsestKey 75 = .ok (.iinc 6 1, 3) := by decide +kernel
theorem dX4_coarsestKey_78 : decode cX4_coarsestKey 78 = .ok (.goto (-68), 3) := by decide +kernel
theorem dX4_coarsestKey_81 : decode cX4_coarsestKey 81 = .ok (.iload 4, 2) := by decide +kernel
theorem dX4_coarsestKey_83 : decode cX4_coarsestKey 83 = .ok (.ireturn, 1) := by decide +kernel
set_option maxRecDepth 20000 in
theorem ggX4_comparedByBoth_X1_compared : GoodIn wsX4_comparedByBoth wsX1_compared := goodIn_r _ [5, 6, 7, 8, 9, 10, 11, 12] (by decide +kernel) (by decide +kernel)
set_option maxRecDepth 20000 in
theorem gX4_comparedByBoth_X1_compared : GoodIn wsX4_comparedByBoth (wsV RX4 225 RX1 yX1_compared wsX1_compared) := goodIn_app (goodIn_of _ (by decide +kernel)) ggX4_comparedByBoth_X1_compared
theorem dX4_comparedByBoth_0 : decode cX4_comparedByBoth 0 = .ok (.aload_n 0, 1) := by decide +kernel
theorem dX4_comparedByBoth_1 : decode cX4_comparedByBoth 1 = .ok (.iload_n 2, 1) := by decide +kernel
theorem dX4_comparedByBoth_2 : decode cX4_comparedByBoth 2 = .ok (.iload_n 3, 1) := by decide +kernel
theorem dX4_comparedByBoth_3 : decode cX4_comparedByBoth 3 = .ok (.invokevirtual 225, 3) := by decide +kernel
theorem dX4_comparedByBoth_6 : decode cX4_comparedByBoth 6 = .ok (.istore 4, 2) := by decide +kernel
theorem dX4_comparedByBoth_8 : decode cX4_comparedByBoth 8 = .ok (.aload_n 1, 1) := by decide +kernel
theorem dX4_comparedByBoth_9 : decode cX4_comparedByBoth 9 = .ok (.iload_n 2, 1) := by decide +kernel
theorem dX4_comparedByBoth_10 : decode cX4_comparedByBoth 10 = .ok (.iload_n 3, 1) := by decide +kernel
theorem dX4_comparedByBoth_11 : decode cX4_comparedByBoth 11 = .ok (.invokevirtual 225, 3) := by decide +kernel
theorem dX4_comparedByBoth_14 : decode cX4_comparedByBoth 14 = .ok (.istore 5, 2) := by decide +kernel
theorem dX4_comparedByBoth_16 : decode cX4_comparedByBoth 16 = .ok (.iload 4, 2) := by decide +kernel
theorem dX4_comparedByBoth_18 : decode cX4_comparedByBoth 18 = .ok (.ifCond .eq 13, 3) := by decide +kernel
theorem dX4_comparedByBoth_21 : decode cX4_comparedByBoth 21 = .ok (.iload 4, 2) := by decide +kernel
theorem dX4_comparedByBoth_23 : decode cX4_comparedByBoth 23 = .ok (.iload 5, 2) := by decide +kernel
theorem dX4_comparedByBoth_25 : decode cX4_comparedByBoth 25 = .ok (.ineg, 1) := by decide +kernel
theorem dX4_comparedByBoth_26 : decode cX4_comparedByBoth 26 = .ok (.if_icmp .ne 5, 3) := by decide +kernel
theorem dX4_comparedByBoth_29 : decode cX4_comparedByBoth 29 = .ok (.iconst 2, 1) := by decide +kernel
theorem dX4_comparedByBoth_30 : decode cX4_comparedByBoth 30 = .ok (.ireturn, 1) := by decide +kernel
theorem dX4_comparedByBoth_31 : decode cX4_comparedByBoth 31 = .ok (.iload 4, 2) := by decide +kernel
theorem dX4_comparedByBoth_33 : decode cX4_comparedByBoth 33 = .ok (.ifCond .eq 8, 3) := by decide +kernel
theorem dX4_comparedByBoth_36 : decode cX4_comparedByBoth 36 = .ok (.iload 4, 2) := by decide +kernel
theorem dX4_comparedByBoth_38 : decode cX4_comparedByBoth 38 = .ok (.goto 5, 3) := by decide +kernel
theorem dX4_comparedByBoth_41 : decode cX4_comparedByBoth 41 = .ok (.iload 5, 2) := by decide +kernel
theorem dX4_comparedByBoth_43 : decode cX4_comparedByBoth 43 = .ok (.ireturn, 1) := by decide +kernel
set_option maxRecDepth 20000 in
theorem ggX4_pairsApart_X4_comparedByBoth : GoodIn wsX4_pairsApart wsX4_comparedByBoth := goodIn_r _ [4, 5, 6, 7, 8, 9, 10, 11, 12, 13, 14, 15, 16] (by decide +kernel) (by decide +kernel)
set_option maxRecDepth 20000 in
theorem gX4_pairsApart_X4_comparedByBoth : GoodIn wsX4_pairsApart (va_wsS RX4 232 yX4_comparedByBoth wsX4_comparedByBoth) := goodIn_app (goodIn_of _ (by decide +kernel)) ggX4_pairsApart_X4_comparedByBoth
theorem dX4_pairsApart_0 : decode cX4_pairsApart 0 = .ok (.iconst 0, 1) := by decide +kernel
theorem dX4_pairsApart_1 : decode cX4_pairsApart 1 = .ok (.istore_n 2, 1) := by decide +kernel
theorem dX4_pairsApart_2 : decode cX4_pairsApart 2 = .ok (.iconst 0, 1) := by decide +kernel
theorem dX4_pairsApart_3 : decode cX4_pairsApart 3 = .ok (.istore_n 3, 1) := by decide +kernel
theorem dX4_pairsApart_4 : decode cX4_pairsApart 4 = .ok (.iload_n 3, 1) := by decide +kernel
theorem dX4_pairsApart_5 : decode cX4_pairsApart 5 = .ok (.bipush 16, 2) := by decide +kernel
theorem dX4_pairsApart_7 : decode cX4_pairsApart 7 = .ok (.if_icmp .ge 42, 3) := by decide +kernel
theorem dX4_pairsApart_10 : decode cX4_pairsApart 10 = .ok (.iload_n 3, 1) := by decide +kernel
theorem dX4_pairsApart_11 : decode cX4_pairsApart 11 = .ok (.iconst 1, 1) := by decide +kernel
theorem dX4_pairsApart_12 : decode cX4_pairsApart 12 = .ok (.iadd, 1) := by decide +kernel
theorem dX4_pairsApart_13 : decode cX4_pairsApart 13 = .ok (.istore 4, 2) := by decide +kernel
theorem dX4_pairsApart_15 : decode cX4_pairsApart 15 = .ok (.iload 4, 2) := by decide +kernel
theorem dX4_pairsApart_17 : decode cX4_pairsApart 17 = .ok (.bipush 16, 2) := by decide +kernel
theorem dX4_pairsApart_19 : decode cX4_pairsApart 19 = .ok (.if_icmp .ge 24, 3) := by decide +kernel
theorem dX4_pairsApart_22 : decode cX4_pairsApart 22 = .ok (.aload_n 0, 1) := by decide +kernel
theorem dX4_pairsApart_23 : decode cX4_pairsApart 23 = .ok (.aload_n 1, 1) := by decide +kernel
theorem dX4_pairsApart_24 : decode cX4_pairsApart 24 = .ok (.iload_n 3, 1) := by decide +kernel
theorem dX4_pairsApart_25 : decode cX4_pairsApart 25 = .ok (.iload 4, 2) := by decide +kernel
theorem dX4_pairsApart_27 : decode cX4_pairsApart 27 = .ok (.invokestatic 232, 3) := by decide +kernel
theorem dX4_pairsApart_30 : decode cX4_pairsApart 30 = .ok (.iconst 2, 1) := by decide +kernel
theorem dX4_pairsApart_31 : decode cX4_pairsApart 31 = .ok (.if_icmp .ne 6, 3) := by decide +kernel
theorem dX4_pairsApart_34 : decode cX4_pairsApart 34 = .ok (.iinc 2 1, 3) := by decide +kernel
theorem dX4_pairsApart_37 : decode cX4_pairsApart 37 = .ok (.iinc 4 1, 3) := by decide +kernel
theorem dX4_pairsApart_40 : decode cX4_pairsApart 40 = .ok (.goto (-25), 3) := by decide +kernel
theorem dX4_pairsApart_43 : decode cX4_pairsApart 43 = .ok (.iinc 3 1, 3) := by decide +kernel
theorem dX4_pairsApart_46 : decode cX4_pairsApart 46 = .ok (.goto (-42), 3) := by decide +kernel
theorem dX4_pairsApart_49 : decode cX4_pairsApart 49 = .ok (.iload_n 2, 1) := by decide +kernel
theorem dX4_pairsApart_50 : decode cX4_pairsApart 50 = .ok (.ireturn, 1) := by decide +kernel
set_option maxRecDepth 20000 in
theorem ggX4_appendGap_J4_length_8abf5 : GoodIn wsX4_appendGap wsJ4_length_8abf5 := goodIn_r _ [5, 6, 7, 8, 9, 10, 11, 12, 126, 127, 128, 129] (by decide +kernel) (by decide +kernel)
set_option maxRecDepth 20000 in
theorem gX4_appendGap_J4_length_8abf5 : GoodIn wsX4_appendGap (wsV RX4 322 RJ4 yJ4_length_8abf5 wsJ4_length_8abf5) := goodIn_app (goodIn_of _ (by decide +kernel)) ggX4_appendGap_J4_length_8abf5
set_option maxRecDepth 20000 in
theorem ggX4_appendGap_J4_append_cf468 : GoodIn wsX4_appendGap wsJ4_append_cf468 := goodIn_r _ [16, 17, 18, 8, 19, 10, 20, 12, 21, 22, 23, 24, 25, 26, 27, 28, 29, 30, 31, 32, 33, 34, 35, 36, 37, 38, 39, 40, 41, 42, 43, 44, 45, 46, 47, 48, 49, 50, 51, 52, 53, 54, 55, 56, 57, 58, 59, 60, 61, 62, 63, 64, 65, 66, 67, 68, 69, 70, 71, 72, 73, 74, 75, 76, 77, 78, 79, 80, 81, 82, 83, 84, 85, 86, 87, 88, 89, 90, 91, 92, 93, 94, 95, 96, 97, 98, 99, 100, 101, 102, 103, 104, 105, 106, 107, 108, 109, 110, 111, 112, 113, 114, 115, 116, 117, 118, 119, 120, 121, 122, 123, 124, 125, 126, 127, 128, 129] (by decide +kernel) (by decide +kernel)
set_option maxRecDepth 20000 in
theorem gX4_appendGap_J4_append_cf468 : GoodIn wsX4_appendGap (wsV RX4 323 RJ4 yJ4_append_cf468 wsJ4_append_cf468) := goodIn_app (goodIn_of _ (by decide +kernel)) ggX4_appendGap_J4_append_cf468
theorem dX4_appendGap_0 : decode cX4_appendGap 0 = .ok (.aload_n 0, 1) := by decide +kernel
theorem dX4_appendGap_1 : decode cX4_appendGap 1 = .ok (.invokevirtual 322, 3) := by decide +kernel
theorem dX4_appendGap_4 : decode cX4_appendGap 4 = .ok (.ifCond .le 10, 3) := by decide +kernel
theorem dX4_appendGap_7 : decode cX4_appendGap 7 = .ok (.aload_n 0, 1) := by decide +kernel
theorem dX4_appendGap_8 : decode cX4_appendGap 8 = .ok (.bipush 32, 2) := by decide +kernel
theorem dX4_appendGap_10 : decode cX4_appendGap 10 = .ok (.invokevirtual 323, 3) := by decide +kernel
theorem dX4_appendGap_13 : decode cX4_appendGap 13 = .ok (.pop, 1) := by decide +kernel
theorem dX4_appendGap_14 : decode cX4_appendGap 14 = .ok (.return_, 1) := by decide +kernel
theorem dX4_mixed_0 : decode cX4_mixed 0 = .ok (.lload_n 0, 1) := by decide +kernel
theorem dX4_mixed_1 : decode cX4_mixed 1 = .ok (.ldc2_w 326, 3) := by decide +kernel
theorem dX4_mixed_4 : decode cX4_mixed 4 = .ok (.lmul, 1) := by decide +kernel
theorem dX4_mixed_5 : decode cX4_mixed 5 = .ok (.iload_n 2, 1) := by decide +kernel
theorem dX4_mixed_6 : decode cX4_mixed 6 = .ok (.i2l, 1) := by decide +kernel
theorem dX4_mixed_7 : decode cX4_mixed 7 = .ok (.ladd, 1) := by decide +kernel
theorem dX4_mixed_8 : decode cX4_mixed 8 = .ok (.lreturn, 1) := by decide +kernel
set_option maxRecDepth 20000 in
theorem ggX4_mixedWithRows_X4_rowAt : GoodIn wsX4_mixedWithRows wsX4_rowAt := goodIn_ca (goodIn_r _ [5, 6, 7, 8, 29, 30, 31, 32, 33, 34, 35, 36, 37] (by decide +kernel) (by decide +kernel)) (goodIn_sub (fun _ h => List.mem_cons_of_mem _ (List.mem_append_right _ h)) (by decide +kernel))
set_option maxRecDepth 20000 in
theorem gX4_mixedWithRows_X4_rowAt : GoodIn wsX4_mixedWithRows (wsV RX4 55 RX4 yX4_rowAt wsX4_rowAt) := goodIn_app (goodIn_of _ (by decide +kernel)) ggX4_mixedWithRows_X4_rowAt
set_option maxRecDepth 20000 in
theorem ggX4_mixedWithRows_X2_length : GoodIn wsX4_mixedWithRows wsX2_length := goodIn_r _ [13, 14, 38, 39, 40] (by decide +kernel) (by decide +kernel)
set_option maxRecDepth 20000 in
theorem gX4_mixedWithRows_X2_length : GoodIn wsX4_mixedWithRows (wsV RX4 63 RX2 yX2_length wsX2_length) := goodIn_app (goodIn_of _ (by decide +kernel)) ggX4_mixedWithRows_X2_length
set_option maxRecDepth 20000 in
theorem ggX4_mixedWithRows_X4_mixed : GoodIn wsX4_mixedWithRows wsX4_mixed := goodIn_r _ [17, 18] (by decide +kernel) (by decide +kernel)
set_option maxRecDepth 20000 in
theorem gX4_mixedWithRows_X4_mixed : GoodIn wsX4_mixedWithRows (va_wsS RX4 281 yX4_mixed wsX4_mixed) := goodIn_app (goodIn_of _ (by decide +kernel)) ggX4_mixedWithRows_X4_mixed
set_option maxRecDepth 20000 in
theorem ggX4_mixedWithRows_X2_valueOn : GoodIn wsX4_mixedWithRows wsX2_valueOn := goodIn_r _ [22, 23, 38, 39, 40] (by decide +kernel) (by decide +kernel)
set_option maxRecDepth 20000 in
theorem gX4_mixedWithRows_X2_valueOn : GoodIn wsX4_mixedWithRows (wsV RX4 114 RX2 yX2_valueOn wsX2_valueOn) := goodIn_app (goodIn_of _ (by decide +kernel)) ggX4_mixedWithRows_X2_valueOn
set_option maxRecDepth 20000 in
theorem ggX4_mixedWithRows_X2_markOn : GoodIn wsX4_mixedWithRows wsX2_markOn := goodIn_r _ [27, 28, 38, 39, 40] (by decide +kernel) (by decide +kernel)
set_option maxRecDepth 20000 in
theorem gX4_mixedWithRows_X2_markOn : GoodIn wsX4_mixedWithRows (wsV RX4 91 RX2 yX2_markOn wsX2_markOn) := goodIn_app (goodIn_of _ (by decide +kernel)) ggX4_mixedWithRows_X2_markOn
theorem dX4_mixedWithRows_0 : decode cX4_mixedWithRows 0 = .ok (.lload_n 1, 1) := by decide +kernel
theorem dX4_mixedWithRows_1 : decode cX4_mixedWithRows 1 = .ok (.lstore_n 3, 1) := by decide +kernel
theorem dX4_mixedWithRows_2 : decode cX4_mixedWithRows 2 = .ok (.iconst 0, 1) := by decide +kernel
theorem dX4_mixedWithRows_3 : decode cX4_mixedWithRows 3 = .ok (.istore 5, 2) := by decide +kernel
theorem dX4_mixedWithRows_5 : decode cX4_mixedWithRows 5 = .ok (.iload 5, 2) := by decide +kernel
theorem dX4_mixedWithRows_7 : decode cX4_mixedWithRows 7 = .ok (.iconst 3, 1) := by decide +kernel
theorem dX4_mixedWithRows_8 : decode cX4_mixedWithRows 8 = .ok (.if_icmp .ge 70, 3) := by decide +kernel
theorem dX4_mixedWithRows_11 : decode cX4_mixedWithRows 11 = .ok (.aload_n 0, 1) := by decide +kernel
theorem dX4_mixedWithRows_12 : decode cX4_mixedWithRows 12 = .ok (.iload 5, 2) := by decide +kernel
theorem dX4_mixedWithRows_14 : decode cX4_mixedWithRows 14 = .ok (.invokevirtual 55, 3) := by decide +kernel
theorem dX4_mixedWithRows_17 : decode cX4_mixedWithRows 17 = .ok (.astore 6, 2) := by decide +kernel
theorem dX4_mixedWithRows_19 : decode cX4_mixedWithRows 19 = .ok (.lload_n 3, 1) := by decide +kernel
theorem dX4_mixedWithRows_20 : decode cX4_mixedWithRows 20 = .ok (.aload 6, 2) := by decide +kernel
theorem dX4_mixedWithRows_22 : decode cX4_mixedWithRows 22 = .ok (.invokevirtual 63, 3) := by decide +kernel
theorem dX4_mixedWithRows_25 : decode cX4_mixedWithRows 25 = .ok (.invokestatic 281, 3) := by decide +kernel
theorem dX4_mixedWithRows_28 : decode cX4_mixedWithRows 28 = .ok (.lstore_n 3, 1) := by decide +kernel
theorem dX4_mixedWithRows_29 : decode cX4_mixedWithRows 29 = .ok (.iconst 0, 1) := by decide +kernel
theorem dX4_mixedWithRows_30 : decode cX4_mixedWithRows 30 = .ok (.istore 7, 2) := by decide +kernel
theorem dX4_mixedWithRows_32 : decode cX4_mixedWithRows 32 = .ok (.iload 7, 2) := by decide +kernel
theorem dX4_mixedWithRows_34 : decode cX4_mixedWithRows 34 = .ok (.aload 6, 2) := by decide +kernel
theorem dX4_mixedWithRows_36 : decode cX4_mixedWithRows 36 = .ok (.invokevirtual 63, 3) := by decide +kernel
theorem dX4_mixedWithRows_39 : decode cX4_mixedWithRows 39 = .ok (.if_icmp .ge 33, 3) := by decide +kernel
theorem dX4_mixedWithRows_42 : decode cX4_mixedWithRows 42 = .ok (.lload_n 3, 1) := by decide +kernel
theorem dX4_mixedWithRows_43 : decode cX4_mixedWithRows 43 = .ok (.aload 6, 2) := by decide +kernel
theorem dX4_mixedWithRows_45 : decode cX4_mixedWithRows 45 = .ok (.iload 7, 2) := by decide +kernel
theorem dX4_mixedWithRows_47 : decode cX4_mixedWithRows 47 = .ok (.invokevirtual 114, 3) := by decide +kernel
theorem dX4_mixedWithRows_50 : decode cX4_mixedWithRows 50 = .ok (.invokestatic 281, 3) := by decide +kernel
theorem dX4_mixedWithRows_53 : decode cX4_mixedWithRows 53 = .ok (.lstore_n 3, 1) := by decide +kernel
theorem dX4_mixedWithRows_54 : decode cX4_mixedWithRows 54 = .ok (.lload_n 3, 1) := by decide +kernel
theorem dX4_mixedWithRows_55 : decode cX4_mixedWithRows 55 = .ok (.aload 6, 2) := by decide +kernel
theorem dX4_mixedWithRows_57 : decode cX4_mixedWithRows 57 = .ok (.iload 7, 2) := by decide +kernel
theorem dX4_mixedWithRows_59 : decode cX4_mixedWithRows 59 = .ok (.invokevirtual 91, 3) := by decide +kernel
theorem dX4_mixedWithRows_62 : decode cX4_mixedWithRows 62 = .ok (.invokestatic 281, 3) := by decide +kernel
theorem dX4_mixedWithRows_65 : decode cX4_mixedWithRows 65 = .ok (.lstore_n 3, 1) := by decide +kernel
theorem dX4_mixedWithRows_66 : decode cX4_mixedWithRows 66 = .ok (.iinc 7 1, 3) := by decide +kernel
theorem dX4_mixedWithRows_69 : decode cX4_mixedWithRows 69 = .ok (.goto (-37), 3) := by decide +kernel
theorem dX4_mixedWithRows_72 : decode cX4_mixedWithRows 72 = .ok (.iinc 5 1, 3) := by decide +kernel
theorem dX4_mixedWithRows_75 : decode cX4_mixedWithRows 75 = .ok (.goto (-70), 3) := by decide +kernel
theorem dX4_mixedWithRows_78 : decode cX4_mixedWithRows 78 = .ok (.lload_n 3, 1) := by decide +kernel
theorem dX4_mixedWithRows_79 : decode cX4_mixedWithRows 79 = .ok (.lreturn, 1) := by decide +kernel
set_option maxRecDepth 20000 in
theorem ggX4_mixedWithOrders_X4_orderAt : GoodIn wsX4_mixedWithOrders wsX4_orderAt := goodIn_ca (goodIn_r _ [5, 6, 7, 8, 39, 40, 41, 42, 43, 44, 45, 46, 47] (by decide +kernel) (by decide +kernel)) (goodIn_sub (fun _ h => List.mem_cons_of_mem _ (List.mem_append_right _ h)) (by decide +kernel))
set_option maxRecDepth 20000 in
theorem gX4_mixedWithOrders_X4_orderAt : GoodIn wsX4_mixedWithOrders (wsV RX4 124 RX4 yX4_orderAt wsX4_orderAt) := goodIn_app (goodIn_of _ (by decide +kernel)) ggX4_mixedWithOrders_X4_orderAt
set_option maxRecDepth 20000 in
theorem ggX4_mixedWithOrders_X1_length : GoodIn wsX4_mixedWithOrders wsX1_length := goodIn_r _ [13, 14, 48, 49, 50, 51, 52, 53] (by decide +kernel) (by decide +kernel)
set_option maxRecDepth 20000 in
theorem gX4_mixedWithOrders_X1_length : GoodIn wsX4_mixedWithOrders (wsV RX4 200 RX1 yX1_length wsX1_length) := goodIn_app (goodIn_of _ (by decide +kernel)) ggX4_mixedWithOrders_X1_length
set_option maxRecDepth 20000 in
theorem ggX4_mixedWithOrders_X4_mixed : GoodIn wsX4_mixedWithOrders wsX4_mixed := goodIn_r _ [17, 18] (by decide +kernel) (by decide +kernel)
set_option maxRecDepth 20000 in
theorem gX4_mixedWithOrders_X4_mixed : GoodIn wsX4_mixedWithOrders (va_wsS RX4 281 yX4_mixed wsX4_mixed) := goodIn_app (goodIn_of _ (by decide +kernel)) ggX4_mixedWithOrders_X4_mixed
set_option maxRecDepth 20000 in
theorem ggX4_mixedWithOrders_X1_keyOn : GoodIn wsX4_mixedWithOrders wsX1_keyOn := goodIn_r _ [22, 23, 48, 49, 50, 51, 52, 53] (by decide +kernel) (by decide +kernel)
set_option maxRecDepth 20000 in
theorem gX4_mixedWithOrders_X1_keyOn : GoodIn wsX4_mixedWithOrders (wsV RX4 207 RX1 yX1_keyOn wsX1_keyOn) := goodIn_app (goodIn_of _ (by decide +kernel)) ggX4_mixedWithOrders_X1_keyOn
set_option maxRecDepth 20000 in
theorem ggX4_mixedWithOrders_X1_isDownOn : GoodIn wsX4_mixedWithOrders wsX1_isDownOn := goodIn_r _ [27, 28, 48, 49, 50, 51, 52, 53] (by decide +kernel) (by decide +kernel)
set_option maxRecDepth 20000 in
theorem gX4_mixedWithOrders_X1_isDownOn : GoodIn wsX4_mixedWithOrders (wsV RX4 328 RX1 yX1_isDownOn wsX1_isDownOn) := goodIn_app (goodIn_of _ (by decide +kernel)) ggX4_mixedWithOrders_X1_isDownOn
set_option maxRecDepth 20000 in
theorem ggX4_mixedWithOrders_X1_classCount : GoodIn wsX4_mixedWithOrders wsX1_classCount := goodIn_r _ [32, 33, 48, 49, 50, 51, 52, 53] (by decide +kernel) (by decide +kernel)
set_option maxRecDepth 20000 in
theorem gX4_mixedWithOrders_X1_classCount : GoodIn wsX4_mixedWithOrders (wsV RX4 204 RX1 yX1_classCount wsX1_classCount) := goodIn_app (goodIn_of _ (by decide +kernel)) ggX4_mixedWithOrders_X1_classCount
set_option maxRecDepth 20000 in
theorem ggX4_mixedWithOrders_X1_rankOf : GoodIn wsX4_mixedWithOrders wsX1_rankOf := goodIn_r _ [37, 38, 48, 49, 50, 51, 52, 53] (by decide +kernel) (by decide +kernel)
set_option maxRecDepth 20000 in
theorem gX4_mixedWithOrders_X1_rankOf : GoodIn wsX4_mixedWithOrders (wsV RX4 162 RX1 yX1_rankOf wsX1_rankOf) := goodIn_app (goodIn_of _ (by decide +kernel)) ggX4_mixedWithOrders_X1_rankOf
theorem dX4_mixedWithOrders_0 : decode cX4_mixedWithOrders 0 = .ok (.lload_n 1, 1) := by decide +kernel
theorem dX4_mixedWithOrders_1 : decode cX4_mixedWithOrders 1 = .ok (.lstore_n 3, 1) := by decide +kernel
theorem dX4_mixedWithOrders_2 : decode cX4_mixedWithOrders 2 = .ok (.iconst 0, 1) := by decide +kernel
theorem dX4_mixedWithOrders_3 : decode cX4_mixedWithOrders 3 = .ok (.istore 5, 2) := by decide +kernel
theorem dX4_mixedWithOrders_5 : decode cX4_mixedWithOrders 5 = .ok (.iload 5, 2) := by decide +kernel
theorem dX4_mixedWithOrders_7 : decode cX4_mixedWithOrders 7 = .ok (.iconst 4, 1) := by decide +kernel
theorem dX4_mixedWithOrders_8 : decode cX4_mixedWithOrders 8 = .ok (.if_icmp .ge 116, 3) := by decide +kernel
theorem dX4_mixedWithOrders_11 : decode cX4_mixedWithOrders 11 = .ok (.aload_n 0, 1) := by decide +kernel
theorem dX4_mixedWithOrders_12 : decode cX4_mixedWithOrders 12 = .ok (.iload 5, 2) := by decide +kernel
theorem dX4_mixedWithOrders_14 : decode cX4_mixedWithOrders 14 = .ok (.invokevirtual 124, 3) := by decide +kernel
theorem dX4_mixedWithOrders_17 : decode cX4_mixedWithOrders 17 = .ok (.astore 6, 2) := by decide +kernel
theorem dX4_mixedWithOrders_19 : decode cX4_mixedWithOrders 19 = .ok (.lload_n 3, 1) := by decide +kernel
theorem dX4_mixedWithOrders_20 : decode cX4_mixedWithOrders 20 = .ok (.aload 6, 2) := by decide +kernel
theorem dX4_mixedWithOrders_22 : decode cX4_mixedWithOrders 22 = .ok (.invokevirtual 200, 3) := by decide +kernel
theorem dX4_mixedWithOrders_25 : decode cX4_mixedWithOrders 25 = .ok (.invokestatic 281, 3) := by decide +kernel
theorem dX4_mixedWithOrders_28 : decode cX4_mixedWithOrders 28 = .ok (.lstore_n 3, 1) := by decide +kernel
theorem dX4_mixedWithOrders_29 : decode cX4_mixedWithOrders 29 = .ok (.iconst 0, 1) := by decide +kernel
theorem dX4_mixedWithOrders_30 : decode cX4_mixedWithOrders 30 = .ok (.istore 7, 2) := by decide +kernel
theorem dX4_mixedWithOrders_32 : decode cX4_mixedWithOrders 32 = .ok (.iload 7, 2) := by decide +kernel
theorem dX4_mixedWithOrders_34 : decode cX4_mixedWithOrders 34 = .ok (.aload 6, 2) := by decide +kernel
theorem dX4_mixedWithOrders_36 : decode cX4_mixedWithOrders 36 = .ok (.invokevirtual 200, 3) := by decide +kernel
theorem dX4_mixedWithOrders_39 : decode cX4_mixedWithOrders 39 = .ok (.if_icmp .ge 41, 3) := by decide +kernel
theorem dX4_mixedWithOrders_42 : decode cX4_mixedWithOrders 42 = .ok (.lload_n 3, 1) := by decide +kernel
theorem dX4_mixedWithOrders_43 : decode cX4_mixedWithOrders 43 = .ok (.aload 6, 2) := by decide +kernel
theorem dX4_mixedWithOrders_45 : decode cX4_mixedWithOrders 45 = .ok (.iload 7, 2) := by decide +kernel
theorem dX4_mixedWithOrders_47 : decode cX4_mixedWithOrders 47 = .ok (.invokevirtual 207, 3) := by decide +kernel
theorem dX4_mixedWithOrders_50 : decode cX4_mixedWithOrders 50 = .ok (.invokestatic 281, 3) := by decide +kernel
theorem dX4_mixedWithOrders_53 : decode cX4_mixedWithOrders 53 = .ok (.lstore_n 3, 1) := by decide +kernel
theorem dX4_mixedWithOrders_54 : decode cX4_mixedWithOrders 54 = .ok (.lload_n 3, 1) := by decide +kernel
theorem dX4_mixedWithOrders_55 : decode cX4_mixedWithOrders 55 = .ok (.aload 6, 2) := by decide +kernel
theorem dX4_mixedWithOrders_57 : decode cX4_mixedWithOrders 57 = .ok (.iload 7, 2) := by decide +kernel
theorem dX4_mixedWithOrders_59 : decode cX4_mixedWithOrders 59 = .ok (.invokevirtual 328, 3) := by decide +kernel
theorem dX4_mixedWithOrders_62 : decode cX4_mixedWithOrders 62 = .ok (.ifCond .eq 7, 3) := by decide +kernel
theorem dX4_mixedWithOrders_65 : decode cX4_mixedWithOrders 65 = .ok (.iconst 1, 1) := by decide +kernel
theorem dX4_mixedWithOrders_66 : decode cX4_mixedWithOrders 66 = .ok (.goto 4, 3) := by decide +kernel
theorem dX4_mixedWithOrders_69 : decode cX4_mixedWithOrders 69 = .ok (.iconst 0, 1) := by decide +kernel
theorem dX4_mixedWithOrders_70 : decode cX4_mixedWithOrders 70 = .ok (.invokestatic 281, 3) := by decide +kernel
theorem dX4_mixedWithOrders_73 : decode cX4_mixedWithOrders 73 = .ok (.lstore_n 3, 1) := by decide +kernel
theorem dX4_mixedWithOrders_74 : decode cX4_mixedWithOrders 74 = .ok (.iinc 7 1, 3) := by decide +kernel
theorem dX4_mixedWithOrders_77 : decode cX4_mixedWithOrders 77 = .ok (.goto (-45), 3) := by decide +kernel
theorem dX4_mixedWithOrders_80 : decode cX4_mixedWithOrders 80 = .ok (.lload_n 3, 1) := by decide +kernel
theorem dX4_mixedWithOrders_81 : decode cX4_mixedWithOrders 81 = .ok (.aload 6, 2) := by decide +kernel
theorem dX4_mixedWithOrders_83 : decode cX4_mixedWithOrders 83 = .ok (.invokevirtual 204, 3) := by decide +kernel
theorem dX4_mixedWithOrders_86 : decode cX4_mixedWithOrders 86 = .ok (.invokestatic 281, 3) := by decide +kernel
theorem dX4_mixedWithOrders_89 : decode cX4_mixedWithOrders 89 = .ok (.lstore_n 3, 1) := by decide +kernel
theorem dX4_mixedWithOrders_90 : decode cX4_mixedWithOrders 90 = .ok (.iconst 0, 1) := by decide +kernel
theorem dX4_mixedWithOrders_91 : decode cX4_mixedWithOrders 91 = .ok (.istore 7, 2) := by decide +kernel
theorem dX4_mixedWithOrders_93 : decode cX4_mixedWithOrders 93 = .ok (.iload 7, 2) := by decide +kernel
theorem dX4_mixedWithOrders_95 : decode cX4_mixedWithOrders 95 = .ok (.bipush 16, 2) := by decide +kernel
theorem dX4_mixedWithOrders_97 : decode cX4_mixedWithOrders 97 = .ok (.if_icmp .ge 21, 3) := by decide +kernel
theorem dX4_mixedWithOrders_100 : decode cX4_mixedWithOrders 100 = .ok (.lload_n 3, 1) := by decide +kernel
theorem dX4_mixedWithOrders_101 : decode cX4_mixedWithOrders 101 = .ok (.aload 6, 2) := by decide +kernel
theorem dX4_mixedWithOrders_103 : decode cX4_mixedWithOrders 103 = .ok (.iload 7, 2) := by decide +kernel
theorem dX4_mixedWithOrders_105 : decode cX4_mixedWithOrders 105 = .ok (.invokevirtual 162, 3) := by decide +kernel
theorem dX4_mixedWithOrders_108 : decode cX4_mixedWithOrders 108 = .ok (.invokestatic 281, 3) := by decide +kernel
theorem dX4_mixedWithOrders_111 : decode cX4_mixedWithOrders 111 = .ok (.lstore_n 3, 1) := by decide +kernel
theorem dX4_mixedWithOrders_112 : decode cX4_mixedWithOrders 112 = .ok (.iinc 7 1, 3) := by decide +kernel
theorem dX4_mixedWithOrders_115 : decode cX4_mixedWithOrders 115 = .ok (.goto (-22), 3) := by decide +kernel
theorem dX4_mixedWithOrders_118 : decode cX4_mixedWithOrders 118 = .ok (.iinc 5 1, 3) := by decide +kernel
theorem dX4_mixedWithOrders_121 : decode cX4_mixedWithOrders 121 = .ok (.goto (-116), 3) := by decide +kernel
theorem dX4_mixedWithOrders_124 : decode cX4_mixedWithOrders 124 = .ok (.lload_n 3, 1) := by decide +kernel
theorem dX4_mixedWithOrders_125 : decode cX4_mixedWithOrders 125 = .ok (.lreturn, 1) := by decide +kernel
set_option maxRecDepth 20000 in
theorem ggX4_mixedWithPairs_X4_orderAt : GoodIn wsX4_mixedWithPairs wsX4_orderAt := goodIn_ca (goodIn_r _ [5, 6, 7, 8, 30, 31, 32, 33, 34, 35, 36, 37, 38] (by decide +kernel) (by decide +kernel)) (goodIn_sub (fun _ h => List.mem_cons_of_mem _ (List.mem_append_right _ h)) (by decide +kernel))
set_option maxRecDepth 20000 in
theorem gX4_mixedWithPairs_X4_orderAt : GoodIn wsX4_mixedWithPairs (wsV RX4 124 RX4 yX4_orderAt wsX4_orderAt) := goodIn_app (goodIn_of _ (by decide +kernel)) ggX4_mixedWithPairs_X4_orderAt
set_option maxRecDepth 20000 in
theorem ggX4_mixedWithPairs_X4_pairsApart : GoodIn wsX4_mixedWithPairs wsX4_pairsApart := goodIn_r _ [11, 12, 13, 4, 14, 15, 16, 17, 18, 19, 20, 39, 40, 41, 42, 43, 44] (by decide +kernel) (by decide +kernel)
set_option maxRecDepth 20000 in
theorem gX4_mixedWithPairs_X4_pairsApart : GoodIn wsX4_mixedWithPairs (va_wsS RX4 242 yX4_pairsApart wsX4_pairsApart) := goodIn_app (goodIn_of _ (by decide +kernel)) ggX4_mixedWithPairs_X4_pairsApart
set_option maxRecDepth 20000 in
theorem ggX4_mixedWithPairs_X4_mixed : GoodIn wsX4_mixedWithPairs wsX4_mixed := goodIn_r _ [23, 24] (by decide +kernel) (by decide +kernel)
set_option maxRecDepth 20000 in
theorem gX4_mixedWithPairs_X4_mixed : GoodIn wsX4_mixedWithPairs (va_wsS RX4 281 yX4_mixed wsX4_mixed) := goodIn_app (goodIn_of _ (by decide +kernel)) ggX4_mixedWithPairs_X4_mixed
set_option maxRecDepth 20000 in
theorem ggX4_mixedWithPairs_X1_isFinerThan : GoodIn wsX4_mixedWithPairs wsX1_isFinerThan := goodIn_r _ [28, 29, 16, 17, 18, 19, 20, 39, 40, 41, 42, 43, 44] (by decide +kernel) (by decide +kernel)
set_option maxRecDepth 20000 in
theorem gX4_mixedWithPairs_X1_isFinerThan : GoodIn wsX4_mixedWithPairs (wsV RX4 236 RX1 yX1_isFinerThan wsX1_isFinerThan) := goodIn_app (goodIn_of _ (by decide +kernel)) ggX4_mixedWithPairs_X1_isFinerThan
theorem dX4_mixedWithPairs_0 : decode cX4_mixedWithPairs 0 = .ok (.lload_n 1, 1) := by decide +kernel
theorem dX4_mixedWithPairs_1 : decode cX4_mixedWithPairs 1 = .ok (.lstore_n 3, 1) := by decide +kernel
theorem dX4_mixedWithPairs_2 : decode cX4_mixedWithPairs 2 = .ok (.iconst 0, 1) := by decide +kernel
theorem dX4_mixedWithPairs_3 : decode cX4_mixedWithPairs 3 = .ok (.istore 5, 2) := by decide +kernel
theorem dX4_mixedWithPairs_5 : decode cX4_mixedWithPairs 5 = .ok (.iload 5, 2) := by decide +kernel
theorem dX4_mixedWithPairs_7 : decode cX4_mixedWithPairs 7 = .ok (.iconst 4, 1) := by decide +kernel
theorem dX4_mixedWithPairs_8 : decode cX4_mixedWithPairs 8 = .ok (.if_icmp .ge 72, 3) := by decide +kernel
theorem dX4_mixedWithPairs_11 : decode cX4_mixedWithPairs 11 = .ok (.iconst 0, 1) := by decide +kernel
theorem dX4_mixedWithPairs_12 : decode cX4_mixedWithPairs 12 = .ok (.istore 6, 2) := by decide +kernel
theorem dX4_mixedWithPairs_14 : decode cX4_mixedWithPairs 14 = .ok (.iload 6, 2) := by decide +kernel
theorem dX4_mixedWithPairs_16 : decode cX4_mixedWithPairs 16 = .ok (.iconst 4, 1) := by decide +kernel
theorem dX4_mixedWithPairs_17 : decode cX4_mixedWithPairs 17 = .ok (.if_icmp .ge 57, 3) := by decide +kernel
theorem dX4_mixedWithPairs_20 : decode cX4_mixedWithPairs 20 = .ok (.lload_n 3, 1) := by decide +kernel
theorem dX4_mixedWithPairs_21 : decode cX4_mixedWithPairs 21 = .ok (.aload_n 0, 1) := by decide +kernel
theorem dX4_mixedWithPairs_22 : decode cX4_mixedWithPairs 22 = .ok (.iload 5, 2) := by decide +kernel
theorem dX4_mixedWithPairs_24 : decode cX4_mixedWithPairs 24 = .ok (.invokevirtual 124, 3) := by decide +kernel
theorem dX4_mixedWithPairs_27 : decode cX4_mixedWithPairs 27 = .ok (.aload_n 0, 1) := by decide +kernel
theorem dX4_mixedWithPairs_28 : decode cX4_mixedWithPairs 28 = .ok (.iload 6, 2) := by decide +kernel
theorem dX4_mixedWithPairs_30 : decode cX4_mixedWithPairs 30 = .ok (.invokevirtual 124, 3) := by decide +kernel
theorem dX4_mixedWithPairs_33 : decode cX4_mixedWithPairs 33 = .ok (.invokestatic 242, 3) := by decide +kernel
theorem dX4_mixedWithPairs_36 : decode cX4_mixedWithPairs 36 = .ok (.invokestatic 281, 3) := by decide +kernel
theorem dX4_mixedWithPairs_39 : decode cX4_mixedWithPairs 39 = .ok (.lstore_n 3, 1) := by decide +kernel
theorem dX4_mixedWithPairs_40 : decode cX4_mixedWithPairs 40 = .ok (.lload_n 3, 1) := by decide +kernel
theorem dX4_mixedWithPairs_41 : decode cX4_mixedWithPairs 41 = .ok (.aload_n 0, 1) := by decide +kernel
theorem dX4_mixedWithPairs_42 : decode cX4_mixedWithPairs 42 = .ok (.iload 5, 2) := by decide +kernel
theorem dX4_mixedWithPairs_44 : decode cX4_mixedWithPairs 44 = .ok (.invokevirtual 124, 3) := by decide +kernel
theorem dX4_mixedWithPairs_47 : decode cX4_mixedWithPairs 47 = .ok (.aload_n 0, 1) := by decide +kernel
theorem dX4_mixedWithPairs_48 : decode cX4_mixedWithPairs 48 = .ok (.iload 6, 2) := by decide +kernel
theorem dX4_mixedWithPairs_50 : decode cX4_mixedWithPairs 50 = .ok (.invokevirtual 124, 3) := by decide +kernel
theorem dX4_mixedWithPairs_53 : decode cX4_mixedWithPairs 53 = .ok (.invokevirtual 236, 3) := by decide +kernel
theorem dX4_mixedWithPairs_56 : decode cX4_mixedWithPairs 56 = .ok (.ifCond .eq 7, 3) := by decide +kernel
theorem dX4_mixedWithPairs_59 : decode cX4_mixedWithPairs 59 = .ok (.iconst 1, 1) := by decide +kernel
theorem dX4_mixedWithPairs_60 : decode cX4_mixedWithPairs 60 = .ok (.goto 4, 3) := by decide +kernel
theorem dX4_mixedWithPairs_63 : decode cX4_mixedWithPairs 63 = .ok (.iconst 0, 1) := by decide +kernel
theorem dX4_mixedWithPairs_64 : decode cX4_mixedWithPairs 64 = .ok (.invokestatic 281, 3) := by decide +kernel
theorem dX4_mixedWithPairs_67 : decode cX4_mixedWithPairs 67 = .ok (.lstore_n 3, 1) := by decide +kernel
theorem dX4_mixedWithPairs_68 : decode cX4_mixedWithPairs 68 = .ok (.iinc 6 1, 3) := by decide +kernel
theorem dX4_mixedWithPairs_71 : decode cX4_mixedWithPairs 71 = .ok (.goto (-57), 3) := by decide +kernel
theorem dX4_mixedWithPairs_74 : decode cX4_mixedWithPairs 74 = .ok (.iinc 5 1, 3) := by decide +kernel
theorem dX4_mixedWithPairs_77 : decode cX4_mixedWithPairs 77 = .ok (.goto (-72), 3) := by decide +kernel
theorem dX4_mixedWithPairs_80 : decode cX4_mixedWithPairs 80 = .ok (.lload_n 3, 1) := by decide +kernel
theorem dX4_mixedWithPairs_81 : decode cX4_mixedWithPairs 81 = .ok (.lreturn, 1) := by decide +kernel
set_option maxRecDepth 20000 in
theorem ggX4_mixedWithSequences_X4_rowAt : GoodIn wsX4_mixedWithSequences wsX4_rowAt := goodIn_ca (goodIn_r _ [5, 6, 7, 8, 43, 44, 45, 46, 47, 48, 49, 50, 51] (by decide +kernel) (by decide +kernel)) (goodIn_sub (fun _ h => List.mem_cons_of_mem _ (List.mem_append_right _ h)) (by decide +kernel))
set_option maxRecDepth 20000 in
theorem gX4_mixedWithSequences_X4_rowAt : GoodIn wsX4_mixedWithSequences (wsV RX4 55 RX4 yX4_rowAt wsX4_rowAt) := goodIn_app (goodIn_of _ (by decide +kernel)) ggX4_mixedWithSequences_X4_rowAt
set_option maxRecDepth 20000 in
theorem ggX4_mixedWithSequences_X4_orderAt : GoodIn wsX4_mixedWithSequences wsX4_orderAt := goodIn_ca (goodIn_r _ [12, 6, 7, 13, 43, 44, 45, 46, 47, 48, 49, 50, 51] (by decide +kernel) (by decide +kernel)) (goodIn_sub (fun _ h => List.mem_cons_of_mem _ (List.mem_append_right _ h)) (by decide +kernel))
set_option maxRecDepth 20000 in
theorem gX4_mixedWithSequences_X4_orderAt : GoodIn wsX4_mixedWithSequences (wsV RX4 124 RX4 yX4_orderAt wsX4_orderAt) := goodIn_app (goodIn_of _ (by decide +kernel)) ggX4_mixedWithSequences_X4_orderAt
set_option maxRecDepth 20000 in
theorem ggX4_mixedWithSequences_X2_lots : GoodIn wsX4_mixedWithSequences wsX2_lots := goodIn_r _ [18, 19, 20, 21, 22, 17, 23, 24, 25, 26, 27, 28, 29, 30, 31, 32, 33, 34, 52, 53, 54, 55, 56, 57, 58, 59, 60] (by decide +kernel) (by decide +kernel)
set_option maxRecDepth 20000 in
theorem gX4_mixedWithSequences_X2_lots : GoodIn wsX4_mixedWithSequences (wsV RX4 177 RX2 yX2_lots wsX2_lots) := goodIn_app (goodIn_of _ (by decide +kernel)) ggX4_mixedWithSequences_X2_lots
set_option maxRecDepth 20000 in
theorem ggX4_mixedWithSequences_X4_mixed : GoodIn wsX4_mixedWithSequences wsX4_mixed := goodIn_r _ [37, 38] (by decide +kernel) (by decide +kernel)
set_option maxRecDepth 20000 in
theorem gX4_mixedWithSequences_X4_mixed : GoodIn wsX4_mixedWithSequences (va_wsS RX4 281 yX4_mixed wsX4_mixed) := goodIn_app (goodIn_of _ (by decide +kernel)) ggX4_mixedWithSequences_X4_mixed
set_option maxRecDepth 20000 in
theorem ggX4_mixedWithSequences_X2_isInSequenceBy : GoodIn wsX4_mixedWithSequences wsX2_isInSequenceBy := goodIn_r _ [42, 19, 24, 25, 26, 17, 27, 28, 29, 30, 31, 32, 33, 34, 52, 53, 54, 55, 56, 57, 58, 59, 60] (by decide +kernel) (by decide +kernel)
set_option maxRecDepth 20000 in
theorem gX4_mixedWithSequences_X2_isInSequenceBy : GoodIn wsX4_mixedWithSequences (wsV RX4 147 RX2 yX2_isInSequenceBy wsX2_isInSequenceBy) := goodIn_app (goodIn_of _ (by decide +kernel)) ggX4_mixedWithSequences_X2_isInSequenceBy
theorem dX4_mixedWithSequences_0 : decode cX4_mixedWithSequences 0 = .ok (.lload_n 1, 1) := by decide +kernel
theorem dX4_mixedWithSequences_1 : decode cX4_mixedWithSequences 1 = .ok (.lstore_n 3, 1) := by decide +kernel
theorem dX4_mixedWithSequences_2 : decode cX4_mixedWithSequences 2 = .ok (.iconst 0, 1) := by decide +kernel
theorem dX4_mixedWithSequences_3 : decode cX4_mixedWithSequences 3 = .ok (.istore 5, 2) := by decide +kernel
theorem dX4_mixedWithSequences_5 : decode cX4_mixedWithSequences 5 = .ok (.iload 5, 2) := by decide +kernel
theorem dX4_mixedWithSequences_7 : decode cX4_mixedWithSequences 7 = .ok (.iconst 3, 1) := by decide +kernel
theorem dX4_mixedWithSequences_8 : decode cX4_mixedWithSequences 8 = .ok (.if_icmp .ge 72, 3) := by decide +kernel
theorem dX4_mixedWithSequences_11 : decode cX4_mixedWithSequences 11 = .ok (.iconst 0, 1) := by decide +kernel
theorem dX4_mixedWithSequences_12 : decode cX4_mixedWithSequences 12 = .ok (.istore 6, 2) := by decide +kernel
theorem dX4_mixedWithSequences_14 : decode cX4_mixedWithSequences 14 = .ok (.iload 6, 2) := by decide +kernel
theorem dX4_mixedWithSequences_16 : decode cX4_mixedWithSequences 16 = .ok (.iconst 4, 1) := by decide +kernel
theorem dX4_mixedWithSequences_17 : decode cX4_mixedWithSequences 17 = .ok (.if_icmp .ge 57, 3) := by decide +kernel
theorem dX4_mixedWithSequences_20 : decode cX4_mixedWithSequences 20 = .ok (.lload_n 3, 1) := by decide +kernel
theorem dX4_mixedWithSequences_21 : decode cX4_mixedWithSequences 21 = .ok (.aload_n 0, 1) := by decide +kernel
theorem dX4_mixedWithSequences_22 : decode cX4_mixedWithSequences 22 = .ok (.iload 5, 2) := by decide +kernel
theorem dX4_mixedWithSequences_24 : decode cX4_mixedWithSequences 24 = .ok (.invokevirtual 55, 3) := by decide +kernel
theorem dX4_mixedWithSequences_27 : decode cX4_mixedWithSequences 27 = .ok (.aload_n 0, 1) := by decide +kernel
theorem dX4_mixedWithSequences_28 : decode cX4_mixedWithSequences 28 = .ok (.iload 6, 2) := by decide +kernel
theorem dX4_mixedWithSequences_30 : decode cX4_mixedWithSequences 30 = .ok (.invokevirtual 124, 3) := by decide +kernel
theorem dX4_mixedWithSequences_33 : decode cX4_mixedWithSequences 33 = .ok (.invokevirtual 177, 3) := by decide +kernel
theorem dX4_mixedWithSequences_36 : decode cX4_mixedWithSequences 36 = .ok (.invokestatic 281, 3) := by decide +kernel
theorem dX4_mixedWithSequences_39 : decode cX4_mixedWithSequences 39 = .ok (.lstore_n 3, 1) := by decide +kernel
theorem dX4_mixedWithSequences_40 : decode cX4_mixedWithSequences 40 = .ok (.lload_n 3, 1) := by decide +kernel
theorem dX4_mixedWithSequences_41 : decode cX4_mixedWithSequences 41 = .ok (.aload_n 0, 1) := by decide +kernel
theorem dX4_mixedWithSequences_42 : decode cX4_mixedWithSequences 42 = .ok (.iload 5, 2) := by decide +kernel
theorem dX4_mixedWithSequences_44 : decode cX4_mixedWithSequences 44 = .ok (.invokevirtual 55, 3) := by decide +kernel
theorem dX4_mixedWithSequences_47 : decode cX4_mixedWithSequences 47 = .ok (.aload_n 0, 1) := by decide +kernel
theorem dX4_mixedWithSequences_48 : decode cX4_mixedWithSequences 48 = .ok (.iload 6, 2) := by decide +kernel
theorem dX4_mixedWithSequences_50 : decode cX4_mixedWithSequences 50 = .ok (.invokevirtual 124, 3) := by decide +kernel
theorem dX4_mixedWithSequences_53 : decode cX4_mixedWithSequences 53 = .ok (.invokevirtual 147, 3) := by decide +kernel
theorem dX4_mixedWithSequences_56 : decode cX4_mixedWithSequences 56 = .ok (.ifCond .eq 7, 3) := by decide +kernel
theorem dX4_mixedWithSequences_59 : decode cX4_mixedWithSequences 59 = .ok (.iconst 1, 1) := by decide +kernel
theorem dX4_mixedWithSequences_60 : decode cX4_mixedWithSequences 60 = .ok (.goto 4, 3) := by decide +kernel
theorem dX4_mixedWithSequences_63 : decode cX4_mixedWithSequences 63 = .ok (.iconst 0, 1) := by decide +kernel
theorem dX4_mixedWithSequences_64 : decode cX4_mixedWithSequences 64 = .ok (.invokestatic 281, 3) := by decide +kernel
theorem dX4_mixedWithSequences_67 : decode cX4_mixedWithSequences 67 = .ok (.lstore_n 3, 1) := by decide +kernel
theorem dX4_mixedWithSequences_68 : decode cX4_mixedWithSequences 68 = .ok (.iinc 6 1, 3) := by decide +kernel
theorem dX4_mixedWithSequences_71 : decode cX4_mixedWithSequences 71 = .ok (.goto (-57), 3) := by decide +kernel
theorem dX4_mixedWithSequences_74 : decode cX4_mixedWithSequences 74 = .ok (.iinc 5 1, 3) := by decide +kernel
theorem dX4_mixedWithSequences_77 : decode cX4_mixedWithSequences 77 = .ok (.goto (-72), 3) := by decide +kernel
theorem dX4_mixedWithSequences_80 : decode cX4_mixedWithSequences 80 = .ok (.lload_n 3, 1) := by decide +kernel
theorem dX4_mixedWithSequences_81 : decode cX4_mixedWithSequences 81 = .ok (.lreturn, 1) := by decide +kernel
theorem dX5_init_0 : decode cX5_init 0 = .ok (.aload_n 0, 1) := by decide +kernel
theorem dX5_init_1 : decode cX5_init 1 = .ok (.invokespecial 1, 3) := by decide +kernel
theorem dX5_init_4 : decode cX5_init 4 = .ok (.return_, 1) := by decide +kernel
theorem dX6_init_0 : decode cX6_init 0 = .ok (.aload_n 0, 1) := by decide +kernel
theorem dX6_init_1 : decode cX6_init 1 = .ok (.invokespecial 1, 3) := by decide +kernel
theorem dX6_init_4 : decode cX6_init 4 = .ok (.aload_n 0, 1) := by decide +kernel
theorem dX6_init_5 : decode cX6_init 5 = .ok (.iconst 3, 1) := by decide +kernel
theorem dX6_init_6 : decode cX6_init 6 = .ok (.bipush 12, 2) := by decide +kernel
theorem dX6_init_8 : decode cX6_init 8 = .ok (.multianewarray 9 2, 4) := by decide +kernel
theorem dX6_init_12 : decode cX6_init 12 = .ok (.putfield 11, 3) := by decide +kernel
theorem dX6_init_15 : decode cX6_init 15 = .ok (.aload_n 0, 1) := by decide +kernel
theorem dX6_init_16 : decode cX6_init 16 = .ok (.iconst 3, 1) := by decide +kernel
theorem dX6_init_17 : decode cX6_init 17 = .ok (.bipush 12, 2) := by decide +kernel
theorem dX6_init_19 : decode cX6_init 19 = .ok (.multianewarray 9 2, 4) := by decide +kernel
theorem dX6_init_23 : decode cX6_init 23 = .ok (.putfield 14, 3) := by decide +kernel
theorem dX6_init_26 : decode cX6_init 26 = .ok (.aload_n 0, 1) := by decide +kernel
theorem dX6_init_27 : decode cX6_init 27 = .ok (.iconst 3, 1) := by decide +kernel
theorem dX6_init_28 : decode cX6_init 28 = .ok (.newarray .int, 2) := by decide +kernel
theorem dX6_init_30 : decode cX6_init 30 = .ok (.putfield 17, 3) := by decide +kernel
theorem dX6_init_33 : decode cX6_init 33 = .ok (.aload_n 0, 1) := by decide +kernel
theorem dX6_init_34 : decode cX6_init 34 = .ok (.iconst 4, 1) := by decide +kernel
theorem dX6_init_35 : decode cX6_init 35 = .ok (.iconst 5, 1) := by decide +kernel
theorem dX6_init_36 : decode cX6_init 36 = .ok (.multianewarray 9 2, 4) := by decide +kernel
theorem dX6_init_40 : decode cX6_init 40 = .ok (.putfield 21, 3) := by decide +kernel
theorem dX6_init_43 : decode cX6_init 43 = .ok (.aload_n 0, 1) := by decide +kernel
theorem dX6_init_44 : decode cX6_init 44 = .ok (.iconst 4, 1) := by decide +kernel
theorem dX6_init_45 : decode cX6_init 45 = .ok (.iconst 5, 1) := by decide +kernel
theorem dX6_init_46 : decode cX6_init 46 = .ok (.multianewarray 24 2, 4) := by decide +kernel
theorem dX6_init_50 : decode cX6_init 50 = .ok (.putfield 26, 3) := by decide +kernel
theorem dX6_init_53 : decode cX6_init 53 = .ok (.aload_n 0, 1) := by decide +kernel
theorem dX6_init_54 : decode cX6_init 54 = .ok (.iconst 4, 1) := by decide +kernel
theorem dX6_init_55 : decode cX6_init 55 = .ok (.newarray .int, 2) := by decide +kernel
theorem dX6_init_57 : decode cX6_init 57 = .ok (.putfield 29, 3) := by decide +kernel
theorem dX6_init_60 : decode cX6_init 60 = .ok (.return_, 1) := by decide +kernel
theorem dX6_refuse_0 : decode cX6_refuse 0 = .ok (.iload_n 1, 1) := by decide +kernel
theorem dX6_refuse_1 : decode cX6_refuse 1 = .ok (.ifCond .eq 15, 3) := by decide +kernel
theorem dX6_refuse_4 : decode cX6_refuse 4 = .ok (.aload_n 0, 1) := by decide +kernel
theorem dX6_refuse_5 : decode cX6_refuse 5 = .ok (.getfield 32, 3) := by decide +kernel
theorem dX6_refuse_8 : decode cX6_refuse 8 = .ok (.ifCond .ne 8, 3) := by decide +kernel
theorem dX6_refuse_11 : decode cX6_refuse 11 = .ok (.aload_n 0, 1) := by decide +kernel
theorem dX6_refuse_12 : decode cX6_refuse 12 = .ok (.iload_n 2, 1) := by decide +kernel
theorem dX6_refuse_13 : decode cX6_refuse 13 = .ok (.putfield 32, 3) := by decide +kernel
theorem dX6_refuse_16 : decode cX6_refuse 16 = .ok (.aload_n 0, 1) := by decide +kernel
theorem dX6_refuse_17 : decode cX6_refuse 17 = .ok (.getfield 32, 3) := by decide +kernel
theorem dX6_refuse_20 : decode cX6_refuse 20 = .ok (.ifCond .le 7, 3) := by decide +kernel
theorem dX6_refuse_23 : decode cX6_refuse 23 = .ok (.iconst 1, 1) := by decide +kernel
theorem dX6_refuse_24 : decode cX6_refuse 24 = .ok (.goto 4, 3) := by decide +kernel
theorem dX6_refuse_27 : decode cX6_refuse 27 = .ok (.iconst 0, 1) := by decide +kernel
theorem dX6_refuse_28 : decode cX6_refuse 28 = .ok (.ireturn, 1) := by decide +kernel
set_option maxRecDepth 20000 in
theorem ggX6_start_X6_refuse : GoodIn wsX6_start wsX6_refuse := goodIn_r _ [6, 1, 7, 8, 9, 10, 11, 12, 13, 14, 15, 16] (by decide +kernel) (by decide +kernel)
set_option maxRecDepth 20000 in
theorem gX6_start_X6_refuse : GoodIn wsX6_start (wsV RX6 36 RX6 yX6_refuse wsX6_refuse) := goodIn_app (goodIn_of _ (by decide +kernel)) ggX6_start_X6_refuse
theorem dX6_start_0 : decode cX6_start 0 = .ok (.aload_n 0, 1) := by decide +kernel
theorem dX6_start_1 : decode cX6_start 1 = .ok (.iconst 0, 1) := by decide +kernel
theorem dX6_start_2 : decode cX6_start 2 = .ok (.putfield 32, 3) := by decide +kernel
theorem dX6_start_5 : decode cX6_start 5 = .ok (.aload_n 0, 1) := by decide +kernel
theorem dX6_start_6 : decode cX6_start 6 = .ok (.iload_n 1, 1) := by decide +kernel
theorem dX6_start_7 : decode cX6_start 7 = .ok (.iload_n 2, 1) := by decide +kernel
theorem dX6_start_8 : decode cX6_start 8 = .ok (.invokevirtual 36, 3) := by decide +kernel
theorem dX6_start_11 : decode cX6_start 11 = .ok (.ireturn, 1) := by decide +kernel
theorem dX6_isNo_0 : decode cX6_isNo 0 = .ok (.iload_n 0, 1) := by decide +kernel
theorem dX6_isNo_1 : decode cX6_isNo 1 = .ok (.ifCond .lt 8, 3) := by decide +kernel
theorem dX6_isNo_4 : decode cX6_isNo 4 = .ok (.iload_n 0, 1) := by decide +kernel
theorem dX6_isNo_5 : decode cX6_isNo 5 = .ok (.iload_n 1, 1) := by decide +kernel
theorem dX6_isNo_6 : decode cX6_isNo 6 = .ok (.if_icmp .le 7, 3) := by decide +kernel
theorem dX6_isNo_9 : decode cX6_isNo 9 = .ok (.iconst 1, 1) := by decide +kernel
theorem dX6_isNo_10 : decode cX6_isNo 10 = .ok (.goto 4, 3) := by decide +kernel
theorem dX6_isNo_13 : decode cX6_isNo 13 = .ok (.iconst 0, 1) := by decide +kernel
theorem dX6_isNo_14 : decode cX6_isNo 14 = .ok (.ireturn, 1) := by decide +kernel
set_option maxRecDepth 20000 in
theorem ggX6_isNoRow_X6_isNo : GoodIn wsX6_isNoRow wsX6_isNo := goodIn_r _ [4] (by decide +kernel) (by decide +kernel)
set_option maxRecDepth 20000 in
theorem gX6_isNoRow_X6_isNo : GoodIn wsX6_isNoRow (va_wsS RX6 40 yX6_isNo wsX6_isNo) := goodIn_app (goodIn_of _ (by decide +kernel)) ggX6_isNoRow_X6_isNo
theorem dX6_isNoRow_0 : decode cX6_isNoRow 0 = .ok (.iload_n 0, 1) := by decide +kernel
theorem dX6_isNoRow_1 : decode cX6_isNoRow 1 = .ok (.iconst 2, 1) := by decide +kernel
theorem dX6_isNoRow_2 : decode cX6_isNoRow 2 = .ok (.invokestatic 40, 3) := by decide +kernel
theorem dX6_isNoRow_5 : decode cX6_isNoRow 5 = .ok (.ireturn, 1) := by decide +kernel
set_option maxRecDepth 20000 in
theorem ggX6_isNoOrder_X6_isNo : GoodIn wsX6_isNoOrder wsX6_isNo := goodIn_r _ [4] (by decide +kernel) (by decide +kernel)
set_option maxRecDepth 20000 in
theorem gX6_isNoOrder_X6_isNo : GoodIn wsX6_isNoOrder (va_wsS RX6 40 yX6_isNo wsX6_isNo) := goodIn_app (goodIn_of _ (by decide +kernel)) ggX6_isNoOrder_X6_isNo
theorem dX6_isNoOrder_0 : decode cX6_isNoOrder 0 = .ok (.iload_n 0, 1) := by decide +kernel
theorem dX6_isNoOrder_1 : decode cX6_isNoOrder 1 = .ok (.iconst 3, 1) := by decide +kernel
theorem dX6_isNoOrder_2 : decode cX6_isNoOrder 2 = .ok (.invokestatic 40, 3) := by decide +kernel
theorem dX6_isNoOrder_5 : decode cX6_isNoOrder 5 = .ok (.ireturn, 1) := by decide +kernel
set_option maxRecDepth 20000 in
theorem ggX6_isNoValue_X6_isNo : GoodIn wsX6_isNoValue wsX6_isNo := goodIn_r _ [4] (by decide +kernel) (by decide +kernel)
set_option maxRecDepth 20000 in
theorem gX6_isNoValue_X6_isNo : GoodIn wsX6_isNoValue (va_wsS RX6 40 yX6_isNo wsX6_isNo) := goodIn_app (goodIn_of _ (by decide +kernel)) ggX6_isNoValue_X6_isNo
theorem dX6_isNoValue_0 : decode cX6_isNoValue 0 = .ok (.iload_n 0, 1) := by decide +kernel
theorem dX6_isNoValue_1 : decode cX6_isNoValue 1 = .ok (.bipush 15, 2) := by decide +kernel
theorem dX6_isNoValue_3 : decode cX6_isNoValue 3 = .ok (.invokestatic 40, 3) := by decide +kernel
theorem dX6_isNoValue_6 : decode cX6_isNoValue 6 = .ok (.ireturn, 1) := by decide +kernel
theorem dX6_no_0 : decode cX6_no 0 = .ok (.aload_n 0, 1) := by decide +kernel
theorem dX6_no_1 : decode cX6_no 1 = .ok (.dup, 1) := by decide +kernel
theorem dX6_no_2 : decode cX6_no 2 = .ok (.getfield 44, 3) := by decide +kernel
theorem dX6_no_5 : decode cX6_no 5 = .ok (.iconst 1, 1) := by decide +kernel
theorem dX6_no_6 : decode cX6_no 6 = .ok (.iadd, 1) := by decide +kernel
theorem dX6_no_7 : decode cX6_no 7 = .ok (.putfield 44, 3) := by decide +kernel
theorem dX6_no_10 : decode cX6_no 10 = .ok (.bipush (-9), 2) := by decide +kernel
theorem dX6_no_12 : decode cX6_no 12 = .ok (.ireturn, 1) := by decide +kernel
theorem dX6_keyNow_0 : decode cX6_keyNow 0 = .ok (.iload_n 0, 1) := by decide +kernel
theorem dX6_keyNow_1 : decode cX6_keyNow 1 = .ok (.tableswitch 100 0 6 #[43, 45, 49, 53, 57, 61, 79], 43) := by decide +kernel
theorem dX6_keyNow_44 : decode cX6_keyNow 44 = .ok (.iload_n 1, 1) := by decide +kernel
theorem dX6_keyNow_45 : decode cX6_keyNow 45 = .ok (.ireturn, 1) := by decide +kernel
theorem dX6_keyNow_46 : decode cX6_keyNow 46 = .ok (.iload_n 1, 1) := by decide +kernel
theorem dX6_keyNow_47 : decode cX6_keyNow 47 = .ok (.iconst 4, 1) := by decide +kernel
theorem dX6_keyNow_48 : decode cX6_keyNow 48 = .ok (.idiv, 1) := by decide +kernel
theorem dX6_keyNow_49 : decode cX6_keyNow 49 = .ok (.ireturn, 1) := by decide +kernel
theorem dX6_keyNow_50 : decode cX6_keyNow 50 = .ok (.iload_n 1, 1) := by decide +kernel
theorem dX6_keyNow_51 : decode cX6_keyNow 51 = .ok (.iconst 4, 1) := by decide +kernel
theorem dX6_keyNow_52 : decode cX6_keyNow 52 = .ok (.irem, 1) := by decide +kernel
theorem dX6_keyNow_53 : decode cX6_keyNow 53 = .ok (.ireturn, 1) := by decide +kernel
theorem dX6_keyNow_54 : decode cX6_keyNow 54 = .ok (.iload_n 1, 1) := by decide +kernel
theorem dX6_keyNow_55 : decode cX6_keyNow 55 = .ok (.iconst 2, 1) := by decide +kernel
theorem dX6_keyNow_56 : decode cX6_keyNow 56 = .ok (.irem, 1) := by decide +kernel
theorem dX6_keyNow_57 : decode cX6_keyNow 57 = .ok (.ireturn, 1) := by decide +kernel
theorem dX6_keyNow_58 : decode cX6_keyNow 58 = .ok (.iload_n 1, 1) := by decide +kernel
theorem dX6_keyNow_59 : decode cX6_keyNow 59 = .ok (.iconst 3, 1) := by decide +kernel
theorem dX6_keyNow_60 : decode cX6_keyNow 60 = .ok (.irem, 1) := by decide +kernel
theorem dX6_keyNow_61 : decode cX6_keyNow 61 = .ok (.ireturn, 1) := by decide +kernel
theorem dX6_keyNow_62 : decode cX6_keyNow 62 = .ok (.iload_n 1, 1) := by decide +kernel
theorem dX6_keyNow_63 : decode cX6_keyNow 63 = .ok (.bipush 8, 2) := by decide +kernel
theorem dX6_keyNow_65 : decode cX6_keyNow 65 = .ok (.if_icmp .ge 10, 3) := by decide +kernel
theorem dX6_keyNow_68 : decode cX6_keyNow 68 = .ok (.bipush 7, 2) := by decide +kernel
theorem dX6_keyNow_70 : decode cX6_keyNow 70 = .ok (.iload_n 1, 1) := by decide +kernel
theorem dX6_keyNow_71 : decode cX6_keyNow 71 = .ok (.isub, 1) := by decide +kernel
theorem dX6_keyNow_72 : decode cX6_keyNow 72 = .ok (.goto 7, 3) := by decide +kernel
theorem dX6_keyNow_75 : decode cX6_keyNow 75 = .ok (.iload_n 1, 1) := by decide +kernel
theorem dX6_keyNow_76 : decode cX6_keyNow 76 = .ok (.bipush 8, 2) := by decide +kernel
theorem dX6_keyNow_78 : decode cX6_keyNow 78 = .ok (.isub, 1) := by decide +kernel
theorem dX6_keyNow_79 : decode cX6_keyNow 79 = .ok (.ireturn, 1) := by decide +kernel
theorem dX6_keyNow_80 : decode cX6_keyNow 80 = .ok (.iload_n 1, 1) := by decide +kernel
theorem dX6_keyNow_81 : decode cX6_keyNow 81 = .ok (.bipush 8, 2) := by decide +kernel
theorem dX6_keyNow_83 : decode cX6_keyNow 83 = .ok (.idiv, 1) := by decide +kernel
theorem dX6_keyNow_84 : decode cX6_keyNow 84 = .ok (.iload_n 1, 1) := by decide +kernel
theorem dX6_keyNow_85 : decode cX6_keyNow 85 = .ok (.iconst 4, 1) := by decide +kernel
theorem dX6_keyNow_86 : decode cX6_keyNow 86 = .ok (.idiv, 1) := by decide +kernel
theorem dX6_keyNow_87 : decode cX6_keyNow 87 = .ok (.iconst 2, 1) := by decide +kernel
theorem dX6_keyNow_88 : decode cX6_keyNow 88 = .ok (.irem, 1) := by decide +kernel
theorem dX6_keyNow_89 : decode cX6_keyNow 89 = .ok (.iadd, 1) := by decide +kernel
theorem dX6_keyNow_90 : decode cX6_keyNow 90 = .ok (.iload_n 1, 1) := by decide +kernel
theorem dX6_keyNow_91 : decode cX6_keyNow 91 = .ok (.iconst 2, 1) := by decide +kernel
theorem dX6_keyNow_92 : decode cX6_keyNow 92 = .ok (.idiv, 1) := by decide +kernel
theorem dX6_keyNow_93 : decode cX6_keyNow 93 = .ok (.iconst 2, 1) := by decide +kernel
theorem dX6_keyNow_94 : decode cX6_keyNow 94 = .ok (.irem, 1) := by decide +kernel
theorem dX6_keyNow_95 : decode cX6_keyNow 95 = .ok (.iadd, 1) := by decide +kernel
theorem dX6_keyNow_96 : decode cX6_keyNow 96 = .ok (.iload_n 1, 1) := by decide +kernel
theorem dX6_keyNow_97 : decode cX6_keyNow 97 = .ok (.iconst 2, 1) := by decide +kernel
theorem dX6_keyNow_98 : decode cX6_keyNow 98 = .ok (.irem, 1) := by decide +kernel
theorem dX6_keyNow_99 : decode cX6_keyNow 99 = .ok (.iadd, 1) := by decide +kernel
theorem dX6_keyNow_100 : decode cX6_keyNow 100 = .ok (.ireturn, 1) := by decide +kernel
theorem dX6_keyNow_101 : decode cX6_keyNow 101 = .ok (.iconst 0, 1) := by decide +kernel
theorem dX6_keyNow_102 : decode cX6_keyNow 102 = .ok (.ireturn, 1) := by decide +kernel
set_option maxRecDepth 20000 in
theorem ggX6_compareNow_X6_keyNow : GoodIn wsX6_compareNow wsX6_keyNow := goodIn_r _ [7] (by decide +kernel) (by decide +kernel)
set_option maxRecDepth 20000 in
theorem gX6_compareNow_X6_keyNow : GoodIn wsX6_compareNow (va_wsS RX6 47 yX6_keyNow wsX6_keyNow) := goodIn_app (goodIn_of _ (by decide +kernel)) ggX6_compareNow_X6_keyNow
theorem dX6_compareNow_0 : decode cX6_compareNow 0 = .ok (.iconst 0, 1) := by decide +kernel
theorem dX6_compareNow_1 : decode cX6_compareNow 1 = .ok (.istore 4, 2) := by decide +kernel
theorem dX6_compareNow_3 : decode cX6_compareNow 3 = .ok (.iload 4, 2) := by decide +kernel
theorem dX6_compareNow_5 : decode cX6_compareNow 5 = .ok (.aload_n 0, 1) := by decide +kernel
theorem dX6_compareNow_6 : decode cX6_compareNow 6 = .ok (.getfield 29, 3) := by decide +kernel
theorem dX6_compareNow_9 : decode cX6_compareNow 9 = .ok (.iload_n 1, 1) := by decide +kernel
theorem dX6_compareNow_10 : decode cX6_compareNow 10 = .ok (.iaload, 1) := by decide +kernel
theorem dX6_compareNow_11 : decode cX6_compareNow 11 = .ok (.if_icmp .ge 76, 3) := by decide +kernel
theorem dX6_compareNow_14 : decode cX6_compareNow 14 = .ok (.aload_n 0, 1) := by decide +kernel
theorem dX6_compareNow_15 : decode cX6_compareNow 15 = .ok (.getfield 21, 3) := by decide +kernel
theorem dX6_compareNow_18 : decode cX6_compareNow 18 = .ok (.iload_n 1, 1) := by decide +kernel
theorem dX6_compareNow_19 : decode cX6_compareNow 19 = .ok (.aaload, 1) := by decide +kernel
theorem dX6_compareNow_20 : decode cX6_compareNow 20 = .ok (.iload 4, 2) := by decide +kernel
theorem dX6_compareNow_22 : decode cX6_compareNow 22 = .ok (.iaload, 1) := by decide +kernel
theorem dX6_compareNow_23 : decode cX6_compareNow 23 = .ok (.iload_n 2, 1) := by decide +kernel
theorem dX6_compareNow_24 : decode cX6_compareNow 24 = .ok (.invokestatic 47, 3) := by decide +kernel
theorem dX6_compareNow_27 : decode cX6_compareNow 27 = .ok (.istore 5, 2) := by decide +kernel
theorem dX6_compareNow_29 : decode cX6_compareNow 29 = .ok (.aload_n 0, 1) := by decide +kernel
theorem dX6_compareNow_30 : decode cX6_compareNow 30 = .ok (.getfield 21, 3) := by decide +kernel
theorem dX6_compareNow_33 : decode cX6_compareNow 33 = .ok (.iload_n 1, 1) := by decide +kernel
theorem dX6_compareNow_34 : decode cX6_compareNow 34 = .ok (.aaload, 1) := by decide +kernel
theorem dX6_compareNow_35 : decode cX6_compareNow 35 = .ok (.iload 4, 2) := by decide +kernel
theorem dX6_compareNow_37 : decode cX6_compareNow 37 = .ok (.iaload, 1) := by decide +kernel
theorem dX6_compareNow_38 : decode cX6_compareNow 38 = .ok (.iload_n 3, 1) := by decide +kernel
theorem dX6_compareNow_39 : decode cX6_compareNow 39 = .ok (.invokestatic 47, 3) := by decide +kernel
theorem dX6_compareNow_42 : decode cX6_compareNow 42 = .ok (.istore 6, 2) := by decide +kernel
theorem dX6_compareNow_44 : decode cX6_compareNow 44 = .ok (.iload 5, 2) := by decide +kernel
theorem dX6_compareNow_46 : decode cX6_compareNow 46 = .ok (.iload 6, 2) := by decide +kernel
theorem dX6_compareNow_48 : decode cX6_compareNow 48 = .ok (.if_icmp .eq 33, 3) := by decide +kernel
theorem dX6_compareNow_51 : decode cX6_compareNow 51 = .ok (.iload 5, 2) := by decide +kernel
theorem dX6_compareNow_53 : decode cX6_compareNow 53 = .ok (.iload 6, 2) := by decide +kernel
theorem dX6_compareNow_55 : decode cX6_compareNow 55 = .ok (.if_icmp .ge 7, 3) := by decide +kernel
theorem dX6_compareNow_58 : decode cX6_compareNow 58 = .ok (.iconst 1, 1) := by decide +kernel
theorem dX6_compareNow_59 : decode cX6_compareNow 59 = .ok (.goto 4, 3) := by decide +kernel
theorem dX6_compareNow_62 : decode cX6_compareNow 62 = .ok (.iconst 0, 1) := by decide +kernel
theorem dX6_compareNow_63 : decode cX6_compareNow 63 = .ok (.aload_n 0, 1) := by decide +kernel
theorem dX6_compareNow_64 : decode cX6_compareNow 64 = .ok (.getfield 26, 3) := by decide +kernel
theorem dX6_compareNow_67 : decode cX6_compareNow 67 = .ok (.iload_n 1, 1) := by decide +kernel
theorem dX6_compareNow_68 : decode cX6_compareNow 68 = .ok (.aaload, 1) := by decide +kernel
theorem dX6_compareNow_69 : decode cX6_compareNow 69 = .ok (.iload 4, 2) := by decide +kernel
theorem dX6_compareNow_71 : decode cX6_compareNow 71 = .ok (.baload, 1) := by decide +kernel
theorem dX6_compareNow_72 : decode cX6_compareNow 72 = .ok (.if_icmp .ne 7, 3) := by decide +kernel
theorem dX6_compareNow_75 : decode cX6_compareNow 75 = .ok (.iconst 1, 1) := by decide +kernel
theorem dX6_compareNow_76 : decode cX6_compareNow 76 = .ok (.goto 4, 3) := by decide +kernel
theorem dX6_compareNow_79 : decode cX6_compareNow 79 = .ok (.iconst (-1), 1) := by decide +kernel
theorem dX6_compareNow_80 : decode cX6_compareNow 80 = .ok (.ireturn, 1) := by decide +kernel
theorem dX6_compareNow_81 : decode cX6_compareNow 81 = .ok (.iinc 4 1, 3) := by decide +kernel
theorem dX6_compareNow_84 : decode cX6_compareNow 84 = .ok (.goto (-81), 3) := by decide +kernel
theorem dX6_compareNow_87 : decode cX6_compareNow 87 = .ok (.iconst 0, 1) := by decide +kernel
theorem dX6_compareNow_88 : decode cX6_compareNow 88 = .ok (.ireturn, 1) := by decide +kernel
set_option maxRecDepth 20000 in
theorem ggX6_isFirst_X6_compareNow : GoodIn wsX6_isFirst wsX6_compareNow := goodIn_r _ [5, 6, 7, 8, 9, 10, 4, 11, 12, 13, 14, 15, 16, 17, 18, 19, 20, 21] (by decide +kernel) (by decide +kernel)
set_option maxRecDepth 20000 in
theorem gX6_isFirst_X6_compareNow : GoodIn wsX6_isFirst (wsV RX6 51 RX6 yX6_compareNow wsX6_compareNow) := goodIn_app (goodIn_of _ (by decide +kernel)) ggX6_isFirst_X6_compareNow
theorem dX6_isFirst_0 : decode cX6_isFirst 0 = .ok (.iconst 0, 1) := by decide +kernel
theorem dX6_isFirst_1 : decode cX6_isFirst 1 = .ok (.istore_n 3, 1) := by decide +kernel
theorem dX6_isFirst_2 : decode cX6_isFirst 2 = .ok (.iload_n 3, 1) := by decide +kernel
theorem dX6_isFirst_3 : decode cX6_isFirst 3 = .ok (.iload_n 2, 1) := by decide +kernel
theorem dX6_isFirst_4 : decode cX6_isFirst 4 = .ok (.if_icmp .ge 21, 3) := by decide +kernel
theorem dX6_isFirst_7 : decode cX6_isFirst 7 = .ok (.aload_n 0, 1) := by decide +kernel
theorem dX6_isFirst_8 : decode cX6_isFirst 8 = .ok (.iload_n 1, 1) := by decide +kernel
theorem dX6_isFirst_9 : decode cX6_isFirst 9 = .ok (.iload_n 3, 1) := by decide +kernel
theorem dX6_isFirst_10 : decode cX6_isFirst 10 = .ok (.iload_n 2, 1) := by decide +kernel
theorem dX6_isFirst_11 : decode cX6_isFirst 11 = .ok (.invokevirtual 51, 3) := by decide +kernel
theorem dX6_isFirst_14 : decode cX6_isFirst 14 = .ok (.ifCond .ne 5, 3) := by decide +kernel
theorem dX6_isFirst_17 : decode cX6_isFirst 17 = .ok (.iconst 0, 1) := by decide +kernel
theorem dX6_isFirst_18 : decode cX6_isFirst 18 = .ok (.ireturn, 1) := by decide +kernel
theorem dX6_isFirst_19 : decode cX6_isFirst 19 = .ok (.iinc 3 1, 3) := by decide +kernel
theorem dX6_isFirst_22 : decode cX6_isFirst 22 = .ok (.goto (-20), 3) := by decide +kernel
theorem dX6_isFirst_25 : decode cX6_isFirst 25 = .ok (.iconst 1, 1) := by decide +kernel
theorem dX6_isFirst_26 : decode cX6_isFirst 26 = .ok (.ireturn, 1) := by decide +kernel
set_option maxRecDepth 20000 in
theorem ggX6_classesNow_X6_isFirst : GoodIn wsX6_classesNow wsX6_isFirst := goodIn_r _ [5, 6, 7, 8, 4, 9, 10, 11, 12, 13, 14, 15, 16, 17, 18, 19, 20, 21, 22, 23, 24, 25] (by decide +kernel) (by decide +kernel)
set_option maxRecDepth 20000 in
theorem gX6_classesNow_X6_isFirst : GoodIn wsX6_classesNow (wsV RX6 55 RX6 yX6_isFirst wsX6_isFirst) := goodIn_app (goodIn_of _ (by decide +kernel)) ggX6_classesNow_X6_isFirst
theorem dX6_classesNow_0 : decode cX6_classesNow 0 = .ok (.iconst 0, 1) := by decide +kernel
theorem dX6_classesNow_1 : decode cX6_classesNow 1 = .ok (.istore_n 2, 1) := by decide +kernel
theorem dX6_classesNow_2 : decode cX6_classesNow 2 = .ok (.iconst 0, 1) := by decide +kernel
theorem dX6_classesNow_3 : decode cX6_classesNow 3 = .ok (.istore_n 3, 1) := by decide +kernel
theorem dX6_classesNow_4 : decode cX6_classesNow 4 = .ok (.iload_n 3, 1) := by decide +kernel
theorem dX6_classesNow_5 : decode cX6_classesNow 5 = .ok (.bipush 16, 2) := by decide +kernel
theorem dX6_classesNow_7 : decode cX6_classesNow 7 = .ok (.if_icmp .ge 26, 3) := by decide +kernel
theorem dX6_classesNow_10 : decode cX6_classesNow 10 = .ok (.iload_n 2, 1) := by decide +kernel
theorem dX6_classesNow_11 : decode cX6_classesNow 11 = .ok (.aload_n 0, 1) := by decide +kernel
theorem dX6_classesNow_12 : decode cX6_classesNow 12 = .ok (.iload_n 1, 1) := by decide +kernel
theorem dX6_classesNow_13 : decode cX6_classesNow 13 = .ok (.iload_n 3, 1) := by decide +kernel
theorem dX6_classesNow_14 : decode cX6_classesNow 14 = .ok (.invokevirtual 55, 3) := by decide +kernel
theorem dX6_classesNow_17 : decode cX6_classesNow 17 = .ok (.ifCond .eq 7, 3) := by decide +kernel
theorem dX6_classesNow_20 : decode cX6_classesNow 20 = .ok (.iconst 1, 1) := by decide +kernel
theorem dX6_classesNow_21 : decode cX6_classesNow 21 = .ok (.goto 4, 3) := by decide +kernel
theorem dX6_classesNow_24 : decode cX6_classesNow 24 = .ok (.iconst 0, 1) := by decide +kernel
theorem dX6_classesNow_25 : decode cX6_classesNow 25 = .ok (.iadd, 1) := by decide +kernel
theorem dX6_classesNow_26 : decode cX6_classesNow 26 = .ok (.istore_n 2, 1) := by decide +kernel
theorem dX6_classesNow_27 : decode cX6_classesNow 27 = .ok (.iinc 3 1, 3) := by decide +kernel
theorem dX6_classesNow_30 : decode cX6_classesNow 30 = .ok (.goto (-26), 3) := by decide +kernel
theorem dX6_classesNow_33 : decode cX6_classesNow 33 = .ok (.iload_n 2, 1) := by decide +kernel
theorem dX6_classesNow_34 : decode cX6_classesNow 34 = .ok (.ireturn, 1) := by decide +kernel
set_option maxRecDepth 20000 in
theorem ggX6_rankNow_X6_isFirst : GoodIn wsX6_rankNow wsX6_isFirst := goodIn_r _ [5, 6, 7, 8, 4, 9, 10, 11, 12, 13, 14, 15, 16, 17, 18, 19, 20, 21, 22, 23, 24, 25] (by decide +kernel) (by decide +kernel)
set_option maxRecDepth 20000 in
theorem gX6_rankNow_X6_isFirst : GoodIn wsX6_rankNow (wsV RX6 55 RX6 yX6_isFirst wsX6_isFirst) := goodIn_app (goodIn_of _ (by decide +kernel)) ggX6_rankNow_X6_isFirst
set_option maxRecDepth 20000 in
theorem ggX6_rankNow_X6_compareNow : GoodIn wsX6_rankNow wsX6_compareNow := goodIn_r _ [9, 10, 11, 12, 13, 14, 4, 15, 16, 17, 18, 19, 20, 21, 22, 23, 24, 25] (by decide +kernel) (by decide +kernel)
set_option maxRecDepth 20000 in
theorem gX6_rankNow_X6_compareNow : GoodIn wsX6_rankNow (wsV RX6 51 RX6 yX6_compareNow wsX6_compareNow) := goodIn_app (goodIn_of _ (by decide +kernel)) ggX6_rankNow_X6_compareNow
theorem dX6_rankNow_0 : decode cX6_rankNow 0 = .ok (.iconst 0, 1) := by decide +kernel
theorem dX6_rankNow_1 : decode cX6_rankNow 1 = .ok (.istore_n 3, 1) := by decide +kernel
theorem dX6_rankNow_2 : decode cX6_rankNow 2 = .ok (.iconst 0, 1) := by decide +kernel
theorem dX6_rankNow_3 : decode cX6_rankNow 3 = .ok (.istore 4, 2) := by decide +kernel
theorem dX6_rankNow_5 : decode cX6_rankNow 5 = .ok (.iload 4, 2) := by decide +kernel
theorem dX6_rankNow_7 : decode cX6_rankNow 7 = .ok (.bipush 16, 2) := by decide +kernel
theorem dX6_rankNow_9 : decode cX6_rankNow 9 = .ok (.if_icmp .ge 38, 3) := by decide +kernel
theorem dX6_rankNow_12 : decode cX6_rankNow 12 = .ok (.iload_n 3, 1) := by decide +kernel
theorem dX6_rankNow_13 : decode cX6_rankNow 13 = .ok (.aload_n 0, 1) := by decide +kernel
theorem dX6_rankNow_14 : decode cX6_rankNow 14 = .ok (.iload_n 1, 1) := by decide +kernel
theorem dX6_rankNow_15 : decode cX6_rankNow 15 = .ok (.iload 4, 2) := by decide +kernel
theorem dX6_rankNow_17 : decode cX6_rankNow 17 = .ok (.invokevirtual 55, 3) := by decide +kernel
theorem dX6_rankNow_20 : decode cX6_rankNow 20 = .ok (.ifCond .eq 18, 3) := by decide +kernel
theorem dX6_rankNow_23 : decode cX6_rankNow 23 = .ok (.aload_n 0, 1) := by decide +kernel
theorem dX6_rankNow_24 : decode cX6_rankNow 24 = .ok (.iload_n 1, 1) := by decide +kernel
theorem dX6_rankNow_25 : decode cX6_rankNow 25 = .ok (.iload 4, 2) := by decide +kernel
theorem dX6_rankNow_27 : decode cX6_rankNow 27 = .ok (.iload_n 2, 1) := by decide +kernel
theorem dX6_rankNow_28 : decode cX6_rankNow 28 = .ok (.invokevirtual 51, 3) := by decide +kernel
theorem dX6_rankNow_31 : decode cX6_rankNow 31 = .ok (.ifCond .ge 7, 3) := by decide +kernel
theorem dX6_rankNow_34 : decode cX6_rankNow 34 = .ok (.iconst 1, 1) := by decide +kernel
theorem dX6_rankNow_35 : decode cX6_rankNow 35 = .ok (.goto 4, 3) := by decide +kernel
theorem dX6_rankNow_38 : decode cX6_rankNow 38 = .ok (.iconst 0, 1) := by decide +kernel
theorem dX6_rankNow_39 : decode cX6_rankNow 39 = .ok (.iadd, 1) := by decide +kernel
theorem dX6_rankNow_40 : decode cX6_rankNow 40 = .ok (.istore_n 3, 1) := by decide +kernel
theorem dX6_rankNow_41 : decode cX6_rankNow 41 = .ok (.iinc 4 1, 3) := by decide +kernel
theorem dX6_rankNow_44 : decode cX6_rankNow 44 = .ok (.goto (-39), 3) := by decide +kernel
theorem dX6_rankNow_47 : decode cX6_rankNow 47 = .ok (.iload_n 3, 1) := by decide +kernel
theorem dX6_rankNow_48 : decode cX6_rankNow 48 = .ok (.ireturn, 1) := by decide +kernel
set_option maxRecDepth 20000 in
theorem ggX6_isRefined_X6_compareNow : GoodIn wsX6_isRefined wsX6_compareNow := goodIn_r _ [5, 6, 7, 8, 9, 10, 4, 11, 12, 13, 14, 15, 16, 17, 18, 19, 20, 21] (by decide +kernel) (by decide +kernel)
set_option maxRecDepth 20000 in
theorem gX6_isRefined_X6_compareNow : GoodIn wsX6_isRefined (wsV RX6 51 RX6 yX6_compareNow wsX6_compareNow) := goodIn_app (goodIn_of _ (by decide +kernel)) ggX6_isRefined_X6_compareNow
theorem dX6_isRefined_0 : decode cX6_isRefined 0 = .ok (.iconst 0, 1) := by decide +kernel
theorem dX6_isRefined_1 : decode cX6_isRefined 1 = .ok (.istore_n 3, 1) := by decide +kernel
theorem dX6_isRefined_2 : decode cX6_isRefined 2 = .ok (.iload_n 3, 1) := by decide +kernel
theorem dX6_isRefined_3 : decode cX6_isRefined 3 = .ok (.bipush 16, 2) := by decide +kernel
theorem dX6_isRefined_5 : decode cX6_isRefined 5 = .ok (.if_icmp .ge 49, 3) := by decide +kernel
theorem dX6_isRefined_8 : decode cX6_isRefined 8 = .ok (.iconst 0, 1) := by decide +kernel
theorem dX6_isRefined_9 : decode cX6_isRefined 9 = .ok (.istore 4, 2) := by decide +kernel
theorem dX6_isRefined_11 : decode cX6_isRefined 11 = .ok (.iload 4, 2) := by decide +kernel
theorem dX6_isRefined_13 : decode cX6_isRefined 13 = .ok (.bipush 16, 2) := by decide +kernel
theorem dX6_isRefined_15 : decode cX6_isRefined 15 = .ok (.if_icmp .ge 33, 3) := by decide +kernel
theorem dX6_isRefined_18 : decode cX6_isRefined 18 = .ok (.aload_n 0, 1) := by decide +kernel
theorem dX6_isRefined_19 : decode cX6_isRefined 19 = .ok (.iload_n 2, 1) := by decide +kernel
theorem dX6_isRefined_20 : decode cX6_isRefined 20 = .ok (.iload_n 3, 1) := by decide +kernel
theorem dX6_isRefined_21 : decode cX6_isRefined 21 = .ok (.iload 4, 2) := by decide +kernel
theorem dX6_isRefined_23 : decode cX6_isRefined 23 = .ok (.invokevirtual 51, 3) := by decide +kernel
theorem dX6_isRefined_26 : decode cX6_isRefined 26 = .ok (.ifCond .ge 16, 3) := by decide +kernel
theorem dX6_isRefined_29 : decode cX6_isRefined 29 = .ok (.aload_n 0, 1) := by decide +kernel
theorem dX6_isRefined_30 : decode cX6_isRefined 30 = .ok (.iload_n 1, 1) := by decide +kernel
theorem dX6_isRefined_31 : decode cX6_isRefined 31 = .ok (.iload_n 3, 1) := by decide +kernel
theorem dX6_isRefined_32 : decode cX6_isRefined 32 = .ok (.iload 4, 2) := by decide +kernel
theorem dX6_isRefined_34 : decode cX6_isRefined 34 = .ok (.invokevirtual 51, 3) := by decide +kernel
theorem dX6_isRefined_37 : decode cX6_isRefined 37 = .ok (.ifCond .lt 5, 3) := by decide +kernel
theorem dX6_isRefined_40 : decode cX6_isRefined 40 = .ok (.iconst 0, 1) := by decide +kernel
theorem dX6_isRefined_41 : decode cX6_isRefined 41 = .ok (.ireturn, 1) := by decide +kernel
theorem dX6_isRefined_42 : decode cX6_isRefined 42 = .ok (.iinc 4 1, 3) := by decide +kernel
theorem dX6_isRefined_45 : decode cX6_isRefined 45 = .ok (.goto (-34), 3) := by decide +kernel
theorem dX6_isRefined_48 : decode cX6_isRefined 48 = .ok (.iinc 3 1, 3) := by decide +kernel
theorem dX6_isRefined_51 : decode cX6_isRefined 51 = .ok (.goto (-49), 3) := by decide +kernel
theorem dX6_isRefined_54 : decode cX6_isRefined 54 = .ok (.iconst 1, 1) := by decide +kernel
theorem dX6_isRefined_55 : decode cX6_isRefined 55 = .ok (.ireturn, 1) := by decide +kernel
set_option maxRecDepth 20000 in
theorem ggX6_bothNow_X6_compareNow : GoodIn wsX6_bothNow wsX6_compareNow := goodIn_r _ [5, 6, 7, 8, 9, 10, 4, 11, 12, 13, 14, 15, 16, 17, 18, 19, 20, 21] (by decide +kernel) (by decide +kernel)
set_option maxRecDepth 20000 in
theorem gX6_bothNow_X6_compareNow : GoodIn wsX6_bothNow (wsV RX6 51 RX6 yX6_compareNow wsX6_compareNow) := goodIn_app (goodIn_of _ (by decide +kernel)) ggX6_bothNow_X6_compareNow
theorem dX6_bothNow_0 : decode cX6_bothNow 0 = .ok (.aload_n 0, 1) := by decide +kernel
theorem dX6_bothNow_1 : decode cX6_bothNow 1 = .ok (.iload_n 1, 1) := by decide +kernel
theorem dX6_bothNow_2 : decode cX6_bothNow 2 = .ok (.iload_n 3, 1) := by decide +kernel
theorem dX6_bothNow_3 : decode cX6_bothNow 3 = .ok (.iload 4, 2) := by decide +kernel
theorem dX6_bothNow_5 : decode cX6_bothNow 5 = .ok (.invokevirtual 51, 3) := by decide +kernel
theorem dX6_bothNow_8 : decode cX6_bothNow 8 = .ok (.istore 5, 2) := by decide +kernel
theorem dX6_bothNow_10 : decode cX6_bothNow 10 = .ok (.aload_n 0, 1) := by decide +kernel
theorem dX6_bothNow_11 : decode cX6_bothNow 11 = .ok (.iload_n 2, 1) := by decide +kernel
theorem dX6_bothNow_12 : decode cX6_bothNow 12 = .ok (.iload_n 3, 1) := by decide +kernel
theorem dX6_bothNow_13 : decode cX6_bothNow 13 = .ok (.iload 4, 2) := by decide +kernel
theorem dX6_bothNow_15 : decode cX6_bothNow 15 = .ok (.invokevirtual 51, 3) := by decide +kernel
theorem dX6_bothNow_18 : decode cX6_bothNow 18 = .ok (.istore 6, 2) := by decide +kernel
theorem dX6_bothNow_20 : decode cX6_bothNow 20 = .ok (.iload 5, 2) := by decide +kernel
theorem dX6_bothNow_22 : decode cX6_bothNow 22 = .ok (.iload 6, 2) := by decide +kernel
theorem dX6_bothNow_24 : decode cX6_bothNow 24 = .ok (.imul, 1) := by decide +kernel
theorem dX6_bothNow_25 : decode cX6_bothNow 25 = .ok (.ifCond .ge 7, 3) := by decide +kernel
theorem dX6_bothNow_28 : decode cX6_bothNow 28 = .ok (.iconst 2, 1) := by decide +kernel
theorem dX6_bothNow_29 : decode cX6_bothNow 29 = .ok (.goto 15, 3) := by decide +kernel
theorem dX6_bothNow_32 : decode cX6_bothNow 32 = .ok (.iload 5, 2) := by decide +kernel
theorem dX6_bothNow_34 : decode cX6_bothNow 34 = .ok (.ifCond .eq 8, 3) := by decide +kernel
theorem dX6_bothNow_37 : decode cX6_bothNow 37 = .ok (.iload 5, 2) := by decide +kernel
theorem dX6_bothNow_39 : decode cX6_bothNow 39 = .ok (.goto 5, 3) := by decide +kernel
theorem dX6_bothNow_42 : decode cX6_bothNow 42 = .ok (.iload 6, 2) := by decide +kernel
theorem dX6_bothNow_44 : decode cX6_bothNow 44 = .ok (.ireturn, 1) := by decide +kernel
set_option maxRecDepth 20000 in
theorem ggX6_apartNow_X6_bothNow : GoodIn wsX6_apartNow wsX6_bothNow := goodIn_r _ [5, 6, 7, 8, 4, 9, 10, 11, 12, 13, 14, 15, 16, 17, 18, 19, 20, 21, 22, 23, 24, 25] (by decide +kernel) (by decide +kernel)
set_option maxRecDepth 20000 in
theorem gX6_apartNow_X6_bothNow : GoodIn wsX6_apartNow (wsV RX6 58 RX6 yX6_bothNow wsX6_bothNow) := goodIn_app (goodIn_of _ (by decide +kernel)) ggX6_apartNow_X6_bothNow
theorem dX6_apartNow_0 : decode cX6_apartNow 0 = .ok (.iconst 0, 1) := by decide +kernel
theorem dX6_apartNow_1 : decode cX6_apartNow 1 = .ok (.istore_n 3, 1) := by decide +kernel
theorem dX6_apartNow_2 : decode cX6_apartNow 2 = .ok (.iconst 0, 1) := by decide +kernel
theorem dX6_apartNow_3 : decode cX6_apartNow 3 = .ok (.istore 4, 2) := by decide +kernel
theorem dX6_apartNow_5 : decode cX6_apartNow 5 = .ok (.iload 4, 2) := by decide +kernel
theorem dX6_apartNow_7 : decode cX6_apartNow 7 = .ok (.bipush 16, 2) := by decide +kernel
theorem dX6_apartNow_9 : decode cX6_apartNow 9 = .ok (.if_icmp .ge 47, 3) := by decide +kernel
theorem dX6_apartNow_12 : decode cX6_apartNow 12 = .ok (.iconst 0, 1) := by decide +kernel
theorem dX6_apartNow_13 : decode cX6_apartNow 13 = .ok (.istore 5, 2) := by decide +kernel
theorem dX6_apartNow_15 : decode cX6_apartNow 15 = .ok (.iload 5, 2) := by decide +kernel
theorem dX6_apartNow_17 : decode cX6_apartNow 17 = .ok (.iload 4, 2) := by decide +kernel
theorem dX6_apartNow_19 : decode cX6_apartNow 19 = .ok (.if_icmp .ge 31, 3) := by decide +kernel
theorem dX6_apartNow_22 : decode cX6_apartNow 22 = .ok (.iload_n 3, 1) := by decide +kernel
theorem dX6_apartNow_23 : decode cX6_apartNow 23 = .ok (.aload_n 0, 1) := by decide +kernel
theorem dX6_apartNow_24 : decode cX6_apartNow 24 = .ok (.iload_n 1, 1) := by decide +kernel
theorem dX6_apartNow_25 : decode cX6_apartNow 25 = .ok (.iload_n 2, 1) := by decide +kernel
theorem dX6_apartNow_26 : decode cX6_apartNow 26 = .ok (.iload 4, 2) := by decide +kernel
theorem dX6_apartNow_28 : decode cX6_apartNow 28 = .ok (.iload 5, 2) := by decide +kernel
theorem dX6_apartNow_30 : decode cX6_apartNow 30 = .ok (.invokevirtual 58, 3) := by decide +kernel
theorem dX6_apartNow_33 : decode cX6_apartNow 33 = .ok (.iconst 2, 1) := by decide +kernel
theorem dX6_apartNow_34 : decode cX6_apartNow 34 = .ok (.if_icmp .ne 7, 3) := by decide +kernel
theorem dX6_apartNow_37 : decode cX6_apartNow 37 = .ok (.iconst 1, 1) := by decide +kernel
theorem dX6_apartNow_38 : decode cX6_apartNow 38 = .ok (.goto 4, 3) := by decide +kernel
theorem dX6_apartNow_41 : decode cX6_apartNow 41 = .ok (.iconst 0, 1) := by decide +kernel
theorem dX6_apartNow_42 : decode cX6_apartNow 42 = .ok (.iadd, 1) := by decide +kernel
theorem dX6_apartNow_43 : decode cX6_apartNow 43 = .ok (.istore_n 3, 1) := by decide +kernel
theorem dX6_apartNow_44 : decode cX6_apartNow 44 = .ok (.iinc 5 1, 3) := by decide +kernel
theorem dX6_apartNow_47 : decode cX6_apartNow 47 = .ok (.goto (-32), 3) := by decide +kernel
theorem dX6_apartNow_50 : decode cX6_apartNow 50 = .ok (.iinc 4 1, 3) := by decide +kernel
theorem dX6_apartNow_53 : decode cX6_apartNow 53 = .ok (.goto (-48), 3) := by decide +kernel
theorem dX6_apartNow_56 : decode cX6_apartNow 56 = .ok (.iload_n 3, 1) := by decide +kernel
theorem dX6_apartNow_57 : decode cX6_apartNow 57 = .ok (.ireturn, 1) := by decide +kernel
theorem dX6_at_0 : decode cX6_at 0 = .ok (.aload_n 0, 1) := by decide +kernel
theorem dX6_at_1 : decode cX6_at 1 = .ok (.getfield 17, 3) := by decide +kernel
theorem dX6_at_4 : decode cX6_at 4 = .ok (.iload_n 1, 1) := by decide +kernel
theorem dX6_at_5 : decode cX6_at 5 = .ok (.iaload, 1) := by decide +kernel
theorem dX6_at_6 : decode cX6_at 6 = .ok (.istore 4, 2) := by decide +kernel
theorem dX6_at_8 : decode cX6_at 8 = .ok (.iload 4, 2) := by decide +kernel
theorem dX6_at_10 : decode cX6_at 10 = .ok (.iload_n 2, 1) := by decide +kernel
theorem dX6_at_11 : decode cX6_at 11 = .ok (.if_icmp .le 49, 3) := by decide +kernel
theorem dX6_at_14 : decode cX6_at 14 = .ok (.aload_n 0, 1) := by decide +kernel
theorem dX6_at_15 : decode cX6_at 15 = .ok (.getfield 11, 3) := by decide +kernel
theorem dX6_at_18 : decode cX6_at 18 = .ok (.iload_n 1, 1) := by decide +kernel
theorem dX6_at_19 : decode cX6_at 19 = .ok (.aaload, 1) := by decide +kernel
theorem dX6_at_20 : decode cX6_at 20 = .ok (.iload 4, 2) := by decide +kernel
theorem dX6_at_22 : decode cX6_at 22 = .ok (.aload_n 0, 1) := by decide +kernel
theorem dX6_at_23 : decode cX6_at 23 = .ok (.getfield 11, 3) := by decide +kernel
theorem dX6_at_26 : decode cX6_at 26 = .ok (.iload_n 1, 1) := by decide +kernel
theorem dX6_at_27 : decode cX6_at 27 = .ok (.aaload, 1) := by decide +kernel
theorem dX6_at_28 : decode cX6_at 28 = .ok (.iload 4, 2) := by decide +kernel
theorem dX6_at_30 : decode cX6_at 30 = .ok (.iconst 1, 1) := by decide +kernel
theorem dX6_at_31 : decode cX6_at 31 = .ok (.isub, 1) := by decide +kernel
theorem dX6_at_32 : decode cX6_at 32 = .ok (.iaload, 1) := by decide +kernel
theorem dX6_at_33 : decode cX6_at 33 = .ok (.iastore, 1) := by decide +kernel
theorem dX6_at_34 : decode cX6_at 34 = .ok (.aload_n 0, 1) := by decide +kernel
theorem dX6_at_35 : decode cX6_at 35 = .ok (.getfield 14, 3) := by decide +kernel
theorem dX6_at_38 : decode cX6_at 38 = .ok (.iload_n 1, 1) := by decide +kernel
theorem dX6_at_39 : decode cX6_at 39 = .ok (.aaload, 1) := by decide +kernel
theorem dX6_at_40 : decode cX6_at 40 = .ok (.iload 4, 2) := by decide +kernel
theorem dX6_at_42 : decode cX6_at 42 = .ok (.aload_n 0, 1) := by decide +kernel
theorem dX6_at_43 : decode cX6_at 43 = .ok (.getfield 14, 3) := by decide +kernel
theorem dX6_at_46 : decode cX6_at 46 = .ok (.iload_n 1, 1) := by decide +kernel
theorem dX6_at_47 : decode cX6_at 47 = .ok (.aaload, 1) := by decide +kernel
theorem dX6_at_48 : decode cX6_at 48 = .ok (.iload 4, 2) := by decide +kernel
theorem dX6_at_50 : decode cX6_at 50 = .ok (.iconst 1, 1) := by decide +kernel
theorem dX6_at_51 : decode cX6_at 51 = .ok (.isub, 1) := by decide +kernel
theorem dX6_at_52 : decode cX6_at 52 = .ok (.iaload, 1) := by decide +kernel
theorem dX6_at_53 : decode cX6_at 53 = .ok (.iastore, 1) := by decide +kernel
theorem dX6_at_54 : decode cX6_at 54 = .ok (.iinc 4 (-1), 3) := by decide +kernel
theorem dX6_at_57 : decode cX6_at 57 = .ok (.goto (-49), 3) := by decide +kernel
theorem dX6_at_60 : decode cX6_at 60 = .ok (.aload_n 0, 1) := by decide +kernel
theorem dX6_at_61 : decode cX6_at 61 = .ok (.getfield 11, 3) := by decide +kernel
theorem dX6_at_64 : decode cX6_at 64 = .ok (.iload_n 1, 1) := by decide +kernel
theorem dX6_at_65 : decode cX6_at 65 = .ok (.aaload, 1) := by decide +kernel
theorem dX6_at_66 : decode cX6_at 66 = .ok (.iload_n 2, 1) := by decide +kernel
theorem dX6_at_67 : decode cX6_at 67 = .ok (.iload_n 3, 1) := by decide +kernel
theorem dX6_at_68 : decode cX6_at 68 = .ok (.iastore, 1) := by decide +kernel
theorem dX6_at_69 : decode cX6_at 69 = .ok (.aload_n 0, 1) := by decide +kernel
theorem dX6_at_70 : decode cX6_at 70 = .ok (.getfield 14, 3) := by decide +kernel
theorem dX6_at_73 : decode cX6_at 73 = .ok (.iload_n 1, 1) := by decide +kernel
theorem dX6_at_74 : decode cX6_at 74 = .ok (.aaload, 1) := by decide +kernel
theorem dX6_at_75 : decode cX6_at 75 = .ok (.iload_n 2, 1) := by decide +kernel
theorem dX6_at_76 : decode cX6_at 76 = .ok (.aload_n 0, 1) := by decide +kernel
theorem dX6_at_77 : decode cX6_at 77 = .ok (.getfield 62, 3) := by decide +kernel
theorem dX6_at_80 : decode cX6_at 80 = .ok (.iastore, 1) := by decide +kernel
theorem dX6_at_81 : decode cX6_at 81 = .ok (.aload_n 0, 1) := by decide +kernel
theorem dX6_at_82 : decode cX6_at 82 = .ok (.getfield 17, 3) := by decide +kernel
theorem dX6_at_85 : decode cX6_at 85 = .ok (.iload_n 1, 1) := by decide +kernel
theorem dX6_at_86 : decode cX6_at 86 = .ok (.dup2, 1) := by decide +kernel
theorem dX6_at_87 : decode cX6_at 87 = .ok (.iaload, 1) := by decide +kernel
theorem dX6_at_88 : decode cX6_at 88 = .ok (.iconst 1, 1) := by decide +kernel
theorem dX6_at_89 : decode cX6_at 89 = .ok (.iadd, 1) := by decide +kernel
theorem dX6_at_90 : decode cX6_at 90 = .ok (.iastore, 1) := by decide +kernel
theorem dX6_at_91 : decode cX6_at 91 = .ok (.aload_n 0, 1) := by decide +kernel
theorem dX6_at_92 : decode cX6_at 92 = .ok (.dup, 1) := by decide +kernel
theorem dX6_at_93 : decode cX6_at 93 = .ok (.getfield 62, 3) := by decide +kernel
theorem dX6_at_96 : decode cX6_at 96 = .ok (.iconst 1, 1) := by decide +kernel
theorem dX6_at_97 : decode cX6_at 97 = .ok (.iadd, 1) := by decide +kernel
theorem dX6_at_98 : decode cX6_at 98 = .ok (.putfield 62, 3) := by decide +kernel
theorem dX6_at_101 : decode cX6_at 101 = .ok (.aload_n 0, 1) := by decide +kernel
theorem dX6_at_102 : decode cX6_at 102 = .ok (.getfield 62, 3) := by decide +kernel
theorem dX6_at_105 : decode cX6_at 105 = .ok (.iconst 1, 1) := by decide +kernel
theorem dX6_at_106 : decode cX6_at 106 = .ok (.isub, 1) := by decide +kernel
theorem dX6_at_107 : decode cX6_at 107 = .ok (.ireturn, 1) := by decide +kernel
set_option maxRecDepth 20000 in
theorem ggX6_put_X6_isNoRow : GoodIn wsX6_put wsX6_isNoRow := goodIn_r _ [5, 6, 7, 4, 8] (by decide +kernel) (by decide +kernel)
set_option maxRecDepth 20000 in
theorem gX6_put_X6_isNoRow : GoodIn wsX6_put (va_wsS RX6 65 yX6_isNoRow wsX6_isNoRow) := goodIn_app (goodIn_of _ (by decide +kernel)) ggX6_put_X6_isNoRow
set_option maxRecDepth 20000 in
theorem ggX6_put_X6_start : GoodIn wsX6_put wsX6_start := goodIn_r _ [12, 13, 14, 15, 16, 4, 17, 33, 34, 35, 36, 37, 38, 39, 40, 41, 42] (by decide +kernel) (by decide +kernel)
set_option maxRecDepth 20000 in
theorem gX6_put_X6_start : GoodIn wsX6_put (wsV RX6 69 RX6 yX6_start wsX6_start) := goodIn_app (goodIn_of _ (by decide +kernel)) ggX6_put_X6_start
set_option maxRecDepth 20000 in
theorem ggX6_put_X6_isNoValue : GoodIn wsX6_put wsX6_isNoValue := goodIn_r _ [20, 6, 7, 4, 8] (by decide +kernel) (by decide +kernel)
set_option maxRecDepth 20000 in
theorem gX6_put_X6_isNoValue : GoodIn wsX6_put (va_wsS RX6 72 yX6_isNoValue wsX6_isNoValue) := goodIn_app (goodIn_of _ (by decide +kernel)) ggX6_put_X6_isNoValue
set_option maxRecDepth 20000 in
theorem ggX6_put_X6_refuse : GoodIn wsX6_put wsX6_refuse := goodIn_r _ [17, 13, 33, 34, 35, 36, 37, 38, 39, 40, 41, 42] (by decide +kernel) (by decide +kernel)
set_option maxRecDepth 20000 in
theorem gX6_put_X6_refuse : GoodIn wsX6_put (wsV RX6 36 RX6 yX6_refuse wsX6_refuse) := goodIn_app (goodIn_of _ (by decide +kernel)) ggX6_put_X6_refuse
set_option maxRecDepth 20000 in
theorem ggX6_put_X6_no : GoodIn wsX6_put wsX6_no := goodIn_r _ [24, 25, 33, 34, 35, 36, 37, 38, 39, 40, 41, 42] (by decide +kernel) (by decide +kernel)
set_option maxRecDepth 20000 in
theorem gX6_put_X6_no : GoodIn wsX6_put (wsV RX6 75 RX6 yX6_no wsX6_no) := goodIn_app (goodIn_of _ (by decide +kernel)) ggX6_put_X6_no
set_option maxRecDepth 20000 in
theorem ggX6_put_X6_at : GoodIn wsX6_put wsX6_at := goodIn_r _ [29, 1, 30, 31, 32, 33, 34, 35, 36, 37, 38, 39, 40, 41, 42] (by decide +kernel) (by decide +kernel)
set_option maxRecDepth 20000 in
theorem gX6_put_X6_at : GoodIn wsX6_put (wsV RX6 79 RX6 yX6_at wsX6_at) := goodIn_app (goodIn_of _ (by decide +kernel)) ggX6_put_X6_at
theorem dX6_put_0 : decode cX6_put 0 = .ok (.aload_n 0, 1) := by decide +kernel
theorem dX6_put_1 : decode cX6_put 1 = .ok (.iload_n 1, 1) := by decide +kernel
theorem dX6_put_2 : decode cX6_put 2 = .ok (.invokestatic 65, 3) := by decide +kernel
theorem dX6_put_5 : decode cX6_put 5 = .ok (.iconst 1, 1) := by decide +kernel
theorem dX6_put_6 : decode cX6_put 6 = .ok (.invokevirtual 69, 3) := by decide +kernel
theorem dX6_put_9 : decode cX6_put 9 = .ok (.ifCond .ne 15, 3) := by decide +kernel
theorem dX6_put_12 : decode cX6_put 12 = .ok (.aload_n 0, 1) := by decide +kernel
theorem dX6_put_13 : decode cX6_put 13 = .ok (.iload_n 2, 1) := by decide +kernel
theorem dX6_put_14 : decode cX6_put 14 = .ok (.invokestatic 72, 3) := by decide +kernel
theorem dX6_put_17 : decode cX6_put 17 = .ok (.iconst 2, 1) := by decide +kernel
theorem dX6_put_18 : decode cX6_put 18 = .ok (.invokevirtual 36, 3) := by decide +kernel
theorem dX6_put_21 : decode cX6_put 21 = .ok (.ifCond .eq 5, 3) := by decide +kernel
theorem dX6_put_24 : decode cX6_put 24 = .ok (.iconst 0, 1) := by decide +kernel
theorem dX6_put_25 : decode cX6_put 25 = .ok (.ireturn, 1) := by decide +kernel
theorem dX6_put_26 : decode cX6_put 26 = .ok (.aload_n 0, 1) := by decide +kernel
theorem dX6_put_27 : decode cX6_put 27 = .ok (.getfield 17, 3) := by decide +kernel
theorem dX6_put_30 : decode cX6_put 30 = .ok (.iload_n 1, 1) := by decide +kernel
theorem dX6_put_31 : decode cX6_put 31 = .ok (.iaload, 1) := by decide +kernel
theorem dX6_put_32 : decode cX6_put 32 = .ok (.bipush 12, 2) := by decide +kernel
theorem dX6_put_34 : decode cX6_put 34 = .ok (.if_icmp .ne 10, 3) := by decide +kernel
theorem dX6_put_37 : decode cX6_put 37 = .ok (.aload_n 0, 1) := by decide +kernel
theorem dX6_put_38 : decode cX6_put 38 = .ok (.invokevirtual 75, 3) := by decide +kernel
theorem dX6_put_41 : decode cX6_put 41 = .ok (.goto 15, 3) := by decide +kernel
theorem dX6_put_44 : decode cX6_put 44 = .ok (.aload_n 0, 1) := by decide +kernel
theorem dX6_put_45 : decode cX6_put 45 = .ok (.iload_n 1, 1) := by decide +kernel
theorem dX6_put_46 : decode cX6_put 46 = .ok (.aload_n 0, 1) := by decide +kernel
theorem dX6_put_47 : decode cX6_put 47 = .ok (.getfield 17, 3) := by decide +kernel
theorem dX6_put_50 : decode cX6_put 50 = .ok (.iload_n 1, 1) := by decide +kernel
theorem dX6_put_51 : decode cX6_put 51 = .ok (.iaload, 1) := by decide +kernel
theorem dX6_put_52 : decode cX6_put 52 = .ok (.iload_n 2, 1) := by decide +kernel
theorem dX6_put_53 : decode cX6_put 53 = .ok (.invokevirtual 79, 3) := by decide +kernel
theorem dX6_put_56 : decode cX6_put 56 = .ok (.ireturn, 1) := by decide +kernel
set_option maxRecDepth 20000 in
theorem ggX6_putAt_X6_isNoRow : GoodIn wsX6_putAt wsX6_isNoRow := goodIn_r _ [5, 6, 7, 4, 8] (by decide +kernel) (by decide +kernel)
set_option maxRecDepth 20000 in
theorem gX6_putAt_X6_isNoRow : GoodIn wsX6_putAt (va_wsS RX6 65 yX6_isNoRow wsX6_isNoRow) := goodIn_app (goodIn_of _ (by decide +kernel)) ggX6_putAt_X6_isNoRow
set_option maxRecDepth 20000 in
theorem ggX6_putAt_X6_start : GoodIn wsX6_putAt wsX6_start := goodIn_r _ [12, 13, 14, 15, 16, 4, 17, 33, 34, 35, 36, 37, 38, 39, 40, 41, 42] (by decide +kernel) (by decide +kernel)
set_option maxRecDepth 20000 in
theorem gX6_putAt_X6_start : GoodIn wsX6_putAt (wsV RX6 69 RX6 yX6_start wsX6_start) := goodIn_app (goodIn_of _ (by decide +kernel)) ggX6_putAt_X6_start
set_option maxRecDepth 20000 in
theorem ggX6_putAt_X6_isNo : GoodIn wsX6_putAt wsX6_isNo := goodIn_r _ [8] (by decide +kernel) (by decide +kernel)
set_option maxRecDepth 20000 in
theorem gX6_putAt_X6_isNo : GoodIn wsX6_putAt (va_wsS RX6 40 yX6_isNo wsX6_isNo) := goodIn_app (goodIn_of _ (by decide +kernel)) ggX6_putAt_X6_isNo
set_option maxRecDepth 20000 in
theorem ggX6_putAt_X6_refuse : GoodIn wsX6_putAt wsX6_refuse := goodIn_r _ [17, 13, 33, 34, 35, 36, 37, 38, 39, 40, 41, 42] (by decide +kernel) (by decide +kernel)
set_option maxRecDepth 20000 in
theorem gX6_putAt_X6_refuse : GoodIn wsX6_putAt (wsV RX6 36 RX6 yX6_refuse wsX6_refuse) := goodIn_app (goodIn_of _ (by decide +kernel)) ggX6_putAt_X6_refuse
set_option maxRecDepth 20000 in
theorem ggX6_putAt_X6_isNoValue : GoodIn wsX6_putAt wsX6_isNoValue := goodIn_r _ [20, 6, 7, 4, 8] (by decide +kernel) (by decide +kernel)
set_option maxRecDepth 20000 in
theorem gX6_putAt_X6_isNoValue : GoodIn wsX6_putAt (va_wsS RX6 72 yX6_isNoValue wsX6_isNoValue) := goodIn_app (goodIn_of _ (by decide +kernel)) ggX6_putAt_X6_isNoValue
set_option maxRecDepth 20000 in
theorem ggX6_putAt_X6_no : GoodIn wsX6_putAt wsX6_no := goodIn_r _ [24, 25, 33, 34, 35, 36, 37, 38, 39, 40, 41, 42] (by decide +kernel) (by decide +kernel)
set_option maxRecDepth 20000 in
theorem gX6_putAt_X6_no : GoodIn wsX6_putAt (wsV RX6 75 RX6 yX6_no wsX6_no) := goodIn_app (goodIn_of _ (by decide +kernel)) ggX6_putAt_X6_no
set_option maxRecDepth 20000 in
theorem ggX6_putAt_X6_at : GoodIn wsX6_putAt wsX6_at := goodIn_r _ [29, 1, 30, 31, 32, 33, 34, 35, 36, 37, 38, 39, 40, 41, 42] (by decide +kernel) (by decide +kernel)
set_option maxRecDepth 20000 in
theorem gX6_putAt_X6_at : GoodIn wsX6_putAt (wsV RX6 79 RX6 yX6_at wsX6_at) := goodIn_app (goodIn_of _ (by decide +kernel)) ggX6_putAt_X6_at
theorem dX6_putAt_0 : decode cX6_putAt 0 = .ok (.aload_n 0, 1) := by decide +kernel
theorem dX6_putAt_1 : decode cX6_putAt 1 = .ok (.iload_n 1, 1) := by decide +kernel
theorem dX6_putAt_2 : decode cX6_putAt 2 = .ok (.invokestatic 65, 3) := by decide +kernel
theorem dX6_putAt_5 : decode cX6_putAt 5 = .ok (.iconst 1, 1) := by decide +kernel
theorem dX6_putAt_6 : decode cX6_putAt 6 = .ok (.invokevirtual 69, 3) := by decide +kernel
theorem dX6_putAt_9 : decode cX6_putAt 9 = .ok (.ifCond .ne 33, 3) := by decide +kernel
theorem dX6_putAt_12 : decode cX6_putAt 12 = .ok (.aload_n 0, 1) := by decide +kernel
theorem dX6_putAt_13 : decode cX6_putAt 13 = .ok (.iload_n 2, 1) := by decide +kernel
theorem dX6_putAt_14 : decode cX6_putAt 14 = .ok (.aload_n 0, 1) := by decide +kernel
theorem dX6_putAt_15 : decode cX6_putAt 15 = .ok (.getfield 17, 3) := by decide +kernel
theorem dX6_putAt_18 : decode cX6_putAt 18 = .ok (.iload_n 1, 1) := by decide +kernel
theorem dX6_putAt_19 : decode cX6_putAt 19 = .ok (.iaload, 1) := by decide +kernel
theorem dX6_putAt_20 : decode cX6_putAt 20 = .ok (.invokestatic 40, 3) := by decide +kernel
theorem dX6_putAt_23 : decode cX6_putAt 23 = .ok (.iconst 1, 1) := by decide +kernel
theorem dX6_putAt_24 : decode cX6_putAt 24 = .ok (.invokevirtual 36, 3) := by decide +kernel
theorem dX6_putAt_27 : decode cX6_putAt 27 = .ok (.ifCond .ne 15, 3) := by decide +kernel
theorem dX6_putAt_30 : decode cX6_putAt 30 = .ok (.aload_n 0, 1) := by decide +kernel
theorem dX6_putAt_31 : decode cX6_putAt 31 = .ok (.iload_n 3, 1) := by decide +kernel
theorem dX6_putAt_32 : decode cX6_putAt 32 = .ok (.invokestatic 72, 3) := by decide +kernel
theorem dX6_putAt_35 : decode cX6_putAt 35 = .ok (.iconst 2, 1) := by decide +kernel
theorem dX6_putAt_36 : decode cX6_putAt 36 = .ok (.invokevirtual 36, 3) := by decide +kernel
theorem dX6_putAt_39 : decode cX6_putAt 39 = .ok (.ifCond .eq 5, 3) := by decide +kernel
theorem dX6_putAt_42 : decode cX6_putAt 42 = .ok (.iconst 0, 1) := by decide +kernel
theorem dX6_putAt_43 : decode cX6_putAt 43 = .ok (.ireturn, 1) := by decide +kernel
theorem dX6_putAt_44 : decode cX6_putAt 44 = .ok (.aload_n 0, 1) := by decide +kernel
theorem dX6_putAt_45 : decode cX6_putAt 45 = .ok (.getfield 17, 3) := by decide +kernel
theorem dX6_putAt_48 : decode cX6_putAt 48 = .ok (.iload_n 1, 1) := by decide +kernel
theorem dX6_putAt_49 : decode cX6_putAt 49 = .ok (.iaload, 1) := by decide +kernel
theorem dX6_putAt_50 : decode cX6_putAt 50 = .ok (.bipush 12, 2) := by decide +kernel
theorem dX6_putAt_52 : decode cX6_putAt 52 = .ok (.if_icmp .ne 10, 3) := by decide +kernel
theorem dX6_putAt_55 : decode cX6_putAt 55 = .ok (.aload_n 0, 1) := by decide +kernel
theorem dX6_putAt_56 : decode cX6_putAt 56 = .ok (.invokevirtual 75, 3) := by decide +kernel
theorem dX6_putAt_59 : decode cX6_putAt 59 = .ok (.goto 10, 3) := by decide +kernel
theorem dX6_putAt_62 : decode cX6_putAt 62 = .ok (.aload_n 0, 1) := by decide +kernel
theorem dX6_putAt_63 : decode cX6_putAt 63 = .ok (.iload_n 1, 1) := by decide +kernel
theorem dX6_putAt_64 : decode cX6_putAt 64 = .ok (.iload_n 2, 1) := by decide +kernel
theorem dX6_putAt_65 : decode cX6_putAt 65 = .ok (.iload_n 3, 1) := by decide +kernel
theorem dX6_putAt_66 : decode cX6_putAt 66 = .ok (.invokevirtual 79, 3) := by decide +kernel
theorem dX6_putAt_69 : decode cX6_putAt 69 = .ok (.ireturn, 1) := by decide +kernel
set_option maxRecDepth 20000 in
theorem ggX6_fill_X6_isNoRow : GoodIn wsX6_fill wsX6_isNoRow := goodIn_r _ [5, 6, 7, 4, 8] (by decide +kernel) (by decide +kernel)
set_option maxRecDepth 20000 in
theorem gX6_fill_X6_isNoRow : GoodIn wsX6_fill (va_wsS RX6 65 yX6_isNoRow wsX6_isNoRow) := goodIn_app (goodIn_of _ (by decide +kernel)) ggX6_fill_X6_isNoRow
set_option maxRecDepth 20000 in
theorem ggX6_fill_X6_start : GoodIn wsX6_fill wsX6_start := goodIn_r _ [12, 13, 14, 15, 16, 4, 17, 30, 31, 32, 33, 34, 35, 36, 37, 38, 39] (by decide +kernel) (by decide +kernel)
set_option maxRecDepth 20000 in
theorem gX6_fill_X6_start : GoodIn wsX6_fill (wsV RX6 69 RX6 yX6_start wsX6_start) := goodIn_app (goodIn_of _ (by decide +kernel)) ggX6_fill_X6_start
set_option maxRecDepth 20000 in
theorem ggX6_fill_X6_isNo : GoodIn wsX6_fill wsX6_isNo := goodIn_r _ [8] (by decide +kernel) (by decide +kernel)
set_option maxRecDepth 20000 in
theorem gX6_fill_X6_isNo : GoodIn wsX6_fill (va_wsS RX6 40 yX6_isNo wsX6_isNo) := goodIn_app (goodIn_of _ (by decide +kernel)) ggX6_fill_X6_isNo
set_option maxRecDepth 20000 in
theorem ggX6_fill_X6_refuse : GoodIn wsX6_fill wsX6_refuse := goodIn_r _ [17, 13, 30, 31, 32, 33, 34, 35, 36, 37, 38, 39] (by decide +kernel) (by decide +kernel)
set_option maxRecDepth 20000 in
theorem gX6_fill_X6_refuse : GoodIn wsX6_fill (wsV RX6 36 RX6 yX6_refuse wsX6_refuse) := goodIn_app (goodIn_of _ (by decide +kernel)) ggX6_fill_X6_refuse
set_option maxRecDepth 20000 in
theorem ggX6_fill_X6_no : GoodIn wsX6_fill wsX6_no := goodIn_r _ [21, 22, 30, 31, 32, 33, 34, 35, 36, 37, 38, 39] (by decide +kernel) (by decide +kernel)
set_option maxRecDepth 20000 in
theorem gX6_fill_X6_no : GoodIn wsX6_fill (wsV RX6 75 RX6 yX6_no wsX6_no) := goodIn_app (goodIn_of _ (by decide +kernel)) ggX6_fill_X6_no
set_option maxRecDepth 20000 in
theorem ggX6_fill_X6_at : GoodIn wsX6_fill wsX6_at := goodIn_r _ [26, 1, 27, 28, 29, 30, 31, 32, 33, 34, 35, 36, 37, 38, 39] (by decide +kernel) (by decide +kernel)
set_option maxRecDepth 20000 in
theorem gX6_fill_X6_at : GoodIn wsX6_fill (wsV RX6 79 RX6 yX6_at wsX6_at) := goodIn_app (goodIn_of _ (by decide +kernel)) ggX6_fill_X6_at
theorem dX6_fill_0 : decode cX6_fill 0 = .ok (.aload_n 0, 1) := by decide +kernel
theorem dX6_fill_1 : decode cX6_fill 1 = .ok (.iload_n 1, 1) := by decide +kernel
theorem dX6_fill_2 : decode cX6_fill 2 = .ok (.invokestatic 65, 3) := by decide +kernel
theorem dX6_fill_5 : decode cX6_fill 5 = .ok (.iconst 1, 1) := by decide +kernel
theorem dX6_fill_6 : decode cX6_fill 6 = .ok (.invokevirtual 69, 3) := by decide +kernel
theorem dX6_fill_9 : decode cX6_fill 9 = .ok (.ifCond .ne 44, 3) := by decide +kernel
theorem dX6_fill_12 : decode cX6_fill 12 = .ok (.aload_n 0, 1) := by decide +kernel
theorem dX6_fill_13 : decode cX6_fill 13 = .ok (.iload_n 2, 1) := by decide +kernel
theorem dX6_fill_14 : decode cX6_fill 14 = .ok (.bipush 12, 2) := by decide +kernel
theorem dX6_fill_16 : decode cX6_fill 16 = .ok (.invokestatic 40, 3) := by decide +kernel
theorem dX6_fill_19 : decode cX6_fill 19 = .ok (.ifCond .ne 22, 3) := by decide +kernel
theorem dX6_fill_22 : decode cX6_fill 22 = .ok (.iload_n 3, 1) := by decide +kernel
theorem dX6_fill_23 : decode cX6_fill 23 = .ok (.bipush 99, 2) := by decide +kernel
theorem dX6_fill_25 : decode cX6_fill 25 = .ok (.invokestatic 40, 3) := by decide +kernel
theorem dX6_fill_28 : decode cX6_fill 28 = .ok (.ifCond .ne 13, 3) := by decide +kernel
theorem dX6_fill_31 : decode cX6_fill 31 = .ok (.iload 4, 2) := by decide +kernel
theorem dX6_fill_33 : decode cX6_fill 33 = .ok (.bipush 99, 2) := by decide +kernel
theorem dX6_fill_35 : decode cX6_fill 35 = .ok (.invokestatic 40, 3) := by decide +kernel
theorem dX6_fill_38 : decode cX6_fill 38 = .ok (.ifCond .eq 7, 3) := by decide +kernel
theorem dX6_fill_41 : decode cX6_fill 41 = .ok (.iconst 1, 1) := by decide +kernel
theorem dX6_fill_42 : decode cX6_fill 42 = .ok (.goto 4, 3) := by decide +kernel
theorem dX6_fill_45 : decode cX6_fill 45 = .ok (.iconst 0, 1) := by decide +kernel
theorem dX6_fill_46 : decode cX6_fill 46 = .ok (.iconst 2, 1) := by decide +kernel
theorem dX6_fill_47 : decode cX6_fill 47 = .ok (.invokevirtual 36, 3) := by decide +kernel
theorem dX6_fill_50 : decode cX6_fill 50 = .ok (.ifCond .eq 5, 3) := by decide +kernel
theorem dX6_fill_53 : decode cX6_fill 53 = .ok (.iconst 0, 1) := by decide +kernel
theorem dX6_fill_54 : decode cX6_fill 54 = .ok (.ireturn, 1) := by decide +kernel
theorem dX6_fill_55 : decode cX6_fill 55 = .ok (.aload_n 0, 1) := by decide +kernel
theorem dX6_fill_56 : decode cX6_fill 56 = .ok (.getfield 17, 3) := by decide +kernel
theorem dX6_fill_59 : decode cX6_fill 59 = .ok (.iload_n 1, 1) := by decide +kernel
theorem dX6_fill_60 : decode cX6_fill 60 = .ok (.iaload, 1) := by decide +kernel
theorem dX6_fill_61 : decode cX6_fill 61 = .ok (.iload_n 2, 1) := by decide +kernel
theorem dX6_fill_62 : decode cX6_fill 62 = .ok (.iadd, 1) := by decide +kernel
theorem dX6_fill_63 : decode cX6_fill 63 = .ok (.bipush 12, 2) := by decide +kernel
theorem dX6_fill_65 : decode cX6_fill 65 = .ok (.if_icmp .le 8, 3) := by decide +kernel
theorem dX6_fill_68 : decode cX6_fill 68 = .ok (.aload_n 0, 1) := by decide +kernel
theorem dX6_fill_69 : decode cX6_fill 69 = .ok (.invokevirtual 75, 3) := by decide +kernel
theorem dX6_fill_72 : decode cX6_fill 72 = .ok (.ireturn, 1) := by decide +kernel
theorem dX6_fill_73 : decode cX6_fill 73 = .ok (.iconst 0, 1) := by decide +kernel
theorem dX6_fill_74 : decode cX6_fill 74 = .ok (.istore 5, 2) := by decide +kernel
theorem dX6_fill_76 : decode cX6_fill 76 = .ok (.iload 5, 2) := by decide +kernel
theorem dX6_fill_78 : decode cX6_fill 78 = .ok (.iload_n 2, 1) := by decide +kernel
theorem dX6_fill_79 : decode cX6_fill 79 = .ok (.if_icmp .ge 31, 3) := by decide +kernel
theorem dX6_fill_82 : decode cX6_fill 82 = .ok (.aload_n 0, 1) := by decide +kernel
theorem dX6_fill_83 : decode cX6_fill 83 = .ok (.iload_n 1, 1) := by decide +kernel
theorem dX6_fill_84 : decode cX6_fill 84 = .ok (.aload_n 0, 1) := by decide +kernel
theorem dX6_fill_85 : decode cX6_fill 85 = .ok (.getfield 17, 3) := by decide +kernel
theorem dX6_fill_88 : decode cX6_fill 88 = .ok (.iload_n 1, 1) := by decide +kernel
theorem dX6_fill_89 : decode cX6_fill 89 = .ok (.iaload, 1) := by decide +kernel
theorem dX6_fill_90 : decode cX6_fill 90 = .ok (.iload_n 3, 1) := by decide +kernel
theorem dX6_fill_91 : decode cX6_fill 91 = .ok (.iload 5, 2) := by decide +kernel
theorem dX6_fill_93 : decode cX6_fill 93 = .ok (.iload 4, 2) := by decide +kernel
theorem dX6_fill_95 : decode cX6_fill 95 = .ok (.imul, 1) := by decide +kernel
theorem dX6_fill_96 : decode cX6_fill 96 = .ok (.iadd, 1) := by decide +kernel
theorem dX6_fill_97 : decode cX6_fill 97 = .ok (.bipush 16, 2) := by decide +kernel
theorem dX6_fill_99 : decode cX6_fill 99 = .ok (.irem, 1) := by decide +kernel
theorem dX6_fill_100 : decode cX6_fill 100 = .ok (.invokevirtual 79, 3) := by decide +kernel
theorem dX6_fill_103 : decode cX6_fill 103 = .ok (.pop, 1) := by decide +kernel
theorem dX6_fill_104 : decode cX6_fill 104 = .ok (.iinc 5 1, 3) := by decide +kernel
theorem dX6_fill_107 : decode cX6_fill 107 = .ok (.goto (-31), 3) := by decide +kernel
theorem dX6_fill_110 : decode cX6_fill 110 = .ok (.aload_n 0, 1) := by decide +kernel
theorem dX6_fill_111 : decode cX6_fill 111 = .ok (.getfield 17, 3) := by decide +kernel
theorem dX6_fill_114 : decode cX6_fill 114 = .ok (.iload_n 1, 1) := by decide +kernel
theorem dX6_fill_115 : decode cX6_fill 115 = .ok (.iaload, 1) := by decide +kernel
theorem dX6_fill_116 : decode cX6_fill 116 = .ok (.ireturn, 1) := by decide +kernel
set_option maxRecDepth 20000 in
theorem ggX6_drop_X6_isNoRow : GoodIn wsX6_drop wsX6_isNoRow := goodIn_r _ [7, 8, 9, 6, 10] (by decide +kernel) (by decide +kernel)
set_option maxRecDepth 20000 in
theorem gX6_drop_X6_isNoRow : GoodIn wsX6_drop (va_wsS RX6 65 yX6_isNoRow wsX6_isNoRow) := goodIn_app (goodIn_of _ (by decide +kernel)) ggX6_drop_X6_isNoRow
set_option maxRecDepth 20000 in
theorem ggX6_drop_X6_start : GoodIn wsX6_drop wsX6_start := goodIn_r _ [14, 15, 16, 17, 18, 6, 19, 20, 21, 22, 23, 24, 25, 26, 27, 28, 29] (by decide +kernel) (by decide +kernel)
set_option maxRecDepth 20000 in
theorem gX6_drop_X6_start : GoodIn wsX6_drop (wsV RX6 69 RX6 yX6_start wsX6_start) := goodIn_app (goodIn_of _ (by decide +kernel)) ggX6_drop_X6_start
set_option maxRecDepth 20000 in
theorem ggX6_drop_X6_isNo : GoodIn wsX6_drop wsX6_isNo := goodIn_r _ [10] (by decide +kernel) (by decide +kernel)
set_option maxRecDepth 20000 in
theorem gX6_drop_X6_isNo : GoodIn wsX6_drop (va_wsS RX6 40 yX6_isNo wsX6_isNo) := goodIn_app (goodIn_of _ (by decide +kernel)) ggX6_drop_X6_isNo
set_option maxRecDepth 20000 in
theorem ggX6_drop_X6_refuse : GoodIn wsX6_drop wsX6_refuse := goodIn_r _ [19, 15, 20, 21, 22, 23, 24, 25, 26, 27, 28, 29] (by decide +kernel) (by decide +kernel)
set_option maxRecDepth 20000 in
theorem gX6_drop_X6_refuse : GoodIn wsX6_drop (wsV RX6 36 RX6 yX6_refuse wsX6_refuse) := goodIn_app (goodIn_of _ (by decide +kernel)) ggX6_drop_X6_refuse
theorem dX6_drop_0 : decode cX6_drop 0 = .ok (.aload_n 0, 1) := by decide +kernel
theorem dX6_drop_1 : decode cX6_drop 1 = .ok (.iload_n 1, 1) := by decide +kernel
theorem dX6_drop_2 : decode cX6_drop 2 = .ok (.invokestatic 65, 3) := by decide +kernel
theorem dX6_drop_5 : decode cX6_drop 5 = .ok (.iconst 1, 1) := by decide +kernel
theorem dX6_drop_6 : decode cX6_drop 6 = .ok (.invokevirtual 69, 3) := by decide +kernel
theorem dX6_drop_9 : decode cX6_drop 9 = .ok (.ifCond .ne 23, 3) := by decide +kernel
theorem dX6_drop_12 : decode cX6_drop 12 = .ok (.aload_n 0, 1) := by decide +kernel
theorem dX6_drop_13 : decode cX6_drop 13 = .ok (.iload_n 2, 1) := by decide +kernel
theorem dX6_drop_14 : decode cX6_drop 14 = .ok (.aload_n 0, 1) := by decide +kernel
theorem dX6_drop_15 : decode cX6_drop 15 = .ok (.getfield 17, 3) := by decide +kernel
theorem dX6_drop_18 : decode cX6_drop 18 = .ok (.iload_n 1, 1) := by decide +kernel
theorem dX6_drop_19 : decode cX6_drop 19 = .ok (.iaload, 1) := by decide +kernel
theorem dX6_drop_20 : decode cX6_drop 20 = .ok (.iconst 1, 1) := by decide +kernel
theorem dX6_drop_21 : decode cX6_drop 21 = .ok (.isub, 1) := by decide +kernel
theorem dX6_drop_22 : decode cX6_drop 22 = .ok (.invokestatic 40, 3) := by decide +kernel
theorem dX6_drop_25 : decode cX6_drop 25 = .ok (.iconst 1, 1) := by decide +kernel
theorem dX6_drop_26 : decode cX6_drop 26 = .ok (.invokevirtual 36, 3) := by decide +kernel
theorem dX6_drop_29 : decode cX6_drop 29 = .ok (.ifCond .eq 5, 3) := by decide +kernel
theorem dX6_drop_32 : decode cX6_drop 32 = .ok (.iconst 0, 1) := by decide +kernel
theorem dX6_drop_33 : decode cX6_drop 33 = .ok (.ireturn, 1) := by decide +kernel
theorem dX6_drop_34 : decode cX6_drop 34 = .ok (.aload_n 0, 1) := by decide +kernel
theorem dX6_drop_35 : decode cX6_drop 35 = .ok (.getfield 14, 3) := by decide +kernel
theorem dX6_drop_38 : decode cX6_drop 38 = .ok (.iload_n 1, 1) := by decide +kernel
theorem dX6_drop_39 : decode cX6_drop 39 = .ok (.aaload, 1) := by decide +kernel
theorem dX6_drop_40 : decode cX6_drop 40 = .ok (.iload_n 2, 1) := by decide +kernel
theorem dX6_drop_41 : decode cX6_drop 41 = .ok (.iaload, 1) := by decide +kernel
theorem dX6_drop_42 : decode cX6_drop 42 = .ok (.istore_n 3, 1) := by decide +kernel
theorem dX6_drop_43 : decode cX6_drop 43 = .ok (.iload_n 2, 1) := by decide +kernel
theorem dX6_drop_44 : decode cX6_drop 44 = .ok (.istore 4, 2) := by decide +kernel
theorem dX6_drop_46 : decode cX6_drop 46 = .ok (.iload 4, 2) := by decide +kernel
theorem dX6_drop_48 : decode cX6_drop 48 = .ok (.iconst 1, 1) := by decide +kernel
theorem dX6_drop_49 : decode cX6_drop 49 = .ok (.iadd, 1) := by decide +kernel
theorem dX6_drop_50 : decode cX6_drop 50 = .ok (.aload_n 0, 1) := by decide +kernel
theorem dX6_drop_51 : decode cX6_drop 51 = .ok (.getfield 17, 3) := by decide +kernel
theorem dX6_drop_54 : decode cX6_drop 54 = .ok (.iload_n 1, 1) := by decide +kernel
theorem dX6_drop_55 : decode cX6_drop 55 = .ok (.iaload, 1) := by decide +kernel
theorem dX6_drop_56 : decode cX6_drop 56 = .ok (.if_icmp .ge 49, 3) := by decide +kernel
theorem dX6_drop_59 : decode cX6_drop 59 = .ok (.aload_n 0, 1) := by decide +kernel
theorem dX6_drop_60 : decode cX6_drop 60 = .ok (.getfield 11, 3) := by decide +kernel
theorem dX6_drop_63 : decode cX6_drop 63 = .ok (.iload_n 1, 1) := by decide +kernel
theorem dX6_drop_64 : decode cX6_drop 64 = .ok (.aaload, 1) := by decide +kernel
theorem dX6_drop_65 : decode cX6_drop 65 = .ok (.iload 4, 2) := by decide +kernel
theorem dX6_drop_67 : decode cX6_drop 67 = .ok (.aload_n 0, 1) := by decide +kernel
theorem dX6_drop_68 : decode cX6_drop 68 = .ok (.getfield 11, 3) := by decide +kernel
theorem dX6_drop_71 : decode cX6_drop 71 = .ok (.iload_n 1, 1) := by decide +kernel
theorem dX6_drop_72 : decode cX6_drop 72 = .ok (.aaload, 1) := by decide +kernel
theorem dX6_drop_73 : decode cX6_drop 73 = .ok (.iload 4, 2) := by decide +kernel
theorem dX6_drop_75 : decode cX6_drop 75 = .ok (.iconst 1, 1) := by decide +kernel
theorem dX6_drop_76 : decode cX6_drop 76 = .ok (.iadd, 1) := by decide +kernel
theorem dX6_drop_77 : decode cX6_drop 77 = .ok (.iaload, 1) := by decide +kernel
theorem dX6_drop_78 : decode cX6_drop 78 = .ok (.iastore, 1) := by decide +kernel
theorem dX6_drop_79 : decode cX6_drop 79 = .ok (.aload_n 0, 1) := by decide +kernel
theorem dX6_drop_80 : decode cX6_drop 80 = .ok (.getfield 14, 3) := by decide +kernel
theorem dX6_drop_83 : decode cX6_drop 83 = .ok (.iload_n 1, 1) := by decide +kernel
theorem dX6_drop_84 : decode cX6_drop 84 = .ok (.aaload, 1) := by decide +kernel
theorem dX6_drop_85 : decode cX6_drop 85 = .ok (.iload 4, 2) := by decide +kernel
theorem dX6_drop_87 : decode cX6_drop 87 = .ok (.aload_n 0, 1) := by decide +kernel
theorem dX6_drop_88 : decode cX6_drop 88 = .ok (.getfield 14, 3) := by decide +kernel
theorem dX6_drop_91 : decode cX6_drop 91 = .ok (.iload_n 1, 1) := by decide +kernel
theorem dX6_drop_92 : decode cX6_drop 92 = .ok (.aaload, 1) := by decide +kernel
theorem dX6_drop_93 : decode cX6_drop 93 = .ok (.iload 4, 2) := by decide +kernel
theorem dX6_drop_95 : decode cX6_drop 95 = .ok (.iconst 1, 1) := by decide +kernel
theorem dX6_drop_96 : decode cX6_drop 96 = .ok (.iadd, 1) := by decide +kernel
theorem dX6_drop_97 : decode cX6_drop 97 = .ok (.iaload, 1) := by decide +kernel
theorem dX6_drop_98 : decode cX6_drop 98 = .ok (.iastore, 1) := by decide +kernel
theorem dX6_drop_99 : decode cX6_drop 99 = .ok (.iinc 4 1, 3) := by decide +kernel
theorem dX6_drop_102 : decode cX6_drop 102 = .ok (.goto (-56), 3) := by decide +kernel
theorem dX6_drop_105 : decode cX6_drop 105 = .ok (.aload_n 0, 1) := by decide +kernel
theorem dX6_drop_106 : decode cX6_drop 106 = .ok (.getfield 17, 3) := by decide +kernel
theorem dX6_drop_109 : decode cX6_drop 109 = .ok (.iload_n 1, 1) := by decide +kernel
theorem dX6_drop_110 : decode cX6_drop 110 = .ok (.dup2, 1) := by decide +kernel
theorem dX6_drop_111 : decode cX6_drop 111 = .ok (.iaload, 1) := by decide +kernel
theorem dX6_drop_112 : decode cX6_drop 112 = .ok (.iconst 1, 1) := by decide +kernel
theorem dX6_drop_113 : decode cX6_drop 113 = .ok (.isub, 1) := by decide +kernel
theorem dX6_drop_114 : decode cX6_drop 114 = .ok (.iastore, 1) := by decide +kernel
theorem dX6_drop_115 : decode cX6_drop 115 = .ok (.iload_n 3, 1) := by decide +kernel
theorem dX6_drop_116 : decode cX6_drop 116 = .ok (.ireturn, 1) := by decide +kernel
set_option maxRecDepth 20000 in
theorem ggX6_clear_X6_isNoRow : GoodIn wsX6_clear wsX6_isNoRow := goodIn_r _ [5, 6, 7, 4, 8] (by decide +kernel) (by decide +kernel)
set_option maxRecDepth 20000 in
theorem gX6_clear_X6_isNoRow : GoodIn wsX6_clear (va_wsS RX6 65 yX6_isNoRow wsX6_isNoRow) := goodIn_app (goodIn_of _ (by decide +kernel)) ggX6_clear_X6_isNoRow
set_option maxRecDepth 20000 in
theorem ggX6_clear_X6_start : GoodIn wsX6_clear wsX6_start := goodIn_r _ [12, 13, 14, 15, 16, 4, 17, 18, 19, 20, 21, 22, 23, 24, 25, 26, 27] (by decide +kernel) (by decide +kernel)
set_option maxRecDepth 20000 in
theorem gX6_clear_X6_start : GoodIn wsX6_clear (wsV RX6 69 RX6 yX6_start wsX6_start) := goodIn_app (goodIn_of _ (by decide +kernel)) ggX6_clear_X6_start
theorem dX6_clear_0 : decode cX6_clear 0 = .ok (.aload_n 0, 1) := by decide +kernel
theorem dX6_clear_1 : decode cX6_clear 1 = .ok (.iload_n 1, 1) := by decide +kernel
theorem dX6_clear_2 : decode cX6_clear 2 = .ok (.invokestatic 65, 3) := by decide +kernel
theorem dX6_clear_5 : decode cX6_clear 5 = .ok (.iconst 1, 1) := by decide +kernel
theorem dX6_clear_6 : decode cX6_clear 6 = .ok (.invokevirtual 69, 3) := by decide +kernel
theorem dX6_clear_9 : decode cX6_clear 9 = .ok (.ifCond .eq 5, 3) := by decide +kernel
theorem dX6_clear_12 : decode cX6_clear 12 = .ok (.iconst 0, 1) := by decide +kernel
theorem dX6_clear_13 : decode cX6_clear 13 = .ok (.ireturn, 1) := by decide +kernel
theorem dX6_clear_14 : decode cX6_clear 14 = .ok (.aload_n 0, 1) := by decide +kernel
theorem dX6_clear_15 : decode cX6_clear 15 = .ok (.getfield 17, 3) := by decide +kernel
theorem dX6_clear_18 : decode cX6_clear 18 = .ok (.iload_n 1, 1) := by decide +kernel
theorem dX6_clear_19 : decode cX6_clear 19 = .ok (.iaload, 1) := by decide +kernel
theorem dX6_clear_20 : decode cX6_clear 20 = .ok (.istore_n 2, 1) := by decide +kernel
theorem dX6_clear_21 : decode cX6_clear 21 = .ok (.aload_n 0, 1) := by decide +kernel
theorem dX6_clear_22 : decode cX6_clear 22 = .ok (.getfield 17, 3) := by decide +kernel
theorem dX6_clear_25 : decode cX6_clear 25 = .ok (.iload_n 1, 1) := by decide +kernel
theorem dX6_clear_26 : decode cX6_clear 26 = .ok (.iconst 0, 1) := by decide +kernel
theorem dX6_clear_27 : decode cX6_clear 27 = .ok (.iastore, 1) := by decide +kernel
theorem dX6_clear_28 : decode cX6_clear 28 = .ok (.iload_n 2, 1) := by decide +kernel
theorem dX6_clear_29 : decode cX6_clear 29 = .ok (.ireturn, 1) := by decide +kernel
set_option maxRecDepth 20000 in
theorem ggX6_copyRow_X6_isNoRow : GoodIn wsX6_copyRow wsX6_isNoRow := goodIn_r _ [7, 8, 9, 6, 10] (by decide +kernel) (by decide +kernel)
set_option maxRecDepth 20000 in
theorem gX6_copyRow_X6_isNoRow : GoodIn wsX6_copyRow (va_wsS RX6 65 yX6_isNoRow wsX6_isNoRow) := goodIn_app (goodIn_of _ (by decide +kernel)) ggX6_copyRow_X6_isNoRow
set_option maxRecDepth 20000 in
theorem ggX6_copyRow_X6_start : GoodIn wsX6_copyRow wsX6_start := goodIn_r _ [14, 15, 16, 17, 18, 6, 19, 20, 21, 22, 23, 24, 25, 26, 27, 28, 29] (by decide +kernel) (by decide +kernel)
set_option maxRecDepth 20000 in
theorem gX6_copyRow_X6_start : GoodIn wsX6_copyRow (wsV RX6 69 RX6 yX6_start wsX6_start) := goodIn_app (goodIn_of _ (by decide +kernel)) ggX6_copyRow_X6_start
theorem dX6_copyRow_0 : decode cX6_copyRow 0 = .ok (.aload_n 0, 1) := by decide +kernel
theorem dX6_copyRow_1 : decode cX6_copyRow 1 = .ok (.iload_n 1, 1) := by decide +kernel
theorem dX6_copyRow_2 : decode cX6_copyRow 2 = .ok (.invokestatic 65, 3) := by decide +kernel
theorem dX6_copyRow_5 : decode cX6_copyRow 5 = .ok (.ifCond .ne 10, 3) := by decide +kernel
theorem dX6_copyRow_8 : decode cX6_copyRow 8 = .ok (.iload_n 2, 1) := by decide +kernel
theorem dX6_copyRow_9 : decode cX6_copyRow 9 = .ok (.invokestatic 65, 3) := by decide +kernel
theorem dX6_copyRow_12 : decode cX6_copyRow 12 = .ok (.ifCond .eq 7, 3) := by decide +kernel
theorem dX6_copyRow_15 : decode cX6_copyRow 15 = .ok (.iconst 1, 1) := by decide +kernel
theorem dX6_copyRow_16 : decode cX6_copyRow 16 = .ok (.goto 4, 3) := by decide +kernel
theorem dX6_copyRow_19 : decode cX6_copyRow 19 = .ok (.iconst 0, 1) := by decide +kernel
theorem dX6_copyRow_20 : decode cX6_copyRow 20 = .ok (.iconst 1, 1) := by decide +kernel
theorem dX6_copyRow_21 : decode cX6_copyRow 21 = .ok (.invokevirtual 69, 3) := by decide +kernel
theorem dX6_copyRow_24 : decode cX6_copyRow 24 = .ok (.ifCond .eq 5, 3) := by decide +kernel
theorem dX6_copyRow_27 : decode cX6_copyRow 27 = .ok (.iconst 0, 1) := by decide +kernel
theorem dX6_copyRow_28 : decode cX6_copyRow 28 = .ok (.ireturn, 1) := by decide +kernel
theorem dX6_copyRow_29 : decode cX6_copyRow 29 = .ok (.iconst 0, 1) := by decide +kernel
theorem dX6_copyRow_30 : decode cX6_copyRow 30 = .ok (.istore_n 3, 1) := by decide +kernel
theorem dX6_copyRow_31 : decode cX6_copyRow 31 = .ok (.iload_n 3, 1) := by decide +kernel
theorem dX6_copyRow_32 : decode cX6_copyRow 32 = .ok (.aload_n 0, 1) := by decide +kernel
theorem dX6_copyRow_33 : decode cX6_copyRow 33 = .ok (.getfield 17, 3) := by decide +kernel
theorem dX6_copyRow_36 : decode cX6_copyRow 36 = .ok (.iload_n 1, 1) := by decide +kernel
theorem dX6_copyRow_37 : decode cX6_copyRow 37 = .ok (.iaload, 1) := by decide +kernel
theorem dX6_copyRow_38 : decode cX6_copyRow 38 = .ok (.if_icmp .ge 41, 3) := by decide +kernel
theorem dX6_copyRow_41 : decode cX6_copyRow 41 = .ok (.aload_n 0, 1) := by decide +kernel
theorem dX6_copyRow_42 : decode cX6_copyRow 42 = .ok (.getfield 11, 3) := by decide +kernel
theorem dX6_copyRow_45 : decode cX6_copyRow 45 = .ok (.iload_n 2, 1) := by decide +kernel
theorem dX6_copyRow_46 : decode cX6_copyRow 46 = .ok (.aaload, 1) := by decide +kernel
theorem dX6_copyRow_47 : decode cX6_copyRow 47 = .ok (.iload_n 3, 1) := by decide +kernel
theorem dX6_copyRow_48 : decode cX6_copyRow 48 = .ok (.aload_n 0, 1) := by decide +kernel
theorem dX6_copyRow_49 : decode cX6_copyRow 49 = .ok (.getfield 11, 3) := by decide +kernel
theorem dX6_copyRow_52 : decode cX6_copyRow 52 = .ok (.iload_n 1, 1) := by decide +kernel
theorem dX6_copyRow_53 : decode cX6_copyRow 53 = .ok (.aaload, 1) := by decide +kernel
theorem dX6_copyRow_54 : decode cX6_copyRow 54 = .ok (.iload_n 3, 1) := by decide +kernel
theorem dX6_copyRow_55 : decode cX6_copyRow 55 = .ok (.iaload, 1) := by decide +kernel
theorem dX6_copyRow_56 : decode cX6_copyRow 56 = .ok (.iastore, 1) := by decide +kernel
theorem dX6_copyRow_57 : decode cX6_copyRow 57 = .ok (.aload_n 0, 1) := by decide +kernel
theorem dX6_copyRow_58 : decode cX6_copyRow 58 = .ok (.getfield 14, 3) := by decide +kernel
theorem dX6_copyRow_61 : decode cX6_copyRow 61 = .ok (.iload_n 2, 1) := by decide +kernel
theorem dX6_copyRow_62 : decode cX6_copyRow 62 = .ok (.aaload, 1) := by decide +kernel
theorem dX6_copyRow_63 : decode cX6_copyRow 63 = .ok (.iload_n 3, 1) := by decide +kernel
theorem dX6_copyRow_64 : decode cX6_copyRow 64 = .ok (.aload_n 0, 1) := by decide +kernel
theorem dX6_copyRow_65 : decode cX6_copyRow 65 = .ok (.getfield 14, 3) := by decide +kernel
theorem dX6_copyRow_68 : decode cX6_copyRow 68 = .ok (.iload_n 1, 1) := by decide +kernel
theorem dX6_copyRow_69 : decode cX6_copyRow 69 = .ok (.aaload, 1) := by decide +kernel
theorem dX6_copyRow_70 : decode cX6_copyRow 70 = .ok (.iload_n 3, 1) := by decide +kernel
theorem dX6_copyRow_71 : decode cX6_copyRow 71 = .ok (.iaload, 1) := by decide +kernel
theorem dX6_copyRow_72 : decode cX6_copyRow 72 = .ok (.iastore, 1) := by decide +kernel
theorem dX6_copyRow_73 : decode cX6_copyRow 73 = .ok (.iinc 3 1, 3) := by decide +kernel
theorem dX6_copyRow_76 : decode cX6_copyRow 76 = .ok (.goto (-45), 3) := by decide +kernel
theorem dX6_copyRow_79 : decode cX6_copyRow 79 = .ok (.aload_n 0, 1) := by decide +kernel
theorem dX6_copyRow_80 : decode cX6_copyRow 80 = .ok (.getfield 17, 3) := by decide +kernel
theorem dX6_copyRow_83 : decode cX6_copyRow 83 = .ok (.iload_n 2, 1) := by decide +kernel
theorem dX6_copyRow_84 : decode cX6_copyRow 84 = .ok (.aload_n 0, 1) := by decide +kernel
theorem dX6_copyRow_85 : decode cX6_copyRow 85 = .ok (.getfield 17, 3) := by decide +kernel
theorem dX6_copyRow_88 : decode cX6_copyRow 88 = .ok (.iload_n 1, 1) := by decide +kernel
theorem dX6_copyRow_89 : decode cX6_copyRow 89 = .ok (.iaload, 1) := by decide +kernel
theorem dX6_copyRow_90 : decode cX6_copyRow 90 = .ok (.iastore, 1) := by decide +kernel
theorem dX6_copyRow_91 : decode cX6_copyRow 91 = .ok (.aload_n 0, 1) := by decide +kernel
theorem dX6_copyRow_92 : decode cX6_copyRow 92 = .ok (.getfield 17, 3) := by decide +kernel
theorem dX6_copyRow_95 : decode cX6_copyRow 95 = .ok (.iload_n 2, 1) := by decide +kernel
theorem dX6_copyRow_96 : decode cX6_copyRow 96 = .ok (.iaload, 1) := by decide +kernel
theorem dX6_copyRow_97 : decode cX6_copyRow 97 = .ok (.ireturn, 1) := by decide +kernel
theorem dX6_change_0 : decode cX6_change 0 = .ok (.aload_n 0, 1) := by decide +kernel
theorem dX6_change_1 : decode cX6_change 1 = .ok (.getfield 11, 3) := by decide +kernel
theorem dX6_change_4 : decode cX6_change 4 = .ok (.iload_n 1, 1) := by decide +kernel
theorem dX6_change_5 : decode cX6_change 5 = .ok (.aaload, 1) := by decide +kernel
theorem dX6_change_6 : decode cX6_change 6 = .ok (.iload_n 2, 1) := by decide +kernel
theorem dX6_change_7 : decode cX6_change 7 = .ok (.iaload, 1) := by decide +kernel
theorem dX6_change_8 : decode cX6_change 8 = .ok (.istore 4, 2) := by decide +kernel
theorem dX6_change_10 : decode cX6_change 10 = .ok (.aload_n 0, 1) := by decide +kernel
