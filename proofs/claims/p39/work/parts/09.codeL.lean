theorem dkL_put_0 : ([(0, (.aload_n 3, 1)), (1, (.aload_n 0, 1)), (2, (.iload_n 1, 1)), (3, (.iload_n 2, 1)), (4, (.invokevirtual 7, 3)), (7, (.i2l, 1)), (8, (.putfield 13, 3)), (11, (.goto 11, 3)), (14, (.astore 4, 2)), (16, (.iconst 1, 1)), (17, (.ireturn, 1)), (18, (.astore 4, 2)), (20, (.iconst 2, 1)), (21, (.ireturn, 1)), (22, (.iconst 0, 1)), (23, (.ireturn, 1))] : List (Nat × (Jvm.ClassFile.Instr × Nat))).all (dcB cL_put) = true := by decide +kernel
theorem dL_put_0 : decode cL_put 0 = .ok (.aload_n 3, 1) := dget dkL_put_0 0 rfl
theorem dL_put_1 : decode cL_put 1 = .ok (.aload_n 0, 1) := dget dkL_put_0 1 rfl
theorem dL_put_2 : decode cL_put 2 = .ok (.iload_n 1, 1) := dget dkL_put_0 2 rfl
theorem dL_put_3 : decode cL_put 3 = .ok (.iload_n 2, 1) := dget dkL_put_0 3 rfl
theorem dL_put_4 : decode cL_put 4 = .ok (.invokevirtual 7, 3) := dget dkL_put_0 4 rfl
theorem dL_put_7 : decode cL_put 7 = .ok (.i2l, 1) := dget dkL_put_0 5 rfl
theorem dL_put_8 : decode cL_put 8 = .ok (.putfield 13, 3) := dget dkL_put_0 6 rfl
theorem dL_put_11 : decode cL_put 11 = .ok (.goto 11, 3) := dget dkL_put_0 7 rfl
theorem dL_put_14 : decode cL_put 14 = .ok (.astore 4, 2) := dget dkL_put_0 8 rfl
theorem dL_put_16 : decode cL_put 16 = .ok (.iconst 1, 1) := dget dkL_put_0 9 rfl
theorem dL_put_17 : decode cL_put 17 = .ok (.ireturn, 1) := dget dkL_put_0 10 rfl
theorem dL_put_18 : decode cL_put 18 = .ok (.astore 4, 2) := dget dkL_put_0 11 rfl
theorem dL_put_20 : decode cL_put 20 = .ok (.iconst 2, 1) := dget dkL_put_0 12 rfl
theorem dL_put_21 : decode cL_put 21 = .ok (.ireturn, 1) := dget dkL_put_0 13 rfl
theorem dL_put_22 : decode cL_put 22 = .ok (.iconst 0, 1) := dget dkL_put_0 14 rfl
theorem dL_put_23 : decode cL_put 23 = .ok (.ireturn, 1) := dget dkL_put_0 15 rfl
theorem dkL_putAt_0 : ([(0, (.aload 4, 2)), (2, (.aload_n 0, 1)), (3, (.iload_n 1, 1)), (4, (.iload_n 2, 1)), (5, (.iload_n 3, 1)), (6, (.invokevirtual 23, 3)), (9, (.i2l, 1)), (10, (.putfield 13, 3)), (13, (.goto 11, 3)), (16, (.astore 5, 2)), (18, (.iconst 1, 1)), (19, (.ireturn, 1)), (20, (.astore 5, 2)), (22, (.iconst 2, 1)), (23, (.ireturn, 1)), (24, (.iconst 0, 1)), (25, (.ireturn, 1))] : List (Nat × (Jvm.ClassFile.Instr × Nat))).all (dcB cL_putAt) = true := by decide +kernel
theorem dL_putAt_0 : decode cL_putAt 0 = .ok (.aload 4, 2) := dget dkL_putAt_0 0 rfl
theorem dL_putAt_2 : decode cL_putAt 2 = .ok (.aload_n 0, 1) := dget dkL_putAt_0 1 rfl
theorem dL_putAt_3 : decode cL_putAt 3 = .ok (.iload_n 1, 1) := dget dkL_putAt_0 2 rfl
theorem dL_putAt_4 : decode cL_putAt 4 = .ok (.iload_n 2, 1) := dget dkL_putAt_0 3 rfl
theorem dL_putAt_5 : decode cL_putAt 5 = .ok (.iload_n 3, 1) := dget dkL_putAt_0 4 rfl
theorem dL_putAt_6 : decode cL_putAt 6 = .ok (.invokevirtual 23, 3) := dget dkL_putAt_0 5 rfl
theorem dL_putAt_9 : decode cL_putAt 9 = .ok (.i2l, 1) := dget dkL_putAt_0 6 rfl
theorem dL_putAt_10 : decode cL_putAt 10 = .ok (.putfield 13, 3) := dget dkL_putAt_0 7 rfl
theorem dL_putAt_13 : decode cL_putAt 13 = .ok (.goto 11, 3) := dget dkL_putAt_0 8 rfl
theorem dL_putAt_16 : decode cL_putAt 16 = .ok (.astore 5, 2) := dget dkL_putAt_0 9 rfl
theorem dL_putAt_18 : decode cL_putAt 18 = .ok (.iconst 1, 1) := dget dkL_putAt_0 10 rfl
theorem dL_putAt_19 : decode cL_putAt 19 = .ok (.ireturn, 1) := dget dkL_putAt_0 11 rfl
theorem dL_putAt_20 : decode cL_putAt 20 = .ok (.astore 5, 2) := dget dkL_putAt_0 12 rfl
theorem dL_putAt_22 : decode cL_putAt 22 = .ok (.iconst 2, 1) := dget dkL_putAt_0 13 rfl
theorem dL_putAt_23 : decode cL_putAt 23 = .ok (.ireturn, 1) := dget dkL_putAt_0 14 rfl
theorem dL_putAt_24 : decode cL_putAt 24 = .ok (.iconst 0, 1) := dget dkL_putAt_0 15 rfl
theorem dL_putAt_25 : decode cL_putAt 25 = .ok (.ireturn, 1) := dget dkL_putAt_0 16 rfl
theorem dkL_fill_0 : ([(0, (.aload 5, 2)), (2, (.aload_n 0, 1)), (3, (.iload_n 1, 1)), (4, (.iload_n 2, 1)), (5, (.iload_n 3, 1)), (6, (.iload 4, 2)), (8, (.invokevirtual 27, 3)), (11, (.i2l, 1)), (12, (.putfield 13, 3)), (15, (.goto 11, 3)), (18, (.astore 6, 2)), (20, (.iconst 1, 1)), (21, (.ireturn, 1)), (22, (.astore 6, 2)), (24, (.iconst 2, 1)), (25, (.ireturn, 1)), (26, (.iconst 0, 1)), (27, (.ireturn, 1))] : List (Nat × (Jvm.ClassFile.Instr × Nat))).all (dcB cL_fill) = true := by decide +kernel
theorem dL_fill_0 : decode cL_fill 0 = .ok (.aload 5, 2) := dget dkL_fill_0 0 rfl
theorem dL_fill_2 : decode cL_fill 2 = .ok (.aload_n 0, 1) := dget dkL_fill_0 1 rfl
theorem dL_fill_3 : decode cL_fill 3 = .ok (.iload_n 1, 1) := dget dkL_fill_0 2 rfl
theorem dL_fill_4 : decode cL_fill 4 = .ok (.iload_n 2, 1) := dget dkL_fill_0 3 rfl
theorem dL_fill_5 : decode cL_fill 5 = .ok (.iload_n 3, 1) := dget dkL_fill_0 4 rfl
theorem dL_fill_6 : decode cL_fill 6 = .ok (.iload 4, 2) := dget dkL_fill_0 5 rfl
theorem dL_fill_8 : decode cL_fill 8 = .ok (.invokevirtual 27, 3) := dget dkL_fill_0 6 rfl
theorem dL_fill_11 : decode cL_fill 11 = .ok (.i2l, 1) := dget dkL_fill_0 7 rfl
theorem dL_fill_12 : decode cL_fill 12 = .ok (.putfield 13, 3) := dget dkL_fill_0 8 rfl
theorem dL_fill_15 : decode cL_fill 15 = .ok (.goto 11, 3) := dget dkL_fill_0 9 rfl
theorem dL_fill_18 : decode cL_fill 18 = .ok (.astore 6, 2) := dget dkL_fill_0 10 rfl
theorem dL_fill_20 : decode cL_fill 20 = .ok (.iconst 1, 1) := dget dkL_fill_0 11 rfl
theorem dL_fill_21 : decode cL_fill 21 = .ok (.ireturn, 1) := dget dkL_fill_0 12 rfl
theorem dL_fill_22 : decode cL_fill 22 = .ok (.astore 6, 2) := dget dkL_fill_0 13 rfl
theorem dL_fill_24 : decode cL_fill 24 = .ok (.iconst 2, 1) := dget dkL_fill_0 14 rfl
theorem dL_fill_25 : decode cL_fill 25 = .ok (.ireturn, 1) := dget dkL_fill_0 15 rfl
theorem dL_fill_26 : decode cL_fill 26 = .ok (.iconst 0, 1) := dget dkL_fill_0 16 rfl
theorem dL_fill_27 : decode cL_fill 27 = .ok (.ireturn, 1) := dget dkL_fill_0 17 rfl
theorem dkL_drop_0 : ([(0, (.aload_n 3, 1)), (1, (.aload_n 0, 1)), (2, (.iload_n 1, 1)), (3, (.iload_n 2, 1)), (4, (.invokevirtual 31, 3)), (7, (.i2l, 1)), (8, (.putfield 13, 3)), (11, (.goto 7, 3)), (14, (.astore 4, 2)), (16, (.iconst 1, 1)), (17, (.ireturn, 1)), (18, (.iconst 0, 1)), (19, (.ireturn, 1))] : List (Nat × (Jvm.ClassFile.Instr × Nat))).all (dcB cL_drop) = true := by decide +kernel
theorem dL_drop_0 : decode cL_drop 0 = .ok (.aload_n 3, 1) := dget dkL_drop_0 0 rfl
theorem dL_drop_1 : decode cL_drop 1 = .ok (.aload_n 0, 1) := dget dkL_drop_0 1 rfl
theorem dL_drop_2 : decode cL_drop 2 = .ok (.iload_n 1, 1) := dget dkL_drop_0 2 rfl
theorem dL_drop_3 : decode cL_drop 3 = .ok (.iload_n 2, 1) := dget dkL_drop_0 3 rfl
theorem dL_drop_4 : decode cL_drop 4 = .ok (.invokevirtual 31, 3) := dget dkL_drop_0 4 rfl
theorem dL_drop_7 : decode cL_drop 7 = .ok (.i2l, 1) := dget dkL_drop_0 5 rfl
theorem dL_drop_8 : decode cL_drop 8 = .ok (.putfield 13, 3) := dget dkL_drop_0 6 rfl
theorem dL_drop_11 : decode cL_drop 11 = .ok (.goto 7, 3) := dget dkL_drop_0 7 rfl
theorem dL_drop_14 : decode cL_drop 14 = .ok (.astore 4, 2) := dget dkL_drop_0 8 rfl
theorem dL_drop_16 : decode cL_drop 16 = .ok (.iconst 1, 1) := dget dkL_drop_0 9 rfl
theorem dL_drop_17 : decode cL_drop 17 = .ok (.ireturn, 1) := dget dkL_drop_0 10 rfl
theorem dL_drop_18 : decode cL_drop 18 = .ok (.iconst 0, 1) := dget dkL_drop_0 11 rfl
theorem dL_drop_19 : decode cL_drop 19 = .ok (.ireturn, 1) := dget dkL_drop_0 12 rfl
theorem dkL_clear_0 : ([(0, (.aload_n 2, 1)), (1, (.aload_n 0, 1)), (2, (.iload_n 1, 1)), (3, (.invokevirtual 34, 3)), (6, (.i2l, 1)), (7, (.putfield 13, 3)), (10, (.goto 6, 3)), (13, (.astore_n 3, 1)), (14, (.iconst 1, 1)), (15, (.ireturn, 1)), (16, (.iconst 0, 1)), (17, (.ireturn, 1))] : List (Nat × (Jvm.ClassFile.Instr × Nat))).all (dcB cL_clear) = true := by decide +kernel
theorem dL_clear_0 : decode cL_clear 0 = .ok (.aload_n 2, 1) := dget dkL_clear_0 0 rfl
theorem dL_clear_1 : decode cL_clear 1 = .ok (.aload_n 0, 1) := dget dkL_clear_0 1 rfl
theorem dL_clear_2 : decode cL_clear 2 = .ok (.iload_n 1, 1) := dget dkL_clear_0 2 rfl
theorem dL_clear_3 : decode cL_clear 3 = .ok (.invokevirtual 34, 3) := dget dkL_clear_0 3 rfl
theorem dL_clear_6 : decode cL_clear 6 = .ok (.i2l, 1) := dget dkL_clear_0 4 rfl
theorem dL_clear_7 : decode cL_clear 7 = .ok (.putfield 13, 3) := dget dkL_clear_0 5 rfl
theorem dL_clear_10 : decode cL_clear 10 = .ok (.goto 6, 3) := dget dkL_clear_0 6 rfl
theorem dL_clear_13 : decode cL_clear 13 = .ok (.astore_n 3, 1) := dget dkL_clear_0 7 rfl
theorem dL_clear_14 : decode cL_clear 14 = .ok (.iconst 1, 1) := dget dkL_clear_0 8 rfl
theorem dL_clear_15 : decode cL_clear 15 = .ok (.ireturn, 1) := dget dkL_clear_0 9 rfl
theorem dL_clear_16 : decode cL_clear 16 = .ok (.iconst 0, 1) := dget dkL_clear_0 10 rfl
theorem dL_clear_17 : decode cL_clear 17 = .ok (.ireturn, 1) := dget dkL_clear_0 11 rfl
theorem dkL_copyRow_0 : ([(0, (.aload_n 3, 1)), (1, (.aload_n 0, 1)), (2, (.iload_n 1, 1)), (3, (.iload_n 2, 1)), (4, (.invokevirtual 38, 3)), (7, (.i2l, 1)), (8, (.putfield 13, 3)), (11, (.goto 7, 3)), (14, (.astore 4, 2)), (16, (.iconst 1, 1)), (17, (.ireturn, 1)), (18, (.iconst 0, 1)), (19, (.ireturn, 1))] : List (Nat × (Jvm.ClassFile.Instr × Nat))).all (dcB cL_copyRow) = true := by decide +kernel
theorem dL_copyRow_0 : decode cL_copyRow 0 = .ok (.aload_n 3, 1) := dget dkL_copyRow_0 0 rfl
theorem dL_copyRow_1 : decode cL_copyRow 1 = .ok (.aload_n 0, 1) := dget dkL_copyRow_0 1 rfl
theorem dL_copyRow_2 : decode cL_copyRow 2 = .ok (.iload_n 1, 1) := dget dkL_copyRow_0 2 rfl
theorem dL_copyRow_3 : decode cL_copyRow 3 = .ok (.iload_n 2, 1) := dget dkL_copyRow_0 3 rfl
theorem dL_copyRow_4 : decode cL_copyRow 4 = .ok (.invokevirtual 38, 3) := dget dkL_copyRow_0 4 rfl
theorem dL_copyRow_7 : decode cL_copyRow 7 = .ok (.i2l, 1) := dget dkL_copyRow_0 5 rfl
theorem dL_copyRow_8 : decode cL_copyRow 8 = .ok (.putfield 13, 3) := dget dkL_copyRow_0 6 rfl
theorem dL_copyRow_11 : decode cL_copyRow 11 = .ok (.goto 7, 3) := dget dkL_copyRow_0 7 rfl
theorem dL_copyRow_14 : decode cL_copyRow 14 = .ok (.astore 4, 2) := dget dkL_copyRow_0 8 rfl
theorem dL_copyRow_16 : decode cL_copyRow 16 = .ok (.iconst 1, 1) := dget dkL_copyRow_0 9 rfl
theorem dL_copyRow_17 : decode cL_copyRow 17 = .ok (.ireturn, 1) := dget dkL_copyRow_0 10 rfl
theorem dL_copyRow_18 : decode cL_copyRow 18 = .ok (.iconst 0, 1) := dget dkL_copyRow_0 11 rfl
theorem dL_copyRow_19 : decode cL_copyRow 19 = .ok (.ireturn, 1) := dget dkL_copyRow_0 12 rfl
theorem dkL_turnRow_0 : ([(0, (.aload_n 2, 1)), (1, (.aload_n 0, 1)), (2, (.iload_n 1, 1)), (3, (.invokevirtual 41, 3)), (6, (.i2l, 1)), (7, (.putfield 13, 3)), (10, (.goto 6, 3)), (13, (.astore_n 3, 1)), (14, (.iconst 1, 1)), (15, (.ireturn, 1)), (16, (.iconst 0, 1)), (17, (.ireturn, 1))] : List (Nat × (Jvm.ClassFile.Instr × Nat))).all (dcB cL_turnRow) = true := by decide +kernel
theorem dL_turnRow_0 : decode cL_turnRow 0 = .ok (.aload_n 2, 1) := dget dkL_turnRow_0 0 rfl
theorem dL_turnRow_1 : decode cL_turnRow 1 = .ok (.aload_n 0, 1) := dget dkL_turnRow_0 1 rfl
theorem dL_turnRow_2 : decode cL_turnRow 2 = .ok (.iload_n 1, 1) := dget dkL_turnRow_0 2 rfl
theorem dL_turnRow_3 : decode cL_turnRow 3 = .ok (.invokevirtual 41, 3) := dget dkL_turnRow_0 3 rfl
theorem dL_turnRow_6 : decode cL_turnRow 6 = .ok (.i2l, 1) := dget dkL_turnRow_0 4 rfl
theorem dL_turnRow_7 : decode cL_turnRow 7 = .ok (.putfield 13, 3) := dget dkL_turnRow_0 5 rfl
theorem dL_turnRow_10 : decode cL_turnRow 10 = .ok (.goto 6, 3) := dget dkL_turnRow_0 6 rfl
theorem dL_turnRow_13 : decode cL_turnRow 13 = .ok (.astore_n 3, 1) := dget dkL_turnRow_0 7 rfl
theorem dL_turnRow_14 : decode cL_turnRow 14 = .ok (.iconst 1, 1) := dget dkL_turnRow_0 8 rfl
theorem dL_turnRow_15 : decode cL_turnRow 15 = .ok (.ireturn, 1) := dget dkL_turnRow_0 9 rfl
theorem dL_turnRow_16 : decode cL_turnRow 16 = .ok (.iconst 0, 1) := dget dkL_turnRow_0 10 rfl
theorem dL_turnRow_17 : decode cL_turnRow 17 = .ok (.ireturn, 1) := dget dkL_turnRow_0 11 rfl
theorem dkL_wheel_0 : ([(0, (.aload_n 3, 1)), (1, (.aload_n 0, 1)), (2, (.iload_n 1, 1)), (3, (.iload_n 2, 1)), (4, (.invokevirtual 44, 3)), (7, (.i2l, 1)), (8, (.putfield 13, 3)), (11, (.goto 7, 3)), (14, (.astore 4, 2)), (16, (.iconst 1, 1)), (17, (.ireturn, 1)), (18, (.iconst 0, 1)), (19, (.ireturn, 1))] : List (Nat × (Jvm.ClassFile.Instr × Nat))).all (dcB cL_wheel) = true := by decide +kernel
theorem dL_wheel_0 : decode cL_wheel 0 = .ok (.aload_n 3, 1) := dget dkL_wheel_0 0 rfl
theorem dL_wheel_1 : decode cL_wheel 1 = .ok (.aload_n 0, 1) := dget dkL_wheel_0 1 rfl
theorem dL_wheel_2 : decode cL_wheel 2 = .ok (.iload_n 1, 1) := dget dkL_wheel_0 2 rfl
theorem dL_wheel_3 : decode cL_wheel 3 = .ok (.iload_n 2, 1) := dget dkL_wheel_0 3 rfl
theorem dL_wheel_4 : decode cL_wheel 4 = .ok (.invokevirtual 44, 3) := dget dkL_wheel_0 4 rfl
theorem dL_wheel_7 : decode cL_wheel 7 = .ok (.i2l, 1) := dget dkL_wheel_0 5 rfl
theorem dL_wheel_8 : decode cL_wheel 8 = .ok (.putfield 13, 3) := dget dkL_wheel_0 6 rfl
theorem dL_wheel_11 : decode cL_wheel 11 = .ok (.goto 7, 3) := dget dkL_wheel_0 7 rfl
theorem dL_wheel_14 : decode cL_wheel 14 = .ok (.astore 4, 2) := dget dkL_wheel_0 8 rfl
theorem dL_wheel_16 : decode cL_wheel 16 = .ok (.iconst 1, 1) := dget dkL_wheel_0 9 rfl
theorem dL_wheel_17 : decode cL_wheel 17 = .ok (.ireturn, 1) := dget dkL_wheel_0 10 rfl
theorem dL_wheel_18 : decode cL_wheel 18 = .ok (.iconst 0, 1) := dget dkL_wheel_0 11 rfl
theorem dL_wheel_19 : decode cL_wheel 19 = .ok (.ireturn, 1) := dget dkL_wheel_0 12 rfl
theorem dkL_swap_0 : ([(0, (.aload 4, 2)), (2, (.aload_n 0, 1)), (3, (.iload_n 1, 1)), (4, (.iload_n 2, 1)), (5, (.iload_n 3, 1)), (6, (.invokevirtual 47, 3)), (9, (.i2l, 1)), (10, (.putfield 13, 3)), (13, (.goto 7, 3)), (16, (.astore 5, 2)), (18, (.iconst 1, 1)), (19, (.ireturn, 1)), (20, (.iconst 0, 1)), (21, (.ireturn, 1))] : List (Nat × (Jvm.ClassFile.Instr × Nat))).all (dcB cL_swap) = true := by decide +kernel
theorem dL_swap_0 : decode cL_swap 0 = .ok (.aload 4, 2) := dget dkL_swap_0 0 rfl
theorem dL_swap_2 : decode cL_swap 2 = .ok (.aload_n 0, 1) := dget dkL_swap_0 1 rfl
theorem dL_swap_3 : decode cL_swap 3 = .ok (.iload_n 1, 1) := dget dkL_swap_0 2 rfl
theorem dL_swap_4 : decode cL_swap 4 = .ok (.iload_n 2, 1) := dget dkL_swap_0 3 rfl
theorem dL_swap_5 : decode cL_swap 5 = .ok (.iload_n 3, 1) := dget dkL_swap_0 4 rfl
theorem dL_swap_6 : decode cL_swap 6 = .ok (.invokevirtual 47, 3) := dget dkL_swap_0 5 rfl
theorem dL_swap_9 : decode cL_swap 9 = .ok (.i2l, 1) := dget dkL_swap_0 6 rfl
theorem dL_swap_10 : decode cL_swap 10 = .ok (.putfield 13, 3) := dget dkL_swap_0 7 rfl
theorem dL_swap_13 : decode cL_swap 13 = .ok (.goto 7, 3) := dget dkL_swap_0 8 rfl
theorem dL_swap_16 : decode cL_swap 16 = .ok (.astore 5, 2) := dget dkL_swap_0 9 rfl
theorem dL_swap_18 : decode cL_swap 18 = .ok (.iconst 1, 1) := dget dkL_swap_0 10 rfl
theorem dL_swap_19 : decode cL_swap 19 = .ok (.ireturn, 1) := dget dkL_swap_0 11 rfl
theorem dL_swap_20 : decode cL_swap 20 = .ok (.iconst 0, 1) := dget dkL_swap_0 12 rfl
theorem dL_swap_21 : decode cL_swap 21 = .ok (.ireturn, 1) := dget dkL_swap_0 13 rfl
theorem dkL_sort_0 : ([(0, (.aload 4, 2)), (2, (.aload_n 0, 1)), (3, (.iload_n 1, 1)), (4, (.iload_n 2, 1)), (5, (.iload_n 3, 1)), (6, (.invokevirtual 50, 3)), (9, (.i2l, 1)), (10, (.putfield 13, 3)), (13, (.goto 11, 3)), (16, (.astore 5, 2)), (18, (.iconst 1, 1)), (19, (.ireturn, 1)), (20, (.astore 5, 2)), (22, (.iconst 2, 1)), (23, (.ireturn, 1)), (24, (.iconst 0, 1)), (25, (.ireturn, 1))] : List (Nat × (Jvm.ClassFile.Instr × Nat))).all (dcB cL_sort) = true := by decide +kernel
theorem dL_sort_0 : decode cL_sort 0 = .ok (.aload 4, 2) := dget dkL_sort_0 0 rfl
theorem dL_sort_2 : decode cL_sort 2 = .ok (.aload_n 0, 1) := dget dkL_sort_0 1 rfl
theorem dL_sort_3 : decode cL_sort 3 = .ok (.iload_n 1, 1) := dget dkL_sort_0 2 rfl
theorem dL_sort_4 : decode cL_sort 4 = .ok (.iload_n 2, 1) := dget dkL_sort_0 3 rfl
theorem dL_sort_5 : decode cL_sort 5 = .ok (.iload_n 3, 1) := dget dkL_sort_0 4 rfl
theorem dL_sort_6 : decode cL_sort 6 = .ok (.invokevirtual 50, 3) := dget dkL_sort_0 5 rfl
theorem dL_sort_9 : decode cL_sort 9 = .ok (.i2l, 1) := dget dkL_sort_0 6 rfl
theorem dL_sort_10 : decode cL_sort 10 = .ok (.putfield 13, 3) := dget dkL_sort_0 7 rfl
theorem dL_sort_13 : decode cL_sort 13 = .ok (.goto 11, 3) := dget dkL_sort_0 8 rfl
theorem dL_sort_16 : decode cL_sort 16 = .ok (.astore 5, 2) := dget dkL_sort_0 9 rfl
theorem dL_sort_18 : decode cL_sort 18 = .ok (.iconst 1, 1) := dget dkL_sort_0 10 rfl
theorem dL_sort_19 : decode cL_sort 19 = .ok (.ireturn, 1) := dget dkL_sort_0 11 rfl
theorem dL_sort_20 : decode cL_sort 20 = .ok (.astore 5, 2) := dget dkL_sort_0 12 rfl
theorem dL_sort_22 : decode cL_sort 22 = .ok (.iconst 2, 1) := dget dkL_sort_0 13 rfl
theorem dL_sort_23 : decode cL_sort 23 = .ok (.ireturn, 1) := dget dkL_sort_0 14 rfl
theorem dL_sort_24 : decode cL_sort 24 = .ok (.iconst 0, 1) := dget dkL_sort_0 15 rfl
theorem dL_sort_25 : decode cL_sort 25 = .ok (.ireturn, 1) := dget dkL_sort_0 16 rfl
theorem dkL_sortPart_0 : ([(0, (.aload 5, 2)), (2, (.aload_n 0, 1)), (3, (.iload_n 1, 1)), (4, (.iload_n 2, 1)), (5, (.iload_n 3, 1)), (6, (.iload 4, 2)), (8, (.invokevirtual 53, 3)), (11, (.i2l, 1)), (12, (.putfield 13, 3)), (15, (.goto 11, 3)), (18, (.astore 6, 2)), (20, (.iconst 1, 1)), (21, (.ireturn, 1)), (22, (.astore 6, 2)), (24, (.iconst 2, 1)), (25, (.ireturn, 1)), (26, (.iconst 0, 1)), (27, (.ireturn, 1))] : List (Nat × (Jvm.ClassFile.Instr × Nat))).all (dcB cL_sortPart) = true := by decide +kernel
theorem dL_sortPart_0 : decode cL_sortPart 0 = .ok (.aload 5, 2) := dget dkL_sortPart_0 0 rfl
theorem dL_sortPart_2 : decode cL_sortPart 2 = .ok (.aload_n 0, 1) := dget dkL_sortPart_0 1 rfl
theorem dL_sortPart_3 : decode cL_sortPart 3 = .ok (.iload_n 1, 1) := dget dkL_sortPart_0 2 rfl
theorem dL_sortPart_4 : decode cL_sortPart 4 = .ok (.iload_n 2, 1) := dget dkL_sortPart_0 3 rfl
theorem dL_sortPart_5 : decode cL_sortPart 5 = .ok (.iload_n 3, 1) := dget dkL_sortPart_0 4 rfl
theorem dL_sortPart_6 : decode cL_sortPart 6 = .ok (.iload 4, 2) := dget dkL_sortPart_0 5 rfl
theorem dL_sortPart_8 : decode cL_sortPart 8 = .ok (.invokevirtual 53, 3) := dget dkL_sortPart_0 6 rfl
theorem dL_sortPart_11 : decode cL_sortPart 11 = .ok (.i2l, 1) := dget dkL_sortPart_0 7 rfl
theorem dL_sortPart_12 : decode cL_sortPart 12 = .ok (.putfield 13, 3) := dget dkL_sortPart_0 8 rfl
theorem dL_sortPart_15 : decode cL_sortPart 15 = .ok (.goto 11, 3) := dget dkL_sortPart_0 9 rfl
theorem dL_sortPart_18 : decode cL_sortPart 18 = .ok (.astore 6, 2) := dget dkL_sortPart_0 10 rfl
theorem dL_sortPart_20 : decode cL_sortPart 20 = .ok (.iconst 1, 1) := dget dkL_sortPart_0 11 rfl
theorem dL_sortPart_21 : decode cL_sortPart 21 = .ok (.ireturn, 1) := dget dkL_sortPart_0 12 rfl
theorem dL_sortPart_22 : decode cL_sortPart 22 = .ok (.astore 6, 2) := dget dkL_sortPart_0 13 rfl
theorem dL_sortPart_24 : decode cL_sortPart 24 = .ok (.iconst 2, 1) := dget dkL_sortPart_0 14 rfl
theorem dL_sortPart_25 : decode cL_sortPart 25 = .ok (.ireturn, 1) := dget dkL_sortPart_0 15 rfl
theorem dL_sortPart_26 : decode cL_sortPart 26 = .ok (.iconst 0, 1) := dget dkL_sortPart_0 16 rfl
theorem dL_sortPart_27 : decode cL_sortPart 27 = .ok (.ireturn, 1) := dget dkL_sortPart_0 17 rfl
theorem dkL_isSorted_0 : ([(0, (.aload_n 3, 1)), (1, (.aload_n 0, 1)), (2, (.iload_n 1, 1)), (3, (.iload_n 2, 1)), (4, (.invokevirtual 56, 3)), (7, (.ifCond .eq 7, 3)), (10, (.lconst 1, 1)), (11, (.goto 4, 3)), (14, (.lconst 0, 1)), (15, (.putfield 13, 3)), (18, (.goto 7, 3)), (21, (.astore 4, 2)), (23, (.iconst 1, 1)), (24, (.ireturn, 1)), (25, (.iconst 0, 1)), (26, (.ireturn, 1))] : List (Nat × (Jvm.ClassFile.Instr × Nat))).all (dcB cL_isSorted) = true := by decide +kernel
theorem dL_isSorted_0 : decode cL_isSorted 0 = .ok (.aload_n 3, 1) := dget dkL_isSorted_0 0 rfl
theorem dL_isSorted_1 : decode cL_isSorted 1 = .ok (.aload_n 0, 1) := dget dkL_isSorted_0 1 rfl
theorem dL_isSorted_2 : decode cL_isSorted 2 = .ok (.iload_n 1, 1) := dget dkL_isSorted_0 2 rfl
theorem dL_isSorted_3 : decode cL_isSorted 3 = .ok (.iload_n 2, 1) := dget dkL_isSorted_0 3 rfl
theorem dL_isSorted_4 : decode cL_isSorted 4 = .ok (.invokevirtual 56, 3) := dget dkL_isSorted_0 4 rfl
theorem dL_isSorted_7 : decode cL_isSorted 7 = .ok (.ifCond .eq 7, 3) := dget dkL_isSorted_0 5 rfl
theorem dL_isSorted_10 : decode cL_isSorted 10 = .ok (.lconst 1, 1) := dget dkL_isSorted_0 6 rfl
theorem dL_isSorted_11 : decode cL_isSorted 11 = .ok (.goto 4, 3) := dget dkL_isSorted_0 7 rfl
theorem dL_isSorted_14 : decode cL_isSorted 14 = .ok (.lconst 0, 1) := dget dkL_isSorted_0 8 rfl
theorem dL_isSorted_15 : decode cL_isSorted 15 = .ok (.putfield 13, 3) := dget dkL_isSorted_0 9 rfl
theorem dL_isSorted_18 : decode cL_isSorted 18 = .ok (.goto 7, 3) := dget dkL_isSorted_0 10 rfl
theorem dL_isSorted_21 : decode cL_isSorted 21 = .ok (.astore 4, 2) := dget dkL_isSorted_0 11 rfl
theorem dL_isSorted_23 : decode cL_isSorted 23 = .ok (.iconst 1, 1) := dget dkL_isSorted_0 12 rfl
theorem dL_isSorted_24 : decode cL_isSorted 24 = .ok (.ireturn, 1) := dget dkL_isSorted_0 13 rfl
theorem dL_isSorted_25 : decode cL_isSorted 25 = .ok (.iconst 0, 1) := dget dkL_isSorted_0 14 rfl
theorem dL_isSorted_26 : decode cL_isSorted 26 = .ok (.ireturn, 1) := dget dkL_isSorted_0 15 rfl
theorem dkL_size_0 : ([(0, (.aload_n 2, 1)), (1, (.aload_n 0, 1)), (2, (.iload_n 1, 1)), (3, (.invokevirtual 60, 3)), (6, (.i2l, 1)), (7, (.putfield 13, 3)), (10, (.goto 6, 3)), (13, (.astore_n 3, 1)), (14, (.iconst 1, 1)), (15, (.ireturn, 1)), (16, (.iconst 0, 1)), (17, (.ireturn, 1))] : List (Nat × (Jvm.ClassFile.Instr × Nat))).all (dcB cL_size) = true := by decide +kernel
theorem dL_size_0 : decode cL_size 0 = .ok (.aload_n 2, 1) := dget dkL_size_0 0 rfl
theorem dL_size_1 : decode cL_size 1 = .ok (.aload_n 0, 1) := dget dkL_size_0 1 rfl
theorem dL_size_2 : decode cL_size 2 = .ok (.iload_n 1, 1) := dget dkL_size_0 2 rfl
theorem dL_size_3 : decode cL_size 3 = .ok (.invokevirtual 60, 3) := dget dkL_size_0 3 rfl
theorem dL_size_6 : decode cL_size 6 = .ok (.i2l, 1) := dget dkL_size_0 4 rfl
theorem dL_size_7 : decode cL_size 7 = .ok (.putfield 13, 3) := dget dkL_size_0 5 rfl
theorem dL_size_10 : decode cL_size 10 = .ok (.goto 6, 3) := dget dkL_size_0 6 rfl
theorem dL_size_13 : decode cL_size 13 = .ok (.astore_n 3, 1) := dget dkL_size_0 7 rfl
theorem dL_size_14 : decode cL_size 14 = .ok (.iconst 1, 1) := dget dkL_size_0 8 rfl
theorem dL_size_15 : decode cL_size 15 = .ok (.ireturn, 1) := dget dkL_size_0 9 rfl
theorem dL_size_16 : decode cL_size 16 = .ok (.iconst 0, 1) := dget dkL_size_0 10 rfl
theorem dL_size_17 : decode cL_size 17 = .ok (.ireturn, 1) := dget dkL_size_0 11 rfl
theorem dkL_valueAt_0 : ([(0, (.aload_n 3, 1)), (1, (.aload_n 0, 1)), (2, (.iload_n 1, 1)), (3, (.iload_n 2, 1)), (4, (.invokevirtual 63, 3)), (7, (.i2l, 1)), (8, (.putfield 13, 3)), (11, (.goto 7, 3)), (14, (.astore 4, 2)), (16, (.iconst 1, 1)), (17, (.ireturn, 1)), (18, (.iconst 0, 1)), (19, (.ireturn, 1))] : List (Nat × (Jvm.ClassFile.Instr × Nat))).all (dcB cL_valueAt) = true := by decide +kernel
theorem dL_valueAt_0 : decode cL_valueAt 0 = .ok (.aload_n 3, 1) := dget dkL_valueAt_0 0 rfl
theorem dL_valueAt_1 : decode cL_valueAt 1 = .ok (.aload_n 0, 1) := dget dkL_valueAt_0 1 rfl
theorem dL_valueAt_2 : decode cL_valueAt 2 = .ok (.iload_n 1, 1) := dget dkL_valueAt_0 2 rfl
theorem dL_valueAt_3 : decode cL_valueAt 3 = .ok (.iload_n 2, 1) := dget dkL_valueAt_0 3 rfl
theorem dL_valueAt_4 : decode cL_valueAt 4 = .ok (.invokevirtual 63, 3) := dget dkL_valueAt_0 4 rfl
theorem dL_valueAt_7 : decode cL_valueAt 7 = .ok (.i2l, 1) := dget dkL_valueAt_0 5 rfl
theorem dL_valueAt_8 : decode cL_valueAt 8 = .ok (.putfield 13, 3) := dget dkL_valueAt_0 6 rfl
theorem dL_valueAt_11 : decode cL_valueAt 11 = .ok (.goto 7, 3) := dget dkL_valueAt_0 7 rfl
theorem dL_valueAt_14 : decode cL_valueAt 14 = .ok (.astore 4, 2) := dget dkL_valueAt_0 8 rfl
theorem dL_valueAt_16 : decode cL_valueAt 16 = .ok (.iconst 1, 1) := dget dkL_valueAt_0 9 rfl
theorem dL_valueAt_17 : decode cL_valueAt 17 = .ok (.ireturn, 1) := dget dkL_valueAt_0 10 rfl
theorem dL_valueAt_18 : decode cL_valueAt 18 = .ok (.iconst 0, 1) := dget dkL_valueAt_0 11 rfl
theorem dL_valueAt_19 : decode cL_valueAt 19 = .ok (.ireturn, 1) := dget dkL_valueAt_0 12 rfl
theorem dkL_markAt_0 : ([(0, (.aload_n 3, 1)), (1, (.aload_n 0, 1)), (2, (.iload_n 1, 1)), (3, (.iload_n 2, 1)), (4, (.invokevirtual 66, 3)), (7, (.i2l, 1)), (8, (.putfield 13, 3)), (11, (.goto 7, 3)), (14, (.astore 4, 2)), (16, (.iconst 1, 1)), (17, (.ireturn, 1)), (18, (.iconst 0, 1)), (19, (.ireturn, 1))] : List (Nat × (Jvm.ClassFile.Instr × Nat))).all (dcB cL_markAt) = true := by decide +kernel
theorem dL_markAt_0 : decode cL_markAt 0 = .ok (.aload_n 3, 1) := dget dkL_markAt_0 0 rfl
theorem dL_markAt_1 : decode cL_markAt 1 = .ok (.aload_n 0, 1) := dget dkL_markAt_0 1 rfl
theorem dL_markAt_2 : decode cL_markAt 2 = .ok (.iload_n 1, 1) := dget dkL_markAt_0 2 rfl
theorem dL_markAt_3 : decode cL_markAt 3 = .ok (.iload_n 2, 1) := dget dkL_markAt_0 3 rfl
theorem dL_markAt_4 : decode cL_markAt 4 = .ok (.invokevirtual 66, 3) := dget dkL_markAt_0 4 rfl
theorem dL_markAt_7 : decode cL_markAt 7 = .ok (.i2l, 1) := dget dkL_markAt_0 5 rfl
theorem dL_markAt_8 : decode cL_markAt 8 = .ok (.putfield 13, 3) := dget dkL_markAt_0 6 rfl
theorem dL_markAt_11 : decode cL_markAt 11 = .ok (.goto 7, 3) := dget dkL_markAt_0 7 rfl
theorem dL_markAt_14 : decode cL_markAt 14 = .ok (.astore 4, 2) := dget dkL_markAt_0 8 rfl
theorem dL_markAt_16 : decode cL_markAt 16 = .ok (.iconst 1, 1) := dget dkL_markAt_0 9 rfl
theorem dL_markAt_17 : decode cL_markAt 17 = .ok (.ireturn, 1) := dget dkL_markAt_0 10 rfl
theorem dL_markAt_18 : decode cL_markAt 18 = .ok (.iconst 0, 1) := dget dkL_markAt_0 11 rfl
theorem dL_markAt_19 : decode cL_markAt 19 = .ok (.ireturn, 1) := dget dkL_markAt_0 12 rfl
theorem dkL_text_0 : ([(0, (.aload_n 2, 1)), (1, (.aload_n 0, 1)), (2, (.iload_n 1, 1)), (3, (.invokevirtual 69, 3)), (6, (.putfield 73, 3)), (9, (.goto 6, 3)), (12, (.astore_n 3, 1)), (13, (.iconst 1, 1)), (14, (.ireturn, 1)), (15, (.iconst 0, 1)), (16, (.ireturn, 1))] : List (Nat × (Jvm.ClassFile.Instr × Nat))).all (dcB cL_text) = true := by decide +kernel
theorem dL_text_0 : decode cL_text 0 = .ok (.aload_n 2, 1) := dget dkL_text_0 0 rfl
theorem dL_text_1 : decode cL_text 1 = .ok (.aload_n 0, 1) := dget dkL_text_0 1 rfl
theorem dL_text_2 : decode cL_text 2 = .ok (.iload_n 1, 1) := dget dkL_text_0 2 rfl
theorem dL_text_3 : decode cL_text 3 = .ok (.invokevirtual 69, 3) := dget dkL_text_0 3 rfl
theorem dL_text_6 : decode cL_text 6 = .ok (.putfield 73, 3) := dget dkL_text_0 4 rfl
theorem dL_text_9 : decode cL_text 9 = .ok (.goto 6, 3) := dget dkL_text_0 5 rfl
theorem dL_text_12 : decode cL_text 12 = .ok (.astore_n 3, 1) := dget dkL_text_0 6 rfl
theorem dL_text_13 : decode cL_text 13 = .ok (.iconst 1, 1) := dget dkL_text_0 7 rfl
theorem dL_text_14 : decode cL_text 14 = .ok (.ireturn, 1) := dget dkL_text_0 8 rfl
theorem dL_text_15 : decode cL_text 15 = .ok (.iconst 0, 1) := dget dkL_text_0 9 rfl
theorem dL_text_16 : decode cL_text 16 = .ok (.ireturn, 1) := dget dkL_text_0 10 rfl
theorem dkL_extreme_0 : ([(0, (.aload 4, 2)), (2, (.aload_n 0, 1)), (3, (.iload_n 1, 1)), (4, (.iload_n 2, 1)), (5, (.iload_n 3, 1)), (6, (.invokevirtual 77, 3)), (9, (.i2l, 1)), (10, (.putfield 13, 3)), (13, (.goto 7, 3)), (16, (.astore 5, 2)), (18, (.iconst 1, 1)), (19, (.ireturn, 1)), (20, (.iconst 0, 1)), (21, (.ireturn, 1))] : List (Nat × (Jvm.ClassFile.Instr × Nat))).all (dcB cL_extreme) = true := by decide +kernel
theorem dL_extreme_0 : decode cL_extreme 0 = .ok (.aload 4, 2) := dget dkL_extreme_0 0 rfl
theorem dL_extreme_2 : decode cL_extreme 2 = .ok (.aload_n 0, 1) := dget dkL_extreme_0 1 rfl
theorem dL_extreme_3 : decode cL_extreme 3 = .ok (.iload_n 1, 1) := dget dkL_extreme_0 2 rfl
theorem dL_extreme_4 : decode cL_extreme 4 = .ok (.iload_n 2, 1) := dget dkL_extreme_0 3 rfl
theorem dL_extreme_5 : decode cL_extreme 5 = .ok (.iload_n 3, 1) := dget dkL_extreme_0 4 rfl
theorem dL_extreme_6 : decode cL_extreme 6 = .ok (.invokevirtual 77, 3) := dget dkL_extreme_0 5 rfl
theorem dL_extreme_9 : decode cL_extreme 9 = .ok (.i2l, 1) := dget dkL_extreme_0 6 rfl
theorem dL_extreme_10 : decode cL_extreme 10 = .ok (.putfield 13, 3) := dget dkL_extreme_0 7 rfl
theorem dL_extreme_13 : decode cL_extreme 13 = .ok (.goto 7, 3) := dget dkL_extreme_0 8 rfl
theorem dL_extreme_16 : decode cL_extreme 16 = .ok (.astore 5, 2) := dget dkL_extreme_0 9 rfl
theorem dL_extreme_18 : decode cL_extreme 18 = .ok (.iconst 1, 1) := dget dkL_extreme_0 10 rfl
theorem dL_extreme_19 : decode cL_extreme 19 = .ok (.ireturn, 1) := dget dkL_extreme_0 11 rfl
theorem dL_extreme_20 : decode cL_extreme 20 = .ok (.iconst 0, 1) := dget dkL_extreme_0 12 rfl
theorem dL_extreme_21 : decode cL_extreme 21 = .ok (.ireturn, 1) := dget dkL_extreme_0 13 rfl
theorem dkL_search_0 : ([(0, (.aload 4, 2)), (2, (.aload_n 0, 1)), (3, (.iload_n 1, 1)), (4, (.iload_n 2, 1)), (5, (.iload_n 3, 1)), (6, (.invokevirtual 81, 3)), (9, (.i2l, 1)), (10, (.putfield 13, 3)), (13, (.goto 11, 3)), (16, (.astore 5, 2)), (18, (.iconst 1, 1)), (19, (.ireturn, 1)), (20, (.astore 5, 2)), (22, (.iconst 2, 1)), (23, (.ireturn, 1)), (24, (.iconst 0, 1)), (25, (.ireturn, 1))] : List (Nat × (Jvm.ClassFile.Instr × Nat))).all (dcB cL_search) = true := by decide +kernel
theorem dL_search_0 : decode cL_search 0 = .ok (.aload 4, 2) := dget dkL_search_0 0 rfl
theorem dL_search_2 : decode cL_search 2 = .ok (.aload_n 0, 1) := dget dkL_search_0 1 rfl
theorem dL_search_3 : decode cL_search 3 = .ok (.iload_n 1, 1) := dget dkL_search_0 2 rfl
theorem dL_search_4 : decode cL_search 4 = .ok (.iload_n 2, 1) := dget dkL_search_0 3 rfl
theorem dL_search_5 : decode cL_search 5 = .ok (.iload_n 3, 1) := dget dkL_search_0 4 rfl
theorem dL_search_6 : decode cL_search 6 = .ok (.invokevirtual 81, 3) := dget dkL_search_0 5 rfl
theorem dL_search_9 : decode cL_search 9 = .ok (.i2l, 1) := dget dkL_search_0 6 rfl
theorem dL_search_10 : decode cL_search 10 = .ok (.putfield 13, 3) := dget dkL_search_0 7 rfl
theorem dL_search_13 : decode cL_search 13 = .ok (.goto 11, 3) := dget dkL_search_0 8 rfl
theorem dL_search_16 : decode cL_search 16 = .ok (.astore 5, 2) := dget dkL_search_0 9 rfl
theorem dL_search_18 : decode cL_search 18 = .ok (.iconst 1, 1) := dget dkL_search_0 10 rfl
theorem dL_search_19 : decode cL_search 19 = .ok (.ireturn, 1) := dget dkL_search_0 11 rfl
theorem dL_search_20 : decode cL_search 20 = .ok (.astore 5, 2) := dget dkL_search_0 12 rfl
theorem dL_search_22 : decode cL_search 22 = .ok (.iconst 2, 1) := dget dkL_search_0 13 rfl
theorem dL_search_23 : decode cL_search 23 = .ok (.ireturn, 1) := dget dkL_search_0 14 rfl
theorem dL_search_24 : decode cL_search 24 = .ok (.iconst 0, 1) := dget dkL_search_0 15 rfl
theorem dL_search_25 : decode cL_search 25 = .ok (.ireturn, 1) := dget dkL_search_0 16 rfl
theorem dkL_near_0 : ([(0, (.aload 5, 2)), (2, (.aload_n 0, 1)), (3, (.iload_n 1, 1)), (4, (.iload_n 2, 1)), (5, (.iload_n 3, 1)), (6, (.iload 4, 2)), (8, (.invokevirtual 84, 3)), (11, (.i2l, 1)), (12, (.putfield 13, 3)), (15, (.goto 11, 3)), (18, (.astore 6, 2)), (20, (.iconst 1, 1)), (21, (.ireturn, 1)), (22, (.astore 6, 2)), (24, (.iconst 2, 1)), (25, (.ireturn, 1)), (26, (.iconst 0, 1)), (27, (.ireturn, 1))] : List (Nat × (Jvm.ClassFile.Instr × Nat))).all (dcB cL_near) = true := by decide +kernel
theorem dL_near_0 : decode cL_near 0 = .ok (.aload 5, 2) := dget dkL_near_0 0 rfl
theorem dL_near_2 : decode cL_near 2 = .ok (.aload_n 0, 1) := dget dkL_near_0 1 rfl
theorem dL_near_3 : decode cL_near 3 = .ok (.iload_n 1, 1) := dget dkL_near_0 2 rfl
theorem dL_near_4 : decode cL_near 4 = .ok (.iload_n 2, 1) := dget dkL_near_0 3 rfl
theorem dL_near_5 : decode cL_near 5 = .ok (.iload_n 3, 1) := dget dkL_near_0 4 rfl
theorem dL_near_6 : decode cL_near 6 = .ok (.iload 4, 2) := dget dkL_near_0 5 rfl
theorem dL_near_8 : decode cL_near 8 = .ok (.invokevirtual 84, 3) := dget dkL_near_0 6 rfl
theorem dL_near_11 : decode cL_near 11 = .ok (.i2l, 1) := dget dkL_near_0 7 rfl
theorem dL_near_12 : decode cL_near 12 = .ok (.putfield 13, 3) := dget dkL_near_0 8 rfl
theorem dL_near_15 : decode cL_near 15 = .ok (.goto 11, 3) := dget dkL_near_0 9 rfl
theorem dL_near_18 : decode cL_near 18 = .ok (.astore 6, 2) := dget dkL_near_0 10 rfl
theorem dL_near_20 : decode cL_near 20 = .ok (.iconst 1, 1) := dget dkL_near_0 11 rfl
theorem dL_near_21 : decode cL_near 21 = .ok (.ireturn, 1) := dget dkL_near_0 12 rfl
theorem dL_near_22 : decode cL_near 22 = .ok (.astore 6, 2) := dget dkL_near_0 13 rfl
theorem dL_near_24 : decode cL_near 24 = .ok (.iconst 2, 1) := dget dkL_near_0 14 rfl
theorem dL_near_25 : decode cL_near 25 = .ok (.ireturn, 1) := dget dkL_near_0 15 rfl
theorem dL_near_26 : decode cL_near 26 = .ok (.iconst 0, 1) := dget dkL_near_0 16 rfl
theorem dL_near_27 : decode cL_near 27 = .ok (.ireturn, 1) := dget dkL_near_0 17 rfl
theorem dkL_kinds_0 : ([(0, (.aload_n 3, 1)), (1, (.aload_n 0, 1)), (2, (.iload_n 1, 1)), (3, (.iload_n 2, 1)), (4, (.invokevirtual 87, 3)), (7, (.i2l, 1)), (8, (.putfield 13, 3)), (11, (.goto 7, 3)), (14, (.astore 4, 2)), (16, (.iconst 1, 1)), (17, (.ireturn, 1)), (18, (.iconst 0, 1)), (19, (.ireturn, 1))] : List (Nat × (Jvm.ClassFile.Instr × Nat))).all (dcB cL_kinds) = true := by decide +kernel
theorem dL_kinds_0 : decode cL_kinds 0 = .ok (.aload_n 3, 1) := dget dkL_kinds_0 0 rfl
theorem dL_kinds_1 : decode cL_kinds 1 = .ok (.aload_n 0, 1) := dget dkL_kinds_0 1 rfl
theorem dL_kinds_2 : decode cL_kinds 2 = .ok (.iload_n 1, 1) := dget dkL_kinds_0 2 rfl
theorem dL_kinds_3 : decode cL_kinds 3 = .ok (.iload_n 2, 1) := dget dkL_kinds_0 3 rfl
theorem dL_kinds_4 : decode cL_kinds 4 = .ok (.invokevirtual 87, 3) := dget dkL_kinds_0 4 rfl
theorem dL_kinds_7 : decode cL_kinds 7 = .ok (.i2l, 1) := dget dkL_kinds_0 5 rfl
theorem dL_kinds_8 : decode cL_kinds 8 = .ok (.putfield 13, 3) := dget dkL_kinds_0 6 rfl
theorem dL_kinds_11 : decode cL_kinds 11 = .ok (.goto 7, 3) := dget dkL_kinds_0 7 rfl
theorem dL_kinds_14 : decode cL_kinds 14 = .ok (.astore 4, 2) := dget dkL_kinds_0 8 rfl
theorem dL_kinds_16 : decode cL_kinds 16 = .ok (.iconst 1, 1) := dget dkL_kinds_0 9 rfl
theorem dL_kinds_17 : decode cL_kinds 17 = .ok (.ireturn, 1) := dget dkL_kinds_0 10 rfl
theorem dL_kinds_18 : decode cL_kinds 18 = .ok (.iconst 0, 1) := dget dkL_kinds_0 11 rfl
theorem dL_kinds_19 : decode cL_kinds 19 = .ok (.ireturn, 1) := dget dkL_kinds_0 12 rfl
theorem dkL_ahead_0 : ([(0, (.aload 4, 2)), (2, (.aload_n 0, 1)), (3, (.iload_n 1, 1)), (4, (.iload_n 2, 1)), (5, (.iload_n 3, 1)), (6, (.invokevirtual 90, 3)), (9, (.i2l, 1)), (10, (.putfield 13, 3)), (13, (.goto 11, 3)), (16, (.astore 5, 2)), (18, (.iconst 1, 1)), (19, (.ireturn, 1)), (20, (.astore 5, 2)), (22, (.iconst 2, 1)), (23, (.ireturn, 1)), (24, (.iconst 0, 1)), (25, (.ireturn, 1))] : List (Nat × (Jvm.ClassFile.Instr × Nat))).all (dcB cL_ahead) = true := by decide +kernel
theorem dL_ahead_0 : decode cL_ahead 0 = .ok (.aload 4, 2) := dget dkL_ahead_0 0 rfl
theorem dL_ahead_2 : decode cL_ahead 2 = .ok (.aload_n 0, 1) := dget dkL_ahead_0 1 rfl
theorem dL_ahead_3 : decode cL_ahead 3 = .ok (.iload_n 1, 1) := dget dkL_ahead_0 2 rfl
theorem dL_ahead_4 : decode cL_ahead 4 = .ok (.iload_n 2, 1) := dget dkL_ahead_0 3 rfl
theorem dL_ahead_5 : decode cL_ahead 5 = .ok (.iload_n 3, 1) := dget dkL_ahead_0 4 rfl
theorem dL_ahead_6 : decode cL_ahead 6 = .ok (.invokevirtual 90, 3) := dget dkL_ahead_0 5 rfl
theorem dL_ahead_9 : decode cL_ahead 9 = .ok (.i2l, 1) := dget dkL_ahead_0 6 rfl
theorem dL_ahead_10 : decode cL_ahead 10 = .ok (.putfield 13, 3) := dget dkL_ahead_0 7 rfl
theorem dL_ahead_13 : decode cL_ahead 13 = .ok (.goto 11, 3) := dget dkL_ahead_0 8 rfl
theorem dL_ahead_16 : decode cL_ahead 16 = .ok (.astore 5, 2) := dget dkL_ahead_0 9 rfl
theorem dL_ahead_18 : decode cL_ahead 18 = .ok (.iconst 1, 1) := dget dkL_ahead_0 10 rfl
theorem dL_ahead_19 : decode cL_ahead 19 = .ok (.ireturn, 1) := dget dkL_ahead_0 11 rfl
theorem dL_ahead_20 : decode cL_ahead 20 = .ok (.astore 5, 2) := dget dkL_ahead_0 12 rfl
theorem dL_ahead_22 : decode cL_ahead 22 = .ok (.iconst 2, 1) := dget dkL_ahead_0 13 rfl
theorem dL_ahead_23 : decode cL_ahead 23 = .ok (.ireturn, 1) := dget dkL_ahead_0 14 rfl
theorem dL_ahead_24 : decode cL_ahead 24 = .ok (.iconst 0, 1) := dget dkL_ahead_0 15 rfl
theorem dL_ahead_25 : decode cL_ahead 25 = .ok (.ireturn, 1) := dget dkL_ahead_0 16 rfl
theorem dkL_groups_0 : ([(0, (.aload_n 3, 1)), (1, (.aload_n 0, 1)), (2, (.iload_n 1, 1)), (3, (.iload_n 2, 1)), (4, (.invokevirtual 93, 3)), (7, (.putfield 73, 3)), (10, (.goto 7, 3)), (13, (.astore 4, 2)), (15, (.iconst 1, 1)), (16, (.ireturn, 1)), (17, (.iconst 0, 1)), (18, (.ireturn, 1))] : List (Nat × (Jvm.ClassFile.Instr × Nat))).all (dcB cL_groups) = true := by decide +kernel
theorem dL_groups_0 : decode cL_groups 0 = .ok (.aload_n 3, 1) := dget dkL_groups_0 0 rfl
theorem dL_groups_1 : decode cL_groups 1 = .ok (.aload_n 0, 1) := dget dkL_groups_0 1 rfl
theorem dL_groups_2 : decode cL_groups 2 = .ok (.iload_n 1, 1) := dget dkL_groups_0 2 rfl
theorem dL_groups_3 : decode cL_groups 3 = .ok (.iload_n 2, 1) := dget dkL_groups_0 3 rfl
theorem dL_groups_4 : decode cL_groups 4 = .ok (.invokevirtual 93, 3) := dget dkL_groups_0 4 rfl
theorem dL_groups_7 : decode cL_groups 7 = .ok (.putfield 73, 3) := dget dkL_groups_0 5 rfl
theorem dL_groups_10 : decode cL_groups 10 = .ok (.goto 7, 3) := dget dkL_groups_0 6 rfl
theorem dL_groups_13 : decode cL_groups 13 = .ok (.astore 4, 2) := dget dkL_groups_0 7 rfl
theorem dL_groups_15 : decode cL_groups 15 = .ok (.iconst 1, 1) := dget dkL_groups_0 8 rfl
theorem dL_groups_16 : decode cL_groups 16 = .ok (.ireturn, 1) := dget dkL_groups_0 9 rfl
theorem dL_groups_17 : decode cL_groups 17 = .ok (.iconst 0, 1) := dget dkL_groups_0 10 rfl
theorem dL_groups_18 : decode cL_groups 18 = .ok (.ireturn, 1) := dget dkL_groups_0 11 rfl
theorem dkL_ranks_0 : ([(0, (.aload 4, 2)), (2, (.aload_n 0, 1)), (3, (.iload_n 1, 1)), (4, (.iload_n 2, 1)), (5, (.iload_n 3, 1)), (6, (.invokevirtual 97, 3)), (9, (.putfield 73, 3)), (12, (.goto 7, 3)), (15, (.astore 5, 2)), (17, (.iconst 1, 1)), (18, (.ireturn, 1)), (19, (.iconst 0, 1)), (20, (.ireturn, 1))] : List (Nat × (Jvm.ClassFile.Instr × Nat))).all (dcB cL_ranks) = true := by decide +kernel
theorem dL_ranks_0 : decode cL_ranks 0 = .ok (.aload 4, 2) := dget dkL_ranks_0 0 rfl
theorem dL_ranks_2 : decode cL_ranks 2 = .ok (.aload_n 0, 1) := dget dkL_ranks_0 1 rfl
theorem dL_ranks_3 : decode cL_ranks 3 = .ok (.iload_n 1, 1) := dget dkL_ranks_0 2 rfl
theorem dL_ranks_4 : decode cL_ranks 4 = .ok (.iload_n 2, 1) := dget dkL_ranks_0 3 rfl
theorem dL_ranks_5 : decode cL_ranks 5 = .ok (.iload_n 3, 1) := dget dkL_ranks_0 4 rfl
theorem dL_ranks_6 : decode cL_ranks 6 = .ok (.invokevirtual 97, 3) := dget dkL_ranks_0 5 rfl
theorem dL_ranks_9 : decode cL_ranks 9 = .ok (.putfield 73, 3) := dget dkL_ranks_0 6 rfl
theorem dL_ranks_12 : decode cL_ranks 12 = .ok (.goto 7, 3) := dget dkL_ranks_0 7 rfl
theorem dL_ranks_15 : decode cL_ranks 15 = .ok (.astore 5, 2) := dget dkL_ranks_0 8 rfl
theorem dL_ranks_17 : decode cL_ranks 17 = .ok (.iconst 1, 1) := dget dkL_ranks_0 9 rfl
theorem dL_ranks_18 : decode cL_ranks 18 = .ok (.ireturn, 1) := dget dkL_ranks_0 10 rfl
theorem dL_ranks_19 : decode cL_ranks 19 = .ok (.iconst 0, 1) := dget dkL_ranks_0 11 rfl
theorem dL_ranks_20 : decode cL_ranks 20 = .ok (.ireturn, 1) := dget dkL_ranks_0 12 rfl
theorem dkL_step_0 : ([(0, (.aload 4, 2)), (2, (.aload_n 0, 1)), (3, (.iload_n 1, 1)), (4, (.iload_n 2, 1)), (5, (.iload_n 3, 1)), (6, (.invokevirtual 101, 3)), (9, (.i2l, 1)), (10, (.putfield 13, 3)), (13, (.goto 11, 3)), (16, (.astore 5, 2)), (18, (.iconst 1, 1)), (19, (.ireturn, 1)), (20, (.astore 5, 2)), (22, (.iconst 2, 1)), (23, (.ireturn, 1)), (24, (.iconst 0, 1)), (25, (.ireturn, 1))] : List (Nat × (Jvm.ClassFile.Instr × Nat))).all (dcB cL_step) = true := by decide +kernel
theorem dL_step_0 : decode cL_step 0 = .ok (.aload 4, 2) := dget dkL_step_0 0 rfl
theorem dL_step_2 : decode cL_step 2 = .ok (.aload_n 0, 1) := dget dkL_step_0 1 rfl
theorem dL_step_3 : decode cL_step 3 = .ok (.iload_n 1, 1) := dget dkL_step_0 2 rfl
theorem dL_step_4 : decode cL_step 4 = .ok (.iload_n 2, 1) := dget dkL_step_0 3 rfl
theorem dL_step_5 : decode cL_step 5 = .ok (.iload_n 3, 1) := dget dkL_step_0 4 rfl
theorem dL_step_6 : decode cL_step 6 = .ok (.invokevirtual 101, 3) := dget dkL_step_0 5 rfl
theorem dL_step_9 : decode cL_step 9 = .ok (.i2l, 1) := dget dkL_step_0 6 rfl
theorem dL_step_10 : decode cL_step 10 = .ok (.putfield 13, 3) := dget dkL_step_0 7 rfl
theorem dL_step_13 : decode cL_step 13 = .ok (.goto 11, 3) := dget dkL_step_0 8 rfl
theorem dL_step_16 : decode cL_step 16 = .ok (.astore 5, 2) := dget dkL_step_0 9 rfl
theorem dL_step_18 : decode cL_step 18 = .ok (.iconst 1, 1) := dget dkL_step_0 10 rfl
theorem dL_step_19 : decode cL_step 19 = .ok (.ireturn, 1) := dget dkL_step_0 11 rfl
theorem dL_step_20 : decode cL_step 20 = .ok (.astore 5, 2) := dget dkL_step_0 12 rfl
theorem dL_step_22 : decode cL_step 22 = .ok (.iconst 2, 1) := dget dkL_step_0 13 rfl
theorem dL_step_23 : decode cL_step 23 = .ok (.ireturn, 1) := dget dkL_step_0 14 rfl
theorem dL_step_24 : decode cL_step 24 = .ok (.iconst 0, 1) := dget dkL_step_0 15 rfl
theorem dL_step_25 : decode cL_step 25 = .ok (.ireturn, 1) := dget dkL_step_0 16 rfl
theorem dkL_unstep_0 : ([(0, (.aload_n 2, 1)), (1, (.aload_n 0, 1)), (2, (.iload_n 1, 1)), (3, (.invokevirtual 104, 3)), (6, (.i2l, 1)), (7, (.putfield 13, 3)), (10, (.goto 6, 3)), (13, (.astore_n 3, 1)), (14, (.iconst 1, 1)), (15, (.ireturn, 1)), (16, (.iconst 0, 1)), (17, (.ireturn, 1))] : List (Nat × (Jvm.ClassFile.Instr × Nat))).all (dcB cL_unstep) = true := by decide +kernel
theorem dL_unstep_0 : decode cL_unstep 0 = .ok (.aload_n 2, 1) := dget dkL_unstep_0 0 rfl
theorem dL_unstep_1 : decode cL_unstep 1 = .ok (.aload_n 0, 1) := dget dkL_unstep_0 1 rfl
theorem dL_unstep_2 : decode cL_unstep 2 = .ok (.iload_n 1, 1) := dget dkL_unstep_0 2 rfl
theorem dL_unstep_3 : decode cL_unstep 3 = .ok (.invokevirtual 104, 3) := dget dkL_unstep_0 3 rfl
theorem dL_unstep_6 : decode cL_unstep 6 = .ok (.i2l, 1) := dget dkL_unstep_0 4 rfl
theorem dL_unstep_7 : decode cL_unstep 7 = .ok (.putfield 13, 3) := dget dkL_unstep_0 5 rfl
theorem dL_unstep_10 : decode cL_unstep 10 = .ok (.goto 6, 3) := dget dkL_unstep_0 6 rfl
theorem dL_unstep_13 : decode cL_unstep 13 = .ok (.astore_n 3, 1) := dget dkL_unstep_0 7 rfl
theorem dL_unstep_14 : decode cL_unstep 14 = .ok (.iconst 1, 1) := dget dkL_unstep_0 8 rfl
theorem dL_unstep_15 : decode cL_unstep 15 = .ok (.ireturn, 1) := dget dkL_unstep_0 9 rfl
theorem dL_unstep_16 : decode cL_unstep 16 = .ok (.iconst 0, 1) := dget dkL_unstep_0 10 rfl
theorem dL_unstep_17 : decode cL_unstep 17 = .ok (.ireturn, 1) := dget dkL_unstep_0 11 rfl
theorem dkL_wipe_0 : ([(0, (.aload_n 2, 1)), (1, (.aload_n 0, 1)), (2, (.iload_n 1, 1)), (3, (.invokevirtual 107, 3)), (6, (.i2l, 1)), (7, (.putfield 13, 3)), (10, (.goto 6, 3)), (13, (.astore_n 3, 1)), (14, (.iconst 1, 1)), (15, (.ireturn, 1)), (16, (.iconst 0, 1)), (17, (.ireturn, 1))] : List (Nat × (Jvm.ClassFile.Instr × Nat))).all (dcB cL_wipe) = true := by decide +kernel
theorem dL_wipe_0 : decode cL_wipe 0 = .ok (.aload_n 2, 1) := dget dkL_wipe_0 0 rfl
theorem dL_wipe_1 : decode cL_wipe 1 = .ok (.aload_n 0, 1) := dget dkL_wipe_0 1 rfl
theorem dL_wipe_2 : decode cL_wipe 2 = .ok (.iload_n 1, 1) := dget dkL_wipe_0 2 rfl
theorem dL_wipe_3 : decode cL_wipe 3 = .ok (.invokevirtual 107, 3) := dget dkL_wipe_0 3 rfl
theorem dL_wipe_6 : decode cL_wipe 6 = .ok (.i2l, 1) := dget dkL_wipe_0 4 rfl
theorem dL_wipe_7 : decode cL_wipe 7 = .ok (.putfield 13, 3) := dget dkL_wipe_0 5 rfl
theorem dL_wipe_10 : decode cL_wipe 10 = .ok (.goto 6, 3) := dget dkL_wipe_0 6 rfl
theorem dL_wipe_13 : decode cL_wipe 13 = .ok (.astore_n 3, 1) := dget dkL_wipe_0 7 rfl
theorem dL_wipe_14 : decode cL_wipe 14 = .ok (.iconst 1, 1) := dget dkL_wipe_0 8 rfl
theorem dL_wipe_15 : decode cL_wipe 15 = .ok (.ireturn, 1) := dget dkL_wipe_0 9 rfl
theorem dL_wipe_16 : decode cL_wipe 16 = .ok (.iconst 0, 1) := dget dkL_wipe_0 10 rfl
theorem dL_wipe_17 : decode cL_wipe 17 = .ok (.ireturn, 1) := dget dkL_wipe_0 11 rfl
theorem dkL_copyOrder_0 : ([(0, (.aload_n 3, 1)), (1, (.aload_n 0, 1)), (2, (.iload_n 1, 1)), (3, (.iload_n 2, 1)), (4, (.invokevirtual 110, 3)), (7, (.i2l, 1)), (8, (.putfield 13, 3)), (11, (.goto 7, 3)), (14, (.astore 4, 2)), (16, (.iconst 1, 1)), (17, (.ireturn, 1)), (18, (.iconst 0, 1)), (19, (.ireturn, 1))] : List (Nat × (Jvm.ClassFile.Instr × Nat))).all (dcB cL_copyOrder) = true := by decide +kernel
theorem dL_copyOrder_0 : decode cL_copyOrder 0 = .ok (.aload_n 3, 1) := dget dkL_copyOrder_0 0 rfl
theorem dL_copyOrder_1 : decode cL_copyOrder 1 = .ok (.aload_n 0, 1) := dget dkL_copyOrder_0 1 rfl
theorem dL_copyOrder_2 : decode cL_copyOrder 2 = .ok (.iload_n 1, 1) := dget dkL_copyOrder_0 2 rfl
theorem dL_copyOrder_3 : decode cL_copyOrder 3 = .ok (.iload_n 2, 1) := dget dkL_copyOrder_0 3 rfl
theorem dL_copyOrder_4 : decode cL_copyOrder 4 = .ok (.invokevirtual 110, 3) := dget dkL_copyOrder_0 4 rfl
theorem dL_copyOrder_7 : decode cL_copyOrder 7 = .ok (.i2l, 1) := dget dkL_copyOrder_0 5 rfl
theorem dL_copyOrder_8 : decode cL_copyOrder 8 = .ok (.putfield 13, 3) := dget dkL_copyOrder_0 6 rfl
theorem dL_copyOrder_11 : decode cL_copyOrder 11 = .ok (.goto 7, 3) := dget dkL_copyOrder_0 7 rfl
theorem dL_copyOrder_14 : decode cL_copyOrder 14 = .ok (.astore 4, 2) := dget dkL_copyOrder_0 8 rfl
theorem dL_copyOrder_16 : decode cL_copyOrder 16 = .ok (.iconst 1, 1) := dget dkL_copyOrder_0 9 rfl
theorem dL_copyOrder_17 : decode cL_copyOrder 17 = .ok (.ireturn, 1) := dget dkL_copyOrder_0 10 rfl
theorem dL_copyOrder_18 : decode cL_copyOrder 18 = .ok (.iconst 0, 1) := dget dkL_copyOrder_0 11 rfl
theorem dL_copyOrder_19 : decode cL_copyOrder 19 = .ok (.ireturn, 1) := dget dkL_copyOrder_0 12 rfl
theorem dkL_turn_0 : ([(0, (.aload_n 2, 1)), (1, (.aload_n 0, 1)), (2, (.iload_n 1, 1)), (3, (.invokevirtual 113, 3)), (6, (.i2l, 1)), (7, (.putfield 13, 3)), (10, (.goto 6, 3)), (13, (.astore_n 3, 1)), (14, (.iconst 1, 1)), (15, (.ireturn, 1)), (16, (.iconst 0, 1)), (17, (.ireturn, 1))] : List (Nat × (Jvm.ClassFile.Instr × Nat))).all (dcB cL_turn) = true := by decide +kernel
theorem dL_turn_0 : decode cL_turn 0 = .ok (.aload_n 2, 1) := dget dkL_turn_0 0 rfl
theorem dL_turn_1 : decode cL_turn 1 = .ok (.aload_n 0, 1) := dget dkL_turn_0 1 rfl
theorem dL_turn_2 : decode cL_turn 2 = .ok (.iload_n 1, 1) := dget dkL_turn_0 2 rfl
theorem dL_turn_3 : decode cL_turn 3 = .ok (.invokevirtual 113, 3) := dget dkL_turn_0 3 rfl
theorem dL_turn_6 : decode cL_turn 6 = .ok (.i2l, 1) := dget dkL_turn_0 4 rfl
theorem dL_turn_7 : decode cL_turn 7 = .ok (.putfield 13, 3) := dget dkL_turn_0 5 rfl
theorem dL_turn_10 : decode cL_turn 10 = .ok (.goto 6, 3) := dget dkL_turn_0 6 rfl
theorem dL_turn_13 : decode cL_turn 13 = .ok (.astore_n 3, 1) := dget dkL_turn_0 7 rfl
theorem dL_turn_14 : decode cL_turn 14 = .ok (.iconst 1, 1) := dget dkL_turn_0 8 rfl
theorem dL_turn_15 : decode cL_turn 15 = .ok (.ireturn, 1) := dget dkL_turn_0 9 rfl
theorem dL_turn_16 : decode cL_turn 16 = .ok (.iconst 0, 1) := dget dkL_turn_0 10 rfl
theorem dL_turn_17 : decode cL_turn 17 = .ok (.ireturn, 1) := dget dkL_turn_0 11 rfl
theorem dkL_product_0 : ([(0, (.aload 4, 2)), (2, (.aload_n 0, 1)), (3, (.iload_n 1, 1)), (4, (.iload_n 2, 1)), (5, (.iload_n 3, 1)), (6, (.invokevirtual 116, 3)), (9, (.i2l, 1)), (10, (.putfield 13, 3)), (13, (.goto 7, 3)), (16, (.astore 5, 2)), (18, (.iconst 1, 1)), (19, (.ireturn, 1)), (20, (.iconst 0, 1)), (21, (.ireturn, 1))] : List (Nat × (Jvm.ClassFile.Instr × Nat))).all (dcB cL_product) = true := by decide +kernel
theorem dL_product_0 : decode cL_product 0 = .ok (.aload 4, 2) := dget dkL_product_0 0 rfl
theorem dL_product_2 : decode cL_product 2 = .ok (.aload_n 0, 1) := dget dkL_product_0 1 rfl
theorem dL_product_3 : decode cL_product 3 = .ok (.iload_n 1, 1) := dget dkL_product_0 2 rfl
theorem dL_product_4 : decode cL_product 4 = .ok (.iload_n 2, 1) := dget dkL_product_0 3 rfl
theorem dL_product_5 : decode cL_product 5 = .ok (.iload_n 3, 1) := dget dkL_product_0 4 rfl
theorem dL_product_6 : decode cL_product 6 = .ok (.invokevirtual 116, 3) := dget dkL_product_0 5 rfl
theorem dL_product_9 : decode cL_product 9 = .ok (.i2l, 1) := dget dkL_product_0 6 rfl
theorem dL_product_10 : decode cL_product 10 = .ok (.putfield 13, 3) := dget dkL_product_0 7 rfl
theorem dL_product_13 : decode cL_product 13 = .ok (.goto 7, 3) := dget dkL_product_0 8 rfl
theorem dL_product_16 : decode cL_product 16 = .ok (.astore 5, 2) := dget dkL_product_0 9 rfl
theorem dL_product_18 : decode cL_product 18 = .ok (.iconst 1, 1) := dget dkL_product_0 10 rfl
theorem dL_product_19 : decode cL_product 19 = .ok (.ireturn, 1) := dget dkL_product_0 11 rfl
theorem dL_product_20 : decode cL_product 20 = .ok (.iconst 0, 1) := dget dkL_product_0 12 rfl
theorem dL_product_21 : decode cL_product 21 = .ok (.ireturn, 1) := dget dkL_product_0 13 rfl
theorem dkL_tellApart_0 : ([(0, (.aload 4, 2)), (2, (.aload_n 0, 1)), (3, (.iload_n 1, 1)), (4, (.iload_n 2, 1)), (5, (.iload_n 3, 1)), (6, (.invokevirtual 119, 3)), (9, (.i2l, 1)), (10, (.putfield 13, 3)), (13, (.goto 11, 3)), (16, (.astore 5, 2)), (18, (.iconst 1, 1)), (19, (.ireturn, 1)), (20, (.astore 5, 2)), (22, (.iconst 2, 1)), (23, (.ireturn, 1)), (24, (.iconst 0, 1)), (25, (.ireturn, 1))] : List (Nat × (Jvm.ClassFile.Instr × Nat))).all (dcB cL_tellApart) = true := by decide +kernel
theorem dL_tellApart_0 : decode cL_tellApart 0 = .ok (.aload 4, 2) := dget dkL_tellApart_0 0 rfl
theorem dL_tellApart_2 : decode cL_tellApart 2 = .ok (.aload_n 0, 1) := dget dkL_tellApart_0 1 rfl
theorem dL_tellApart_3 : decode cL_tellApart 3 = .ok (.iload_n 1, 1) := dget dkL_tellApart_0 2 rfl
theorem dL_tellApart_4 : decode cL_tellApart 4 = .ok (.iload_n 2, 1) := dget dkL_tellApart_0 3 rfl
theorem dL_tellApart_5 : decode cL_tellApart 5 = .ok (.iload_n 3, 1) := dget dkL_tellApart_0 4 rfl
theorem dL_tellApart_6 : decode cL_tellApart 6 = .ok (.invokevirtual 119, 3) := dget dkL_tellApart_0 5 rfl
theorem dL_tellApart_9 : decode cL_tellApart 9 = .ok (.i2l, 1) := dget dkL_tellApart_0 6 rfl
theorem dL_tellApart_10 : decode cL_tellApart 10 = .ok (.putfield 13, 3) := dget dkL_tellApart_0 7 rfl
theorem dL_tellApart_13 : decode cL_tellApart 13 = .ok (.goto 11, 3) := dget dkL_tellApart_0 8 rfl
theorem dL_tellApart_16 : decode cL_tellApart 16 = .ok (.astore 5, 2) := dget dkL_tellApart_0 9 rfl
theorem dL_tellApart_18 : decode cL_tellApart 18 = .ok (.iconst 1, 1) := dget dkL_tellApart_0 10 rfl
theorem dL_tellApart_19 : decode cL_tellApart 19 = .ok (.ireturn, 1) := dget dkL_tellApart_0 11 rfl
theorem dL_tellApart_20 : decode cL_tellApart 20 = .ok (.astore 5, 2) := dget dkL_tellApart_0 12 rfl
theorem dL_tellApart_22 : decode cL_tellApart 22 = .ok (.iconst 2, 1) := dget dkL_tellApart_0 13 rfl
theorem dL_tellApart_23 : decode cL_tellApart 23 = .ok (.ireturn, 1) := dget dkL_tellApart_0 14 rfl
theorem dL_tellApart_24 : decode cL_tellApart 24 = .ok (.iconst 0, 1) := dget dkL_tellApart_0 15 rfl
theorem dL_tellApart_25 : decode cL_tellApart 25 = .ok (.ireturn, 1) := dget dkL_tellApart_0 16 rfl
theorem dkL_orderText_0 : ([(0, (.aload_n 2, 1)), (1, (.aload_n 0, 1)), (2, (.iload_n 1, 1)), (3, (.invokevirtual 122, 3)), (6, (.putfield 73, 3)), (9, (.goto 6, 3)), (12, (.astore_n 3, 1)), (13, (.iconst 1, 1)), (14, (.ireturn, 1)), (15, (.iconst 0, 1)), (16, (.ireturn, 1))] : List (Nat × (Jvm.ClassFile.Instr × Nat))).all (dcB cL_orderText) = true := by decide +kernel
theorem dL_orderText_0 : decode cL_orderText 0 = .ok (.aload_n 2, 1) := dget dkL_orderText_0 0 rfl
theorem dL_orderText_1 : decode cL_orderText 1 = .ok (.aload_n 0, 1) := dget dkL_orderText_0 1 rfl
theorem dL_orderText_2 : decode cL_orderText 2 = .ok (.iload_n 1, 1) := dget dkL_orderText_0 2 rfl
theorem dL_orderText_3 : decode cL_orderText 3 = .ok (.invokevirtual 122, 3) := dget dkL_orderText_0 3 rfl
theorem dL_orderText_6 : decode cL_orderText 6 = .ok (.putfield 73, 3) := dget dkL_orderText_0 4 rfl
theorem dL_orderText_9 : decode cL_orderText 9 = .ok (.goto 6, 3) := dget dkL_orderText_0 5 rfl
theorem dL_orderText_12 : decode cL_orderText 12 = .ok (.astore_n 3, 1) := dget dkL_orderText_0 6 rfl
theorem dL_orderText_13 : decode cL_orderText 13 = .ok (.iconst 1, 1) := dget dkL_orderText_0 7 rfl
theorem dL_orderText_14 : decode cL_orderText 14 = .ok (.ireturn, 1) := dget dkL_orderText_0 8 rfl
theorem dL_orderText_15 : decode cL_orderText 15 = .ok (.iconst 0, 1) := dget dkL_orderText_0 9 rfl
theorem dL_orderText_16 : decode cL_orderText 16 = .ok (.ireturn, 1) := dget dkL_orderText_0 10 rfl
theorem dkL_compare_0 : ([(0, (.aload 4, 2)), (2, (.aload_n 0, 1)), (3, (.iload_n 1, 1)), (4, (.iload_n 2, 1)), (5, (.iload_n 3, 1)), (6, (.invokevirtual 125, 3)), (9, (.i2l, 1)), (10, (.putfield 13, 3)), (13, (.goto 11, 3)), (16, (.astore 5, 2)), (18, (.iconst 1, 1)), (19, (.ireturn, 1)), (20, (.astore 5, 2)), (22, (.iconst 2, 1)), (23, (.ireturn, 1)), (24, (.iconst 0, 1)), (25, (.ireturn, 1))] : List (Nat × (Jvm.ClassFile.Instr × Nat))).all (dcB cL_compare) = true := by decide +kernel
theorem dL_compare_0 : decode cL_compare 0 = .ok (.aload 4, 2) := dget dkL_compare_0 0 rfl
theorem dL_compare_2 : decode cL_compare 2 = .ok (.aload_n 0, 1) := dget dkL_compare_0 1 rfl
theorem dL_compare_3 : decode cL_compare 3 = .ok (.iload_n 1, 1) := dget dkL_compare_0 2 rfl
theorem dL_compare_4 : decode cL_compare 4 = .ok (.iload_n 2, 1) := dget dkL_compare_0 3 rfl
theorem dL_compare_5 : decode cL_compare 5 = .ok (.iload_n 3, 1) := dget dkL_compare_0 4 rfl
theorem dL_compare_6 : decode cL_compare 6 = .ok (.invokevirtual 125, 3) := dget dkL_compare_0 5 rfl
theorem dL_compare_9 : decode cL_compare 9 = .ok (.i2l, 1) := dget dkL_compare_0 6 rfl
theorem dL_compare_10 : decode cL_compare 10 = .ok (.putfield 13, 3) := dget dkL_compare_0 7 rfl
theorem dL_compare_13 : decode cL_compare 13 = .ok (.goto 11, 3) := dget dkL_compare_0 8 rfl
theorem dL_compare_16 : decode cL_compare 16 = .ok (.astore 5, 2) := dget dkL_compare_0 9 rfl
theorem dL_compare_18 : decode cL_compare 18 = .ok (.iconst 1, 1) := dget dkL_compare_0 10 rfl
theorem dL_compare_19 : decode cL_compare 19 = .ok (.ireturn, 1) := dget dkL_compare_0 11 rfl
theorem dL_compare_20 : decode cL_compare 20 = .ok (.astore 5, 2) := dget dkL_compare_0 12 rfl
theorem dL_compare_22 : decode cL_compare 22 = .ok (.iconst 2, 1) := dget dkL_compare_0 13 rfl
theorem dL_compare_23 : decode cL_compare 23 = .ok (.ireturn, 1) := dget dkL_compare_0 14 rfl
theorem dL_compare_24 : decode cL_compare 24 = .ok (.iconst 0, 1) := dget dkL_compare_0 15 rfl
theorem dL_compare_25 : decode cL_compare 25 = .ok (.ireturn, 1) := dget dkL_compare_0 16 rfl
theorem dkL_both_0 : ([(0, (.aload 5, 2)), (2, (.aload_n 0, 1)), (3, (.iload_n 1, 1)), (4, (.iload_n 2, 1)), (5, (.iload_n 3, 1)), (6, (.iload 4, 2)), (8, (.invokevirtual 128, 3)), (11, (.i2l, 1)), (12, (.putfield 13, 3)), (15, (.goto 11, 3)), (18, (.astore 6, 2)), (20, (.iconst 1, 1)), (21, (.ireturn, 1)), (22, (.astore 6, 2)), (24, (.iconst 2, 1)), (25, (.ireturn, 1)), (26, (.iconst 0, 1)), (27, (.ireturn, 1))] : List (Nat × (Jvm.ClassFile.Instr × Nat))).all (dcB cL_both) = true := by decide +kernel
theorem dL_both_0 : decode cL_both 0 = .ok (.aload 5, 2) := dget dkL_both_0 0 rfl
theorem dL_both_2 : decode cL_both 2 = .ok (.aload_n 0, 1) := dget dkL_both_0 1 rfl
theorem dL_both_3 : decode cL_both 3 = .ok (.iload_n 1, 1) := dget dkL_both_0 2 rfl
theorem dL_both_4 : decode cL_both 4 = .ok (.iload_n 2, 1) := dget dkL_both_0 3 rfl
theorem dL_both_5 : decode cL_both 5 = .ok (.iload_n 3, 1) := dget dkL_both_0 4 rfl
theorem dL_both_6 : decode cL_both 6 = .ok (.iload 4, 2) := dget dkL_both_0 5 rfl
theorem dL_both_8 : decode cL_both 8 = .ok (.invokevirtual 128, 3) := dget dkL_both_0 6 rfl
theorem dL_both_11 : decode cL_both 11 = .ok (.i2l, 1) := dget dkL_both_0 7 rfl
theorem dL_both_12 : decode cL_both 12 = .ok (.putfield 13, 3) := dget dkL_both_0 8 rfl
theorem dL_both_15 : decode cL_both 15 = .ok (.goto 11, 3) := dget dkL_both_0 9 rfl
theorem dL_both_18 : decode cL_both 18 = .ok (.astore 6, 2) := dget dkL_both_0 10 rfl
theorem dL_both_20 : decode cL_both 20 = .ok (.iconst 1, 1) := dget dkL_both_0 11 rfl
theorem dL_both_21 : decode cL_both 21 = .ok (.ireturn, 1) := dget dkL_both_0 12 rfl
theorem dL_both_22 : decode cL_both 22 = .ok (.astore 6, 2) := dget dkL_both_0 13 rfl
theorem dL_both_24 : decode cL_both 24 = .ok (.iconst 2, 1) := dget dkL_both_0 14 rfl
theorem dL_both_25 : decode cL_both 25 = .ok (.ireturn, 1) := dget dkL_both_0 15 rfl
theorem dL_both_26 : decode cL_both 26 = .ok (.iconst 0, 1) := dget dkL_both_0 16 rfl
theorem dL_both_27 : decode cL_both 27 = .ok (.ireturn, 1) := dget dkL_both_0 17 rfl
theorem dkL_refines_0 : ([(0, (.aload_n 3, 1)), (1, (.aload_n 0, 1)), (2, (.iload_n 1, 1)), (3, (.iload_n 2, 1)), (4, (.invokevirtual 131, 3)), (7, (.ifCond .eq 7, 3)), (10, (.lconst 1, 1)), (11, (.goto 4, 3)), (14, (.lconst 0, 1)), (15, (.putfield 13, 3)), (18, (.goto 7, 3)), (21, (.astore 4, 2)), (23, (.iconst 1, 1)), (24, (.ireturn, 1)), (25, (.iconst 0, 1)), (26, (.ireturn, 1))] : List (Nat × (Jvm.ClassFile.Instr × Nat))).all (dcB cL_refines) = true := by decide +kernel
theorem dL_refines_0 : decode cL_refines 0 = .ok (.aload_n 3, 1) := dget dkL_refines_0 0 rfl
theorem dL_refines_1 : decode cL_refines 1 = .ok (.aload_n 0, 1) := dget dkL_refines_0 1 rfl
theorem dL_refines_2 : decode cL_refines 2 = .ok (.iload_n 1, 1) := dget dkL_refines_0 2 rfl
theorem dL_refines_3 : decode cL_refines 3 = .ok (.iload_n 2, 1) := dget dkL_refines_0 3 rfl
theorem dL_refines_4 : decode cL_refines 4 = .ok (.invokevirtual 131, 3) := dget dkL_refines_0 4 rfl
theorem dL_refines_7 : decode cL_refines 7 = .ok (.ifCond .eq 7, 3) := dget dkL_refines_0 5 rfl
theorem dL_refines_10 : decode cL_refines 10 = .ok (.lconst 1, 1) := dget dkL_refines_0 6 rfl
theorem dL_refines_11 : decode cL_refines 11 = .ok (.goto 4, 3) := dget dkL_refines_0 7 rfl
theorem dL_refines_14 : decode cL_refines 14 = .ok (.lconst 0, 1) := dget dkL_refines_0 8 rfl
theorem dL_refines_15 : decode cL_refines 15 = .ok (.putfield 13, 3) := dget dkL_refines_0 9 rfl
theorem dL_refines_18 : decode cL_refines 18 = .ok (.goto 7, 3) := dget dkL_refines_0 10 rfl
theorem dL_refines_21 : decode cL_refines 21 = .ok (.astore 4, 2) := dget dkL_refines_0 11 rfl
theorem dL_refines_23 : decode cL_refines 23 = .ok (.iconst 1, 1) := dget dkL_refines_0 12 rfl
theorem dL_refines_24 : decode cL_refines 24 = .ok (.ireturn, 1) := dget dkL_refines_0 13 rfl
theorem dL_refines_25 : decode cL_refines 25 = .ok (.iconst 0, 1) := dget dkL_refines_0 14 rfl
theorem dL_refines_26 : decode cL_refines 26 = .ok (.ireturn, 1) := dget dkL_refines_0 15 rfl
theorem dkL_areSame_0 : ([(0, (.aload_n 3, 1)), (1, (.aload_n 0, 1)), (2, (.iload_n 1, 1)), (3, (.iload_n 2, 1)), (4, (.invokevirtual 134, 3)), (7, (.ifCond .eq 7, 3)), (10, (.lconst 1, 1)), (11, (.goto 4, 3)), (14, (.lconst 0, 1)), (15, (.putfield 13, 3)), (18, (.goto 7, 3)), (21, (.astore 4, 2)), (23, (.iconst 1, 1)), (24, (.ireturn, 1)), (25, (.iconst 0, 1)), (26, (.ireturn, 1))] : List (Nat × (Jvm.ClassFile.Instr × Nat))).all (dcB cL_areSame) = true := by decide +kernel
theorem dL_areSame_0 : decode cL_areSame 0 = .ok (.aload_n 3, 1) := dget dkL_areSame_0 0 rfl
theorem dL_areSame_1 : decode cL_areSame 1 = .ok (.aload_n 0, 1) := dget dkL_areSame_0 1 rfl
theorem dL_areSame_2 : decode cL_areSame 2 = .ok (.iload_n 1, 1) := dget dkL_areSame_0 2 rfl
theorem dL_areSame_3 : decode cL_areSame 3 = .ok (.iload_n 2, 1) := dget dkL_areSame_0 3 rfl
theorem dL_areSame_4 : decode cL_areSame 4 = .ok (.invokevirtual 134, 3) := dget dkL_areSame_0 4 rfl
theorem dL_areSame_7 : decode cL_areSame 7 = .ok (.ifCond .eq 7, 3) := dget dkL_areSame_0 5 rfl
theorem dL_areSame_10 : decode cL_areSame 10 = .ok (.lconst 1, 1) := dget dkL_areSame_0 6 rfl
theorem dL_areSame_11 : decode cL_areSame 11 = .ok (.goto 4, 3) := dget dkL_areSame_0 7 rfl
theorem dL_areSame_14 : decode cL_areSame 14 = .ok (.lconst 0, 1) := dget dkL_areSame_0 8 rfl
theorem dL_areSame_15 : decode cL_areSame 15 = .ok (.putfield 13, 3) := dget dkL_areSame_0 9 rfl
theorem dL_areSame_18 : decode cL_areSame 18 = .ok (.goto 7, 3) := dget dkL_areSame_0 10 rfl
theorem dL_areSame_21 : decode cL_areSame 21 = .ok (.astore 4, 2) := dget dkL_areSame_0 11 rfl
theorem dL_areSame_23 : decode cL_areSame 23 = .ok (.iconst 1, 1) := dget dkL_areSame_0 12 rfl
theorem dL_areSame_24 : decode cL_areSame 24 = .ok (.ireturn, 1) := dget dkL_areSame_0 13 rfl
theorem dL_areSame_25 : decode cL_areSame 25 = .ok (.iconst 0, 1) := dget dkL_areSame_0 14 rfl
theorem dL_areSame_26 : decode cL_areSame 26 = .ok (.ireturn, 1) := dget dkL_areSame_0 15 rfl
theorem dkL_apart_0 : ([(0, (.aload_n 3, 1)), (1, (.aload_n 0, 1)), (2, (.iload_n 1, 1)), (3, (.iload_n 2, 1)), (4, (.invokevirtual 137, 3)), (7, (.i2l, 1)), (8, (.putfield 13, 3)), (11, (.goto 7, 3)), (14, (.astore 4, 2)), (16, (.iconst 1, 1)), (17, (.ireturn, 1)), (18, (.iconst 0, 1)), (19, (.ireturn, 1))] : List (Nat × (Jvm.ClassFile.Instr × Nat))).all (dcB cL_apart) = true := by decide +kernel
theorem dL_apart_0 : decode cL_apart 0 = .ok (.aload_n 3, 1) := dget dkL_apart_0 0 rfl
theorem dL_apart_1 : decode cL_apart 1 = .ok (.aload_n 0, 1) := dget dkL_apart_0 1 rfl
theorem dL_apart_2 : decode cL_apart 2 = .ok (.iload_n 1, 1) := dget dkL_apart_0 2 rfl
theorem dL_apart_3 : decode cL_apart 3 = .ok (.iload_n 2, 1) := dget dkL_apart_0 3 rfl
theorem dL_apart_4 : decode cL_apart 4 = .ok (.invokevirtual 137, 3) := dget dkL_apart_0 4 rfl
theorem dL_apart_7 : decode cL_apart 7 = .ok (.i2l, 1) := dget dkL_apart_0 5 rfl
theorem dL_apart_8 : decode cL_apart 8 = .ok (.putfield 13, 3) := dget dkL_apart_0 6 rfl
theorem dL_apart_11 : decode cL_apart 11 = .ok (.goto 7, 3) := dget dkL_apart_0 7 rfl
theorem dL_apart_14 : decode cL_apart 14 = .ok (.astore 4, 2) := dget dkL_apart_0 8 rfl
theorem dL_apart_16 : decode cL_apart 16 = .ok (.iconst 1, 1) := dget dkL_apart_0 9 rfl
theorem dL_apart_17 : decode cL_apart 17 = .ok (.ireturn, 1) := dget dkL_apart_0 10 rfl
theorem dL_apart_18 : decode cL_apart 18 = .ok (.iconst 0, 1) := dget dkL_apart_0 11 rfl
theorem dL_apart_19 : decode cL_apart 19 = .ok (.ireturn, 1) := dget dkL_apart_0 12 rfl
theorem dkL_classes_0 : ([(0, (.aload_n 2, 1)), (1, (.aload_n 0, 1)), (2, (.iload_n 1, 1)), (3, (.invokevirtual 140, 3)), (6, (.i2l, 1)), (7, (.putfield 13, 3)), (10, (.goto 6, 3)), (13, (.astore_n 3, 1)), (14, (.iconst 1, 1)), (15, (.ireturn, 1)), (16, (.iconst 0, 1)), (17, (.ireturn, 1))] : List (Nat × (Jvm.ClassFile.Instr × Nat))).all (dcB cL_classes) = true := by decide +kernel
theorem dL_classes_0 : decode cL_classes 0 = .ok (.aload_n 2, 1) := dget dkL_classes_0 0 rfl
theorem dL_classes_1 : decode cL_classes 1 = .ok (.aload_n 0, 1) := dget dkL_classes_0 1 rfl
theorem dL_classes_2 : decode cL_classes 2 = .ok (.iload_n 1, 1) := dget dkL_classes_0 2 rfl
theorem dL_classes_3 : decode cL_classes 3 = .ok (.invokevirtual 140, 3) := dget dkL_classes_0 3 rfl
theorem dL_classes_6 : decode cL_classes 6 = .ok (.i2l, 1) := dget dkL_classes_0 4 rfl
theorem dL_classes_7 : decode cL_classes 7 = .ok (.putfield 13, 3) := dget dkL_classes_0 5 rfl
theorem dL_classes_10 : decode cL_classes 10 = .ok (.goto 6, 3) := dget dkL_classes_0 6 rfl
theorem dL_classes_13 : decode cL_classes 13 = .ok (.astore_n 3, 1) := dget dkL_classes_0 7 rfl
theorem dL_classes_14 : decode cL_classes 14 = .ok (.iconst 1, 1) := dget dkL_classes_0 8 rfl
theorem dL_classes_15 : decode cL_classes 15 = .ok (.ireturn, 1) := dget dkL_classes_0 9 rfl
theorem dL_classes_16 : decode cL_classes 16 = .ok (.iconst 0, 1) := dget dkL_classes_0 10 rfl
theorem dL_classes_17 : decode cL_classes 17 = .ok (.ireturn, 1) := dget dkL_classes_0 11 rfl
theorem dkL_rank_0 : ([(0, (.aload_n 3, 1)), (1, (.aload_n 0, 1)), (2, (.iload_n 1, 1)), (3, (.iload_n 2, 1)), (4, (.invokevirtual 143, 3)), (7, (.i2l, 1)), (8, (.putfield 13, 3)), (11, (.goto 11, 3)), (14, (.astore 4, 2)), (16, (.iconst 1, 1)), (17, (.ireturn, 1)), (18, (.astore 4, 2)), (20, (.iconst 2, 1)), (21, (.ireturn, 1)), (22, (.iconst 0, 1)), (23, (.ireturn, 1))] : List (Nat × (Jvm.ClassFile.Instr × Nat))).all (dcB cL_rank) = true := by decide +kernel
theorem dL_rank_0 : decode cL_rank 0 = .ok (.aload_n 3, 1) := dget dkL_rank_0 0 rfl
theorem dL_rank_1 : decode cL_rank 1 = .ok (.aload_n 0, 1) := dget dkL_rank_0 1 rfl
theorem dL_rank_2 : decode cL_rank 2 = .ok (.iload_n 1, 1) := dget dkL_rank_0 2 rfl
theorem dL_rank_3 : decode cL_rank 3 = .ok (.iload_n 2, 1) := dget dkL_rank_0 3 rfl
theorem dL_rank_4 : decode cL_rank 4 = .ok (.invokevirtual 143, 3) := dget dkL_rank_0 4 rfl
theorem dL_rank_7 : decode cL_rank 7 = .ok (.i2l, 1) := dget dkL_rank_0 5 rfl
theorem dL_rank_8 : decode cL_rank 8 = .ok (.putfield 13, 3) := dget dkL_rank_0 6 rfl
theorem dL_rank_11 : decode cL_rank 11 = .ok (.goto 11, 3) := dget dkL_rank_0 7 rfl
theorem dL_rank_14 : decode cL_rank 14 = .ok (.astore 4, 2) := dget dkL_rank_0 8 rfl
theorem dL_rank_16 : decode cL_rank 16 = .ok (.iconst 1, 1) := dget dkL_rank_0 9 rfl
theorem dL_rank_17 : decode cL_rank 17 = .ok (.ireturn, 1) := dget dkL_rank_0 10 rfl
theorem dL_rank_18 : decode cL_rank 18 = .ok (.astore 4, 2) := dget dkL_rank_0 11 rfl
theorem dL_rank_20 : decode cL_rank 20 = .ok (.iconst 2, 1) := dget dkL_rank_0 12 rfl
theorem dL_rank_21 : decode cL_rank 21 = .ok (.ireturn, 1) := dget dkL_rank_0 13 rfl
theorem dL_rank_22 : decode cL_rank 22 = .ok (.iconst 0, 1) := dget dkL_rank_0 14 rfl
theorem dL_rank_23 : decode cL_rank 23 = .ok (.ireturn, 1) := dget dkL_rank_0 15 rfl
theorem dkL_keyOf_0 : ([(0, (.aload_n 3, 1)), (1, (.aload_n 0, 1)), (2, (.iload_n 1, 1)), (3, (.iload_n 2, 1)), (4, (.invokevirtual 146, 3)), (7, (.i2l, 1)), (8, (.putfield 13, 3)), (11, (.goto 7, 3)), (14, (.astore 4, 2)), (16, (.iconst 1, 1)), (17, (.ireturn, 1)), (18, (.iconst 0, 1)), (19, (.ireturn, 1))] : List (Nat × (Jvm.ClassFile.Instr × Nat))).all (dcB cL_keyOf) = true := by decide +kernel
theorem dL_keyOf_0 : decode cL_keyOf 0 = .ok (.aload_n 3, 1) := dget dkL_keyOf_0 0 rfl
theorem dL_keyOf_1 : decode cL_keyOf 1 = .ok (.aload_n 0, 1) := dget dkL_keyOf_0 1 rfl
theorem dL_keyOf_2 : decode cL_keyOf 2 = .ok (.iload_n 1, 1) := dget dkL_keyOf_0 2 rfl
theorem dL_keyOf_3 : decode cL_keyOf 3 = .ok (.iload_n 2, 1) := dget dkL_keyOf_0 3 rfl
theorem dL_keyOf_4 : decode cL_keyOf 4 = .ok (.invokevirtual 146, 3) := dget dkL_keyOf_0 4 rfl
theorem dL_keyOf_7 : decode cL_keyOf 7 = .ok (.i2l, 1) := dget dkL_keyOf_0 5 rfl
theorem dL_keyOf_8 : decode cL_keyOf 8 = .ok (.putfield 13, 3) := dget dkL_keyOf_0 6 rfl
theorem dL_keyOf_11 : decode cL_keyOf 11 = .ok (.goto 7, 3) := dget dkL_keyOf_0 7 rfl
theorem dL_keyOf_14 : decode cL_keyOf 14 = .ok (.astore 4, 2) := dget dkL_keyOf_0 8 rfl
theorem dL_keyOf_16 : decode cL_keyOf 16 = .ok (.iconst 1, 1) := dget dkL_keyOf_0 9 rfl
theorem dL_keyOf_17 : decode cL_keyOf 17 = .ok (.ireturn, 1) := dget dkL_keyOf_0 10 rfl
theorem dL_keyOf_18 : decode cL_keyOf 18 = .ok (.iconst 0, 1) := dget dkL_keyOf_0 11 rfl
theorem dL_keyOf_19 : decode cL_keyOf 19 = .ok (.ireturn, 1) := dget dkL_keyOf_0 12 rfl
theorem dkL_house_0 : ([(0, (.aload_n 2, 1)), (1, (.aload_n 0, 1)), (2, (.iload_n 1, 1)), (3, (.invokevirtual 149, 3)), (6, (.i2l, 1)), (7, (.putfield 13, 3)), (10, (.goto 6, 3)), (13, (.astore_n 3, 1)), (14, (.iconst 1, 1)), (15, (.ireturn, 1)), (16, (.iconst 0, 1)), (17, (.ireturn, 1))] : List (Nat × (Jvm.ClassFile.Instr × Nat))).all (dcB cL_house) = true := by decide +kernel
theorem dL_house_0 : decode cL_house 0 = .ok (.aload_n 2, 1) := dget dkL_house_0 0 rfl
theorem dL_house_1 : decode cL_house 1 = .ok (.aload_n 0, 1) := dget dkL_house_0 1 rfl
theorem dL_house_2 : decode cL_house 2 = .ok (.iload_n 1, 1) := dget dkL_house_0 2 rfl
theorem dL_house_3 : decode cL_house 3 = .ok (.invokevirtual 149, 3) := dget dkL_house_0 3 rfl
theorem dL_house_6 : decode cL_house 6 = .ok (.i2l, 1) := dget dkL_house_0 4 rfl
theorem dL_house_7 : decode cL_house 7 = .ok (.putfield 13, 3) := dget dkL_house_0 5 rfl
theorem dL_house_10 : decode cL_house 10 = .ok (.goto 6, 3) := dget dkL_house_0 6 rfl
theorem dL_house_13 : decode cL_house 13 = .ok (.astore_n 3, 1) := dget dkL_house_0 7 rfl
theorem dL_house_14 : decode cL_house 14 = .ok (.iconst 1, 1) := dget dkL_house_0 8 rfl
theorem dL_house_15 : decode cL_house 15 = .ok (.ireturn, 1) := dget dkL_house_0 9 rfl
theorem dL_house_16 : decode cL_house 16 = .ok (.iconst 0, 1) := dget dkL_house_0 10 rfl
theorem dL_house_17 : decode cL_house 17 = .ok (.ireturn, 1) := dget dkL_house_0 11 rfl
theorem dkL_law_0 : ([(43, (.tableswitch 2009 0 42 #[185, 225, 277, 341, 381, 409, 449, 477, 517, 569, 621, 685, 725, 753, 793, 833, 861, 929, 981, 1045, 1085, 1137, 1177, 1245, 1313, 1341, 1369, 1409, 1437, 1489, 1541, 1569, 1621, 1685, 1725, 1765, 1805, 1833, 1902, 1942, 1955, 1983, 1996], 185))] : List (Nat × (Jvm.ClassFile.Instr × Nat))).all (dcB cL_law) = true := by decide +kernel
theorem dL_law_43 : decode cL_law 43 = .ok (.tableswitch 2009 0 42 #[185, 225, 277, 341, 381, 409, 449, 477, 517, 569, 621, 685, 725, 753, 793, 833, 861, 929, 981, 1045, 1085, 1137, 1177, 1245, 1313, 1341, 1369, 1409, 1437, 1489, 1541, 1569, 1621, 1685, 1725, 1765, 1805, 1833, 1902, 1942, 1955, 1983, 1996], 185) := dget dkL_law_0 0 rfl
def dvL_law_1 : List UInt8 := [187, 0, 8, 89, 183, 0, 152, 76, 187, 0, 153, 89, 183, 0, 155, 77, 187, 0, 14, 89, 183, 0, 156, 78, 3, 54, 4, 21, 4, 42, 190, 8, 100, 163, 7, 233, 42, 21, 4, 46, 16, 63, 126]
theorem dwL_law_1 : (cL_law.data.toList.drop 0).take dvL_law_1.length = dvL_law_1 := by decide +kernel
theorem dkL_law_1 : ([(0, (.new 8, 3)), (3, (.dup, 1)), (4, (.invokespecial 152, 3)), (7, (.astore_n 1, 1)), (8, (.new 153, 3)), (11, (.dup, 1)), (12, (.invokespecial 155, 3)), (15, (.astore_n 2, 1)), (16, (.new 14, 3)), (19, (.dup, 1)), (20, (.invokespecial 156, 3)), (23, (.astore_n 3, 1)), (24, (.iconst 0, 1)), (25, (.istore 4, 2)), (27, (.iload 4, 2)), (29, (.aload_n 0, 1)), (30, (.arraylength, 1)), (31, (.iconst 5, 1)), (32, (.isub, 1)), (33, (.if_icmp .gt 2025, 3)), (36, (.aload_n 0, 1)), (37, (.iload 4, 2)), (39, (.iaload, 1)), (40, (.bipush 63, 2)), (42, (.iand, 1))] : List (Nat × (Jvm.ClassFile.Instr × Nat))).all (wnL dvL_law_1 0) = true := by decide +kernel
theorem dL_law_0 : decode cL_law 0 = .ok (.new 8, 3) := wnGet dwL_law_1 dkL_law_1 0 rfl
theorem dL_law_3 : decode cL_law 3 = .ok (.dup, 1) := wnGet dwL_law_1 dkL_law_1 1 rfl
theorem dL_law_4 : decode cL_law 4 = .ok (.invokespecial 152, 3) := wnGet dwL_law_1 dkL_law_1 2 rfl
theorem dL_law_7 : decode cL_law 7 = .ok (.astore_n 1, 1) := wnGet dwL_law_1 dkL_law_1 3 rfl
theorem dL_law_8 : decode cL_law 8 = .ok (.new 153, 3) := wnGet dwL_law_1 dkL_law_1 4 rfl
theorem dL_law_11 : decode cL_law 11 = .ok (.dup, 1) := wnGet dwL_law_1 dkL_law_1 5 rfl
theorem dL_law_12 : decode cL_law 12 = .ok (.invokespecial 155, 3) := wnGet dwL_law_1 dkL_law_1 6 rfl
theorem dL_law_15 : decode cL_law 15 = .ok (.astore_n 2, 1) := wnGet dwL_law_1 dkL_law_1 7 rfl
theorem dL_law_16 : decode cL_law 16 = .ok (.new 14, 3) := wnGet dwL_law_1 dkL_law_1 8 rfl
theorem dL_law_19 : decode cL_law 19 = .ok (.dup, 1) := wnGet dwL_law_1 dkL_law_1 9 rfl
theorem dL_law_20 : decode cL_law 20 = .ok (.invokespecial 156, 3) := wnGet dwL_law_1 dkL_law_1 10 rfl
theorem dL_law_23 : decode cL_law 23 = .ok (.astore_n 3, 1) := wnGet dwL_law_1 dkL_law_1 11 rfl
theorem dL_law_24 : decode cL_law 24 = .ok (.iconst 0, 1) := wnGet dwL_law_1 dkL_law_1 12 rfl
theorem dL_law_25 : decode cL_law 25 = .ok (.istore 4, 2) := wnGet dwL_law_1 dkL_law_1 13 rfl
theorem dL_law_27 : decode cL_law 27 = .ok (.iload 4, 2) := wnGet dwL_law_1 dkL_law_1 14 rfl
theorem dL_law_29 : decode cL_law 29 = .ok (.aload_n 0, 1) := wnGet dwL_law_1 dkL_law_1 15 rfl
theorem dL_law_30 : decode cL_law 30 = .ok (.arraylength, 1) := wnGet dwL_law_1 dkL_law_1 16 rfl
theorem dL_law_31 : decode cL_law 31 = .ok (.iconst 5, 1) := wnGet dwL_law_1 dkL_law_1 17 rfl
theorem dL_law_32 : decode cL_law 32 = .ok (.isub, 1) := wnGet dwL_law_1 dkL_law_1 18 rfl
theorem dL_law_33 : decode cL_law 33 = .ok (.if_icmp .gt 2025, 3) := wnGet dwL_law_1 dkL_law_1 19 rfl
theorem dL_law_36 : decode cL_law 36 = .ok (.aload_n 0, 1) := wnGet dwL_law_1 dkL_law_1 20 rfl
theorem dL_law_37 : decode cL_law 37 = .ok (.iload 4, 2) := wnGet dwL_law_1 dkL_law_1 21 rfl
theorem dL_law_39 : decode cL_law 39 = .ok (.iaload, 1) := wnGet dwL_law_1 dkL_law_1 22 rfl
theorem dL_law_40 : decode cL_law 40 = .ok (.bipush 63, 2) := wnGet dwL_law_1 dkL_law_1 23 rfl
theorem dL_law_42 : decode cL_law 42 = .ok (.iand, 1) := wnGet dwL_law_1 dkL_law_1 24 rfl
def dvL_law_2 : List UInt8 := [43, 42, 21, 4, 4, 96, 46, 42, 21, 4, 5, 96, 46, 45, 184, 0, 157, 54, 5, 44, 42, 21, 4, 4, 96, 46, 42, 21, 4, 5, 96, 46, 182, 0, 162, 54, 6, 167, 6, 251, 43, 42, 21, 4, 4]
theorem dwL_law_2 : (cL_law.data.toList.drop 228).take dvL_law_2.length = dvL_law_2 := by decide +kernel
theorem dkL_law_2 : ([(228, (.aload_n 1, 1)), (229, (.aload_n 0, 1)), (230, (.iload 4, 2)), (232, (.iconst 1, 1)), (233, (.iadd, 1)), (234, (.iaload, 1)), (235, (.aload_n 0, 1)), (236, (.iload 4, 2)), (238, (.iconst 2, 1)), (239, (.iadd, 1)), (240, (.iaload, 1)), (241, (.aload_n 3, 1)), (242, (.invokestatic 157, 3)), (245, (.istore 5, 2)), (247, (.aload_n 2, 1)), (248, (.aload_n 0, 1)), (249, (.iload 4, 2)), (251, (.iconst 1, 1)), (252, (.iadd, 1)), (253, (.iaload, 1)), (254, (.aload_n 0, 1)), (255, (.iload 4, 2)), (257, (.iconst 2, 1)), (258, (.iadd, 1)), (259, (.iaload, 1)), (260, (.invokevirtual 162, 3)), (263, (.istore 6, 2)), (265, (.goto 1787, 3)), (268, (.aload_n 1, 1)), (269, (.aload_n 0, 1)), (270, (.iload 4, 2)), (272, (.iconst 1, 1))] : List (Nat × (Jvm.ClassFile.Instr × Nat))).all (wnL dvL_law_2 228) = true := by decide +kernel
theorem dL_law_228 : decode cL_law 228 = .ok (.aload_n 1, 1) := wnGet dwL_law_2 dkL_law_2 0 rfl
theorem dL_law_229 : decode cL_law 229 = .ok (.aload_n 0, 1) := wnGet dwL_law_2 dkL_law_2 1 rfl
theorem dL_law_230 : decode cL_law 230 = .ok (.iload 4, 2) := wnGet dwL_law_2 dkL_law_2 2 rfl
theorem dL_law_232 : decode cL_law 232 = .ok (.iconst 1, 1) := wnGet dwL_law_2 dkL_law_2 3 rfl
theorem dL_law_233 : decode cL_law 233 = .ok (.iadd, 1) := wnGet dwL_law_2 dkL_law_2 4 rfl
theorem dL_law_234 : decode cL_law 234 = .ok (.iaload, 1) := wnGet dwL_law_2 dkL_law_2 5 rfl
theorem dL_law_235 : decode cL_law 235 = .ok (.aload_n 0, 1) := wnGet dwL_law_2 dkL_law_2 6 rfl
theorem dL_law_236 : decode cL_law 236 = .ok (.iload 4, 2) := wnGet dwL_law_2 dkL_law_2 7 rfl
theorem dL_law_238 : decode cL_law 238 = .ok (.iconst 2, 1) := wnGet dwL_law_2 dkL_law_2 8 rfl
theorem dL_law_239 : decode cL_law 239 = .ok (.iadd, 1) := wnGet dwL_law_2 dkL_law_2 9 rfl
theorem dL_law_240 : decode cL_law 240 = .ok (.iaload, 1) := wnGet dwL_law_2 dkL_law_2 10 rfl
theorem dL_law_241 : decode cL_law 241 = .ok (.aload_n 3, 1) := wnGet dwL_law_2 dkL_law_2 11 rfl
theorem dL_law_242 : decode cL_law 242 = .ok (.invokestatic 157, 3) := wnGet dwL_law_2 dkL_law_2 12 rfl
theorem dL_law_245 : decode cL_law 245 = .ok (.istore 5, 2) := wnGet dwL_law_2 dkL_law_2 13 rfl
theorem dL_law_247 : decode cL_law 247 = .ok (.aload_n 2, 1) := wnGet dwL_law_2 dkL_law_2 14 rfl
theorem dL_law_248 : decode cL_law 248 = .ok (.aload_n 0, 1) := wnGet dwL_law_2 dkL_law_2 15 rfl
theorem dL_law_249 : decode cL_law 249 = .ok (.iload 4, 2) := wnGet dwL_law_2 dkL_law_2 16 rfl
theorem dL_law_251 : decode cL_law 251 = .ok (.iconst 1, 1) := wnGet dwL_law_2 dkL_law_2 17 rfl
theorem dL_law_252 : decode cL_law 252 = .ok (.iadd, 1) := wnGet dwL_law_2 dkL_law_2 18 rfl
theorem dL_law_253 : decode cL_law 253 = .ok (.iaload, 1) := wnGet dwL_law_2 dkL_law_2 19 rfl
theorem dL_law_254 : decode cL_law 254 = .ok (.aload_n 0, 1) := wnGet dwL_law_2 dkL_law_2 20 rfl
theorem dL_law_255 : decode cL_law 255 = .ok (.iload 4, 2) := wnGet dwL_law_2 dkL_law_2 21 rfl
theorem dL_law_257 : decode cL_law 257 = .ok (.iconst 2, 1) := wnGet dwL_law_2 dkL_law_2 22 rfl
theorem dL_law_258 : decode cL_law 258 = .ok (.iadd, 1) := wnGet dwL_law_2 dkL_law_2 23 rfl
theorem dL_law_259 : decode cL_law 259 = .ok (.iaload, 1) := wnGet dwL_law_2 dkL_law_2 24 rfl
theorem dL_law_260 : decode cL_law 260 = .ok (.invokevirtual 162, 3) := wnGet dwL_law_2 dkL_law_2 25 rfl
theorem dL_law_263 : decode cL_law 263 = .ok (.istore 6, 2) := wnGet dwL_law_2 dkL_law_2 26 rfl
theorem dL_law_265 : decode cL_law 265 = .ok (.goto 1787, 3) := wnGet dwL_law_2 dkL_law_2 27 rfl
theorem dL_law_268 : decode cL_law 268 = .ok (.aload_n 1, 1) := wnGet dwL_law_2 dkL_law_2 28 rfl
theorem dL_law_269 : decode cL_law 269 = .ok (.aload_n 0, 1) := wnGet dwL_law_2 dkL_law_2 29 rfl
theorem dL_law_270 : decode cL_law 270 = .ok (.iload 4, 2) := wnGet dwL_law_2 dkL_law_2 30 rfl
theorem dL_law_272 : decode cL_law 272 = .ok (.iconst 1, 1) := wnGet dwL_law_2 dkL_law_2 31 rfl
def dvL_law_3 : List UInt8 := [96, 46, 42, 21, 4, 5, 96, 46, 42, 21, 4, 6, 96, 46, 45, 184, 0, 163, 54, 5, 44, 42, 21, 4, 4, 96, 46, 42, 21, 4, 5, 96, 46, 42, 21, 4, 6, 96, 46, 182, 0, 166]
theorem dwL_law_3 : (cL_law.data.toList.drop 273).take dvL_law_3.length = dvL_law_3 := by decide +kernel
theorem dkL_law_3 : ([(273, (.iadd, 1)), (274, (.iaload, 1)), (275, (.aload_n 0, 1)), (276, (.iload 4, 2)), (278, (.iconst 2, 1)), (279, (.iadd, 1)), (280, (.iaload, 1)), (281, (.aload_n 0, 1)), (282, (.iload 4, 2)), (284, (.iconst 3, 1)), (285, (.iadd, 1)), (286, (.iaload, 1)), (287, (.aload_n 3, 1)), (288, (.invokestatic 163, 3)), (291, (.istore 5, 2)), (293, (.aload_n 2, 1)), (294, (.aload_n 0, 1)), (295, (.iload 4, 2)), (297, (.iconst 1, 1)), (298, (.iadd, 1)), (299, (.iaload, 1)), (300, (.aload_n 0, 1)), (301, (.iload 4, 2)), (303, (.iconst 2, 1)), (304, (.iadd, 1)), (305, (.iaload, 1)), (306, (.aload_n 0, 1)), (307, (.iload 4, 2)), (309, (.iconst 3, 1)), (310, (.iadd, 1)), (311, (.iaload, 1)), (312, (.invokevirtual 166, 3))] : List (Nat × (Jvm.ClassFile.Instr × Nat))).all (wnL dvL_law_3 273) = true := by decide +kernel
theorem dL_law_273 : decode cL_law 273 = .ok (.iadd, 1) := wnGet dwL_law_3 dkL_law_3 0 rfl
theorem dL_law_274 : decode cL_law 274 = .ok (.iaload, 1) := wnGet dwL_law_3 dkL_law_3 1 rfl
theorem dL_law_275 : decode cL_law 275 = .ok (.aload_n 0, 1) := wnGet dwL_law_3 dkL_law_3 2 rfl
theorem dL_law_276 : decode cL_law 276 = .ok (.iload 4, 2) := wnGet dwL_law_3 dkL_law_3 3 rfl
theorem dL_law_278 : decode cL_law 278 = .ok (.iconst 2, 1) := wnGet dwL_law_3 dkL_law_3 4 rfl
theorem dL_law_279 : decode cL_law 279 = .ok (.iadd, 1) := wnGet dwL_law_3 dkL_law_3 5 rfl
theorem dL_law_280 : decode cL_law 280 = .ok (.iaload, 1) := wnGet dwL_law_3 dkL_law_3 6 rfl
theorem dL_law_281 : decode cL_law 281 = .ok (.aload_n 0, 1) := wnGet dwL_law_3 dkL_law_3 7 rfl
theorem dL_law_282 : decode cL_law 282 = .ok (.iload 4, 2) := wnGet dwL_law_3 dkL_law_3 8 rfl
theorem dL_law_284 : decode cL_law 284 = .ok (.iconst 3, 1) := wnGet dwL_law_3 dkL_law_3 9 rfl
theorem dL_law_285 : decode cL_law 285 = .ok (.iadd, 1) := wnGet dwL_law_3 dkL_law_3 10 rfl
theorem dL_law_286 : decode cL_law 286 = .ok (.iaload, 1) := wnGet dwL_law_3 dkL_law_3 11 rfl
theorem dL_law_287 : decode cL_law 287 = .ok (.aload_n 3, 1) := wnGet dwL_law_3 dkL_law_3 12 rfl
theorem dL_law_288 : decode cL_law 288 = .ok (.invokestatic 163, 3) := wnGet dwL_law_3 dkL_law_3 13 rfl
theorem dL_law_291 : decode cL_law 291 = .ok (.istore 5, 2) := wnGet dwL_law_3 dkL_law_3 14 rfl
theorem dL_law_293 : decode cL_law 293 = .ok (.aload_n 2, 1) := wnGet dwL_law_3 dkL_law_3 15 rfl
theorem dL_law_294 : decode cL_law 294 = .ok (.aload_n 0, 1) := wnGet dwL_law_3 dkL_law_3 16 rfl
theorem dL_law_295 : decode cL_law 295 = .ok (.iload 4, 2) := wnGet dwL_law_3 dkL_law_3 17 rfl
theorem dL_law_297 : decode cL_law 297 = .ok (.iconst 1, 1) := wnGet dwL_law_3 dkL_law_3 18 rfl
theorem dL_law_298 : decode cL_law 298 = .ok (.iadd, 1) := wnGet dwL_law_3 dkL_law_3 19 rfl
theorem dL_law_299 : decode cL_law 299 = .ok (.iaload, 1) := wnGet dwL_law_3 dkL_law_3 20 rfl
theorem dL_law_300 : decode cL_law 300 = .ok (.aload_n 0, 1) := wnGet dwL_law_3 dkL_law_3 21 rfl
theorem dL_law_301 : decode cL_law 301 = .ok (.iload 4, 2) := wnGet dwL_law_3 dkL_law_3 22 rfl
theorem dL_law_303 : decode cL_law 303 = .ok (.iconst 2, 1) := wnGet dwL_law_3 dkL_law_3 23 rfl
theorem dL_law_304 : decode cL_law 304 = .ok (.iadd, 1) := wnGet dwL_law_3 dkL_law_3 24 rfl
theorem dL_law_305 : decode cL_law 305 = .ok (.iaload, 1) := wnGet dwL_law_3 dkL_law_3 25 rfl
theorem dL_law_306 : decode cL_law 306 = .ok (.aload_n 0, 1) := wnGet dwL_law_3 dkL_law_3 26 rfl
theorem dL_law_307 : decode cL_law 307 = .ok (.iload 4, 2) := wnGet dwL_law_3 dkL_law_3 27 rfl
theorem dL_law_309 : decode cL_law 309 = .ok (.iconst 3, 1) := wnGet dwL_law_3 dkL_law_3 28 rfl
theorem dL_law_310 : decode cL_law 310 = .ok (.iadd, 1) := wnGet dwL_law_3 dkL_law_3 29 rfl
theorem dL_law_311 : decode cL_law 311 = .ok (.iaload, 1) := wnGet dwL_law_3 dkL_law_3 30 rfl
theorem dL_law_312 : decode cL_law 312 = .ok (.invokevirtual 166, 3) := wnGet dwL_law_3 dkL_law_3 31 rfl
def dvL_law_4 : List UInt8 := [54, 6, 167, 6, 199, 43, 42, 21, 4, 4, 96, 46, 42, 21, 4, 5, 96, 46, 42, 21, 4, 6, 96, 46, 42, 21, 4, 7, 96, 46, 45, 184, 0, 167, 54, 5, 44, 42, 21, 4, 4, 96, 46]
theorem dwL_law_4 : (cL_law.data.toList.drop 315).take dvL_law_4.length = dvL_law_4 := by decide +kernel
theorem dkL_law_4 : ([(315, (.istore 6, 2)), (317, (.goto 1735, 3)), (320, (.aload_n 1, 1)), (321, (.aload_n 0, 1)), (322, (.iload 4, 2)), (324, (.iconst 1, 1)), (325, (.iadd, 1)), (326, (.iaload, 1)), (327, (.aload_n 0, 1)), (328, (.iload 4, 2)), (330, (.iconst 2, 1)), (331, (.iadd, 1)), (332, (.iaload, 1)), (333, (.aload_n 0, 1)), (334, (.iload 4, 2)), (336, (.iconst 3, 1)), (337, (.iadd, 1)), (338, (.iaload, 1)), (339, (.aload_n 0, 1)), (340, (.iload 4, 2)), (342, (.iconst 4, 1)), (343, (.iadd, 1)), (344, (.iaload, 1)), (345, (.aload_n 3, 1)), (346, (.invokestatic 167, 3)), (349, (.istore 5, 2)), (351, (.aload_n 2, 1)), (352, (.aload_n 0, 1)), (353, (.iload 4, 2)), (355, (.iconst 1, 1)), (356, (.iadd, 1)), (357, (.iaload, 1))] : List (Nat × (Jvm.ClassFile.Instr × Nat))).all (wnL dvL_law_4 315) = true := by decide +kernel
theorem dL_law_315 : decode cL_law 315 = .ok (.istore 6, 2) := wnGet dwL_law_4 dkL_law_4 0 rfl
theorem dL_law_317 : decode cL_law 317 = .ok (.goto 1735, 3) := wnGet dwL_law_4 dkL_law_4 1 rfl
theorem dL_law_320 : decode cL_law 320 = .ok (.aload_n 1, 1) := wnGet dwL_law_4 dkL_law_4 2 rfl
theorem dL_law_321 : decode cL_law 321 = .ok (.aload_n 0, 1) := wnGet dwL_law_4 dkL_law_4 3 rfl
theorem dL_law_322 : decode cL_law 322 = .ok (.iload 4, 2) := wnGet dwL_law_4 dkL_law_4 4 rfl
theorem dL_law_324 : decode cL_law 324 = .ok (.iconst 1, 1) := wnGet dwL_law_4 dkL_law_4 5 rfl
theorem dL_law_325 : decode cL_law 325 = .ok (.iadd, 1) := wnGet dwL_law_4 dkL_law_4 6 rfl
theorem dL_law_326 : decode cL_law 326 = .ok (.iaload, 1) := wnGet dwL_law_4 dkL_law_4 7 rfl
theorem dL_law_327 : decode cL_law 327 = .ok (.aload_n 0, 1) := wnGet dwL_law_4 dkL_law_4 8 rfl
theorem dL_law_328 : decode cL_law 328 = .ok (.iload 4, 2) := wnGet dwL_law_4 dkL_law_4 9 rfl
theorem dL_law_330 : decode cL_law 330 = .ok (.iconst 2, 1) := wnGet dwL_law_4 dkL_law_4 10 rfl
theorem dL_law_331 : decode cL_law 331 = .ok (.iadd, 1) := wnGet dwL_law_4 dkL_law_4 11 rfl
theorem dL_law_332 : decode cL_law 332 = .ok (.iaload, 1) := wnGet dwL_law_4 dkL_law_4 12 rfl
theorem dL_law_333 : decode cL_law 333 = .ok (.aload_n 0, 1) := wnGet dwL_law_4 dkL_law_4 13 rfl
theorem dL_law_334 : decode cL_law 334 = .ok (.iload 4, 2) := wnGet dwL_law_4 dkL_law_4 14 rfl
theorem dL_law_336 : decode cL_law 336 = .ok (.iconst 3, 1) := wnGet dwL_law_4 dkL_law_4 15 rfl
theorem dL_law_337 : decode cL_law 337 = .ok (.iadd, 1) := wnGet dwL_law_4 dkL_law_4 16 rfl
theorem dL_law_338 : decode cL_law 338 = .ok (.iaload, 1) := wnGet dwL_law_4 dkL_law_4 17 rfl
theorem dL_law_339 : decode cL_law 339 = .ok (.aload_n 0, 1) := wnGet dwL_law_4 dkL_law_4 18 rfl
theorem dL_law_340 : decode cL_law 340 = .ok (.iload 4, 2) := wnGet dwL_law_4 dkL_law_4 19 rfl
theorem dL_law_342 : decode cL_law 342 = .ok (.iconst 4, 1) := wnGet dwL_law_4 dkL_law_4 20 rfl
theorem dL_law_343 : decode cL_law 343 = .ok (.iadd, 1) := wnGet dwL_law_4 dkL_law_4 21 rfl
theorem dL_law_344 : decode cL_law 344 = .ok (.iaload, 1) := wnGet dwL_law_4 dkL_law_4 22 rfl
theorem dL_law_345 : decode cL_law 345 = .ok (.aload_n 3, 1) := wnGet dwL_law_4 dkL_law_4 23 rfl
theorem dL_law_346 : decode cL_law 346 = .ok (.invokestatic 167, 3) := wnGet dwL_law_4 dkL_law_4 24 rfl
theorem dL_law_349 : decode cL_law 349 = .ok (.istore 5, 2) := wnGet dwL_law_4 dkL_law_4 25 rfl
theorem dL_law_351 : decode cL_law 351 = .ok (.aload_n 2, 1) := wnGet dwL_law_4 dkL_law_4 26 rfl
theorem dL_law_352 : decode cL_law 352 = .ok (.aload_n 0, 1) := wnGet dwL_law_4 dkL_law_4 27 rfl
theorem dL_law_353 : decode cL_law 353 = .ok (.iload 4, 2) := wnGet dwL_law_4 dkL_law_4 28 rfl
theorem dL_law_355 : decode cL_law 355 = .ok (.iconst 1, 1) := wnGet dwL_law_4 dkL_law_4 29 rfl
theorem dL_law_356 : decode cL_law 356 = .ok (.iadd, 1) := wnGet dwL_law_4 dkL_law_4 30 rfl
theorem dL_law_357 : decode cL_law 357 = .ok (.iaload, 1) := wnGet dwL_law_4 dkL_law_4 31 rfl
def dvL_law_5 : List UInt8 := [42, 21, 4, 5, 96, 46, 42, 21, 4, 6, 96, 46, 42, 21, 4, 7, 96, 46, 182, 0, 170, 54, 6, 167, 6, 135, 43, 42, 21, 4, 4, 96, 46, 42, 21, 4, 5, 96, 46, 45, 184, 0, 171, 54, 5]
theorem dwL_law_5 : (cL_law.data.toList.drop 358).take dvL_law_5.length = dvL_law_5 := by decide +kernel
theorem dkL_law_5 : ([(358, (.aload_n 0, 1)), (359, (.iload 4, 2)), (361, (.iconst 2, 1)), (362, (.iadd, 1)), (363, (.iaload, 1)), (364, (.aload_n 0, 1)), (365, (.iload 4, 2)), (367, (.iconst 3, 1)), (368, (.iadd, 1)), (369, (.iaload, 1)), (370, (.aload_n 0, 1)), (371, (.iload 4, 2)), (373, (.iconst 4, 1)), (374, (.iadd, 1)), (375, (.iaload, 1)), (376, (.invokevirtual 170, 3)), (379, (.istore 6, 2)), (381, (.goto 1671, 3)), (384, (.aload_n 1, 1)), (385, (.aload_n 0, 1)), (386, (.iload 4, 2)), (388, (.iconst 1, 1)), (389, (.iadd, 1)), (390, (.iaload, 1)), (391, (.aload_n 0, 1)), (392, (.iload 4, 2)), (394, (.iconst 2, 1)), (395, (.iadd, 1)), (396, (.iaload, 1)), (397, (.aload_n 3, 1)), (398, (.invokestatic 171, 3)), (401, (.istore 5, 2))] : List (Nat × (Jvm.ClassFile.Instr × Nat))).all (wnL dvL_law_5 358) = true := by decide +kernel
theorem dL_law_358 : decode cL_law 358 = .ok (.aload_n 0, 1) := wnGet dwL_law_5 dkL_law_5 0 rfl
theorem dL_law_359 : decode cL_law 359 = .ok (.iload 4, 2) := wnGet dwL_law_5 dkL_law_5 1 rfl
theorem dL_law_361 : decode cL_law 361 = .ok (.iconst 2, 1) := wnGet dwL_law_5 dkL_law_5 2 rfl
theorem dL_law_362 : decode cL_law 362 = .ok (.iadd, 1) := wnGet dwL_law_5 dkL_law_5 3 rfl
theorem dL_law_363 : decode cL_law 363 = .ok (.iaload, 1) := wnGet dwL_law_5 dkL_law_5 4 rfl
theorem dL_law_364 : decode cL_law 364 = .ok (.aload_n 0, 1) := wnGet dwL_law_5 dkL_law_5 5 rfl
theorem dL_law_365 : decode cL_law 365 = .ok (.iload 4, 2) := wnGet dwL_law_5 dkL_law_5 6 rfl
theorem dL_law_367 : decode cL_law 367 = .ok (.iconst 3, 1) := wnGet dwL_law_5 dkL_law_5 7 rfl
theorem dL_law_368 : decode cL_law 368 = .ok (.iadd, 1) := wnGet dwL_law_5 dkL_law_5 8 rfl
theorem dL_law_369 : decode cL_law 369 = .ok (.iaload, 1) := wnGet dwL_law_5 dkL_law_5 9 rfl
theorem dL_law_370 : decode cL_law 370 = .ok (.aload_n 0, 1) := wnGet dwL_law_5 dkL_law_5 10 rfl
theorem dL_law_371 : decode cL_law 371 = .ok (.iload 4, 2) := wnGet dwL_law_5 dkL_law_5 11 rfl
theorem dL_law_373 : decode cL_law 373 = .ok (.iconst 4, 1) := wnGet dwL_law_5 dkL_law_5 12 rfl
theorem dL_law_374 : decode cL_law 374 = .ok (.iadd, 1) := wnGet dwL_law_5 dkL_law_5 13 rfl
theorem dL_law_375 : decode cL_law 375 = .ok (.iaload, 1) := wnGet dwL_law_5 dkL_law_5 14 rfl
theorem dL_law_376 : decode cL_law 376 = .ok (.invokevirtual 170, 3) := wnGet dwL_law_5 dkL_law_5 15 rfl
theorem dL_law_379 : decode cL_law 379 = .ok (.istore 6, 2) := wnGet dwL_law_5 dkL_law_5 16 rfl
theorem dL_law_381 : decode cL_law 381 = .ok (.goto 1671, 3) := wnGet dwL_law_5 dkL_law_5 17 rfl
theorem dL_law_384 : decode cL_law 384 = .ok (.aload_n 1, 1) := wnGet dwL_law_5 dkL_law_5 18 rfl
theorem dL_law_385 : decode cL_law 385 = .ok (.aload_n 0, 1) := wnGet dwL_law_5 dkL_law_5 19 rfl
theorem dL_law_386 : decode cL_law 386 = .ok (.iload 4, 2) := wnGet dwL_law_5 dkL_law_5 20 rfl
theorem dL_law_388 : decode cL_law 388 = .ok (.iconst 1, 1) := wnGet dwL_law_5 dkL_law_5 21 rfl
theorem dL_law_389 : decode cL_law 389 = .ok (.iadd, 1) := wnGet dwL_law_5 dkL_law_5 22 rfl
theorem dL_law_390 : decode cL_law 390 = .ok (.iaload, 1) := wnGet dwL_law_5 dkL_law_5 23 rfl
theorem dL_law_391 : decode cL_law 391 = .ok (.aload_n 0, 1) := wnGet dwL_law_5 dkL_law_5 24 rfl
theorem dL_law_392 : decode cL_law 392 = .ok (.iload 4, 2) := wnGet dwL_law_5 dkL_law_5 25 rfl
theorem dL_law_394 : decode cL_law 394 = .ok (.iconst 2, 1) := wnGet dwL_law_5 dkL_law_5 26 rfl
theorem dL_law_395 : decode cL_law 395 = .ok (.iadd, 1) := wnGet dwL_law_5 dkL_law_5 27 rfl
theorem dL_law_396 : decode cL_law 396 = .ok (.iaload, 1) := wnGet dwL_law_5 dkL_law_5 28 rfl
theorem dL_law_397 : decode cL_law 397 = .ok (.aload_n 3, 1) := wnGet dwL_law_5 dkL_law_5 29 rfl
theorem dL_law_398 : decode cL_law 398 = .ok (.invokestatic 171, 3) := wnGet dwL_law_5 dkL_law_5 30 rfl
theorem dL_law_401 : decode cL_law 401 = .ok (.istore 5, 2) := wnGet dwL_law_5 dkL_law_5 31 rfl
def dvL_law_6 : List UInt8 := [44, 42, 21, 4, 4, 96, 46, 42, 21, 4, 5, 96, 46, 182, 0, 173, 54, 6, 167, 6, 95, 43, 42, 21, 4, 4, 96, 46, 45, 184, 0, 174, 54, 5, 44, 42, 21, 4, 4, 96, 46, 182, 0, 177, 54, 6, 167, 6, 67]
theorem dwL_law_6 : (cL_law.data.toList.drop 403).take dvL_law_6.length = dvL_law_6 := by decide +kernel
theorem dkL_law_6 : ([(403, (.aload_n 2, 1)), (404, (.aload_n 0, 1)), (405, (.iload 4, 2)), (407, (.iconst 1, 1)), (408, (.iadd, 1)), (409, (.iaload, 1)), (410, (.aload_n 0, 1)), (411, (.iload 4, 2)), (413, (.iconst 2, 1)), (414, (.iadd, 1)), (415, (.iaload, 1)), (416, (.invokevirtual 173, 3)), (419, (.istore 6, 2)), (421, (.goto 1631, 3)), (424, (.aload_n 1, 1)), (425, (.aload_n 0, 1)), (426, (.iload 4, 2)), (428, (.iconst 1, 1)), (429, (.iadd, 1)), (430, (.iaload, 1)), (431, (.aload_n 3, 1)), (432, (.invokestatic 174, 3)), (435, (.istore 5, 2)), (437, (.aload_n 2, 1)), (438, (.aload_n 0, 1)), (439, (.iload 4, 2)), (441, (.iconst 1, 1)), (442, (.iadd, 1)), (443, (.iaload, 1)), (444, (.invokevirtual 177, 3)), (447, (.istore 6, 2)), (449, (.goto 1603, 3))] : List (Nat × (Jvm.ClassFile.Instr × Nat))).all (wnL dvL_law_6 403) = true := by decide +kernel
theorem dL_law_403 : decode cL_law 403 = .ok (.aload_n 2, 1) := wnGet dwL_law_6 dkL_law_6 0 rfl
theorem dL_law_404 : decode cL_law 404 = .ok (.aload_n 0, 1) := wnGet dwL_law_6 dkL_law_6 1 rfl
theorem dL_law_405 : decode cL_law 405 = .ok (.iload 4, 2) := wnGet dwL_law_6 dkL_law_6 2 rfl
theorem dL_law_407 : decode cL_law 407 = .ok (.iconst 1, 1) := wnGet dwL_law_6 dkL_law_6 3 rfl
theorem dL_law_408 : decode cL_law 408 = .ok (.iadd, 1) := wnGet dwL_law_6 dkL_law_6 4 rfl
theorem dL_law_409 : decode cL_law 409 = .ok (.iaload, 1) := wnGet dwL_law_6 dkL_law_6 5 rfl
theorem dL_law_410 : decode cL_law 410 = .ok (.aload_n 0, 1) := wnGet dwL_law_6 dkL_law_6 6 rfl
theorem dL_law_411 : decode cL_law 411 = .ok (.iload 4, 2) := wnGet dwL_law_6 dkL_law_6 7 rfl
theorem dL_law_413 : decode cL_law 413 = .ok (.iconst 2, 1) := wnGet dwL_law_6 dkL_law_6 8 rfl
theorem dL_law_414 : decode cL_law 414 = .ok (.iadd, 1) := wnGet dwL_law_6 dkL_law_6 9 rfl
theorem dL_law_415 : decode cL_law 415 = .ok (.iaload, 1) := wnGet dwL_law_6 dkL_law_6 10 rfl
theorem dL_law_416 : decode cL_law 416 = .ok (.invokevirtual 173, 3) := wnGet dwL_law_6 dkL_law_6 11 rfl
theorem dL_law_419 : decode cL_law 419 = .ok (.istore 6, 2) := wnGet dwL_law_6 dkL_law_6 12 rfl
theorem dL_law_421 : decode cL_law 421 = .ok (.goto 1631, 3) := wnGet dwL_law_6 dkL_law_6 13 rfl
theorem dL_law_424 : decode cL_law 424 = .ok (.aload_n 1, 1) := wnGet dwL_law_6 dkL_law_6 14 rfl
theorem dL_law_425 : decode cL_law 425 = .ok (.aload_n 0, 1) := wnGet dwL_law_6 dkL_law_6 15 rfl
theorem dL_law_426 : decode cL_law 426 = .ok (.iload 4, 2) := wnGet dwL_law_6 dkL_law_6 16 rfl
theorem dL_law_428 : decode cL_law 428 = .ok (.iconst 1, 1) := wnGet dwL_law_6 dkL_law_6 17 rfl
theorem dL_law_429 : decode cL_law 429 = .ok (.iadd, 1) := wnGet dwL_law_6 dkL_law_6 18 rfl
theorem dL_law_430 : decode cL_law 430 = .ok (.iaload, 1) := wnGet dwL_law_6 dkL_law_6 19 rfl
theorem dL_law_431 : decode cL_law 431 = .ok (.aload_n 3, 1) := wnGet dwL_law_6 dkL_law_6 20 rfl
theorem dL_law_432 : decode cL_law 432 = .ok (.invokestatic 174, 3) := wnGet dwL_law_6 dkL_law_6 21 rfl
theorem dL_law_435 : decode cL_law 435 = .ok (.istore 5, 2) := wnGet dwL_law_6 dkL_law_6 22 rfl
theorem dL_law_437 : decode cL_law 437 = .ok (.aload_n 2, 1) := wnGet dwL_law_6 dkL_law_6 23 rfl
theorem dL_law_438 : decode cL_law 438 = .ok (.aload_n 0, 1) := wnGet dwL_law_6 dkL_law_6 24 rfl
theorem dL_law_439 : decode cL_law 439 = .ok (.iload 4, 2) := wnGet dwL_law_6 dkL_law_6 25 rfl
theorem dL_law_441 : decode cL_law 441 = .ok (.iconst 1, 1) := wnGet dwL_law_6 dkL_law_6 26 rfl
theorem dL_law_442 : decode cL_law 442 = .ok (.iadd, 1) := wnGet dwL_law_6 dkL_law_6 27 rfl
theorem dL_law_443 : decode cL_law 443 = .ok (.iaload, 1) := wnGet dwL_law_6 dkL_law_6 28 rfl
theorem dL_law_444 : decode cL_law 444 = .ok (.invokevirtual 177, 3) := wnGet dwL_law_6 dkL_law_6 29 rfl
theorem dL_law_447 : decode cL_law 447 = .ok (.istore 6, 2) := wnGet dwL_law_6 dkL_law_6 30 rfl
theorem dL_law_449 : decode cL_law 449 = .ok (.goto 1603, 3) := wnGet dwL_law_6 dkL_law_6 31 rfl
def dvL_law_7 : List UInt8 := [43, 42, 21, 4, 4, 96, 46, 42, 21, 4, 5, 96, 46, 45, 184, 0, 178, 54, 5, 44, 42, 21, 4, 4, 96, 46, 42, 21, 4, 5, 96, 46, 182, 0, 180, 54, 6, 167, 6, 27, 43, 42, 21, 4, 4]
theorem dwL_law_7 : (cL_law.data.toList.drop 452).take dvL_law_7.length = dvL_law_7 := by decide +kernel
theorem dkL_law_7 : ([(452, (.aload_n 1, 1)), (453, (.aload_n 0, 1)), (454, (.iload 4, 2)), (456, (.iconst 1, 1)), (457, (.iadd, 1)), (458, (.iaload, 1)), (459, (.aload_n 0, 1)), (460, (.iload 4, 2)), (462, (.iconst 2, 1)), (463, (.iadd, 1)), (464, (.iaload, 1)), (465, (.aload_n 3, 1)), (466, (.invokestatic 178, 3)), (469, (.istore 5, 2)), (471, (.aload_n 2, 1)), (472, (.aload_n 0, 1)), (473, (.iload 4, 2)), (475, (.iconst 1, 1)), (476, (.iadd, 1)), (477, (.iaload, 1)), (478, (.aload_n 0, 1)), (479, (.iload 4, 2)), (481, (.iconst 2, 1)), (482, (.iadd, 1)), (483, (.iaload, 1)), (484, (.invokevirtual 180, 3)), (487, (.istore 6, 2)), (489, (.goto 1563, 3)), (492, (.aload_n 1, 1)), (493, (.aload_n 0, 1)), (494, (.iload 4, 2)), (496, (.iconst 1, 1))] : List (Nat × (Jvm.ClassFile.Instr × Nat))).all (wnL dvL_law_7 452) = true := by decide +kernel
theorem dL_law_452 : decode cL_law 452 = .ok (.aload_n 1, 1) := wnGet dwL_law_7 dkL_law_7 0 rfl
theorem dL_law_453 : decode cL_law 453 = .ok (.aload_n 0, 1) := wnGet dwL_law_7 dkL_law_7 1 rfl
theorem dL_law_454 : decode cL_law 454 = .ok (.iload 4, 2) := wnGet dwL_law_7 dkL_law_7 2 rfl
theorem dL_law_456 : decode cL_law 456 = .ok (.iconst 1, 1) := wnGet dwL_law_7 dkL_law_7 3 rfl
theorem dL_law_457 : decode cL_law 457 = .ok (.iadd, 1) := wnGet dwL_law_7 dkL_law_7 4 rfl
theorem dL_law_458 : decode cL_law 458 = .ok (.iaload, 1) := wnGet dwL_law_7 dkL_law_7 5 rfl
theorem dL_law_459 : decode cL_law 459 = .ok (.aload_n 0, 1) := wnGet dwL_law_7 dkL_law_7 6 rfl
theorem dL_law_460 : decode cL_law 460 = .ok (.iload 4, 2) := wnGet dwL_law_7 dkL_law_7 7 rfl
theorem dL_law_462 : decode cL_law 462 = .ok (.iconst 2, 1) := wnGet dwL_law_7 dkL_law_7 8 rfl
theorem dL_law_463 : decode cL_law 463 = .ok (.iadd, 1) := wnGet dwL_law_7 dkL_law_7 9 rfl
theorem dL_law_464 : decode cL_law 464 = .ok (.iaload, 1) := wnGet dwL_law_7 dkL_law_7 10 rfl
theorem dL_law_465 : decode cL_law 465 = .ok (.aload_n 3, 1) := wnGet dwL_law_7 dkL_law_7 11 rfl
theorem dL_law_466 : decode cL_law 466 = .ok (.invokestatic 178, 3) := wnGet dwL_law_7 dkL_law_7 12 rfl
theorem dL_law_469 : decode cL_law 469 = .ok (.istore 5, 2) := wnGet dwL_law_7 dkL_law_7 13 rfl
theorem dL_law_471 : decode cL_law 471 = .ok (.aload_n 2, 1) := wnGet dwL_law_7 dkL_law_7 14 rfl
theorem dL_law_472 : decode cL_law 472 = .ok (.aload_n 0, 1) := wnGet dwL_law_7 dkL_law_7 15 rfl
theorem dL_law_473 : decode cL_law 473 = .ok (.iload 4, 2) := wnGet dwL_law_7 dkL_law_7 16 rfl
theorem dL_law_475 : decode cL_law 475 = .ok (.iconst 1, 1) := wnGet dwL_law_7 dkL_law_7 17 rfl
theorem dL_law_476 : decode cL_law 476 = .ok (.iadd, 1) := wnGet dwL_law_7 dkL_law_7 18 rfl
theorem dL_law_477 : decode cL_law 477 = .ok (.iaload, 1) := wnGet dwL_law_7 dkL_law_7 19 rfl
theorem dL_law_478 : decode cL_law 478 = .ok (.aload_n 0, 1) := wnGet dwL_law_7 dkL_law_7 20 rfl
theorem dL_law_479 : decode cL_law 479 = .ok (.iload 4, 2) := wnGet dwL_law_7 dkL_law_7 21 rfl
theorem dL_law_481 : decode cL_law 481 = .ok (.iconst 2, 1) := wnGet dwL_law_7 dkL_law_7 22 rfl
theorem dL_law_482 : decode cL_law 482 = .ok (.iadd, 1) := wnGet dwL_law_7 dkL_law_7 23 rfl
theorem dL_law_483 : decode cL_law 483 = .ok (.iaload, 1) := wnGet dwL_law_7 dkL_law_7 24 rfl
theorem dL_law_484 : decode cL_law 484 = .ok (.invokevirtual 180, 3) := wnGet dwL_law_7 dkL_law_7 25 rfl
theorem dL_law_487 : decode cL_law 487 = .ok (.istore 6, 2) := wnGet dwL_law_7 dkL_law_7 26 rfl
theorem dL_law_489 : decode cL_law 489 = .ok (.goto 1563, 3) := wnGet dwL_law_7 dkL_law_7 27 rfl
theorem dL_law_492 : decode cL_law 492 = .ok (.aload_n 1, 1) := wnGet dwL_law_7 dkL_law_7 28 rfl
theorem dL_law_493 : decode cL_law 493 = .ok (.aload_n 0, 1) := wnGet dwL_law_7 dkL_law_7 29 rfl
theorem dL_law_494 : decode cL_law 494 = .ok (.iload 4, 2) := wnGet dwL_law_7 dkL_law_7 30 rfl
theorem dL_law_496 : decode cL_law 496 = .ok (.iconst 1, 1) := wnGet dwL_law_7 dkL_law_7 31 rfl
def dvL_law_8 : List UInt8 := [96, 46, 45, 184, 0, 181, 54, 5, 44, 42, 21, 4, 4, 96, 46, 182, 0, 183, 54, 6, 167, 5, 255, 43, 42, 21, 4, 4, 96, 46, 42, 21, 4, 5, 96, 46, 45, 184, 0, 184, 54, 5, 44, 42, 21, 4, 4]
theorem dwL_law_8 : (cL_law.data.toList.drop 497).take dvL_law_8.length = dvL_law_8 := by decide +kernel
theorem dkL_law_8 : ([(497, (.iadd, 1)), (498, (.iaload, 1)), (499, (.aload_n 3, 1)), (500, (.invokestatic 181, 3)), (503, (.istore 5, 2)), (505, (.aload_n 2, 1)), (506, (.aload_n 0, 1)), (507, (.iload 4, 2)), (509, (.iconst 1, 1)), (510, (.iadd, 1)), (511, (.iaload, 1)), (512, (.invokevirtual 183, 3)), (515, (.istore 6, 2)), (517, (.goto 1535, 3)), (520, (.aload_n 1, 1)), (521, (.aload_n 0, 1)), (522, (.iload 4, 2)), (524, (.iconst 1, 1)), (525, (.iadd, 1)), (526, (.iaload, 1)), (527, (.aload_n 0, 1)), (528, (.iload 4, 2)), (530, (.iconst 2, 1)), (531, (.iadd, 1)), (532, (.iaload, 1)), (533, (.aload_n 3, 1)), (534, (.invokestatic 184, 3)), (537, (.istore 5, 2)), (539, (.aload_n 2, 1)), (540, (.aload_n 0, 1)), (541, (.iload 4, 2)), (543, (.iconst 1, 1))] : List (Nat × (Jvm.ClassFile.Instr × Nat))).all (wnL dvL_law_8 497) = true := by decide +kernel
theorem dL_law_497 : decode cL_law 497 = .ok (.iadd, 1) := wnGet dwL_law_8 dkL_law_8 0 rfl
theorem dL_law_498 : decode cL_law 498 = .ok (.iaload, 1) := wnGet dwL_law_8 dkL_law_8 1 rfl
theorem dL_law_499 : decode cL_law 499 = .ok (.aload_n 3, 1) := wnGet dwL_law_8 dkL_law_8 2 rfl
theorem dL_law_500 : decode cL_law 500 = .ok (.invokestatic 181, 3) := wnGet dwL_law_8 dkL_law_8 3 rfl
theorem dL_law_503 : decode cL_law 503 = .ok (.istore 5, 2) := wnGet dwL_law_8 dkL_law_8 4 rfl
theorem dL_law_505 : decode cL_law 505 = .ok (.aload_n 2, 1) := wnGet dwL_law_8 dkL_law_8 5 rfl
theorem dL_law_506 : decode cL_law 506 = .ok (.aload_n 0, 1) := wnGet dwL_law_8 dkL_law_8 6 rfl
theorem dL_law_507 : decode cL_law 507 = .ok (.iload 4, 2) := wnGet dwL_law_8 dkL_law_8 7 rfl
theorem dL_law_509 : decode cL_law 509 = .ok (.iconst 1, 1) := wnGet dwL_law_8 dkL_law_8 8 rfl
theorem dL_law_510 : decode cL_law 510 = .ok (.iadd, 1) := wnGet dwL_law_8 dkL_law_8 9 rfl
theorem dL_law_511 : decode cL_law 511 = .ok (.iaload, 1) := wnGet dwL_law_8 dkL_law_8 10 rfl
theorem dL_law_512 : decode cL_law 512 = .ok (.invokevirtual 183, 3) := wnGet dwL_law_8 dkL_law_8 11 rfl
theorem dL_law_515 : decode cL_law 515 = .ok (.istore 6, 2) := wnGet dwL_law_8 dkL_law_8 12 rfl
theorem dL_law_517 : decode cL_law 517 = .ok (.goto 1535, 3) := wnGet dwL_law_8 dkL_law_8 13 rfl
theorem dL_law_520 : decode cL_law 520 = .ok (.aload_n 1, 1) := wnGet dwL_law_8 dkL_law_8 14 rfl
theorem dL_law_521 : decode cL_law 521 = .ok (.aload_n 0, 1) := wnGet dwL_law_8 dkL_law_8 15 rfl
theorem dL_law_522 : decode cL_law 522 = .ok (.iload 4, 2) := wnGet dwL_law_8 dkL_law_8 16 rfl
theorem dL_law_524 : decode cL_law 524 = .ok (.iconst 1, 1) := wnGet dwL_law_8 dkL_law_8 17 rfl
theorem dL_law_525 : decode cL_law 525 = .ok (.iadd, 1) := wnGet dwL_law_8 dkL_law_8 18 rfl
theorem dL_law_526 : decode cL_law 526 = .ok (.iaload, 1) := wnGet dwL_law_8 dkL_law_8 19 rfl
theorem dL_law_527 : decode cL_law 527 = .ok (.aload_n 0, 1) := wnGet dwL_law_8 dkL_law_8 20 rfl
theorem dL_law_528 : decode cL_law 528 = .ok (.iload 4, 2) := wnGet dwL_law_8 dkL_law_8 21 rfl
theorem dL_law_530 : decode cL_law 530 = .ok (.iconst 2, 1) := wnGet dwL_law_8 dkL_law_8 22 rfl
theorem dL_law_531 : decode cL_law 531 = .ok (.iadd, 1) := wnGet dwL_law_8 dkL_law_8 23 rfl
theorem dL_law_532 : decode cL_law 532 = .ok (.iaload, 1) := wnGet dwL_law_8 dkL_law_8 24 rfl
theorem dL_law_533 : decode cL_law 533 = .ok (.aload_n 3, 1) := wnGet dwL_law_8 dkL_law_8 25 rfl
theorem dL_law_534 : decode cL_law 534 = .ok (.invokestatic 184, 3) := wnGet dwL_law_8 dkL_law_8 26 rfl
theorem dL_law_537 : decode cL_law 537 = .ok (.istore 5, 2) := wnGet dwL_law_8 dkL_law_8 27 rfl
theorem dL_law_539 : decode cL_law 539 = .ok (.aload_n 2, 1) := wnGet dwL_law_8 dkL_law_8 28 rfl
theorem dL_law_540 : decode cL_law 540 = .ok (.aload_n 0, 1) := wnGet dwL_law_8 dkL_law_8 29 rfl
theorem dL_law_541 : decode cL_law 541 = .ok (.iload 4, 2) := wnGet dwL_law_8 dkL_law_8 30 rfl
theorem dL_law_543 : decode cL_law 543 = .ok (.iconst 1, 1) := wnGet dwL_law_8 dkL_law_8 31 rfl
def dvL_law_9 : List UInt8 := [96, 46, 42, 21, 4, 5, 96, 46, 182, 0, 186, 54, 6, 167, 5, 215, 43, 42, 21, 4, 4, 96, 46, 42, 21, 4, 5, 96, 46, 42, 21, 4, 6, 96, 46, 45, 184, 0, 187, 54, 5, 44, 42, 21, 4]
theorem dwL_law_9 : (cL_law.data.toList.drop 544).take dvL_law_9.length = dvL_law_9 := by decide +kernel
theorem dkL_law_9 : ([(544, (.iadd, 1)), (545, (.iaload, 1)), (546, (.aload_n 0, 1)), (547, (.iload 4, 2)), (549, (.iconst 2, 1)), (550, (.iadd, 1)), (551, (.iaload, 1)), (552, (.invokevirtual 186, 3)), (555, (.istore 6, 2)), (557, (.goto 1495, 3)), (560, (.aload_n 1, 1)), (561, (.aload_n 0, 1)), (562, (.iload 4, 2)), (564, (.iconst 1, 1)), (565, (.iadd, 1)), (566, (.iaload, 1)), (567, (.aload_n 0, 1)), (568, (.iload 4, 2)), (570, (.iconst 2, 1)), (571, (.iadd, 1)), (572, (.iaload, 1)), (573, (.aload_n 0, 1)), (574, (.iload 4, 2)), (576, (.iconst 3, 1)), (577, (.iadd, 1)), (578, (.iaload, 1)), (579, (.aload_n 3, 1)), (580, (.invokestatic 187, 3)), (583, (.istore 5, 2)), (585, (.aload_n 2, 1)), (586, (.aload_n 0, 1)), (587, (.iload 4, 2))] : List (Nat × (Jvm.ClassFile.Instr × Nat))).all (wnL dvL_law_9 544) = true := by decide +kernel
theorem dL_law_544 : decode cL_law 544 = .ok (.iadd, 1) := wnGet dwL_law_9 dkL_law_9 0 rfl
theorem dL_law_545 : decode cL_law 545 = .ok (.iaload, 1) := wnGet dwL_law_9 dkL_law_9 1 rfl
theorem dL_law_546 : decode cL_law 546 = .ok (.aload_n 0, 1) := wnGet dwL_law_9 dkL_law_9 2 rfl
theorem dL_law_547 : decode cL_law 547 = .ok (.iload 4, 2) := wnGet dwL_law_9 dkL_law_9 3 rfl
theorem dL_law_549 : decode cL_law 549 = .ok (.iconst 2, 1) := wnGet dwL_law_9 dkL_law_9 4 rfl
theorem dL_law_550 : decode cL_law 550 = .ok (.iadd, 1) := wnGet dwL_law_9 dkL_law_9 5 rfl
theorem dL_law_551 : decode cL_law 551 = .ok (.iaload, 1) := wnGet dwL_law_9 dkL_law_9 6 rfl
theorem dL_law_552 : decode cL_law 552 = .ok (.invokevirtual 186, 3) := wnGet dwL_law_9 dkL_law_9 7 rfl
theorem dL_law_555 : decode cL_law 555 = .ok (.istore 6, 2) := wnGet dwL_law_9 dkL_law_9 8 rfl
theorem dL_law_557 : decode cL_law 557 = .ok (.goto 1495, 3) := wnGet dwL_law_9 dkL_law_9 9 rfl
theorem dL_law_560 : decode cL_law 560 = .ok (.aload_n 1, 1) := wnGet dwL_law_9 dkL_law_9 10 rfl
theorem dL_law_561 : decode cL_law 561 = .ok (.aload_n 0, 1) := wnGet dwL_law_9 dkL_law_9 11 rfl
theorem dL_law_562 : decode cL_law 562 = .ok (.iload 4, 2) := wnGet dwL_law_9 dkL_law_9 12 rfl
theorem dL_law_564 : decode cL_law 564 = .ok (.iconst 1, 1) := wnGet dwL_law_9 dkL_law_9 13 rfl
theorem dL_law_565 : decode cL_law 565 = .ok (.iadd, 1) := wnGet dwL_law_9 dkL_law_9 14 rfl
theorem dL_law_566 : decode cL_law 566 = .ok (.iaload, 1) := wnGet dwL_law_9 dkL_law_9 15 rfl
theorem dL_law_567 : decode cL_law 567 = .ok (.aload_n 0, 1) := wnGet dwL_law_9 dkL_law_9 16 rfl
theorem dL_law_568 : decode cL_law 568 = .ok (.iload 4, 2) := wnGet dwL_law_9 dkL_law_9 17 rfl
theorem dL_law_570 : decode cL_law 570 = .ok (.iconst 2, 1) := wnGet dwL_law_9 dkL_law_9 18 rfl
theorem dL_law_571 : decode cL_law 571 = .ok (.iadd, 1) := wnGet dwL_law_9 dkL_law_9 19 rfl
theorem dL_law_572 : decode cL_law 572 = .ok (.iaload, 1) := wnGet dwL_law_9 dkL_law_9 20 rfl
theorem dL_law_573 : decode cL_law 573 = .ok (.aload_n 0, 1) := wnGet dwL_law_9 dkL_law_9 21 rfl
theorem dL_law_574 : decode cL_law 574 = .ok (.iload 4, 2) := wnGet dwL_law_9 dkL_law_9 22 rfl
theorem dL_law_576 : decode cL_law 576 = .ok (.iconst 3, 1) := wnGet dwL_law_9 dkL_law_9 23 rfl
theorem dL_law_577 : decode cL_law 577 = .ok (.iadd, 1) := wnGet dwL_law_9 dkL_law_9 24 rfl
theorem dL_law_578 : decode cL_law 578 = .ok (.iaload, 1) := wnGet dwL_law_9 dkL_law_9 25 rfl
theorem dL_law_579 : decode cL_law 579 = .ok (.aload_n 3, 1) := wnGet dwL_law_9 dkL_law_9 26 rfl
theorem dL_law_580 : decode cL_law 580 = .ok (.invokestatic 187, 3) := wnGet dwL_law_9 dkL_law_9 27 rfl
theorem dL_law_583 : decode cL_law 583 = .ok (.istore 5, 2) := wnGet dwL_law_9 dkL_law_9 28 rfl
theorem dL_law_585 : decode cL_law 585 = .ok (.aload_n 2, 1) := wnGet dwL_law_9 dkL_law_9 29 rfl
theorem dL_law_586 : decode cL_law 586 = .ok (.aload_n 0, 1) := wnGet dwL_law_9 dkL_law_9 30 rfl
theorem dL_law_587 : decode cL_law 587 = .ok (.iload 4, 2) := wnGet dwL_law_9 dkL_law_9 31 rfl
def dvL_law_10 : List UInt8 := [4, 96, 46, 42, 21, 4, 5, 96, 46, 42, 21, 4, 6, 96, 46, 182, 0, 189, 54, 6, 167, 5, 163, 43, 42, 21, 4, 4, 96, 46, 42, 21, 4, 5, 96, 46, 42, 21, 4, 6, 96, 46]
theorem dwL_law_10 : (cL_law.data.toList.drop 589).take dvL_law_10.length = dvL_law_10 := by decide +kernel
theorem dkL_law_10 : ([(589, (.iconst 1, 1)), (590, (.iadd, 1)), (591, (.iaload, 1)), (592, (.aload_n 0, 1)), (593, (.iload 4, 2)), (595, (.iconst 2, 1)), (596, (.iadd, 1)), (597, (.iaload, 1)), (598, (.aload_n 0, 1)), (599, (.iload 4, 2)), (601, (.iconst 3, 1)), (602, (.iadd, 1)), (603, (.iaload, 1)), (604, (.invokevirtual 189, 3)), (607, (.istore 6, 2)), (609, (.goto 1443, 3)), (612, (.aload_n 1, 1)), (613, (.aload_n 0, 1)), (614, (.iload 4, 2)), (616, (.iconst 1, 1)), (617, (.iadd, 1)), (618, (.iaload, 1)), (619, (.aload_n 0, 1)), (620, (.iload 4, 2)), (622, (.iconst 2, 1)), (623, (.iadd, 1)), (624, (.iaload, 1)), (625, (.aload_n 0, 1)), (626, (.iload 4, 2)), (628, (.iconst 3, 1)), (629, (.iadd, 1)), (630, (.iaload, 1))] : List (Nat × (Jvm.ClassFile.Instr × Nat))).all (wnL dvL_law_10 589) = true := by decide +kernel
theorem dL_law_589 : decode cL_law 589 = .ok (.iconst 1, 1) := wnGet dwL_law_10 dkL_law_10 0 rfl
theorem dL_law_590 : decode cL_law 590 = .ok (.iadd, 1) := wnGet dwL_law_10 dkL_law_10 1 rfl
theorem dL_law_591 : decode cL_law 591 = .ok (.iaload, 1) := wnGet dwL_law_10 dkL_law_10 2 rfl
theorem dL_law_592 : decode cL_law 592 = .ok (.aload_n 0, 1) := wnGet dwL_law_10 dkL_law_10 3 rfl
theorem dL_law_593 : decode cL_law 593 = .ok (.iload 4, 2) := wnGet dwL_law_10 dkL_law_10 4 rfl
theorem dL_law_595 : decode cL_law 595 = .ok (.iconst 2, 1) := wnGet dwL_law_10 dkL_law_10 5 rfl
theorem dL_law_596 : decode cL_law 596 = .ok (.iadd, 1) := wnGet dwL_law_10 dkL_law_10 6 rfl
theorem dL_law_597 : decode cL_law 597 = .ok (.iaload, 1) := wnGet dwL_law_10 dkL_law_10 7 rfl
theorem dL_law_598 : decode cL_law 598 = .ok (.aload_n 0, 1) := wnGet dwL_law_10 dkL_law_10 8 rfl
theorem dL_law_599 : decode cL_law 599 = .ok (.iload 4, 2) := wnGet dwL_law_10 dkL_law_10 9 rfl
theorem dL_law_601 : decode cL_law 601 = .ok (.iconst 3, 1) := wnGet dwL_law_10 dkL_law_10 10 rfl
theorem dL_law_602 : decode cL_law 602 = .ok (.iadd, 1) := wnGet dwL_law_10 dkL_law_10 11 rfl
theorem dL_law_603 : decode cL_law 603 = .ok (.iaload, 1) := wnGet dwL_law_10 dkL_law_10 12 rfl
theorem dL_law_604 : decode cL_law 604 = .ok (.invokevirtual 189, 3) := wnGet dwL_law_10 dkL_law_10 13 rfl
theorem dL_law_607 : decode cL_law 607 = .ok (.istore 6, 2) := wnGet dwL_law_10 dkL_law_10 14 rfl
theorem dL_law_609 : decode cL_law 609 = .ok (.goto 1443, 3) := wnGet dwL_law_10 dkL_law_10 15 rfl
theorem dL_law_612 : decode cL_law 612 = .ok (.aload_n 1, 1) := wnGet dwL_law_10 dkL_law_10 16 rfl
theorem dL_law_613 : decode cL_law 613 = .ok (.aload_n 0, 1) := wnGet dwL_law_10 dkL_law_10 17 rfl
theorem dL_law_614 : decode cL_law 614 = .ok (.iload 4, 2) := wnGet dwL_law_10 dkL_law_10 18 rfl
theorem dL_law_616 : decode cL_law 616 = .ok (.iconst 1, 1) := wnGet dwL_law_10 dkL_law_10 19 rfl
theorem dL_law_617 : decode cL_law 617 = .ok (.iadd, 1) := wnGet dwL_law_10 dkL_law_10 20 rfl
theorem dL_law_618 : decode cL_law 618 = .ok (.iaload, 1) := wnGet dwL_law_10 dkL_law_10 21 rfl
theorem dL_law_619 : decode cL_law 619 = .ok (.aload_n 0, 1) := wnGet dwL_law_10 dkL_law_10 22 rfl
theorem dL_law_620 : decode cL_law 620 = .ok (.iload 4, 2) := wnGet dwL_law_10 dkL_law_10 23 rfl
theorem dL_law_622 : decode cL_law 622 = .ok (.iconst 2, 1) := wnGet dwL_law_10 dkL_law_10 24 rfl
theorem dL_law_623 : decode cL_law 623 = .ok (.iadd, 1) := wnGet dwL_law_10 dkL_law_10 25 rfl
theorem dL_law_624 : decode cL_law 624 = .ok (.iaload, 1) := wnGet dwL_law_10 dkL_law_10 26 rfl
theorem dL_law_625 : decode cL_law 625 = .ok (.aload_n 0, 1) := wnGet dwL_law_10 dkL_law_10 27 rfl
theorem dL_law_626 : decode cL_law 626 = .ok (.iload 4, 2) := wnGet dwL_law_10 dkL_law_10 28 rfl
theorem dL_law_628 : decode cL_law 628 = .ok (.iconst 3, 1) := wnGet dwL_law_10 dkL_law_10 29 rfl
theorem dL_law_629 : decode cL_law 629 = .ok (.iadd, 1) := wnGet dwL_law_10 dkL_law_10 30 rfl
theorem dL_law_630 : decode cL_law 630 = .ok (.iaload, 1) := wnGet dwL_law_10 dkL_law_10 31 rfl
def dvL_law_11 : List UInt8 := [45, 184, 0, 190, 54, 5, 44, 42, 21, 4, 4, 96, 46, 42, 21, 4, 5, 96, 46, 42, 21, 4, 6, 96, 46, 182, 0, 192, 54, 6, 167, 5, 111, 43, 42, 21, 4, 4, 96, 46, 42, 21, 4, 5, 96]
theorem dwL_law_11 : (cL_law.data.toList.drop 631).take dvL_law_11.length = dvL_law_11 := by decide +kernel
theorem dkL_law_11 : ([(631, (.aload_n 3, 1)), (632, (.invokestatic 190, 3)), (635, (.istore 5, 2)), (637, (.aload_n 2, 1)), (638, (.aload_n 0, 1)), (639, (.iload 4, 2)), (641, (.iconst 1, 1)), (642, (.iadd, 1)), (643, (.iaload, 1)), (644, (.aload_n 0, 1)), (645, (.iload 4, 2)), (647, (.iconst 2, 1)), (648, (.iadd, 1)), (649, (.iaload, 1)), (650, (.aload_n 0, 1)), (651, (.iload 4, 2)), (653, (.iconst 3, 1)), (654, (.iadd, 1)), (655, (.iaload, 1)), (656, (.invokevirtual 192, 3)), (659, (.istore 6, 2)), (661, (.goto 1391, 3)), (664, (.aload_n 1, 1)), (665, (.aload_n 0, 1)), (666, (.iload 4, 2)), (668, (.iconst 1, 1)), (669, (.iadd, 1)), (670, (.iaload, 1)), (671, (.aload_n 0, 1)), (672, (.iload 4, 2)), (674, (.iconst 2, 1)), (675, (.iadd, 1))] : List (Nat × (Jvm.ClassFile.Instr × Nat))).all (wnL dvL_law_11 631) = true := by decide +kernel
theorem dL_law_631 : decode cL_law 631 = .ok (.aload_n 3, 1) := wnGet dwL_law_11 dkL_law_11 0 rfl
theorem dL_law_632 : decode cL_law 632 = .ok (.invokestatic 190, 3) := wnGet dwL_law_11 dkL_law_11 1 rfl
theorem dL_law_635 : decode cL_law 635 = .ok (.istore 5, 2) := wnGet dwL_law_11 dkL_law_11 2 rfl
theorem dL_law_637 : decode cL_law 637 = .ok (.aload_n 2, 1) := wnGet dwL_law_11 dkL_law_11 3 rfl
theorem dL_law_638 : decode cL_law 638 = .ok (.aload_n 0, 1) := wnGet dwL_law_11 dkL_law_11 4 rfl
theorem dL_law_639 : decode cL_law 639 = .ok (.iload 4, 2) := wnGet dwL_law_11 dkL_law_11 5 rfl
theorem dL_law_641 : decode cL_law 641 = .ok (.iconst 1, 1) := wnGet dwL_law_11 dkL_law_11 6 rfl
theorem dL_law_642 : decode cL_law 642 = .ok (.iadd, 1) := wnGet dwL_law_11 dkL_law_11 7 rfl
theorem dL_law_643 : decode cL_law 643 = .ok (.iaload, 1) := wnGet dwL_law_11 dkL_law_11 8 rfl
theorem dL_law_644 : decode cL_law 644 = .ok (.aload_n 0, 1) := wnGet dwL_law_11 dkL_law_11 9 rfl
theorem dL_law_645 : decode cL_law 645 = .ok (.iload 4, 2) := wnGet dwL_law_11 dkL_law_11 10 rfl
theorem dL_law_647 : decode cL_law 647 = .ok (.iconst 2, 1) := wnGet dwL_law_11 dkL_law_11 11 rfl
theorem dL_law_648 : decode cL_law 648 = .ok (.iadd, 1) := wnGet dwL_law_11 dkL_law_11 12 rfl
theorem dL_law_649 : decode cL_law 649 = .ok (.iaload, 1) := wnGet dwL_law_11 dkL_law_11 13 rfl
theorem dL_law_650 : decode cL_law 650 = .ok (.aload_n 0, 1) := wnGet dwL_law_11 dkL_law_11 14 rfl
theorem dL_law_651 : decode cL_law 651 = .ok (.iload 4, 2) := wnGet dwL_law_11 dkL_law_11 15 rfl
theorem dL_law_653 : decode cL_law 653 = .ok (.iconst 3, 1) := wnGet dwL_law_11 dkL_law_11 16 rfl
theorem dL_law_654 : decode cL_law 654 = .ok (.iadd, 1) := wnGet dwL_law_11 dkL_law_11 17 rfl
theorem dL_law_655 : decode cL_law 655 = .ok (.iaload, 1) := wnGet dwL_law_11 dkL_law_11 18 rfl
theorem dL_law_656 : decode cL_law 656 = .ok (.invokevirtual 192, 3) := wnGet dwL_law_11 dkL_law_11 19 rfl
theorem dL_law_659 : decode cL_law 659 = .ok (.istore 6, 2) := wnGet dwL_law_11 dkL_law_11 20 rfl
theorem dL_law_661 : decode cL_law 661 = .ok (.goto 1391, 3) := wnGet dwL_law_11 dkL_law_11 21 rfl
theorem dL_law_664 : decode cL_law 664 = .ok (.aload_n 1, 1) := wnGet dwL_law_11 dkL_law_11 22 rfl
theorem dL_law_665 : decode cL_law 665 = .ok (.aload_n 0, 1) := wnGet dwL_law_11 dkL_law_11 23 rfl
theorem dL_law_666 : decode cL_law 666 = .ok (.iload 4, 2) := wnGet dwL_law_11 dkL_law_11 24 rfl
theorem dL_law_668 : decode cL_law 668 = .ok (.iconst 1, 1) := wnGet dwL_law_11 dkL_law_11 25 rfl
theorem dL_law_669 : decode cL_law 669 = .ok (.iadd, 1) := wnGet dwL_law_11 dkL_law_11 26 rfl
theorem dL_law_670 : decode cL_law 670 = .ok (.iaload, 1) := wnGet dwL_law_11 dkL_law_11 27 rfl
theorem dL_law_671 : decode cL_law 671 = .ok (.aload_n 0, 1) := wnGet dwL_law_11 dkL_law_11 28 rfl
theorem dL_law_672 : decode cL_law 672 = .ok (.iload 4, 2) := wnGet dwL_law_11 dkL_law_11 29 rfl
theorem dL_law_674 : decode cL_law 674 = .ok (.iconst 2, 1) := wnGet dwL_law_11 dkL_law_11 30 rfl
theorem dL_law_675 : decode cL_law 675 = .ok (.iadd, 1) := wnGet dwL_law_11 dkL_law_11 31 rfl
def dvL_law_12 : List UInt8 := [46, 42, 21, 4, 6, 96, 46, 42, 21, 4, 7, 96, 46, 45, 184, 0, 193, 54, 5, 44, 42, 21, 4, 4, 96, 46, 42, 21, 4, 5, 96, 46, 42, 21, 4, 6, 96, 46, 42, 21, 4]
theorem dwL_law_12 : (cL_law.data.toList.drop 676).take dvL_law_12.length = dvL_law_12 := by decide +kernel
theorem dkL_law_12 : ([(676, (.iaload, 1)), (677, (.aload_n 0, 1)), (678, (.iload 4, 2)), (680, (.iconst 3, 1)), (681, (.iadd, 1)), (682, (.iaload, 1)), (683, (.aload_n 0, 1)), (684, (.iload 4, 2)), (686, (.iconst 4, 1)), (687, (.iadd, 1)), (688, (.iaload, 1)), (689, (.aload_n 3, 1)), (690, (.invokestatic 193, 3)), (693, (.istore 5, 2)), (695, (.aload_n 2, 1)), (696, (.aload_n 0, 1)), (697, (.iload 4, 2)), (699, (.iconst 1, 1)), (700, (.iadd, 1)), (701, (.iaload, 1)), (702, (.aload_n 0, 1)), (703, (.iload 4, 2)), (705, (.iconst 2, 1)), (706, (.iadd, 1)), (707, (.iaload, 1)), (708, (.aload_n 0, 1)), (709, (.iload 4, 2)), (711, (.iconst 3, 1)), (712, (.iadd, 1)), (713, (.iaload, 1)), (714, (.aload_n 0, 1)), (715, (.iload 4, 2))] : List (Nat × (Jvm.ClassFile.Instr × Nat))).all (wnL dvL_law_12 676) = true := by decide +kernel
theorem dL_law_676 : decode cL_law 676 = .ok (.iaload, 1) := wnGet dwL_law_12 dkL_law_12 0 rfl
theorem dL_law_677 : decode cL_law 677 = .ok (.aload_n 0, 1) := wnGet dwL_law_12 dkL_law_12 1 rfl
theorem dL_law_678 : decode cL_law 678 = .ok (.iload 4, 2) := wnGet dwL_law_12 dkL_law_12 2 rfl
theorem dL_law_680 : decode cL_law 680 = .ok (.iconst 3, 1) := wnGet dwL_law_12 dkL_law_12 3 rfl
theorem dL_law_681 : decode cL_law 681 = .ok (.iadd, 1) := wnGet dwL_law_12 dkL_law_12 4 rfl
theorem dL_law_682 : decode cL_law 682 = .ok (.iaload, 1) := wnGet dwL_law_12 dkL_law_12 5 rfl
theorem dL_law_683 : decode cL_law 683 = .ok (.aload_n 0, 1) := wnGet dwL_law_12 dkL_law_12 6 rfl
theorem dL_law_684 : decode cL_law 684 = .ok (.iload 4, 2) := wnGet dwL_law_12 dkL_law_12 7 rfl
theorem dL_law_686 : decode cL_law 686 = .ok (.iconst 4, 1) := wnGet dwL_law_12 dkL_law_12 8 rfl
theorem dL_law_687 : decode cL_law 687 = .ok (.iadd, 1) := wnGet dwL_law_12 dkL_law_12 9 rfl
theorem dL_law_688 : decode cL_law 688 = .ok (.iaload, 1) := wnGet dwL_law_12 dkL_law_12 10 rfl
theorem dL_law_689 : decode cL_law 689 = .ok (.aload_n 3, 1) := wnGet dwL_law_12 dkL_law_12 11 rfl
theorem dL_law_690 : decode cL_law 690 = .ok (.invokestatic 193, 3) := wnGet dwL_law_12 dkL_law_12 12 rfl
theorem dL_law_693 : decode cL_law 693 = .ok (.istore 5, 2) := wnGet dwL_law_12 dkL_law_12 13 rfl
theorem dL_law_695 : decode cL_law 695 = .ok (.aload_n 2, 1) := wnGet dwL_law_12 dkL_law_12 14 rfl
theorem dL_law_696 : decode cL_law 696 = .ok (.aload_n 0, 1) := wnGet dwL_law_12 dkL_law_12 15 rfl
theorem dL_law_697 : decode cL_law 697 = .ok (.iload 4, 2) := wnGet dwL_law_12 dkL_law_12 16 rfl
theorem dL_law_699 : decode cL_law 699 = .ok (.iconst 1, 1) := wnGet dwL_law_12 dkL_law_12 17 rfl
theorem dL_law_700 : decode cL_law 700 = .ok (.iadd, 1) := wnGet dwL_law_12 dkL_law_12 18 rfl
theorem dL_law_701 : decode cL_law 701 = .ok (.iaload, 1) := wnGet dwL_law_12 dkL_law_12 19 rfl
theorem dL_law_702 : decode cL_law 702 = .ok (.aload_n 0, 1) := wnGet dwL_law_12 dkL_law_12 20 rfl
theorem dL_law_703 : decode cL_law 703 = .ok (.iload 4, 2) := wnGet dwL_law_12 dkL_law_12 21 rfl
theorem dL_law_705 : decode cL_law 705 = .ok (.iconst 2, 1) := wnGet dwL_law_12 dkL_law_12 22 rfl
theorem dL_law_706 : decode cL_law 706 = .ok (.iadd, 1) := wnGet dwL_law_12 dkL_law_12 23 rfl
theorem dL_law_707 : decode cL_law 707 = .ok (.iaload, 1) := wnGet dwL_law_12 dkL_law_12 24 rfl
theorem dL_law_708 : decode cL_law 708 = .ok (.aload_n 0, 1) := wnGet dwL_law_12 dkL_law_12 25 rfl
theorem dL_law_709 : decode cL_law 709 = .ok (.iload 4, 2) := wnGet dwL_law_12 dkL_law_12 26 rfl
theorem dL_law_711 : decode cL_law 711 = .ok (.iconst 3, 1) := wnGet dwL_law_12 dkL_law_12 27 rfl
theorem dL_law_712 : decode cL_law 712 = .ok (.iadd, 1) := wnGet dwL_law_12 dkL_law_12 28 rfl
theorem dL_law_713 : decode cL_law 713 = .ok (.iaload, 1) := wnGet dwL_law_12 dkL_law_12 29 rfl
theorem dL_law_714 : decode cL_law 714 = .ok (.aload_n 0, 1) := wnGet dwL_law_12 dkL_law_12 30 rfl
theorem dL_law_715 : decode cL_law 715 = .ok (.iload 4, 2) := wnGet dwL_law_12 dkL_law_12 31 rfl
def dvL_law_13 : List UInt8 := [7, 96, 46, 182, 0, 195, 54, 6, 167, 5, 47, 43, 42, 21, 4, 4, 96, 46, 42, 21, 4, 5, 96, 46, 45, 184, 0, 196, 54, 5, 44, 42, 21, 4, 4, 96, 46, 42, 21, 4, 5, 96, 46, 182, 0, 198]
theorem dwL_law_13 : (cL_law.data.toList.drop 717).take dvL_law_13.length = dvL_law_13 := by decide +kernel
theorem dkL_law_13 : ([(717, (.iconst 4, 1)), (718, (.iadd, 1)), (719, (.iaload, 1)), (720, (.invokevirtual 195, 3)), (723, (.istore 6, 2)), (725, (.goto 1327, 3)), (728, (.aload_n 1, 1)), (729, (.aload_n 0, 1)), (730, (.iload 4, 2)), (732, (.iconst 1, 1)), (733, (.iadd, 1)), (734, (.iaload, 1)), (735, (.aload_n 0, 1)), (736, (.iload 4, 2)), (738, (.iconst 2, 1)), (739, (.iadd, 1)), (740, (.iaload, 1)), (741, (.aload_n 3, 1)), (742, (.invokestatic 196, 3)), (745, (.istore 5, 2)), (747, (.aload_n 2, 1)), (748, (.aload_n 0, 1)), (749, (.iload 4, 2)), (751, (.iconst 1, 1)), (752, (.iadd, 1)), (753, (.iaload, 1)), (754, (.aload_n 0, 1)), (755, (.iload 4, 2)), (757, (.iconst 2, 1)), (758, (.iadd, 1)), (759, (.iaload, 1)), (760, (.invokevirtual 198, 3))] : List (Nat × (Jvm.ClassFile.Instr × Nat))).all (wnL dvL_law_13 717) = true := by decide +kernel
theorem dL_law_717 : decode cL_law 717 = .ok (.iconst 4, 1) := wnGet dwL_law_13 dkL_law_13 0 rfl
theorem dL_law_718 : decode cL_law 718 = .ok (.iadd, 1) := wnGet dwL_law_13 dkL_law_13 1 rfl
theorem dL_law_719 : decode cL_law 719 = .ok (.iaload, 1) := wnGet dwL_law_13 dkL_law_13 2 rfl
theorem dL_law_720 : decode cL_law 720 = .ok (.invokevirtual 195, 3) := wnGet dwL_law_13 dkL_law_13 3 rfl
theorem dL_law_723 : decode cL_law 723 = .ok (.istore 6, 2) := wnGet dwL_law_13 dkL_law_13 4 rfl
theorem dL_law_725 : decode cL_law 725 = .ok (.goto 1327, 3) := wnGet dwL_law_13 dkL_law_13 5 rfl
theorem dL_law_728 : decode cL_law 728 = .ok (.aload_n 1, 1) := wnGet dwL_law_13 dkL_law_13 6 rfl
theorem dL_law_729 : decode cL_law 729 = .ok (.aload_n 0, 1) := wnGet dwL_law_13 dkL_law_13 7 rfl
theorem dL_law_730 : decode cL_law 730 = .ok (.iload 4, 2) := wnGet dwL_law_13 dkL_law_13 8 rfl
theorem dL_law_732 : decode cL_law 732 = .ok (.iconst 1, 1) := wnGet dwL_law_13 dkL_law_13 9 rfl
theorem dL_law_733 : decode cL_law 733 = .ok (.iadd, 1) := wnGet dwL_law_13 dkL_law_13 10 rfl
theorem dL_law_734 : decode cL_law 734 = .ok (.iaload, 1) := wnGet dwL_law_13 dkL_law_13 11 rfl
theorem dL_law_735 : decode cL_law 735 = .ok (.aload_n 0, 1) := wnGet dwL_law_13 dkL_law_13 12 rfl
theorem dL_law_736 : decode cL_law 736 = .ok (.iload 4, 2) := wnGet dwL_law_13 dkL_law_13 13 rfl
theorem dL_law_738 : decode cL_law 738 = .ok (.iconst 2, 1) := wnGet dwL_law_13 dkL_law_13 14 rfl
theorem dL_law_739 : decode cL_law 739 = .ok (.iadd, 1) := wnGet dwL_law_13 dkL_law_13 15 rfl
theorem dL_law_740 : decode cL_law 740 = .ok (.iaload, 1) := wnGet dwL_law_13 dkL_law_13 16 rfl
theorem dL_law_741 : decode cL_law 741 = .ok (.aload_n 3, 1) := wnGet dwL_law_13 dkL_law_13 17 rfl
theorem dL_law_742 : decode cL_law 742 = .ok (.invokestatic 196, 3) := wnGet dwL_law_13 dkL_law_13 18 rfl
theorem dL_law_745 : decode cL_law 745 = .ok (.istore 5, 2) := wnGet dwL_law_13 dkL_law_13 19 rfl
theorem dL_law_747 : decode cL_law 747 = .ok (.aload_n 2, 1) := wnGet dwL_law_13 dkL_law_13 20 rfl
theorem dL_law_748 : decode cL_law 748 = .ok (.aload_n 0, 1) := wnGet dwL_law_13 dkL_law_13 21 rfl
theorem dL_law_749 : decode cL_law 749 = .ok (.iload 4, 2) := wnGet dwL_law_13 dkL_law_13 22 rfl
theorem dL_law_751 : decode cL_law 751 = .ok (.iconst 1, 1) := wnGet dwL_law_13 dkL_law_13 23 rfl
theorem dL_law_752 : decode cL_law 752 = .ok (.iadd, 1) := wnGet dwL_law_13 dkL_law_13 24 rfl
theorem dL_law_753 : decode cL_law 753 = .ok (.iaload, 1) := wnGet dwL_law_13 dkL_law_13 25 rfl
theorem dL_law_754 : decode cL_law 754 = .ok (.aload_n 0, 1) := wnGet dwL_law_13 dkL_law_13 26 rfl
theorem dL_law_755 : decode cL_law 755 = .ok (.iload 4, 2) := wnGet dwL_law_13 dkL_law_13 27 rfl
theorem dL_law_757 : decode cL_law 757 = .ok (.iconst 2, 1) := wnGet dwL_law_13 dkL_law_13 28 rfl
theorem dL_law_758 : decode cL_law 758 = .ok (.iadd, 1) := wnGet dwL_law_13 dkL_law_13 29 rfl
theorem dL_law_759 : decode cL_law 759 = .ok (.iaload, 1) := wnGet dwL_law_13 dkL_law_13 30 rfl
theorem dL_law_760 : decode cL_law 760 = .ok (.invokevirtual 198, 3) := wnGet dwL_law_13 dkL_law_13 31 rfl
def dvL_law_14 : List UInt8 := [54, 6, 167, 5, 7, 43, 42, 21, 4, 4, 96, 46, 45, 184, 0, 199, 54, 5, 44, 42, 21, 4, 4, 96, 46, 182, 0, 201, 54, 6, 167, 4, 235, 43, 42, 21, 4, 4, 96, 46, 42, 21, 4, 5, 96, 46, 45]
theorem dwL_law_14 : (cL_law.data.toList.drop 763).take dvL_law_14.length = dvL_law_14 := by decide +kernel
theorem dkL_law_14 : ([(763, (.istore 6, 2)), (765, (.goto 1287, 3)), (768, (.aload_n 1, 1)), (769, (.aload_n 0, 1)), (770, (.iload 4, 2)), (772, (.iconst 1, 1)), (773, (.iadd, 1)), (774, (.iaload, 1)), (775, (.aload_n 3, 1)), (776, (.invokestatic 199, 3)), (779, (.istore 5, 2)), (781, (.aload_n 2, 1)), (782, (.aload_n 0, 1)), (783, (.iload 4, 2)), (785, (.iconst 1, 1)), (786, (.iadd, 1)), (787, (.iaload, 1)), (788, (.invokevirtual 201, 3)), (791, (.istore 6, 2)), (793, (.goto 1259, 3)), (796, (.aload_n 1, 1)), (797, (.aload_n 0, 1)), (798, (.iload 4, 2)), (800, (.iconst 1, 1)), (801, (.iadd, 1)), (802, (.iaload, 1)), (803, (.aload_n 0, 1)), (804, (.iload 4, 2)), (806, (.iconst 2, 1)), (807, (.iadd, 1)), (808, (.iaload, 1)), (809, (.aload_n 3, 1))] : List (Nat × (Jvm.ClassFile.Instr × Nat))).all (wnL dvL_law_14 763) = true := by decide +kernel
theorem dL_law_763 : decode cL_law 763 = .ok (.istore 6, 2) := wnGet dwL_law_14 dkL_law_14 0 rfl
theorem dL_law_765 : decode cL_law 765 = .ok (.goto 1287, 3) := wnGet dwL_law_14 dkL_law_14 1 rfl
theorem dL_law_768 : decode cL_law 768 = .ok (.aload_n 1, 1) := wnGet dwL_law_14 dkL_law_14 2 rfl
theorem dL_law_769 : decode cL_law 769 = .ok (.aload_n 0, 1) := wnGet dwL_law_14 dkL_law_14 3 rfl
theorem dL_law_770 : decode cL_law 770 = .ok (.iload 4, 2) := wnGet dwL_law_14 dkL_law_14 4 rfl
theorem dL_law_772 : decode cL_law 772 = .ok (.iconst 1, 1) := wnGet dwL_law_14 dkL_law_14 5 rfl
theorem dL_law_773 : decode cL_law 773 = .ok (.iadd, 1) := wnGet dwL_law_14 dkL_law_14 6 rfl
theorem dL_law_774 : decode cL_law 774 = .ok (.iaload, 1) := wnGet dwL_law_14 dkL_law_14 7 rfl
theorem dL_law_775 : decode cL_law 775 = .ok (.aload_n 3, 1) := wnGet dwL_law_14 dkL_law_14 8 rfl
theorem dL_law_776 : decode cL_law 776 = .ok (.invokestatic 199, 3) := wnGet dwL_law_14 dkL_law_14 9 rfl
theorem dL_law_779 : decode cL_law 779 = .ok (.istore 5, 2) := wnGet dwL_law_14 dkL_law_14 10 rfl
theorem dL_law_781 : decode cL_law 781 = .ok (.aload_n 2, 1) := wnGet dwL_law_14 dkL_law_14 11 rfl
theorem dL_law_782 : decode cL_law 782 = .ok (.aload_n 0, 1) := wnGet dwL_law_14 dkL_law_14 12 rfl
theorem dL_law_783 : decode cL_law 783 = .ok (.iload 4, 2) := wnGet dwL_law_14 dkL_law_14 13 rfl
theorem dL_law_785 : decode cL_law 785 = .ok (.iconst 1, 1) := wnGet dwL_law_14 dkL_law_14 14 rfl
theorem dL_law_786 : decode cL_law 786 = .ok (.iadd, 1) := wnGet dwL_law_14 dkL_law_14 15 rfl
theorem dL_law_787 : decode cL_law 787 = .ok (.iaload, 1) := wnGet dwL_law_14 dkL_law_14 16 rfl
theorem dL_law_788 : decode cL_law 788 = .ok (.invokevirtual 201, 3) := wnGet dwL_law_14 dkL_law_14 17 rfl
theorem dL_law_791 : decode cL_law 791 = .ok (.istore 6, 2) := wnGet dwL_law_14 dkL_law_14 18 rfl
theorem dL_law_793 : decode cL_law 793 = .ok (.goto 1259, 3) := wnGet dwL_law_14 dkL_law_14 19 rfl
theorem dL_law_796 : decode cL_law 796 = .ok (.aload_n 1, 1) := wnGet dwL_law_14 dkL_law_14 20 rfl
theorem dL_law_797 : decode cL_law 797 = .ok (.aload_n 0, 1) := wnGet dwL_law_14 dkL_law_14 21 rfl
theorem dL_law_798 : decode cL_law 798 = .ok (.iload 4, 2) := wnGet dwL_law_14 dkL_law_14 22 rfl
theorem dL_law_800 : decode cL_law 800 = .ok (.iconst 1, 1) := wnGet dwL_law_14 dkL_law_14 23 rfl
theorem dL_law_801 : decode cL_law 801 = .ok (.iadd, 1) := wnGet dwL_law_14 dkL_law_14 24 rfl
theorem dL_law_802 : decode cL_law 802 = .ok (.iaload, 1) := wnGet dwL_law_14 dkL_law_14 25 rfl
theorem dL_law_803 : decode cL_law 803 = .ok (.aload_n 0, 1) := wnGet dwL_law_14 dkL_law_14 26 rfl
theorem dL_law_804 : decode cL_law 804 = .ok (.iload 4, 2) := wnGet dwL_law_14 dkL_law_14 27 rfl
theorem dL_law_806 : decode cL_law 806 = .ok (.iconst 2, 1) := wnGet dwL_law_14 dkL_law_14 28 rfl
theorem dL_law_807 : decode cL_law 807 = .ok (.iadd, 1) := wnGet dwL_law_14 dkL_law_14 29 rfl
theorem dL_law_808 : decode cL_law 808 = .ok (.iaload, 1) := wnGet dwL_law_14 dkL_law_14 30 rfl
theorem dL_law_809 : decode cL_law 809 = .ok (.aload_n 3, 1) := wnGet dwL_law_14 dkL_law_14 31 rfl
def dvL_law_15 : List UInt8 := [184, 0, 202, 54, 5, 44, 42, 21, 4, 4, 96, 46, 42, 21, 4, 5, 96, 46, 182, 0, 204, 54, 6, 167, 4, 195, 43, 42, 21, 4, 4, 96, 46, 42, 21, 4, 5, 96, 46, 45, 184, 0, 205, 54, 5, 44, 42]
theorem dwL_law_15 : (cL_law.data.toList.drop 810).take dvL_law_15.length = dvL_law_15 := by decide +kernel
theorem dkL_law_15 : ([(810, (.invokestatic 202, 3)), (813, (.istore 5, 2)), (815, (.aload_n 2, 1)), (816, (.aload_n 0, 1)), (817, (.iload 4, 2)), (819, (.iconst 1, 1)), (820, (.iadd, 1)), (821, (.iaload, 1)), (822, (.aload_n 0, 1)), (823, (.iload 4, 2)), (825, (.iconst 2, 1)), (826, (.iadd, 1)), (827, (.iaload, 1)), (828, (.invokevirtual 204, 3)), (831, (.istore 6, 2)), (833, (.goto 1219, 3)), (836, (.aload_n 1, 1)), (837, (.aload_n 0, 1)), (838, (.iload 4, 2)), (840, (.iconst 1, 1)), (841, (.iadd, 1)), (842, (.iaload, 1)), (843, (.aload_n 0, 1)), (844, (.iload 4, 2)), (846, (.iconst 2, 1)), (847, (.iadd, 1)), (848, (.iaload, 1)), (849, (.aload_n 3, 1)), (850, (.invokestatic 205, 3)), (853, (.istore 5, 2)), (855, (.aload_n 2, 1)), (856, (.aload_n 0, 1))] : List (Nat × (Jvm.ClassFile.Instr × Nat))).all (wnL dvL_law_15 810) = true := by decide +kernel
theorem dL_law_810 : decode cL_law 810 = .ok (.invokestatic 202, 3) := wnGet dwL_law_15 dkL_law_15 0 rfl
theorem dL_law_813 : decode cL_law 813 = .ok (.istore 5, 2) := wnGet dwL_law_15 dkL_law_15 1 rfl
theorem dL_law_815 : decode cL_law 815 = .ok (.aload_n 2, 1) := wnGet dwL_law_15 dkL_law_15 2 rfl
theorem dL_law_816 : decode cL_law 816 = .ok (.aload_n 0, 1) := wnGet dwL_law_15 dkL_law_15 3 rfl
theorem dL_law_817 : decode cL_law 817 = .ok (.iload 4, 2) := wnGet dwL_law_15 dkL_law_15 4 rfl
theorem dL_law_819 : decode cL_law 819 = .ok (.iconst 1, 1) := wnGet dwL_law_15 dkL_law_15 5 rfl
theorem dL_law_820 : decode cL_law 820 = .ok (.iadd, 1) := wnGet dwL_law_15 dkL_law_15 6 rfl
theorem dL_law_821 : decode cL_law 821 = .ok (.iaload, 1) := wnGet dwL_law_15 dkL_law_15 7 rfl
theorem dL_law_822 : decode cL_law 822 = .ok (.aload_n 0, 1) := wnGet dwL_law_15 dkL_law_15 8 rfl
theorem dL_law_823 : decode cL_law 823 = .ok (.iload 4, 2) := wnGet dwL_law_15 dkL_law_15 9 rfl
theorem dL_law_825 : decode cL_law 825 = .ok (.iconst 2, 1) := wnGet dwL_law_15 dkL_law_15 10 rfl
theorem dL_law_826 : decode cL_law 826 = .ok (.iadd, 1) := wnGet dwL_law_15 dkL_law_15 11 rfl
theorem dL_law_827 : decode cL_law 827 = .ok (.iaload, 1) := wnGet dwL_law_15 dkL_law_15 12 rfl
theorem dL_law_828 : decode cL_law 828 = .ok (.invokevirtual 204, 3) := wnGet dwL_law_15 dkL_law_15 13 rfl
theorem dL_law_831 : decode cL_law 831 = .ok (.istore 6, 2) := wnGet dwL_law_15 dkL_law_15 14 rfl
theorem dL_law_833 : decode cL_law 833 = .ok (.goto 1219, 3) := wnGet dwL_law_15 dkL_law_15 15 rfl
theorem dL_law_836 : decode cL_law 836 = .ok (.aload_n 1, 1) := wnGet dwL_law_15 dkL_law_15 16 rfl
theorem dL_law_837 : decode cL_law 837 = .ok (.aload_n 0, 1) := wnGet dwL_law_15 dkL_law_15 17 rfl
theorem dL_law_838 : decode cL_law 838 = .ok (.iload 4, 2) := wnGet dwL_law_15 dkL_law_15 18 rfl
theorem dL_law_840 : decode cL_law 840 = .ok (.iconst 1, 1) := wnGet dwL_law_15 dkL_law_15 19 rfl
theorem dL_law_841 : decode cL_law 841 = .ok (.iadd, 1) := wnGet dwL_law_15 dkL_law_15 20 rfl
theorem dL_law_842 : decode cL_law 842 = .ok (.iaload, 1) := wnGet dwL_law_15 dkL_law_15 21 rfl
theorem dL_law_843 : decode cL_law 843 = .ok (.aload_n 0, 1) := wnGet dwL_law_15 dkL_law_15 22 rfl
theorem dL_law_844 : decode cL_law 844 = .ok (.iload 4, 2) := wnGet dwL_law_15 dkL_law_15 23 rfl
theorem dL_law_846 : decode cL_law 846 = .ok (.iconst 2, 1) := wnGet dwL_law_15 dkL_law_15 24 rfl
theorem dL_law_847 : decode cL_law 847 = .ok (.iadd, 1) := wnGet dwL_law_15 dkL_law_15 25 rfl
theorem dL_law_848 : decode cL_law 848 = .ok (.iaload, 1) := wnGet dwL_law_15 dkL_law_15 26 rfl
theorem dL_law_849 : decode cL_law 849 = .ok (.aload_n 3, 1) := wnGet dwL_law_15 dkL_law_15 27 rfl
theorem dL_law_850 : decode cL_law 850 = .ok (.invokestatic 205, 3) := wnGet dwL_law_15 dkL_law_15 28 rfl
theorem dL_law_853 : decode cL_law 853 = .ok (.istore 5, 2) := wnGet dwL_law_15 dkL_law_15 29 rfl
theorem dL_law_855 : decode cL_law 855 = .ok (.aload_n 2, 1) := wnGet dwL_law_15 dkL_law_15 30 rfl
theorem dL_law_856 : decode cL_law 856 = .ok (.aload_n 0, 1) := wnGet dwL_law_15 dkL_law_15 31 rfl
def dvL_law_16 : List UInt8 := [21, 4, 4, 96, 46, 42, 21, 4, 5, 96, 46, 182, 0, 207, 54, 6, 167, 4, 155, 43, 42, 21, 4, 4, 96, 46, 45, 184, 0, 208, 54, 5, 44, 42, 21, 4, 4, 96, 46, 182, 0, 210, 58, 6, 167, 4, 127, 43, 42]
theorem dwL_law_16 : (cL_law.data.toList.drop 857).take dvL_law_16.length = dvL_law_16 := by decide +kernel
theorem dkL_law_16 : ([(857, (.iload 4, 2)), (859, (.iconst 1, 1)), (860, (.iadd, 1)), (861, (.iaload, 1)), (862, (.aload_n 0, 1)), (863, (.iload 4, 2)), (865, (.iconst 2, 1)), (866, (.iadd, 1)), (867, (.iaload, 1)), (868, (.invokevirtual 207, 3)), (871, (.istore 6, 2)), (873, (.goto 1179, 3)), (876, (.aload_n 1, 1)), (877, (.aload_n 0, 1)), (878, (.iload 4, 2)), (880, (.iconst 1, 1)), (881, (.iadd, 1)), (882, (.iaload, 1)), (883, (.aload_n 3, 1)), (884, (.invokestatic 208, 3)), (887, (.istore 5, 2)), (889, (.aload_n 2, 1)), (890, (.aload_n 0, 1)), (891, (.iload 4, 2)), (893, (.iconst 1, 1)), (894, (.iadd, 1)), (895, (.iaload, 1)), (896, (.invokevirtual 210, 3)), (899, (.astore 6, 2)), (901, (.goto 1151, 3)), (904, (.aload_n 1, 1)), (905, (.aload_n 0, 1))] : List (Nat × (Jvm.ClassFile.Instr × Nat))).all (wnL dvL_law_16 857) = true := by decide +kernel
theorem dL_law_857 : decode cL_law 857 = .ok (.iload 4, 2) := wnGet dwL_law_16 dkL_law_16 0 rfl
theorem dL_law_859 : decode cL_law 859 = .ok (.iconst 1, 1) := wnGet dwL_law_16 dkL_law_16 1 rfl
theorem dL_law_860 : decode cL_law 860 = .ok (.iadd, 1) := wnGet dwL_law_16 dkL_law_16 2 rfl
theorem dL_law_861 : decode cL_law 861 = .ok (.iaload, 1) := wnGet dwL_law_16 dkL_law_16 3 rfl
theorem dL_law_862 : decode cL_law 862 = .ok (.aload_n 0, 1) := wnGet dwL_law_16 dkL_law_16 4 rfl
theorem dL_law_863 : decode cL_law 863 = .ok (.iload 4, 2) := wnGet dwL_law_16 dkL_law_16 5 rfl
theorem dL_law_865 : decode cL_law 865 = .ok (.iconst 2, 1) := wnGet dwL_law_16 dkL_law_16 6 rfl
theorem dL_law_866 : decode cL_law 866 = .ok (.iadd, 1) := wnGet dwL_law_16 dkL_law_16 7 rfl
theorem dL_law_867 : decode cL_law 867 = .ok (.iaload, 1) := wnGet dwL_law_16 dkL_law_16 8 rfl
theorem dL_law_868 : decode cL_law 868 = .ok (.invokevirtual 207, 3) := wnGet dwL_law_16 dkL_law_16 9 rfl
theorem dL_law_871 : decode cL_law 871 = .ok (.istore 6, 2) := wnGet dwL_law_16 dkL_law_16 10 rfl
theorem dL_law_873 : decode cL_law 873 = .ok (.goto 1179, 3) := wnGet dwL_law_16 dkL_law_16 11 rfl
theorem dL_law_876 : decode cL_law 876 = .ok (.aload_n 1, 1) := wnGet dwL_law_16 dkL_law_16 12 rfl
theorem dL_law_877 : decode cL_law 877 = .ok (.aload_n 0, 1) := wnGet dwL_law_16 dkL_law_16 13 rfl
theorem dL_law_878 : decode cL_law 878 = .ok (.iload 4, 2) := wnGet dwL_law_16 dkL_law_16 14 rfl
theorem dL_law_880 : decode cL_law 880 = .ok (.iconst 1, 1) := wnGet dwL_law_16 dkL_law_16 15 rfl
theorem dL_law_881 : decode cL_law 881 = .ok (.iadd, 1) := wnGet dwL_law_16 dkL_law_16 16 rfl
theorem dL_law_882 : decode cL_law 882 = .ok (.iaload, 1) := wnGet dwL_law_16 dkL_law_16 17 rfl
theorem dL_law_883 : decode cL_law 883 = .ok (.aload_n 3, 1) := wnGet dwL_law_16 dkL_law_16 18 rfl
theorem dL_law_884 : decode cL_law 884 = .ok (.invokestatic 208, 3) := wnGet dwL_law_16 dkL_law_16 19 rfl
theorem dL_law_887 : decode cL_law 887 = .ok (.istore 5, 2) := wnGet dwL_law_16 dkL_law_16 20 rfl
theorem dL_law_889 : decode cL_law 889 = .ok (.aload_n 2, 1) := wnGet dwL_law_16 dkL_law_16 21 rfl
theorem dL_law_890 : decode cL_law 890 = .ok (.aload_n 0, 1) := wnGet dwL_law_16 dkL_law_16 22 rfl
theorem dL_law_891 : decode cL_law 891 = .ok (.iload 4, 2) := wnGet dwL_law_16 dkL_law_16 23 rfl
theorem dL_law_893 : decode cL_law 893 = .ok (.iconst 1, 1) := wnGet dwL_law_16 dkL_law_16 24 rfl
theorem dL_law_894 : decode cL_law 894 = .ok (.iadd, 1) := wnGet dwL_law_16 dkL_law_16 25 rfl
theorem dL_law_895 : decode cL_law 895 = .ok (.iaload, 1) := wnGet dwL_law_16 dkL_law_16 26 rfl
theorem dL_law_896 : decode cL_law 896 = .ok (.invokevirtual 210, 3) := wnGet dwL_law_16 dkL_law_16 27 rfl
theorem dL_law_899 : decode cL_law 899 = .ok (.astore 6, 2) := wnGet dwL_law_16 dkL_law_16 28 rfl
theorem dL_law_901 : decode cL_law 901 = .ok (.goto 1151, 3) := wnGet dwL_law_16 dkL_law_16 29 rfl
theorem dL_law_904 : decode cL_law 904 = .ok (.aload_n 1, 1) := wnGet dwL_law_16 dkL_law_16 30 rfl
theorem dL_law_905 : decode cL_law 905 = .ok (.aload_n 0, 1) := wnGet dwL_law_16 dkL_law_16 31 rfl
def dvL_law_17 : List UInt8 := [21, 4, 4, 96, 46, 42, 21, 4, 5, 96, 46, 42, 21, 4, 6, 96, 46, 153, 0, 7, 4, 167, 0, 4, 3, 45, 184, 0, 211, 54, 5, 44, 42, 21, 4, 4, 96, 46, 42, 21, 4, 5, 96, 46]
theorem dwL_law_17 : (cL_law.data.toList.drop 906).take dvL_law_17.length = dvL_law_17 := by decide +kernel
theorem dkL_law_17 : ([(906, (.iload 4, 2)), (908, (.iconst 1, 1)), (909, (.iadd, 1)), (910, (.iaload, 1)), (911, (.aload_n 0, 1)), (912, (.iload 4, 2)), (914, (.iconst 2, 1)), (915, (.iadd, 1)), (916, (.iaload, 1)), (917, (.aload_n 0, 1)), (918, (.iload 4, 2)), (920, (.iconst 3, 1)), (921, (.iadd, 1)), (922, (.iaload, 1)), (923, (.ifCond .eq 7, 3)), (926, (.iconst 1, 1)), (927, (.goto 4, 3)), (930, (.iconst 0, 1)), (931, (.aload_n 3, 1)), (932, (.invokestatic 211, 3)), (935, (.istore 5, 2)), (937, (.aload_n 2, 1)), (938, (.aload_n 0, 1)), (939, (.iload 4, 2)), (941, (.iconst 1, 1)), (942, (.iadd, 1)), (943, (.iaload, 1)), (944, (.aload_n 0, 1)), (945, (.iload 4, 2)), (947, (.iconst 2, 1)), (948, (.iadd, 1)), (949, (.iaload, 1))] : List (Nat × (Jvm.ClassFile.Instr × Nat))).all (wnL dvL_law_17 906) = true := by decide +kernel
theorem dL_law_906 : decode cL_law 906 = .ok (.iload 4, 2) := wnGet dwL_law_17 dkL_law_17 0 rfl
theorem dL_law_908 : decode cL_law 908 = .ok (.iconst 1, 1) := wnGet dwL_law_17 dkL_law_17 1 rfl
theorem dL_law_909 : decode cL_law 909 = .ok (.iadd, 1) := wnGet dwL_law_17 dkL_law_17 2 rfl
theorem dL_law_910 : decode cL_law 910 = .ok (.iaload, 1) := wnGet dwL_law_17 dkL_law_17 3 rfl
theorem dL_law_911 : decode cL_law 911 = .ok (.aload_n 0, 1) := wnGet dwL_law_17 dkL_law_17 4 rfl
theorem dL_law_912 : decode cL_law 912 = .ok (.iload 4, 2) := wnGet dwL_law_17 dkL_law_17 5 rfl
theorem dL_law_914 : decode cL_law 914 = .ok (.iconst 2, 1) := wnGet dwL_law_17 dkL_law_17 6 rfl
theorem dL_law_915 : decode cL_law 915 = .ok (.iadd, 1) := wnGet dwL_law_17 dkL_law_17 7 rfl
theorem dL_law_916 : decode cL_law 916 = .ok (.iaload, 1) := wnGet dwL_law_17 dkL_law_17 8 rfl
theorem dL_law_917 : decode cL_law 917 = .ok (.aload_n 0, 1) := wnGet dwL_law_17 dkL_law_17 9 rfl
theorem dL_law_918 : decode cL_law 918 = .ok (.iload 4, 2) := wnGet dwL_law_17 dkL_law_17 10 rfl
theorem dL_law_920 : decode cL_law 920 = .ok (.iconst 3, 1) := wnGet dwL_law_17 dkL_law_17 11 rfl
theorem dL_law_921 : decode cL_law 921 = .ok (.iadd, 1) := wnGet dwL_law_17 dkL_law_17 12 rfl
theorem dL_law_922 : decode cL_law 922 = .ok (.iaload, 1) := wnGet dwL_law_17 dkL_law_17 13 rfl
theorem dL_law_923 : decode cL_law 923 = .ok (.ifCond .eq 7, 3) := wnGet dwL_law_17 dkL_law_17 14 rfl
theorem dL_law_926 : decode cL_law 926 = .ok (.iconst 1, 1) := wnGet dwL_law_17 dkL_law_17 15 rfl
theorem dL_law_927 : decode cL_law 927 = .ok (.goto 4, 3) := wnGet dwL_law_17 dkL_law_17 16 rfl
theorem dL_law_930 : decode cL_law 930 = .ok (.iconst 0, 1) := wnGet dwL_law_17 dkL_law_17 17 rfl
theorem dL_law_931 : decode cL_law 931 = .ok (.aload_n 3, 1) := wnGet dwL_law_17 dkL_law_17 18 rfl
theorem dL_law_932 : decode cL_law 932 = .ok (.invokestatic 211, 3) := wnGet dwL_law_17 dkL_law_17 19 rfl
theorem dL_law_935 : decode cL_law 935 = .ok (.istore 5, 2) := wnGet dwL_law_17 dkL_law_17 20 rfl
theorem dL_law_937 : decode cL_law 937 = .ok (.aload_n 2, 1) := wnGet dwL_law_17 dkL_law_17 21 rfl
theorem dL_law_938 : decode cL_law 938 = .ok (.aload_n 0, 1) := wnGet dwL_law_17 dkL_law_17 22 rfl
theorem dL_law_939 : decode cL_law 939 = .ok (.iload 4, 2) := wnGet dwL_law_17 dkL_law_17 23 rfl
theorem dL_law_941 : decode cL_law 941 = .ok (.iconst 1, 1) := wnGet dwL_law_17 dkL_law_17 24 rfl
theorem dL_law_942 : decode cL_law 942 = .ok (.iadd, 1) := wnGet dwL_law_17 dkL_law_17 25 rfl
theorem dL_law_943 : decode cL_law 943 = .ok (.iaload, 1) := wnGet dwL_law_17 dkL_law_17 26 rfl
theorem dL_law_944 : decode cL_law 944 = .ok (.aload_n 0, 1) := wnGet dwL_law_17 dkL_law_17 27 rfl
theorem dL_law_945 : decode cL_law 945 = .ok (.iload 4, 2) := wnGet dwL_law_17 dkL_law_17 28 rfl
theorem dL_law_947 : decode cL_law 947 = .ok (.iconst 2, 1) := wnGet dwL_law_17 dkL_law_17 29 rfl
theorem dL_law_948 : decode cL_law 948 = .ok (.iadd, 1) := wnGet dwL_law_17 dkL_law_17 30 rfl
theorem dL_law_949 : decode cL_law 949 = .ok (.iaload, 1) := wnGet dwL_law_17 dkL_law_17 31 rfl
def dvL_law_18 : List UInt8 := [42, 21, 4, 6, 96, 46, 153, 0, 7, 4, 167, 0, 4, 3, 182, 0, 214, 54, 6, 167, 4, 59, 43, 42, 21, 4, 4, 96, 46, 42, 21, 4, 5, 96, 46, 42, 21, 4, 6, 96, 46, 45, 184, 0, 215, 54, 5, 44]
theorem dwL_law_18 : (cL_law.data.toList.drop 950).take dvL_law_18.length = dvL_law_18 := by decide +kernel
theorem dkL_law_18 : ([(950, (.aload_n 0, 1)), (951, (.iload 4, 2)), (953, (.iconst 3, 1)), (954, (.iadd, 1)), (955, (.iaload, 1)), (956, (.ifCond .eq 7, 3)), (959, (.iconst 1, 1)), (960, (.goto 4, 3)), (963, (.iconst 0, 1)), (964, (.invokevirtual 214, 3)), (967, (.istore 6, 2)), (969, (.goto 1083, 3)), (972, (.aload_n 1, 1)), (973, (.aload_n 0, 1)), (974, (.iload 4, 2)), (976, (.iconst 1, 1)), (977, (.iadd, 1)), (978, (.iaload, 1)), (979, (.aload_n 0, 1)), (980, (.iload 4, 2)), (982, (.iconst 2, 1)), (983, (.iadd, 1)), (984, (.iaload, 1)), (985, (.aload_n 0, 1)), (986, (.iload 4, 2)), (988, (.iconst 3, 1)), (989, (.iadd, 1)), (990, (.iaload, 1)), (991, (.aload_n 3, 1)), (992, (.invokestatic 215, 3)), (995, (.istore 5, 2)), (997, (.aload_n 2, 1))] : List (Nat × (Jvm.ClassFile.Instr × Nat))).all (wnL dvL_law_18 950) = true := by decide +kernel
theorem dL_law_950 : decode cL_law 950 = .ok (.aload_n 0, 1) := wnGet dwL_law_18 dkL_law_18 0 rfl
theorem dL_law_951 : decode cL_law 951 = .ok (.iload 4, 2) := wnGet dwL_law_18 dkL_law_18 1 rfl
theorem dL_law_953 : decode cL_law 953 = .ok (.iconst 3, 1) := wnGet dwL_law_18 dkL_law_18 2 rfl
theorem dL_law_954 : decode cL_law 954 = .ok (.iadd, 1) := wnGet dwL_law_18 dkL_law_18 3 rfl
theorem dL_law_955 : decode cL_law 955 = .ok (.iaload, 1) := wnGet dwL_law_18 dkL_law_18 4 rfl
theorem dL_law_956 : decode cL_law 956 = .ok (.ifCond .eq 7, 3) := wnGet dwL_law_18 dkL_law_18 5 rfl
theorem dL_law_959 : decode cL_law 959 = .ok (.iconst 1, 1) := wnGet dwL_law_18 dkL_law_18 6 rfl
theorem dL_law_960 : decode cL_law 960 = .ok (.goto 4, 3) := wnGet dwL_law_18 dkL_law_18 7 rfl
theorem dL_law_963 : decode cL_law 963 = .ok (.iconst 0, 1) := wnGet dwL_law_18 dkL_law_18 8 rfl
theorem dL_law_964 : decode cL_law 964 = .ok (.invokevirtual 214, 3) := wnGet dwL_law_18 dkL_law_18 9 rfl
theorem dL_law_967 : decode cL_law 967 = .ok (.istore 6, 2) := wnGet dwL_law_18 dkL_law_18 10 rfl
theorem dL_law_969 : decode cL_law 969 = .ok (.goto 1083, 3) := wnGet dwL_law_18 dkL_law_18 11 rfl
theorem dL_law_972 : decode cL_law 972 = .ok (.aload_n 1, 1) := wnGet dwL_law_18 dkL_law_18 12 rfl
theorem dL_law_973 : decode cL_law 973 = .ok (.aload_n 0, 1) := wnGet dwL_law_18 dkL_law_18 13 rfl
theorem dL_law_974 : decode cL_law 974 = .ok (.iload 4, 2) := wnGet dwL_law_18 dkL_law_18 14 rfl
theorem dL_law_976 : decode cL_law 976 = .ok (.iconst 1, 1) := wnGet dwL_law_18 dkL_law_18 15 rfl
theorem dL_law_977 : decode cL_law 977 = .ok (.iadd, 1) := wnGet dwL_law_18 dkL_law_18 16 rfl
theorem dL_law_978 : decode cL_law 978 = .ok (.iaload, 1) := wnGet dwL_law_18 dkL_law_18 17 rfl
theorem dL_law_979 : decode cL_law 979 = .ok (.aload_n 0, 1) := wnGet dwL_law_18 dkL_law_18 18 rfl
theorem dL_law_980 : decode cL_law 980 = .ok (.iload 4, 2) := wnGet dwL_law_18 dkL_law_18 19 rfl
theorem dL_law_982 : decode cL_law 982 = .ok (.iconst 2, 1) := wnGet dwL_law_18 dkL_law_18 20 rfl
theorem dL_law_983 : decode cL_law 983 = .ok (.iadd, 1) := wnGet dwL_law_18 dkL_law_18 21 rfl
theorem dL_law_984 : decode cL_law 984 = .ok (.iaload, 1) := wnGet dwL_law_18 dkL_law_18 22 rfl
theorem dL_law_985 : decode cL_law 985 = .ok (.aload_n 0, 1) := wnGet dwL_law_18 dkL_law_18 23 rfl
theorem dL_law_986 : decode cL_law 986 = .ok (.iload 4, 2) := wnGet dwL_law_18 dkL_law_18 24 rfl
theorem dL_law_988 : decode cL_law 988 = .ok (.iconst 3, 1) := wnGet dwL_law_18 dkL_law_18 25 rfl
theorem dL_law_989 : decode cL_law 989 = .ok (.iadd, 1) := wnGet dwL_law_18 dkL_law_18 26 rfl
theorem dL_law_990 : decode cL_law 990 = .ok (.iaload, 1) := wnGet dwL_law_18 dkL_law_18 27 rfl
theorem dL_law_991 : decode cL_law 991 = .ok (.aload_n 3, 1) := wnGet dwL_law_18 dkL_law_18 28 rfl
theorem dL_law_992 : decode cL_law 992 = .ok (.invokestatic 215, 3) := wnGet dwL_law_18 dkL_law_18 29 rfl
theorem dL_law_995 : decode cL_law 995 = .ok (.istore 5, 2) := wnGet dwL_law_18 dkL_law_18 30 rfl
theorem dL_law_997 : decode cL_law 997 = .ok (.aload_n 2, 1) := wnGet dwL_law_18 dkL_law_18 31 rfl
def dvL_law_19 : List UInt8 := [42, 21, 4, 4, 96, 46, 42, 21, 4, 5, 96, 46, 42, 21, 4, 6, 96, 46, 182, 0, 217, 54, 6, 167, 4, 7, 43, 42, 21, 4, 4, 96, 46, 42, 21, 4, 5, 96, 46, 42, 21, 4, 6]
theorem dwL_law_19 : (cL_law.data.toList.drop 998).take dvL_law_19.length = dvL_law_19 := by decide +kernel
theorem dkL_law_19 : ([(998, (.aload_n 0, 1)), (999, (.iload 4, 2)), (1001, (.iconst 1, 1)), (1002, (.iadd, 1)), (1003, (.iaload, 1)), (1004, (.aload_n 0, 1)), (1005, (.iload 4, 2)), (1007, (.iconst 2, 1)), (1008, (.iadd, 1)), (1009, (.iaload, 1)), (1010, (.aload_n 0, 1)), (1011, (.iload 4, 2)), (1013, (.iconst 3, 1)), (1014, (.iadd, 1)), (1015, (.iaload, 1)), (1016, (.invokevirtual 217, 3)), (1019, (.istore 6, 2)), (1021, (.goto 1031, 3)), (1024, (.aload_n 1, 1)), (1025, (.aload_n 0, 1)), (1026, (.iload 4, 2)), (1028, (.iconst 1, 1)), (1029, (.iadd, 1)), (1030, (.iaload, 1)), (1031, (.aload_n 0, 1)), (1032, (.iload 4, 2)), (1034, (.iconst 2, 1)), (1035, (.iadd, 1)), (1036, (.iaload, 1)), (1037, (.aload_n 0, 1)), (1038, (.iload 4, 2)), (1040, (.iconst 3, 1))] : List (Nat × (Jvm.ClassFile.Instr × Nat))).all (wnL dvL_law_19 998) = true := by decide +kernel
theorem dL_law_998 : decode cL_law 998 = .ok (.aload_n 0, 1) := wnGet dwL_law_19 dkL_law_19 0 rfl
theorem dL_law_999 : decode cL_law 999 = .ok (.iload 4, 2) := wnGet dwL_law_19 dkL_law_19 1 rfl
theorem dL_law_1001 : decode cL_law 1001 = .ok (.iconst 1, 1) := wnGet dwL_law_19 dkL_law_19 2 rfl
theorem dL_law_1002 : decode cL_law 1002 = .ok (.iadd, 1) := wnGet dwL_law_19 dkL_law_19 3 rfl
theorem dL_law_1003 : decode cL_law 1003 = .ok (.iaload, 1) := wnGet dwL_law_19 dkL_law_19 4 rfl
theorem dL_law_1004 : decode cL_law 1004 = .ok (.aload_n 0, 1) := wnGet dwL_law_19 dkL_law_19 5 rfl
theorem dL_law_1005 : decode cL_law 1005 = .ok (.iload 4, 2) := wnGet dwL_law_19 dkL_law_19 6 rfl
theorem dL_law_1007 : decode cL_law 1007 = .ok (.iconst 2, 1) := wnGet dwL_law_19 dkL_law_19 7 rfl
theorem dL_law_1008 : decode cL_law 1008 = .ok (.iadd, 1) := wnGet dwL_law_19 dkL_law_19 8 rfl
theorem dL_law_1009 : decode cL_law 1009 = .ok (.iaload, 1) := wnGet dwL_law_19 dkL_law_19 9 rfl
theorem dL_law_1010 : decode cL_law 1010 = .ok (.aload_n 0, 1) := wnGet dwL_law_19 dkL_law_19 10 rfl
theorem dL_law_1011 : decode cL_law 1011 = .ok (.iload 4, 2) := wnGet dwL_law_19 dkL_law_19 11 rfl
theorem dL_law_1013 : decode cL_law 1013 = .ok (.iconst 3, 1) := wnGet dwL_law_19 dkL_law_19 12 rfl
theorem dL_law_1014 : decode cL_law 1014 = .ok (.iadd, 1) := wnGet dwL_law_19 dkL_law_19 13 rfl
theorem dL_law_1015 : decode cL_law 1015 = .ok (.iaload, 1) := wnGet dwL_law_19 dkL_law_19 14 rfl
theorem dL_law_1016 : decode cL_law 1016 = .ok (.invokevirtual 217, 3) := wnGet dwL_law_19 dkL_law_19 15 rfl
theorem dL_law_1019 : decode cL_law 1019 = .ok (.istore 6, 2) := wnGet dwL_law_19 dkL_law_19 16 rfl
theorem dL_law_1021 : decode cL_law 1021 = .ok (.goto 1031, 3) := wnGet dwL_law_19 dkL_law_19 17 rfl
theorem dL_law_1024 : decode cL_law 1024 = .ok (.aload_n 1, 1) := wnGet dwL_law_19 dkL_law_19 18 rfl
theorem dL_law_1025 : decode cL_law 1025 = .ok (.aload_n 0, 1) := wnGet dwL_law_19 dkL_law_19 19 rfl
theorem dL_law_1026 : decode cL_law 1026 = .ok (.iload 4, 2) := wnGet dwL_law_19 dkL_law_19 20 rfl
theorem dL_law_1028 : decode cL_law 1028 = .ok (.iconst 1, 1) := wnGet dwL_law_19 dkL_law_19 21 rfl
theorem dL_law_1029 : decode cL_law 1029 = .ok (.iadd, 1) := wnGet dwL_law_19 dkL_law_19 22 rfl
theorem dL_law_1030 : decode cL_law 1030 = .ok (.iaload, 1) := wnGet dwL_law_19 dkL_law_19 23 rfl
theorem dL_law_1031 : decode cL_law 1031 = .ok (.aload_n 0, 1) := wnGet dwL_law_19 dkL_law_19 24 rfl
theorem dL_law_1032 : decode cL_law 1032 = .ok (.iload 4, 2) := wnGet dwL_law_19 dkL_law_19 25 rfl
theorem dL_law_1034 : decode cL_law 1034 = .ok (.iconst 2, 1) := wnGet dwL_law_19 dkL_law_19 26 rfl
theorem dL_law_1035 : decode cL_law 1035 = .ok (.iadd, 1) := wnGet dwL_law_19 dkL_law_19 27 rfl
theorem dL_law_1036 : decode cL_law 1036 = .ok (.iaload, 1) := wnGet dwL_law_19 dkL_law_19 28 rfl
theorem dL_law_1037 : decode cL_law 1037 = .ok (.aload_n 0, 1) := wnGet dwL_law_19 dkL_law_19 29 rfl
theorem dL_law_1038 : decode cL_law 1038 = .ok (.iload 4, 2) := wnGet dwL_law_19 dkL_law_19 30 rfl
theorem dL_law_1040 : decode cL_law 1040 = .ok (.iconst 3, 1) := wnGet dwL_law_19 dkL_law_19 31 rfl
def dvL_law_20 : List UInt8 := [96, 46, 42, 21, 4, 7, 96, 46, 45, 184, 0, 218, 54, 5, 44, 42, 21, 4, 4, 96, 46, 42, 21, 4, 5, 96, 46, 42, 21, 4, 6, 96, 46, 42, 21, 4, 7, 96, 46, 182, 0, 220]
theorem dwL_law_20 : (cL_law.data.toList.drop 1041).take dvL_law_20.length = dvL_law_20 := by decide +kernel
theorem dkL_law_20 : ([(1041, (.iadd, 1)), (1042, (.iaload, 1)), (1043, (.aload_n 0, 1)), (1044, (.iload 4, 2)), (1046, (.iconst 4, 1)), (1047, (.iadd, 1)), (1048, (.iaload, 1)), (1049, (.aload_n 3, 1)), (1050, (.invokestatic 218, 3)), (1053, (.istore 5, 2)), (1055, (.aload_n 2, 1)), (1056, (.aload_n 0, 1)), (1057, (.iload 4, 2)), (1059, (.iconst 1, 1)), (1060, (.iadd, 1)), (1061, (.iaload, 1)), (1062, (.aload_n 0, 1)), (1063, (.iload 4, 2)), (1065, (.iconst 2, 1)), (1066, (.iadd, 1)), (1067, (.iaload, 1)), (1068, (.aload_n 0, 1)), (1069, (.iload 4, 2)), (1071, (.iconst 3, 1)), (1072, (.iadd, 1)), (1073, (.iaload, 1)), (1074, (.aload_n 0, 1)), (1075, (.iload 4, 2)), (1077, (.iconst 4, 1)), (1078, (.iadd, 1)), (1079, (.iaload, 1)), (1080, (.invokevirtual 220, 3))] : List (Nat × (Jvm.ClassFile.Instr × Nat))).all (wnL dvL_law_20 1041) = true := by decide +kernel
theorem dL_law_1041 : decode cL_law 1041 = .ok (.iadd, 1) := wnGet dwL_law_20 dkL_law_20 0 rfl
theorem dL_law_1042 : decode cL_law 1042 = .ok (.iaload, 1) := wnGet dwL_law_20 dkL_law_20 1 rfl
theorem dL_law_1043 : decode cL_law 1043 = .ok (.aload_n 0, 1) := wnGet dwL_law_20 dkL_law_20 2 rfl
theorem dL_law_1044 : decode cL_law 1044 = .ok (.iload 4, 2) := wnGet dwL_law_20 dkL_law_20 3 rfl
theorem dL_law_1046 : decode cL_law 1046 = .ok (.iconst 4, 1) := wnGet dwL_law_20 dkL_law_20 4 rfl
theorem dL_law_1047 : decode cL_law 1047 = .ok (.iadd, 1) := wnGet dwL_law_20 dkL_law_20 5 rfl
theorem dL_law_1048 : decode cL_law 1048 = .ok (.iaload, 1) := wnGet dwL_law_20 dkL_law_20 6 rfl
theorem dL_law_1049 : decode cL_law 1049 = .ok (.aload_n 3, 1) := wnGet dwL_law_20 dkL_law_20 7 rfl
theorem dL_law_1050 : decode cL_law 1050 = .ok (.invokestatic 218, 3) := wnGet dwL_law_20 dkL_law_20 8 rfl
theorem dL_law_1053 : decode cL_law 1053 = .ok (.istore 5, 2) := wnGet dwL_law_20 dkL_law_20 9 rfl
theorem dL_law_1055 : decode cL_law 1055 = .ok (.aload_n 2, 1) := wnGet dwL_law_20 dkL_law_20 10 rfl
theorem dL_law_1056 : decode cL_law 1056 = .ok (.aload_n 0, 1) := wnGet dwL_law_20 dkL_law_20 11 rfl
theorem dL_law_1057 : decode cL_law 1057 = .ok (.iload 4, 2) := wnGet dwL_law_20 dkL_law_20 12 rfl
theorem dL_law_1059 : decode cL_law 1059 = .ok (.iconst 1, 1) := wnGet dwL_law_20 dkL_law_20 13 rfl
theorem dL_law_1060 : decode cL_law 1060 = .ok (.iadd, 1) := wnGet dwL_law_20 dkL_law_20 14 rfl
theorem dL_law_1061 : decode cL_law 1061 = .ok (.iaload, 1) := wnGet dwL_law_20 dkL_law_20 15 rfl
theorem dL_law_1062 : decode cL_law 1062 = .ok (.aload_n 0, 1) := wnGet dwL_law_20 dkL_law_20 16 rfl
theorem dL_law_1063 : decode cL_law 1063 = .ok (.iload 4, 2) := wnGet dwL_law_20 dkL_law_20 17 rfl
theorem dL_law_1065 : decode cL_law 1065 = .ok (.iconst 2, 1) := wnGet dwL_law_20 dkL_law_20 18 rfl
theorem dL_law_1066 : decode cL_law 1066 = .ok (.iadd, 1) := wnGet dwL_law_20 dkL_law_20 19 rfl
theorem dL_law_1067 : decode cL_law 1067 = .ok (.iaload, 1) := wnGet dwL_law_20 dkL_law_20 20 rfl
theorem dL_law_1068 : decode cL_law 1068 = .ok (.aload_n 0, 1) := wnGet dwL_law_20 dkL_law_20 21 rfl
theorem dL_law_1069 : decode cL_law 1069 = .ok (.iload 4, 2) := wnGet dwL_law_20 dkL_law_20 22 rfl
theorem dL_law_1071 : decode cL_law 1071 = .ok (.iconst 3, 1) := wnGet dwL_law_20 dkL_law_20 23 rfl
theorem dL_law_1072 : decode cL_law 1072 = .ok (.iadd, 1) := wnGet dwL_law_20 dkL_law_20 24 rfl
theorem dL_law_1073 : decode cL_law 1073 = .ok (.iaload, 1) := wnGet dwL_law_20 dkL_law_20 25 rfl
theorem dL_law_1074 : decode cL_law 1074 = .ok (.aload_n 0, 1) := wnGet dwL_law_20 dkL_law_20 26 rfl
theorem dL_law_1075 : decode cL_law 1075 = .ok (.iload 4, 2) := wnGet dwL_law_20 dkL_law_20 27 rfl
theorem dL_law_1077 : decode cL_law 1077 = .ok (.iconst 4, 1) := wnGet dwL_law_20 dkL_law_20 28 rfl
theorem dL_law_1078 : decode cL_law 1078 = .ok (.iadd, 1) := wnGet dwL_law_20 dkL_law_20 29 rfl
theorem dL_law_1079 : decode cL_law 1079 = .ok (.iaload, 1) := wnGet dwL_law_20 dkL_law_20 30 rfl
theorem dL_law_1080 : decode cL_law 1080 = .ok (.invokevirtual 220, 3) := wnGet dwL_law_20 dkL_law_20 31 rfl
def dvL_law_21 : List UInt8 := [54, 6, 167, 3, 199, 43, 42, 21, 4, 4, 96, 46, 42, 21, 4, 5, 96, 46, 45, 184, 0, 221, 54, 5, 44, 42, 21, 4, 4, 96, 46, 42, 21, 4, 5, 96, 46, 182, 0, 223, 54, 6, 167, 3, 159, 43, 42]
theorem dwL_law_21 : (cL_law.data.toList.drop 1083).take dvL_law_21.length = dvL_law_21 := by decide +kernel
theorem dkL_law_21 : ([(1083, (.istore 6, 2)), (1085, (.goto 967, 3)), (1088, (.aload_n 1, 1)), (1089, (.aload_n 0, 1)), (1090, (.iload 4, 2)), (1092, (.iconst 1, 1)), (1093, (.iadd, 1)), (1094, (.iaload, 1)), (1095, (.aload_n 0, 1)), (1096, (.iload 4, 2)), (1098, (.iconst 2, 1)), (1099, (.iadd, 1)), (1100, (.iaload, 1)), (1101, (.aload_n 3, 1)), (1102, (.invokestatic 221, 3)), (1105, (.istore 5, 2)), (1107, (.aload_n 2, 1)), (1108, (.aload_n 0, 1)), (1109, (.iload 4, 2)), (1111, (.iconst 1, 1)), (1112, (.iadd, 1)), (1113, (.iaload, 1)), (1114, (.aload_n 0, 1)), (1115, (.iload 4, 2)), (1117, (.iconst 2, 1)), (1118, (.iadd, 1)), (1119, (.iaload, 1)), (1120, (.invokevirtual 223, 3)), (1123, (.istore 6, 2)), (1125, (.goto 927, 3)), (1128, (.aload_n 1, 1)), (1129, (.aload_n 0, 1))] : List (Nat × (Jvm.ClassFile.Instr × Nat))).all (wnL dvL_law_21 1083) = true := by decide +kernel
theorem dL_law_1083 : decode cL_law 1083 = .ok (.istore 6, 2) := wnGet dwL_law_21 dkL_law_21 0 rfl
theorem dL_law_1085 : decode cL_law 1085 = .ok (.goto 967, 3) := wnGet dwL_law_21 dkL_law_21 1 rfl
theorem dL_law_1088 : decode cL_law 1088 = .ok (.aload_n 1, 1) := wnGet dwL_law_21 dkL_law_21 2 rfl
theorem dL_law_1089 : decode cL_law 1089 = .ok (.aload_n 0, 1) := wnGet dwL_law_21 dkL_law_21 3 rfl
theorem dL_law_1090 : decode cL_law 1090 = .ok (.iload 4, 2) := wnGet dwL_law_21 dkL_law_21 4 rfl
theorem dL_law_1092 : decode cL_law 1092 = .ok (.iconst 1, 1) := wnGet dwL_law_21 dkL_law_21 5 rfl
theorem dL_law_1093 : decode cL_law 1093 = .ok (.iadd, 1) := wnGet dwL_law_21 dkL_law_21 6 rfl
theorem dL_law_1094 : decode cL_law 1094 = .ok (.iaload, 1) := wnGet dwL_law_21 dkL_law_21 7 rfl
theorem dL_law_1095 : decode cL_law 1095 = .ok (.aload_n 0, 1) := wnGet dwL_law_21 dkL_law_21 8 rfl
theorem dL_law_1096 : decode cL_law 1096 = .ok (.iload 4, 2) := wnGet dwL_law_21 dkL_law_21 9 rfl
theorem dL_law_1098 : decode cL_law 1098 = .ok (.iconst 2, 1) := wnGet dwL_law_21 dkL_law_21 10 rfl
theorem dL_law_1099 : decode cL_law 1099 = .ok (.iadd, 1) := wnGet dwL_law_21 dkL_law_21 11 rfl
theorem dL_law_1100 : decode cL_law 1100 = .ok (.iaload, 1) := wnGet dwL_law_21 dkL_law_21 12 rfl
theorem dL_law_1101 : decode cL_law 1101 = .ok (.aload_n 3, 1) := wnGet dwL_law_21 dkL_law_21 13 rfl
theorem dL_law_1102 : decode cL_law 1102 = .ok (.invokestatic 221, 3) := wnGet dwL_law_21 dkL_law_21 14 rfl
theorem dL_law_1105 : decode cL_law 1105 = .ok (.istore 5, 2) := wnGet dwL_law_21 dkL_law_21 15 rfl
theorem dL_law_1107 : decode cL_law 1107 = .ok (.aload_n 2, 1) := wnGet dwL_law_21 dkL_law_21 16 rfl
theorem dL_law_1108 : decode cL_law 1108 = .ok (.aload_n 0, 1) := wnGet dwL_law_21 dkL_law_21 17 rfl
theorem dL_law_1109 : decode cL_law 1109 = .ok (.iload 4, 2) := wnGet dwL_law_21 dkL_law_21 18 rfl
theorem dL_law_1111 : decode cL_law 1111 = .ok (.iconst 1, 1) := wnGet dwL_law_21 dkL_law_21 19 rfl
theorem dL_law_1112 : decode cL_law 1112 = .ok (.iadd, 1) := wnGet dwL_law_21 dkL_law_21 20 rfl
theorem dL_law_1113 : decode cL_law 1113 = .ok (.iaload, 1) := wnGet dwL_law_21 dkL_law_21 21 rfl
theorem dL_law_1114 : decode cL_law 1114 = .ok (.aload_n 0, 1) := wnGet dwL_law_21 dkL_law_21 22 rfl
theorem dL_law_1115 : decode cL_law 1115 = .ok (.iload 4, 2) := wnGet dwL_law_21 dkL_law_21 23 rfl
theorem dL_law_1117 : decode cL_law 1117 = .ok (.iconst 2, 1) := wnGet dwL_law_21 dkL_law_21 24 rfl
theorem dL_law_1118 : decode cL_law 1118 = .ok (.iadd, 1) := wnGet dwL_law_21 dkL_law_21 25 rfl
theorem dL_law_1119 : decode cL_law 1119 = .ok (.iaload, 1) := wnGet dwL_law_21 dkL_law_21 26 rfl
theorem dL_law_1120 : decode cL_law 1120 = .ok (.invokevirtual 223, 3) := wnGet dwL_law_21 dkL_law_21 27 rfl
theorem dL_law_1123 : decode cL_law 1123 = .ok (.istore 6, 2) := wnGet dwL_law_21 dkL_law_21 28 rfl
theorem dL_law_1125 : decode cL_law 1125 = .ok (.goto 927, 3) := wnGet dwL_law_21 dkL_law_21 29 rfl
theorem dL_law_1128 : decode cL_law 1128 = .ok (.aload_n 1, 1) := wnGet dwL_law_21 dkL_law_21 30 rfl
theorem dL_law_1129 : decode cL_law 1129 = .ok (.aload_n 0, 1) := wnGet dwL_law_21 dkL_law_21 31 rfl
def dvL_law_22 : List UInt8 := [21, 4, 4, 96, 46, 42, 21, 4, 5, 96, 46, 42, 21, 4, 6, 96, 46, 45, 184, 0, 224, 54, 5, 44, 42, 21, 4, 4, 96, 46, 42, 21, 4, 5, 96, 46, 42, 21, 4, 6, 96]
theorem dwL_law_22 : (cL_law.data.toList.drop 1130).take dvL_law_22.length = dvL_law_22 := by decide +kernel
theorem dkL_law_22 : ([(1130, (.iload 4, 2)), (1132, (.iconst 1, 1)), (1133, (.iadd, 1)), (1134, (.iaload, 1)), (1135, (.aload_n 0, 1)), (1136, (.iload 4, 2)), (1138, (.iconst 2, 1)), (1139, (.iadd, 1)), (1140, (.iaload, 1)), (1141, (.aload_n 0, 1)), (1142, (.iload 4, 2)), (1144, (.iconst 3, 1)), (1145, (.iadd, 1)), (1146, (.iaload, 1)), (1147, (.aload_n 3, 1)), (1148, (.invokestatic 224, 3)), (1151, (.istore 5, 2)), (1153, (.aload_n 2, 1)), (1154, (.aload_n 0, 1)), (1155, (.iload 4, 2)), (1157, (.iconst 1, 1)), (1158, (.iadd, 1)), (1159, (.iaload, 1)), (1160, (.aload_n 0, 1)), (1161, (.iload 4, 2)), (1163, (.iconst 2, 1)), (1164, (.iadd, 1)), (1165, (.iaload, 1)), (1166, (.aload_n 0, 1)), (1167, (.iload 4, 2)), (1169, (.iconst 3, 1)), (1170, (.iadd, 1))] : List (Nat × (Jvm.ClassFile.Instr × Nat))).all (wnL dvL_law_22 1130) = true := by decide +kernel
theorem dL_law_1130 : decode cL_law 1130 = .ok (.iload 4, 2) := wnGet dwL_law_22 dkL_law_22 0 rfl
theorem dL_law_1132 : decode cL_law 1132 = .ok (.iconst 1, 1) := wnGet dwL_law_22 dkL_law_22 1 rfl
theorem dL_law_1133 : decode cL_law 1133 = .ok (.iadd, 1) := wnGet dwL_law_22 dkL_law_22 2 rfl
theorem dL_law_1134 : decode cL_law 1134 = .ok (.iaload, 1) := wnGet dwL_law_22 dkL_law_22 3 rfl
theorem dL_law_1135 : decode cL_law 1135 = .ok (.aload_n 0, 1) := wnGet dwL_law_22 dkL_law_22 4 rfl
theorem dL_law_1136 : decode cL_law 1136 = .ok (.iload 4, 2) := wnGet dwL_law_22 dkL_law_22 5 rfl
theorem dL_law_1138 : decode cL_law 1138 = .ok (.iconst 2, 1) := wnGet dwL_law_22 dkL_law_22 6 rfl
theorem dL_law_1139 : decode cL_law 1139 = .ok (.iadd, 1) := wnGet dwL_law_22 dkL_law_22 7 rfl
theorem dL_law_1140 : decode cL_law 1140 = .ok (.iaload, 1) := wnGet dwL_law_22 dkL_law_22 8 rfl
theorem dL_law_1141 : decode cL_law 1141 = .ok (.aload_n 0, 1) := wnGet dwL_law_22 dkL_law_22 9 rfl
theorem dL_law_1142 : decode cL_law 1142 = .ok (.iload 4, 2) := wnGet dwL_law_22 dkL_law_22 10 rfl
theorem dL_law_1144 : decode cL_law 1144 = .ok (.iconst 3, 1) := wnGet dwL_law_22 dkL_law_22 11 rfl
theorem dL_law_1145 : decode cL_law 1145 = .ok (.iadd, 1) := wnGet dwL_law_22 dkL_law_22 12 rfl
theorem dL_law_1146 : decode cL_law 1146 = .ok (.iaload, 1) := wnGet dwL_law_22 dkL_law_22 13 rfl
theorem dL_law_1147 : decode cL_law 1147 = .ok (.aload_n 3, 1) := wnGet dwL_law_22 dkL_law_22 14 rfl
theorem dL_law_1148 : decode cL_law 1148 = .ok (.invokestatic 224, 3) := wnGet dwL_law_22 dkL_law_22 15 rfl
theorem dL_law_1151 : decode cL_law 1151 = .ok (.istore 5, 2) := wnGet dwL_law_22 dkL_law_22 16 rfl
theorem dL_law_1153 : decode cL_law 1153 = .ok (.aload_n 2, 1) := wnGet dwL_law_22 dkL_law_22 17 rfl
theorem dL_law_1154 : decode cL_law 1154 = .ok (.aload_n 0, 1) := wnGet dwL_law_22 dkL_law_22 18 rfl
theorem dL_law_1155 : decode cL_law 1155 = .ok (.iload 4, 2) := wnGet dwL_law_22 dkL_law_22 19 rfl
theorem dL_law_1157 : decode cL_law 1157 = .ok (.iconst 1, 1) := wnGet dwL_law_22 dkL_law_22 20 rfl
theorem dL_law_1158 : decode cL_law 1158 = .ok (.iadd, 1) := wnGet dwL_law_22 dkL_law_22 21 rfl
theorem dL_law_1159 : decode cL_law 1159 = .ok (.iaload, 1) := wnGet dwL_law_22 dkL_law_22 22 rfl
theorem dL_law_1160 : decode cL_law 1160 = .ok (.aload_n 0, 1) := wnGet dwL_law_22 dkL_law_22 23 rfl
theorem dL_law_1161 : decode cL_law 1161 = .ok (.iload 4, 2) := wnGet dwL_law_22 dkL_law_22 24 rfl
theorem dL_law_1163 : decode cL_law 1163 = .ok (.iconst 2, 1) := wnGet dwL_law_22 dkL_law_22 25 rfl
theorem dL_law_1164 : decode cL_law 1164 = .ok (.iadd, 1) := wnGet dwL_law_22 dkL_law_22 26 rfl
theorem dL_law_1165 : decode cL_law 1165 = .ok (.iaload, 1) := wnGet dwL_law_22 dkL_law_22 27 rfl
theorem dL_law_1166 : decode cL_law 1166 = .ok (.aload_n 0, 1) := wnGet dwL_law_22 dkL_law_22 28 rfl
theorem dL_law_1167 : decode cL_law 1167 = .ok (.iload 4, 2) := wnGet dwL_law_22 dkL_law_22 29 rfl
theorem dL_law_1169 : decode cL_law 1169 = .ok (.iconst 3, 1) := wnGet dwL_law_22 dkL_law_22 30 rfl
theorem dL_law_1170 : decode cL_law 1170 = .ok (.iadd, 1) := wnGet dwL_law_22 dkL_law_22 31 rfl
def dvL_law_23 : List UInt8 := [46, 182, 0, 226, 54, 6, 167, 3, 107, 43, 42, 21, 4, 4, 96, 46, 42, 21, 4, 5, 96, 46, 45, 184, 0, 227, 54, 5, 44, 42, 21, 4, 4, 96, 46, 42, 21, 4, 5, 96, 46, 182, 0, 229, 58, 6, 167, 3, 67]
theorem dwL_law_23 : (cL_law.data.toList.drop 1171).take dvL_law_23.length = dvL_law_23 := by decide +kernel
theorem dkL_law_23 : ([(1171, (.iaload, 1)), (1172, (.invokevirtual 226, 3)), (1175, (.istore 6, 2)), (1177, (.goto 875, 3)), (1180, (.aload_n 1, 1)), (1181, (.aload_n 0, 1)), (1182, (.iload 4, 2)), (1184, (.iconst 1, 1)), (1185, (.iadd, 1)), (1186, (.iaload, 1)), (1187, (.aload_n 0, 1)), (1188, (.iload 4, 2)), (1190, (.iconst 2, 1)), (1191, (.iadd, 1)), (1192, (.iaload, 1)), (1193, (.aload_n 3, 1)), (1194, (.invokestatic 227, 3)), (1197, (.istore 5, 2)), (1199, (.aload_n 2, 1)), (1200, (.aload_n 0, 1)), (1201, (.iload 4, 2)), (1203, (.iconst 1, 1)), (1204, (.iadd, 1)), (1205, (.iaload, 1)), (1206, (.aload_n 0, 1)), (1207, (.iload 4, 2)), (1209, (.iconst 2, 1)), (1210, (.iadd, 1)), (1211, (.iaload, 1)), (1212, (.invokevirtual 229, 3)), (1215, (.astore 6, 2)), (1217, (.goto 835, 3))] : List (Nat × (Jvm.ClassFile.Instr × Nat))).all (wnL dvL_law_23 1171) = true := by decide +kernel
theorem dL_law_1171 : decode cL_law 1171 = .ok (.iaload, 1) := wnGet dwL_law_23 dkL_law_23 0 rfl
theorem dL_law_1172 : decode cL_law 1172 = .ok (.invokevirtual 226, 3) := wnGet dwL_law_23 dkL_law_23 1 rfl
theorem dL_law_1175 : decode cL_law 1175 = .ok (.istore 6, 2) := wnGet dwL_law_23 dkL_law_23 2 rfl
theorem dL_law_1177 : decode cL_law 1177 = .ok (.goto 875, 3) := wnGet dwL_law_23 dkL_law_23 3 rfl
theorem dL_law_1180 : decode cL_law 1180 = .ok (.aload_n 1, 1) := wnGet dwL_law_23 dkL_law_23 4 rfl
theorem dL_law_1181 : decode cL_law 1181 = .ok (.aload_n 0, 1) := wnGet dwL_law_23 dkL_law_23 5 rfl
theorem dL_law_1182 : decode cL_law 1182 = .ok (.iload 4, 2) := wnGet dwL_law_23 dkL_law_23 6 rfl
theorem dL_law_1184 : decode cL_law 1184 = .ok (.iconst 1, 1) := wnGet dwL_law_23 dkL_law_23 7 rfl
theorem dL_law_1185 : decode cL_law 1185 = .ok (.iadd, 1) := wnGet dwL_law_23 dkL_law_23 8 rfl
theorem dL_law_1186 : decode cL_law 1186 = .ok (.iaload, 1) := wnGet dwL_law_23 dkL_law_23 9 rfl
theorem dL_law_1187 : decode cL_law 1187 = .ok (.aload_n 0, 1) := wnGet dwL_law_23 dkL_law_23 10 rfl
theorem dL_law_1188 : decode cL_law 1188 = .ok (.iload 4, 2) := wnGet dwL_law_23 dkL_law_23 11 rfl
theorem dL_law_1190 : decode cL_law 1190 = .ok (.iconst 2, 1) := wnGet dwL_law_23 dkL_law_23 12 rfl
theorem dL_law_1191 : decode cL_law 1191 = .ok (.iadd, 1) := wnGet dwL_law_23 dkL_law_23 13 rfl
theorem dL_law_1192 : decode cL_law 1192 = .ok (.iaload, 1) := wnGet dwL_law_23 dkL_law_23 14 rfl
theorem dL_law_1193 : decode cL_law 1193 = .ok (.aload_n 3, 1) := wnGet dwL_law_23 dkL_law_23 15 rfl
theorem dL_law_1194 : decode cL_law 1194 = .ok (.invokestatic 227, 3) := wnGet dwL_law_23 dkL_law_23 16 rfl
theorem dL_law_1197 : decode cL_law 1197 = .ok (.istore 5, 2) := wnGet dwL_law_23 dkL_law_23 17 rfl
theorem dL_law_1199 : decode cL_law 1199 = .ok (.aload_n 2, 1) := wnGet dwL_law_23 dkL_law_23 18 rfl
theorem dL_law_1200 : decode cL_law 1200 = .ok (.aload_n 0, 1) := wnGet dwL_law_23 dkL_law_23 19 rfl
theorem dL_law_1201 : decode cL_law 1201 = .ok (.iload 4, 2) := wnGet dwL_law_23 dkL_law_23 20 rfl
theorem dL_law_1203 : decode cL_law 1203 = .ok (.iconst 1, 1) := wnGet dwL_law_23 dkL_law_23 21 rfl
theorem dL_law_1204 : decode cL_law 1204 = .ok (.iadd, 1) := wnGet dwL_law_23 dkL_law_23 22 rfl
theorem dL_law_1205 : decode cL_law 1205 = .ok (.iaload, 1) := wnGet dwL_law_23 dkL_law_23 23 rfl
theorem dL_law_1206 : decode cL_law 1206 = .ok (.aload_n 0, 1) := wnGet dwL_law_23 dkL_law_23 24 rfl
theorem dL_law_1207 : decode cL_law 1207 = .ok (.iload 4, 2) := wnGet dwL_law_23 dkL_law_23 25 rfl
theorem dL_law_1209 : decode cL_law 1209 = .ok (.iconst 2, 1) := wnGet dwL_law_23 dkL_law_23 26 rfl
theorem dL_law_1210 : decode cL_law 1210 = .ok (.iadd, 1) := wnGet dwL_law_23 dkL_law_23 27 rfl
theorem dL_law_1211 : decode cL_law 1211 = .ok (.iaload, 1) := wnGet dwL_law_23 dkL_law_23 28 rfl
theorem dL_law_1212 : decode cL_law 1212 = .ok (.invokevirtual 229, 3) := wnGet dwL_law_23 dkL_law_23 29 rfl
theorem dL_law_1215 : decode cL_law 1215 = .ok (.astore 6, 2) := wnGet dwL_law_23 dkL_law_23 30 rfl
theorem dL_law_1217 : decode cL_law 1217 = .ok (.goto 835, 3) := wnGet dwL_law_23 dkL_law_23 31 rfl
def dvL_law_24 : List UInt8 := [43, 42, 21, 4, 4, 96, 46, 42, 21, 4, 5, 96, 46, 42, 21, 4, 6, 96, 46, 153, 0, 7, 4, 167, 0, 4, 3, 45, 184, 0, 230, 54, 5, 44, 42, 21, 4, 4, 96, 46, 42, 21, 4, 5]
theorem dwL_law_24 : (cL_law.data.toList.drop 1220).take dvL_law_24.length = dvL_law_24 := by decide +kernel
theorem dkL_law_24 : ([(1220, (.aload_n 1, 1)), (1221, (.aload_n 0, 1)), (1222, (.iload 4, 2)), (1224, (.iconst 1, 1)), (1225, (.iadd, 1)), (1226, (.iaload, 1)), (1227, (.aload_n 0, 1)), (1228, (.iload 4, 2)), (1230, (.iconst 2, 1)), (1231, (.iadd, 1)), (1232, (.iaload, 1)), (1233, (.aload_n 0, 1)), (1234, (.iload 4, 2)), (1236, (.iconst 3, 1)), (1237, (.iadd, 1)), (1238, (.iaload, 1)), (1239, (.ifCond .eq 7, 3)), (1242, (.iconst 1, 1)), (1243, (.goto 4, 3)), (1246, (.iconst 0, 1)), (1247, (.aload_n 3, 1)), (1248, (.invokestatic 230, 3)), (1251, (.istore 5, 2)), (1253, (.aload_n 2, 1)), (1254, (.aload_n 0, 1)), (1255, (.iload 4, 2)), (1257, (.iconst 1, 1)), (1258, (.iadd, 1)), (1259, (.iaload, 1)), (1260, (.aload_n 0, 1)), (1261, (.iload 4, 2)), (1263, (.iconst 2, 1))] : List (Nat × (Jvm.ClassFile.Instr × Nat))).all (wnL dvL_law_24 1220) = true := by decide +kernel
theorem dL_law_1220 : decode cL_law 1220 = .ok (.aload_n 1, 1) := wnGet dwL_law_24 dkL_law_24 0 rfl
theorem dL_law_1221 : decode cL_law 1221 = .ok (.aload_n 0, 1) := wnGet dwL_law_24 dkL_law_24 1 rfl
theorem dL_law_1222 : decode cL_law 1222 = .ok (.iload 4, 2) := wnGet dwL_law_24 dkL_law_24 2 rfl
theorem dL_law_1224 : decode cL_law 1224 = .ok (.iconst 1, 1) := wnGet dwL_law_24 dkL_law_24 3 rfl
theorem dL_law_1225 : decode cL_law 1225 = .ok (.iadd, 1) := wnGet dwL_law_24 dkL_law_24 4 rfl
theorem dL_law_1226 : decode cL_law 1226 = .ok (.iaload, 1) := wnGet dwL_law_24 dkL_law_24 5 rfl
theorem dL_law_1227 : decode cL_law 1227 = .ok (.aload_n 0, 1) := wnGet dwL_law_24 dkL_law_24 6 rfl
theorem dL_law_1228 : decode cL_law 1228 = .ok (.iload 4, 2) := wnGet dwL_law_24 dkL_law_24 7 rfl
theorem dL_law_1230 : decode cL_law 1230 = .ok (.iconst 2, 1) := wnGet dwL_law_24 dkL_law_24 8 rfl
theorem dL_law_1231 : decode cL_law 1231 = .ok (.iadd, 1) := wnGet dwL_law_24 dkL_law_24 9 rfl
theorem dL_law_1232 : decode cL_law 1232 = .ok (.iaload, 1) := wnGet dwL_law_24 dkL_law_24 10 rfl
theorem dL_law_1233 : decode cL_law 1233 = .ok (.aload_n 0, 1) := wnGet dwL_law_24 dkL_law_24 11 rfl
theorem dL_law_1234 : decode cL_law 1234 = .ok (.iload 4, 2) := wnGet dwL_law_24 dkL_law_24 12 rfl
theorem dL_law_1236 : decode cL_law 1236 = .ok (.iconst 3, 1) := wnGet dwL_law_24 dkL_law_24 13 rfl
theorem dL_law_1237 : decode cL_law 1237 = .ok (.iadd, 1) := wnGet dwL_law_24 dkL_law_24 14 rfl
theorem dL_law_1238 : decode cL_law 1238 = .ok (.iaload, 1) := wnGet dwL_law_24 dkL_law_24 15 rfl
theorem dL_law_1239 : decode cL_law 1239 = .ok (.ifCond .eq 7, 3) := wnGet dwL_law_24 dkL_law_24 16 rfl
theorem dL_law_1242 : decode cL_law 1242 = .ok (.iconst 1, 1) := wnGet dwL_law_24 dkL_law_24 17 rfl
theorem dL_law_1243 : decode cL_law 1243 = .ok (.goto 4, 3) := wnGet dwL_law_24 dkL_law_24 18 rfl
theorem dL_law_1246 : decode cL_law 1246 = .ok (.iconst 0, 1) := wnGet dwL_law_24 dkL_law_24 19 rfl
theorem dL_law_1247 : decode cL_law 1247 = .ok (.aload_n 3, 1) := wnGet dwL_law_24 dkL_law_24 20 rfl
theorem dL_law_1248 : decode cL_law 1248 = .ok (.invokestatic 230, 3) := wnGet dwL_law_24 dkL_law_24 21 rfl
theorem dL_law_1251 : decode cL_law 1251 = .ok (.istore 5, 2) := wnGet dwL_law_24 dkL_law_24 22 rfl
theorem dL_law_1253 : decode cL_law 1253 = .ok (.aload_n 2, 1) := wnGet dwL_law_24 dkL_law_24 23 rfl
theorem dL_law_1254 : decode cL_law 1254 = .ok (.aload_n 0, 1) := wnGet dwL_law_24 dkL_law_24 24 rfl
theorem dL_law_1255 : decode cL_law 1255 = .ok (.iload 4, 2) := wnGet dwL_law_24 dkL_law_24 25 rfl
theorem dL_law_1257 : decode cL_law 1257 = .ok (.iconst 1, 1) := wnGet dwL_law_24 dkL_law_24 26 rfl
theorem dL_law_1258 : decode cL_law 1258 = .ok (.iadd, 1) := wnGet dwL_law_24 dkL_law_24 27 rfl
theorem dL_law_1259 : decode cL_law 1259 = .ok (.iaload, 1) := wnGet dwL_law_24 dkL_law_24 28 rfl
theorem dL_law_1260 : decode cL_law 1260 = .ok (.aload_n 0, 1) := wnGet dwL_law_24 dkL_law_24 29 rfl
theorem dL_law_1261 : decode cL_law 1261 = .ok (.iload 4, 2) := wnGet dwL_law_24 dkL_law_24 30 rfl
theorem dL_law_1263 : decode cL_law 1263 = .ok (.iconst 2, 1) := wnGet dwL_law_24 dkL_law_24 31 rfl
def dvL_law_25 : List UInt8 := [96, 46, 42, 21, 4, 6, 96, 46, 153, 0, 7, 4, 167, 0, 4, 3, 182, 0, 232, 58, 6, 167, 2, 255, 43, 42, 21, 4, 4, 96, 46, 42, 21, 4, 5, 96, 46, 42, 21, 4, 6, 96, 46, 153, 0, 7, 4]
theorem dwL_law_25 : (cL_law.data.toList.drop 1264).take dvL_law_25.length = dvL_law_25 := by decide +kernel
theorem dkL_law_25 : ([(1264, (.iadd, 1)), (1265, (.iaload, 1)), (1266, (.aload_n 0, 1)), (1267, (.iload 4, 2)), (1269, (.iconst 3, 1)), (1270, (.iadd, 1)), (1271, (.iaload, 1)), (1272, (.ifCond .eq 7, 3)), (1275, (.iconst 1, 1)), (1276, (.goto 4, 3)), (1279, (.iconst 0, 1)), (1280, (.invokevirtual 232, 3)), (1283, (.astore 6, 2)), (1285, (.goto 767, 3)), (1288, (.aload_n 1, 1)), (1289, (.aload_n 0, 1)), (1290, (.iload 4, 2)), (1292, (.iconst 1, 1)), (1293, (.iadd, 1)), (1294, (.iaload, 1)), (1295, (.aload_n 0, 1)), (1296, (.iload 4, 2)), (1298, (.iconst 2, 1)), (1299, (.iadd, 1)), (1300, (.iaload, 1)), (1301, (.aload_n 0, 1)), (1302, (.iload 4, 2)), (1304, (.iconst 3, 1)), (1305, (.iadd, 1)), (1306, (.iaload, 1)), (1307, (.ifCond .eq 7, 3)), (1310, (.iconst 1, 1))] : List (Nat × (Jvm.ClassFile.Instr × Nat))).all (wnL dvL_law_25 1264) = true := by decide +kernel
theorem dL_law_1264 : decode cL_law 1264 = .ok (.iadd, 1) := wnGet dwL_law_25 dkL_law_25 0 rfl
theorem dL_law_1265 : decode cL_law 1265 = .ok (.iaload, 1) := wnGet dwL_law_25 dkL_law_25 1 rfl
theorem dL_law_1266 : decode cL_law 1266 = .ok (.aload_n 0, 1) := wnGet dwL_law_25 dkL_law_25 2 rfl
theorem dL_law_1267 : decode cL_law 1267 = .ok (.iload 4, 2) := wnGet dwL_law_25 dkL_law_25 3 rfl
theorem dL_law_1269 : decode cL_law 1269 = .ok (.iconst 3, 1) := wnGet dwL_law_25 dkL_law_25 4 rfl
theorem dL_law_1270 : decode cL_law 1270 = .ok (.iadd, 1) := wnGet dwL_law_25 dkL_law_25 5 rfl
theorem dL_law_1271 : decode cL_law 1271 = .ok (.iaload, 1) := wnGet dwL_law_25 dkL_law_25 6 rfl
theorem dL_law_1272 : decode cL_law 1272 = .ok (.ifCond .eq 7, 3) := wnGet dwL_law_25 dkL_law_25 7 rfl
theorem dL_law_1275 : decode cL_law 1275 = .ok (.iconst 1, 1) := wnGet dwL_law_25 dkL_law_25 8 rfl
theorem dL_law_1276 : decode cL_law 1276 = .ok (.goto 4, 3) := wnGet dwL_law_25 dkL_law_25 9 rfl
theorem dL_law_1279 : decode cL_law 1279 = .ok (.iconst 0, 1) := wnGet dwL_law_25 dkL_law_25 10 rfl
theorem dL_law_1280 : decode cL_law 1280 = .ok (.invokevirtual 232, 3) := wnGet dwL_law_25 dkL_law_25 11 rfl
theorem dL_law_1283 : decode cL_law 1283 = .ok (.astore 6, 2) := wnGet dwL_law_25 dkL_law_25 12 rfl
theorem dL_law_1285 : decode cL_law 1285 = .ok (.goto 767, 3) := wnGet dwL_law_25 dkL_law_25 13 rfl
theorem dL_law_1288 : decode cL_law 1288 = .ok (.aload_n 1, 1) := wnGet dwL_law_25 dkL_law_25 14 rfl
theorem dL_law_1289 : decode cL_law 1289 = .ok (.aload_n 0, 1) := wnGet dwL_law_25 dkL_law_25 15 rfl
theorem dL_law_1290 : decode cL_law 1290 = .ok (.iload 4, 2) := wnGet dwL_law_25 dkL_law_25 16 rfl
theorem dL_law_1292 : decode cL_law 1292 = .ok (.iconst 1, 1) := wnGet dwL_law_25 dkL_law_25 17 rfl
theorem dL_law_1293 : decode cL_law 1293 = .ok (.iadd, 1) := wnGet dwL_law_25 dkL_law_25 18 rfl
theorem dL_law_1294 : decode cL_law 1294 = .ok (.iaload, 1) := wnGet dwL_law_25 dkL_law_25 19 rfl
theorem dL_law_1295 : decode cL_law 1295 = .ok (.aload_n 0, 1) := wnGet dwL_law_25 dkL_law_25 20 rfl
theorem dL_law_1296 : decode cL_law 1296 = .ok (.iload 4, 2) := wnGet dwL_law_25 dkL_law_25 21 rfl
theorem dL_law_1298 : decode cL_law 1298 = .ok (.iconst 2, 1) := wnGet dwL_law_25 dkL_law_25 22 rfl
theorem dL_law_1299 : decode cL_law 1299 = .ok (.iadd, 1) := wnGet dwL_law_25 dkL_law_25 23 rfl
theorem dL_law_1300 : decode cL_law 1300 = .ok (.iaload, 1) := wnGet dwL_law_25 dkL_law_25 24 rfl
theorem dL_law_1301 : decode cL_law 1301 = .ok (.aload_n 0, 1) := wnGet dwL_law_25 dkL_law_25 25 rfl
theorem dL_law_1302 : decode cL_law 1302 = .ok (.iload 4, 2) := wnGet dwL_law_25 dkL_law_25 26 rfl
theorem dL_law_1304 : decode cL_law 1304 = .ok (.iconst 3, 1) := wnGet dwL_law_25 dkL_law_25 27 rfl
theorem dL_law_1305 : decode cL_law 1305 = .ok (.iadd, 1) := wnGet dwL_law_25 dkL_law_25 28 rfl
theorem dL_law_1306 : decode cL_law 1306 = .ok (.iaload, 1) := wnGet dwL_law_25 dkL_law_25 29 rfl
theorem dL_law_1307 : decode cL_law 1307 = .ok (.ifCond .eq 7, 3) := wnGet dwL_law_25 dkL_law_25 30 rfl
theorem dL_law_1310 : decode cL_law 1310 = .ok (.iconst 1, 1) := wnGet dwL_law_25 dkL_law_25 31 rfl
def dvL_law_26 : List UInt8 := [167, 0, 4, 3, 45, 184, 0, 233, 54, 5, 44, 42, 21, 4, 4, 96, 46, 42, 21, 4, 5, 96, 46, 42, 21, 4, 6, 96, 46, 153, 0, 7, 4, 167, 0, 4, 3, 182, 0, 235, 54, 6, 167, 2, 187, 43, 42, 21, 4, 4]
theorem dwL_law_26 : (cL_law.data.toList.drop 1311).take dvL_law_26.length = dvL_law_26 := by decide +kernel
theorem dkL_law_26 : ([(1311, (.goto 4, 3)), (1314, (.iconst 0, 1)), (1315, (.aload_n 3, 1)), (1316, (.invokestatic 233, 3)), (1319, (.istore 5, 2)), (1321, (.aload_n 2, 1)), (1322, (.aload_n 0, 1)), (1323, (.iload 4, 2)), (1325, (.iconst 1, 1)), (1326, (.iadd, 1)), (1327, (.iaload, 1)), (1328, (.aload_n 0, 1)), (1329, (.iload 4, 2)), (1331, (.iconst 2, 1)), (1332, (.iadd, 1)), (1333, (.iaload, 1)), (1334, (.aload_n 0, 1)), (1335, (.iload 4, 2)), (1337, (.iconst 3, 1)), (1338, (.iadd, 1)), (1339, (.iaload, 1)), (1340, (.ifCond .eq 7, 3)), (1343, (.iconst 1, 1)), (1344, (.goto 4, 3)), (1347, (.iconst 0, 1)), (1348, (.invokevirtual 235, 3)), (1351, (.istore 6, 2)), (1353, (.goto 699, 3)), (1356, (.aload_n 1, 1)), (1357, (.aload_n 0, 1)), (1358, (.iload 4, 2)), (1360, (.iconst 1, 1))] : List (Nat × (Jvm.ClassFile.Instr × Nat))).all (wnL dvL_law_26 1311) = true := by decide +kernel
theorem dL_law_1311 : decode cL_law 1311 = .ok (.goto 4, 3) := wnGet dwL_law_26 dkL_law_26 0 rfl
theorem dL_law_1314 : decode cL_law 1314 = .ok (.iconst 0, 1) := wnGet dwL_law_26 dkL_law_26 1 rfl
theorem dL_law_1315 : decode cL_law 1315 = .ok (.aload_n 3, 1) := wnGet dwL_law_26 dkL_law_26 2 rfl
theorem dL_law_1316 : decode cL_law 1316 = .ok (.invokestatic 233, 3) := wnGet dwL_law_26 dkL_law_26 3 rfl
theorem dL_law_1319 : decode cL_law 1319 = .ok (.istore 5, 2) := wnGet dwL_law_26 dkL_law_26 4 rfl
theorem dL_law_1321 : decode cL_law 1321 = .ok (.aload_n 2, 1) := wnGet dwL_law_26 dkL_law_26 5 rfl
theorem dL_law_1322 : decode cL_law 1322 = .ok (.aload_n 0, 1) := wnGet dwL_law_26 dkL_law_26 6 rfl
theorem dL_law_1323 : decode cL_law 1323 = .ok (.iload 4, 2) := wnGet dwL_law_26 dkL_law_26 7 rfl
theorem dL_law_1325 : decode cL_law 1325 = .ok (.iconst 1, 1) := wnGet dwL_law_26 dkL_law_26 8 rfl
theorem dL_law_1326 : decode cL_law 1326 = .ok (.iadd, 1) := wnGet dwL_law_26 dkL_law_26 9 rfl
theorem dL_law_1327 : decode cL_law 1327 = .ok (.iaload, 1) := wnGet dwL_law_26 dkL_law_26 10 rfl
theorem dL_law_1328 : decode cL_law 1328 = .ok (.aload_n 0, 1) := wnGet dwL_law_26 dkL_law_26 11 rfl
theorem dL_law_1329 : decode cL_law 1329 = .ok (.iload 4, 2) := wnGet dwL_law_26 dkL_law_26 12 rfl
theorem dL_law_1331 : decode cL_law 1331 = .ok (.iconst 2, 1) := wnGet dwL_law_26 dkL_law_26 13 rfl
theorem dL_law_1332 : decode cL_law 1332 = .ok (.iadd, 1) := wnGet dwL_law_26 dkL_law_26 14 rfl
theorem dL_law_1333 : decode cL_law 1333 = .ok (.iaload, 1) := wnGet dwL_law_26 dkL_law_26 15 rfl
theorem dL_law_1334 : decode cL_law 1334 = .ok (.aload_n 0, 1) := wnGet dwL_law_26 dkL_law_26 16 rfl
theorem dL_law_1335 : decode cL_law 1335 = .ok (.iload 4, 2) := wnGet dwL_law_26 dkL_law_26 17 rfl
theorem dL_law_1337 : decode cL_law 1337 = .ok (.iconst 3, 1) := wnGet dwL_law_26 dkL_law_26 18 rfl
theorem dL_law_1338 : decode cL_law 1338 = .ok (.iadd, 1) := wnGet dwL_law_26 dkL_law_26 19 rfl
theorem dL_law_1339 : decode cL_law 1339 = .ok (.iaload, 1) := wnGet dwL_law_26 dkL_law_26 20 rfl
theorem dL_law_1340 : decode cL_law 1340 = .ok (.ifCond .eq 7, 3) := wnGet dwL_law_26 dkL_law_26 21 rfl
theorem dL_law_1343 : decode cL_law 1343 = .ok (.iconst 1, 1) := wnGet dwL_law_26 dkL_law_26 22 rfl
theorem dL_law_1344 : decode cL_law 1344 = .ok (.goto 4, 3) := wnGet dwL_law_26 dkL_law_26 23 rfl
theorem dL_law_1347 : decode cL_law 1347 = .ok (.iconst 0, 1) := wnGet dwL_law_26 dkL_law_26 24 rfl
theorem dL_law_1348 : decode cL_law 1348 = .ok (.invokevirtual 235, 3) := wnGet dwL_law_26 dkL_law_26 25 rfl
theorem dL_law_1351 : decode cL_law 1351 = .ok (.istore 6, 2) := wnGet dwL_law_26 dkL_law_26 26 rfl
theorem dL_law_1353 : decode cL_law 1353 = .ok (.goto 699, 3) := wnGet dwL_law_26 dkL_law_26 27 rfl
theorem dL_law_1356 : decode cL_law 1356 = .ok (.aload_n 1, 1) := wnGet dwL_law_26 dkL_law_26 28 rfl
theorem dL_law_1357 : decode cL_law 1357 = .ok (.aload_n 0, 1) := wnGet dwL_law_26 dkL_law_26 29 rfl
theorem dL_law_1358 : decode cL_law 1358 = .ok (.iload 4, 2) := wnGet dwL_law_26 dkL_law_26 30 rfl
theorem dL_law_1360 : decode cL_law 1360 = .ok (.iconst 1, 1) := wnGet dwL_law_26 dkL_law_26 31 rfl
def dvL_law_27 : List UInt8 := [96, 46, 45, 184, 0, 236, 54, 5, 44, 42, 21, 4, 4, 96, 46, 182, 0, 238, 54, 6, 167, 2, 159, 43, 42, 21, 4, 4, 96, 46, 45, 184, 0, 239, 54, 5, 44, 42, 21, 4, 4, 96, 46, 182, 0, 241, 54, 6, 167, 2, 131]
theorem dwL_law_27 : (cL_law.data.toList.drop 1361).take dvL_law_27.length = dvL_law_27 := by decide +kernel
theorem dkL_law_27 : ([(1361, (.iadd, 1)), (1362, (.iaload, 1)), (1363, (.aload_n 3, 1)), (1364, (.invokestatic 236, 3)), (1367, (.istore 5, 2)), (1369, (.aload_n 2, 1)), (1370, (.aload_n 0, 1)), (1371, (.iload 4, 2)), (1373, (.iconst 1, 1)), (1374, (.iadd, 1)), (1375, (.iaload, 1)), (1376, (.invokevirtual 238, 3)), (1379, (.istore 6, 2)), (1381, (.goto 671, 3)), (1384, (.aload_n 1, 1)), (1385, (.aload_n 0, 1)), (1386, (.iload 4, 2)), (1388, (.iconst 1, 1)), (1389, (.iadd, 1)), (1390, (.iaload, 1)), (1391, (.aload_n 3, 1)), (1392, (.invokestatic 239, 3)), (1395, (.istore 5, 2)), (1397, (.aload_n 2, 1)), (1398, (.aload_n 0, 1)), (1399, (.iload 4, 2)), (1401, (.iconst 1, 1)), (1402, (.iadd, 1)), (1403, (.iaload, 1)), (1404, (.invokevirtual 241, 3)), (1407, (.istore 6, 2)), (1409, (.goto 643, 3))] : List (Nat × (Jvm.ClassFile.Instr × Nat))).all (wnL dvL_law_27 1361) = true := by decide +kernel
theorem dL_law_1361 : decode cL_law 1361 = .ok (.iadd, 1) := wnGet dwL_law_27 dkL_law_27 0 rfl
theorem dL_law_1362 : decode cL_law 1362 = .ok (.iaload, 1) := wnGet dwL_law_27 dkL_law_27 1 rfl
theorem dL_law_1363 : decode cL_law 1363 = .ok (.aload_n 3, 1) := wnGet dwL_law_27 dkL_law_27 2 rfl
theorem dL_law_1364 : decode cL_law 1364 = .ok (.invokestatic 236, 3) := wnGet dwL_law_27 dkL_law_27 3 rfl
theorem dL_law_1367 : decode cL_law 1367 = .ok (.istore 5, 2) := wnGet dwL_law_27 dkL_law_27 4 rfl
theorem dL_law_1369 : decode cL_law 1369 = .ok (.aload_n 2, 1) := wnGet dwL_law_27 dkL_law_27 5 rfl
theorem dL_law_1370 : decode cL_law 1370 = .ok (.aload_n 0, 1) := wnGet dwL_law_27 dkL_law_27 6 rfl
theorem dL_law_1371 : decode cL_law 1371 = .ok (.iload 4, 2) := wnGet dwL_law_27 dkL_law_27 7 rfl
theorem dL_law_1373 : decode cL_law 1373 = .ok (.iconst 1, 1) := wnGet dwL_law_27 dkL_law_27 8 rfl
theorem dL_law_1374 : decode cL_law 1374 = .ok (.iadd, 1) := wnGet dwL_law_27 dkL_law_27 9 rfl
theorem dL_law_1375 : decode cL_law 1375 = .ok (.iaload, 1) := wnGet dwL_law_27 dkL_law_27 10 rfl
theorem dL_law_1376 : decode cL_law 1376 = .ok (.invokevirtual 238, 3) := wnGet dwL_law_27 dkL_law_27 11 rfl
theorem dL_law_1379 : decode cL_law 1379 = .ok (.istore 6, 2) := wnGet dwL_law_27 dkL_law_27 12 rfl
theorem dL_law_1381 : decode cL_law 1381 = .ok (.goto 671, 3) := wnGet dwL_law_27 dkL_law_27 13 rfl
theorem dL_law_1384 : decode cL_law 1384 = .ok (.aload_n 1, 1) := wnGet dwL_law_27 dkL_law_27 14 rfl
theorem dL_law_1385 : decode cL_law 1385 = .ok (.aload_n 0, 1) := wnGet dwL_law_27 dkL_law_27 15 rfl
theorem dL_law_1386 : decode cL_law 1386 = .ok (.iload 4, 2) := wnGet dwL_law_27 dkL_law_27 16 rfl
theorem dL_law_1388 : decode cL_law 1388 = .ok (.iconst 1, 1) := wnGet dwL_law_27 dkL_law_27 17 rfl
theorem dL_law_1389 : decode cL_law 1389 = .ok (.iadd, 1) := wnGet dwL_law_27 dkL_law_27 18 rfl
theorem dL_law_1390 : decode cL_law 1390 = .ok (.iaload, 1) := wnGet dwL_law_27 dkL_law_27 19 rfl
theorem dL_law_1391 : decode cL_law 1391 = .ok (.aload_n 3, 1) := wnGet dwL_law_27 dkL_law_27 20 rfl
theorem dL_law_1392 : decode cL_law 1392 = .ok (.invokestatic 239, 3) := wnGet dwL_law_27 dkL_law_27 21 rfl
theorem dL_law_1395 : decode cL_law 1395 = .ok (.istore 5, 2) := wnGet dwL_law_27 dkL_law_27 22 rfl
theorem dL_law_1397 : decode cL_law 1397 = .ok (.aload_n 2, 1) := wnGet dwL_law_27 dkL_law_27 23 rfl
theorem dL_law_1398 : decode cL_law 1398 = .ok (.aload_n 0, 1) := wnGet dwL_law_27 dkL_law_27 24 rfl
theorem dL_law_1399 : decode cL_law 1399 = .ok (.iload 4, 2) := wnGet dwL_law_27 dkL_law_27 25 rfl
theorem dL_law_1401 : decode cL_law 1401 = .ok (.iconst 1, 1) := wnGet dwL_law_27 dkL_law_27 26 rfl
theorem dL_law_1402 : decode cL_law 1402 = .ok (.iadd, 1) := wnGet dwL_law_27 dkL_law_27 27 rfl
theorem dL_law_1403 : decode cL_law 1403 = .ok (.iaload, 1) := wnGet dwL_law_27 dkL_law_27 28 rfl
theorem dL_law_1404 : decode cL_law 1404 = .ok (.invokevirtual 241, 3) := wnGet dwL_law_27 dkL_law_27 29 rfl
theorem dL_law_1407 : decode cL_law 1407 = .ok (.istore 6, 2) := wnGet dwL_law_27 dkL_law_27 30 rfl
theorem dL_law_1409 : decode cL_law 1409 = .ok (.goto 643, 3) := wnGet dwL_law_27 dkL_law_27 31 rfl
def dvL_law_28 : List UInt8 := [43, 42, 21, 4, 4, 96, 46, 42, 21, 4, 5, 96, 46, 45, 184, 0, 242, 54, 5, 44, 42, 21, 4, 4, 96, 46, 42, 21, 4, 5, 96, 46, 182, 0, 244, 54, 6, 167, 2, 91, 43, 42, 21, 4, 4]
theorem dwL_law_28 : (cL_law.data.toList.drop 1412).take dvL_law_28.length = dvL_law_28 := by decide +kernel
theorem dkL_law_28 : ([(1412, (.aload_n 1, 1)), (1413, (.aload_n 0, 1)), (1414, (.iload 4, 2)), (1416, (.iconst 1, 1)), (1417, (.iadd, 1)), (1418, (.iaload, 1)), (1419, (.aload_n 0, 1)), (1420, (.iload 4, 2)), (1422, (.iconst 2, 1)), (1423, (.iadd, 1)), (1424, (.iaload, 1)), (1425, (.aload_n 3, 1)), (1426, (.invokestatic 242, 3)), (1429, (.istore 5, 2)), (1431, (.aload_n 2, 1)), (1432, (.aload_n 0, 1)), (1433, (.iload 4, 2)), (1435, (.iconst 1, 1)), (1436, (.iadd, 1)), (1437, (.iaload, 1)), (1438, (.aload_n 0, 1)), (1439, (.iload 4, 2)), (1441, (.iconst 2, 1)), (1442, (.iadd, 1)), (1443, (.iaload, 1)), (1444, (.invokevirtual 244, 3)), (1447, (.istore 6, 2)), (1449, (.goto 603, 3)), (1452, (.aload_n 1, 1)), (1453, (.aload_n 0, 1)), (1454, (.iload 4, 2)), (1456, (.iconst 1, 1))] : List (Nat × (Jvm.ClassFile.Instr × Nat))).all (wnL dvL_law_28 1412) = true := by decide +kernel
theorem dL_law_1412 : decode cL_law 1412 = .ok (.aload_n 1, 1) := wnGet dwL_law_28 dkL_law_28 0 rfl
theorem dL_law_1413 : decode cL_law 1413 = .ok (.aload_n 0, 1) := wnGet dwL_law_28 dkL_law_28 1 rfl
theorem dL_law_1414 : decode cL_law 1414 = .ok (.iload 4, 2) := wnGet dwL_law_28 dkL_law_28 2 rfl
theorem dL_law_1416 : decode cL_law 1416 = .ok (.iconst 1, 1) := wnGet dwL_law_28 dkL_law_28 3 rfl
theorem dL_law_1417 : decode cL_law 1417 = .ok (.iadd, 1) := wnGet dwL_law_28 dkL_law_28 4 rfl
theorem dL_law_1418 : decode cL_law 1418 = .ok (.iaload, 1) := wnGet dwL_law_28 dkL_law_28 5 rfl
theorem dL_law_1419 : decode cL_law 1419 = .ok (.aload_n 0, 1) := wnGet dwL_law_28 dkL_law_28 6 rfl
theorem dL_law_1420 : decode cL_law 1420 = .ok (.iload 4, 2) := wnGet dwL_law_28 dkL_law_28 7 rfl
theorem dL_law_1422 : decode cL_law 1422 = .ok (.iconst 2, 1) := wnGet dwL_law_28 dkL_law_28 8 rfl
theorem dL_law_1423 : decode cL_law 1423 = .ok (.iadd, 1) := wnGet dwL_law_28 dkL_law_28 9 rfl
theorem dL_law_1424 : decode cL_law 1424 = .ok (.iaload, 1) := wnGet dwL_law_28 dkL_law_28 10 rfl
theorem dL_law_1425 : decode cL_law 1425 = .ok (.aload_n 3, 1) := wnGet dwL_law_28 dkL_law_28 11 rfl
theorem dL_law_1426 : decode cL_law 1426 = .ok (.invokestatic 242, 3) := wnGet dwL_law_28 dkL_law_28 12 rfl
theorem dL_law_1429 : decode cL_law 1429 = .ok (.istore 5, 2) := wnGet dwL_law_28 dkL_law_28 13 rfl
theorem dL_law_1431 : decode cL_law 1431 = .ok (.aload_n 2, 1) := wnGet dwL_law_28 dkL_law_28 14 rfl
theorem dL_law_1432 : decode cL_law 1432 = .ok (.aload_n 0, 1) := wnGet dwL_law_28 dkL_law_28 15 rfl
theorem dL_law_1433 : decode cL_law 1433 = .ok (.iload 4, 2) := wnGet dwL_law_28 dkL_law_28 16 rfl
theorem dL_law_1435 : decode cL_law 1435 = .ok (.iconst 1, 1) := wnGet dwL_law_28 dkL_law_28 17 rfl
theorem dL_law_1436 : decode cL_law 1436 = .ok (.iadd, 1) := wnGet dwL_law_28 dkL_law_28 18 rfl
theorem dL_law_1437 : decode cL_law 1437 = .ok (.iaload, 1) := wnGet dwL_law_28 dkL_law_28 19 rfl
theorem dL_law_1438 : decode cL_law 1438 = .ok (.aload_n 0, 1) := wnGet dwL_law_28 dkL_law_28 20 rfl
theorem dL_law_1439 : decode cL_law 1439 = .ok (.iload 4, 2) := wnGet dwL_law_28 dkL_law_28 21 rfl
theorem dL_law_1441 : decode cL_law 1441 = .ok (.iconst 2, 1) := wnGet dwL_law_28 dkL_law_28 22 rfl
theorem dL_law_1442 : decode cL_law 1442 = .ok (.iadd, 1) := wnGet dwL_law_28 dkL_law_28 23 rfl
theorem dL_law_1443 : decode cL_law 1443 = .ok (.iaload, 1) := wnGet dwL_law_28 dkL_law_28 24 rfl
theorem dL_law_1444 : decode cL_law 1444 = .ok (.invokevirtual 244, 3) := wnGet dwL_law_28 dkL_law_28 25 rfl
theorem dL_law_1447 : decode cL_law 1447 = .ok (.istore 6, 2) := wnGet dwL_law_28 dkL_law_28 26 rfl
theorem dL_law_1449 : decode cL_law 1449 = .ok (.goto 603, 3) := wnGet dwL_law_28 dkL_law_28 27 rfl
theorem dL_law_1452 : decode cL_law 1452 = .ok (.aload_n 1, 1) := wnGet dwL_law_28 dkL_law_28 28 rfl
theorem dL_law_1453 : decode cL_law 1453 = .ok (.aload_n 0, 1) := wnGet dwL_law_28 dkL_law_28 29 rfl
theorem dL_law_1454 : decode cL_law 1454 = .ok (.iload 4, 2) := wnGet dwL_law_28 dkL_law_28 30 rfl
theorem dL_law_1456 : decode cL_law 1456 = .ok (.iconst 1, 1) := wnGet dwL_law_28 dkL_law_28 31 rfl
def dvL_law_29 : List UInt8 := [96, 46, 45, 184, 0, 245, 54, 5, 44, 42, 21, 4, 4, 96, 46, 182, 0, 247, 54, 6, 167, 2, 63, 43, 42, 21, 4, 4, 96, 46, 42, 21, 4, 5, 96, 46, 42, 21, 4, 6, 96, 46, 45, 184, 0, 248]
theorem dwL_law_29 : (cL_law.data.toList.drop 1457).take dvL_law_29.length = dvL_law_29 := by decide +kernel
theorem dkL_law_29 : ([(1457, (.iadd, 1)), (1458, (.iaload, 1)), (1459, (.aload_n 3, 1)), (1460, (.invokestatic 245, 3)), (1463, (.istore 5, 2)), (1465, (.aload_n 2, 1)), (1466, (.aload_n 0, 1)), (1467, (.iload 4, 2)), (1469, (.iconst 1, 1)), (1470, (.iadd, 1)), (1471, (.iaload, 1)), (1472, (.invokevirtual 247, 3)), (1475, (.istore 6, 2)), (1477, (.goto 575, 3)), (1480, (.aload_n 1, 1)), (1481, (.aload_n 0, 1)), (1482, (.iload 4, 2)), (1484, (.iconst 1, 1)), (1485, (.iadd, 1)), (1486, (.iaload, 1)), (1487, (.aload_n 0, 1)), (1488, (.iload 4, 2)), (1490, (.iconst 2, 1)), (1491, (.iadd, 1)), (1492, (.iaload, 1)), (1493, (.aload_n 0, 1)), (1494, (.iload 4, 2)), (1496, (.iconst 3, 1)), (1497, (.iadd, 1)), (1498, (.iaload, 1)), (1499, (.aload_n 3, 1)), (1500, (.invokestatic 248, 3))] : List (Nat × (Jvm.ClassFile.Instr × Nat))).all (wnL dvL_law_29 1457) = true := by decide +kernel
theorem dL_law_1457 : decode cL_law 1457 = .ok (.iadd, 1) := wnGet dwL_law_29 dkL_law_29 0 rfl
theorem dL_law_1458 : decode cL_law 1458 = .ok (.iaload, 1) := wnGet dwL_law_29 dkL_law_29 1 rfl
theorem dL_law_1459 : decode cL_law 1459 = .ok (.aload_n 3, 1) := wnGet dwL_law_29 dkL_law_29 2 rfl
theorem dL_law_1460 : decode cL_law 1460 = .ok (.invokestatic 245, 3) := wnGet dwL_law_29 dkL_law_29 3 rfl
theorem dL_law_1463 : decode cL_law 1463 = .ok (.istore 5, 2) := wnGet dwL_law_29 dkL_law_29 4 rfl
theorem dL_law_1465 : decode cL_law 1465 = .ok (.aload_n 2, 1) := wnGet dwL_law_29 dkL_law_29 5 rfl
theorem dL_law_1466 : decode cL_law 1466 = .ok (.aload_n 0, 1) := wnGet dwL_law_29 dkL_law_29 6 rfl
theorem dL_law_1467 : decode cL_law 1467 = .ok (.iload 4, 2) := wnGet dwL_law_29 dkL_law_29 7 rfl
theorem dL_law_1469 : decode cL_law 1469 = .ok (.iconst 1, 1) := wnGet dwL_law_29 dkL_law_29 8 rfl
theorem dL_law_1470 : decode cL_law 1470 = .ok (.iadd, 1) := wnGet dwL_law_29 dkL_law_29 9 rfl
theorem dL_law_1471 : decode cL_law 1471 = .ok (.iaload, 1) := wnGet dwL_law_29 dkL_law_29 10 rfl
theorem dL_law_1472 : decode cL_law 1472 = .ok (.invokevirtual 247, 3) := wnGet dwL_law_29 dkL_law_29 11 rfl
theorem dL_law_1475 : decode cL_law 1475 = .ok (.istore 6, 2) := wnGet dwL_law_29 dkL_law_29 12 rfl
theorem dL_law_1477 : decode cL_law 1477 = .ok (.goto 575, 3) := wnGet dwL_law_29 dkL_law_29 13 rfl
theorem dL_law_1480 : decode cL_law 1480 = .ok (.aload_n 1, 1) := wnGet dwL_law_29 dkL_law_29 14 rfl
theorem dL_law_1481 : decode cL_law 1481 = .ok (.aload_n 0, 1) := wnGet dwL_law_29 dkL_law_29 15 rfl
theorem dL_law_1482 : decode cL_law 1482 = .ok (.iload 4, 2) := wnGet dwL_law_29 dkL_law_29 16 rfl
theorem dL_law_1484 : decode cL_law 1484 = .ok (.iconst 1, 1) := wnGet dwL_law_29 dkL_law_29 17 rfl
theorem dL_law_1485 : decode cL_law 1485 = .ok (.iadd, 1) := wnGet dwL_law_29 dkL_law_29 18 rfl
theorem dL_law_1486 : decode cL_law 1486 = .ok (.iaload, 1) := wnGet dwL_law_29 dkL_law_29 19 rfl
theorem dL_law_1487 : decode cL_law 1487 = .ok (.aload_n 0, 1) := wnGet dwL_law_29 dkL_law_29 20 rfl
theorem dL_law_1488 : decode cL_law 1488 = .ok (.iload 4, 2) := wnGet dwL_law_29 dkL_law_29 21 rfl
theorem dL_law_1490 : decode cL_law 1490 = .ok (.iconst 2, 1) := wnGet dwL_law_29 dkL_law_29 22 rfl
theorem dL_law_1491 : decode cL_law 1491 = .ok (.iadd, 1) := wnGet dwL_law_29 dkL_law_29 23 rfl
theorem dL_law_1492 : decode cL_law 1492 = .ok (.iaload, 1) := wnGet dwL_law_29 dkL_law_29 24 rfl
theorem dL_law_1493 : decode cL_law 1493 = .ok (.aload_n 0, 1) := wnGet dwL_law_29 dkL_law_29 25 rfl
theorem dL_law_1494 : decode cL_law 1494 = .ok (.iload 4, 2) := wnGet dwL_law_29 dkL_law_29 26 rfl
theorem dL_law_1496 : decode cL_law 1496 = .ok (.iconst 3, 1) := wnGet dwL_law_29 dkL_law_29 27 rfl
theorem dL_law_1497 : decode cL_law 1497 = .ok (.iadd, 1) := wnGet dwL_law_29 dkL_law_29 28 rfl
theorem dL_law_1498 : decode cL_law 1498 = .ok (.iaload, 1) := wnGet dwL_law_29 dkL_law_29 29 rfl
theorem dL_law_1499 : decode cL_law 1499 = .ok (.aload_n 3, 1) := wnGet dwL_law_29 dkL_law_29 30 rfl
theorem dL_law_1500 : decode cL_law 1500 = .ok (.invokestatic 248, 3) := wnGet dwL_law_29 dkL_law_29 31 rfl
def dvL_law_30 : List UInt8 := [54, 5, 44, 42, 21, 4, 4, 96, 46, 42, 21, 4, 5, 96, 46, 42, 21, 4, 6, 96, 46, 182, 0, 250, 54, 6, 167, 2, 11, 43, 42, 21, 4, 4, 96, 46, 42, 21, 4, 5, 96, 46, 42]
theorem dwL_law_30 : (cL_law.data.toList.drop 1503).take dvL_law_30.length = dvL_law_30 := by decide +kernel
theorem dkL_law_30 : ([(1503, (.istore 5, 2)), (1505, (.aload_n 2, 1)), (1506, (.aload_n 0, 1)), (1507, (.iload 4, 2)), (1509, (.iconst 1, 1)), (1510, (.iadd, 1)), (1511, (.iaload, 1)), (1512, (.aload_n 0, 1)), (1513, (.iload 4, 2)), (1515, (.iconst 2, 1)), (1516, (.iadd, 1)), (1517, (.iaload, 1)), (1518, (.aload_n 0, 1)), (1519, (.iload 4, 2)), (1521, (.iconst 3, 1)), (1522, (.iadd, 1)), (1523, (.iaload, 1)), (1524, (.invokevirtual 250, 3)), (1527, (.istore 6, 2)), (1529, (.goto 523, 3)), (1532, (.aload_n 1, 1)), (1533, (.aload_n 0, 1)), (1534, (.iload 4, 2)), (1536, (.iconst 1, 1)), (1537, (.iadd, 1)), (1538, (.iaload, 1)), (1539, (.aload_n 0, 1)), (1540, (.iload 4, 2)), (1542, (.iconst 2, 1)), (1543, (.iadd, 1)), (1544, (.iaload, 1)), (1545, (.aload_n 0, 1))] : List (Nat × (Jvm.ClassFile.Instr × Nat))).all (wnL dvL_law_30 1503) = true := by decide +kernel
theorem dL_law_1503 : decode cL_law 1503 = .ok (.istore 5, 2) := wnGet dwL_law_30 dkL_law_30 0 rfl
theorem dL_law_1505 : decode cL_law 1505 = .ok (.aload_n 2, 1) := wnGet dwL_law_30 dkL_law_30 1 rfl
theorem dL_law_1506 : decode cL_law 1506 = .ok (.aload_n 0, 1) := wnGet dwL_law_30 dkL_law_30 2 rfl
theorem dL_law_1507 : decode cL_law 1507 = .ok (.iload 4, 2) := wnGet dwL_law_30 dkL_law_30 3 rfl
theorem dL_law_1509 : decode cL_law 1509 = .ok (.iconst 1, 1) := wnGet dwL_law_30 dkL_law_30 4 rfl
theorem dL_law_1510 : decode cL_law 1510 = .ok (.iadd, 1) := wnGet dwL_law_30 dkL_law_30 5 rfl
theorem dL_law_1511 : decode cL_law 1511 = .ok (.iaload, 1) := wnGet dwL_law_30 dkL_law_30 6 rfl
theorem dL_law_1512 : decode cL_law 1512 = .ok (.aload_n 0, 1) := wnGet dwL_law_30 dkL_law_30 7 rfl
theorem dL_law_1513 : decode cL_law 1513 = .ok (.iload 4, 2) := wnGet dwL_law_30 dkL_law_30 8 rfl
theorem dL_law_1515 : decode cL_law 1515 = .ok (.iconst 2, 1) := wnGet dwL_law_30 dkL_law_30 9 rfl
theorem dL_law_1516 : decode cL_law 1516 = .ok (.iadd, 1) := wnGet dwL_law_30 dkL_law_30 10 rfl
theorem dL_law_1517 : decode cL_law 1517 = .ok (.iaload, 1) := wnGet dwL_law_30 dkL_law_30 11 rfl
theorem dL_law_1518 : decode cL_law 1518 = .ok (.aload_n 0, 1) := wnGet dwL_law_30 dkL_law_30 12 rfl
theorem dL_law_1519 : decode cL_law 1519 = .ok (.iload 4, 2) := wnGet dwL_law_30 dkL_law_30 13 rfl
theorem dL_law_1521 : decode cL_law 1521 = .ok (.iconst 3, 1) := wnGet dwL_law_30 dkL_law_30 14 rfl
theorem dL_law_1522 : decode cL_law 1522 = .ok (.iadd, 1) := wnGet dwL_law_30 dkL_law_30 15 rfl
theorem dL_law_1523 : decode cL_law 1523 = .ok (.iaload, 1) := wnGet dwL_law_30 dkL_law_30 16 rfl
theorem dL_law_1524 : decode cL_law 1524 = .ok (.invokevirtual 250, 3) := wnGet dwL_law_30 dkL_law_30 17 rfl
theorem dL_law_1527 : decode cL_law 1527 = .ok (.istore 6, 2) := wnGet dwL_law_30 dkL_law_30 18 rfl
theorem dL_law_1529 : decode cL_law 1529 = .ok (.goto 523, 3) := wnGet dwL_law_30 dkL_law_30 19 rfl
theorem dL_law_1532 : decode cL_law 1532 = .ok (.aload_n 1, 1) := wnGet dwL_law_30 dkL_law_30 20 rfl
theorem dL_law_1533 : decode cL_law 1533 = .ok (.aload_n 0, 1) := wnGet dwL_law_30 dkL_law_30 21 rfl
theorem dL_law_1534 : decode cL_law 1534 = .ok (.iload 4, 2) := wnGet dwL_law_30 dkL_law_30 22 rfl
theorem dL_law_1536 : decode cL_law 1536 = .ok (.iconst 1, 1) := wnGet dwL_law_30 dkL_law_30 23 rfl
theorem dL_law_1537 : decode cL_law 1537 = .ok (.iadd, 1) := wnGet dwL_law_30 dkL_law_30 24 rfl
theorem dL_law_1538 : decode cL_law 1538 = .ok (.iaload, 1) := wnGet dwL_law_30 dkL_law_30 25 rfl
theorem dL_law_1539 : decode cL_law 1539 = .ok (.aload_n 0, 1) := wnGet dwL_law_30 dkL_law_30 26 rfl
theorem dL_law_1540 : decode cL_law 1540 = .ok (.iload 4, 2) := wnGet dwL_law_30 dkL_law_30 27 rfl
theorem dL_law_1542 : decode cL_law 1542 = .ok (.iconst 2, 1) := wnGet dwL_law_30 dkL_law_30 28 rfl
theorem dL_law_1543 : decode cL_law 1543 = .ok (.iadd, 1) := wnGet dwL_law_30 dkL_law_30 29 rfl
theorem dL_law_1544 : decode cL_law 1544 = .ok (.iaload, 1) := wnGet dwL_law_30 dkL_law_30 30 rfl
theorem dL_law_1545 : decode cL_law 1545 = .ok (.aload_n 0, 1) := wnGet dwL_law_30 dkL_law_30 31 rfl
def dvL_law_31 : List UInt8 := [21, 4, 6, 96, 46, 45, 184, 0, 251, 54, 5, 44, 42, 21, 4, 4, 96, 46, 42, 21, 4, 5, 96, 46, 42, 21, 4, 6, 96, 46, 182, 0, 253, 54, 6, 167, 1, 215, 43, 42, 21, 4, 4, 96, 46]
theorem dwL_law_31 : (cL_law.data.toList.drop 1546).take dvL_law_31.length = dvL_law_31 := by decide +kernel
theorem dkL_law_31 : ([(1546, (.iload 4, 2)), (1548, (.iconst 3, 1)), (1549, (.iadd, 1)), (1550, (.iaload, 1)), (1551, (.aload_n 3, 1)), (1552, (.invokestatic 251, 3)), (1555, (.istore 5, 2)), (1557, (.aload_n 2, 1)), (1558, (.aload_n 0, 1)), (1559, (.iload 4, 2)), (1561, (.iconst 1, 1)), (1562, (.iadd, 1)), (1563, (.iaload, 1)), (1564, (.aload_n 0, 1)), (1565, (.iload 4, 2)), (1567, (.iconst 2, 1)), (1568, (.iadd, 1)), (1569, (.iaload, 1)), (1570, (.aload_n 0, 1)), (1571, (.iload 4, 2)), (1573, (.iconst 3, 1)), (1574, (.iadd, 1)), (1575, (.iaload, 1)), (1576, (.invokevirtual 253, 3)), (1579, (.istore 6, 2)), (1581, (.goto 471, 3)), (1584, (.aload_n 1, 1)), (1585, (.aload_n 0, 1)), (1586, (.iload 4, 2)), (1588, (.iconst 1, 1)), (1589, (.iadd, 1)), (1590, (.iaload, 1))] : List (Nat × (Jvm.ClassFile.Instr × Nat))).all (wnL dvL_law_31 1546) = true := by decide +kernel
theorem dL_law_1546 : decode cL_law 1546 = .ok (.iload 4, 2) := wnGet dwL_law_31 dkL_law_31 0 rfl
theorem dL_law_1548 : decode cL_law 1548 = .ok (.iconst 3, 1) := wnGet dwL_law_31 dkL_law_31 1 rfl
theorem dL_law_1549 : decode cL_law 1549 = .ok (.iadd, 1) := wnGet dwL_law_31 dkL_law_31 2 rfl
theorem dL_law_1550 : decode cL_law 1550 = .ok (.iaload, 1) := wnGet dwL_law_31 dkL_law_31 3 rfl
theorem dL_law_1551 : decode cL_law 1551 = .ok (.aload_n 3, 1) := wnGet dwL_law_31 dkL_law_31 4 rfl
theorem dL_law_1552 : decode cL_law 1552 = .ok (.invokestatic 251, 3) := wnGet dwL_law_31 dkL_law_31 5 rfl
theorem dL_law_1555 : decode cL_law 1555 = .ok (.istore 5, 2) := wnGet dwL_law_31 dkL_law_31 6 rfl
theorem dL_law_1557 : decode cL_law 1557 = .ok (.aload_n 2, 1) := wnGet dwL_law_31 dkL_law_31 7 rfl
theorem dL_law_1558 : decode cL_law 1558 = .ok (.aload_n 0, 1) := wnGet dwL_law_31 dkL_law_31 8 rfl
theorem dL_law_1559 : decode cL_law 1559 = .ok (.iload 4, 2) := wnGet dwL_law_31 dkL_law_31 9 rfl
theorem dL_law_1561 : decode cL_law 1561 = .ok (.iconst 1, 1) := wnGet dwL_law_31 dkL_law_31 10 rfl
theorem dL_law_1562 : decode cL_law 1562 = .ok (.iadd, 1) := wnGet dwL_law_31 dkL_law_31 11 rfl
theorem dL_law_1563 : decode cL_law 1563 = .ok (.iaload, 1) := wnGet dwL_law_31 dkL_law_31 12 rfl
theorem dL_law_1564 : decode cL_law 1564 = .ok (.aload_n 0, 1) := wnGet dwL_law_31 dkL_law_31 13 rfl
theorem dL_law_1565 : decode cL_law 1565 = .ok (.iload 4, 2) := wnGet dwL_law_31 dkL_law_31 14 rfl
theorem dL_law_1567 : decode cL_law 1567 = .ok (.iconst 2, 1) := wnGet dwL_law_31 dkL_law_31 15 rfl
theorem dL_law_1568 : decode cL_law 1568 = .ok (.iadd, 1) := wnGet dwL_law_31 dkL_law_31 16 rfl
theorem dL_law_1569 : decode cL_law 1569 = .ok (.iaload, 1) := wnGet dwL_law_31 dkL_law_31 17 rfl
theorem dL_law_1570 : decode cL_law 1570 = .ok (.aload_n 0, 1) := wnGet dwL_law_31 dkL_law_31 18 rfl
theorem dL_law_1571 : decode cL_law 1571 = .ok (.iload 4, 2) := wnGet dwL_law_31 dkL_law_31 19 rfl
theorem dL_law_1573 : decode cL_law 1573 = .ok (.iconst 3, 1) := wnGet dwL_law_31 dkL_law_31 20 rfl
theorem dL_law_1574 : decode cL_law 1574 = .ok (.iadd, 1) := wnGet dwL_law_31 dkL_law_31 21 rfl
theorem dL_law_1575 : decode cL_law 1575 = .ok (.iaload, 1) := wnGet dwL_law_31 dkL_law_31 22 rfl
theorem dL_law_1576 : decode cL_law 1576 = .ok (.invokevirtual 253, 3) := wnGet dwL_law_31 dkL_law_31 23 rfl
theorem dL_law_1579 : decode cL_law 1579 = .ok (.istore 6, 2) := wnGet dwL_law_31 dkL_law_31 24 rfl
theorem dL_law_1581 : decode cL_law 1581 = .ok (.goto 471, 3) := wnGet dwL_law_31 dkL_law_31 25 rfl
theorem dL_law_1584 : decode cL_law 1584 = .ok (.aload_n 1, 1) := wnGet dwL_law_31 dkL_law_31 26 rfl
theorem dL_law_1585 : decode cL_law 1585 = .ok (.aload_n 0, 1) := wnGet dwL_law_31 dkL_law_31 27 rfl
theorem dL_law_1586 : decode cL_law 1586 = .ok (.iload 4, 2) := wnGet dwL_law_31 dkL_law_31 28 rfl
theorem dL_law_1588 : decode cL_law 1588 = .ok (.iconst 1, 1) := wnGet dwL_law_31 dkL_law_31 29 rfl
theorem dL_law_1589 : decode cL_law 1589 = .ok (.iadd, 1) := wnGet dwL_law_31 dkL_law_31 30 rfl
theorem dL_law_1590 : decode cL_law 1590 = .ok (.iaload, 1) := wnGet dwL_law_31 dkL_law_31 31 rfl
def dvL_law_32 : List UInt8 := [45, 184, 0, 254, 54, 5, 44, 42, 21, 4, 4, 96, 46, 182, 1, 0, 58, 6, 167, 1, 187, 43, 42, 21, 4, 4, 96, 46, 42, 21, 4, 5, 96, 46, 42, 21, 4, 6, 96, 46, 45, 184, 1, 1, 54, 5, 44]
theorem dwL_law_32 : (cL_law.data.toList.drop 1591).take dvL_law_32.length = dvL_law_32 := by decide +kernel
theorem dkL_law_32 : ([(1591, (.aload_n 3, 1)), (1592, (.invokestatic 254, 3)), (1595, (.istore 5, 2)), (1597, (.aload_n 2, 1)), (1598, (.aload_n 0, 1)), (1599, (.iload 4, 2)), (1601, (.iconst 1, 1)), (1602, (.iadd, 1)), (1603, (.iaload, 1)), (1604, (.invokevirtual 256, 3)), (1607, (.astore 6, 2)), (1609, (.goto 443, 3)), (1612, (.aload_n 1, 1)), (1613, (.aload_n 0, 1)), (1614, (.iload 4, 2)), (1616, (.iconst 1, 1)), (1617, (.iadd, 1)), (1618, (.iaload, 1)), (1619, (.aload_n 0, 1)), (1620, (.iload 4, 2)), (1622, (.iconst 2, 1)), (1623, (.iadd, 1)), (1624, (.iaload, 1)), (1625, (.aload_n 0, 1)), (1626, (.iload 4, 2)), (1628, (.iconst 3, 1)), (1629, (.iadd, 1)), (1630, (.iaload, 1)), (1631, (.aload_n 3, 1)), (1632, (.invokestatic 257, 3)), (1635, (.istore 5, 2)), (1637, (.aload_n 2, 1))] : List (Nat × (Jvm.ClassFile.Instr × Nat))).all (wnL dvL_law_32 1591) = true := by decide +kernel
theorem dL_law_1591 : decode cL_law 1591 = .ok (.aload_n 3, 1) := wnGet dwL_law_32 dkL_law_32 0 rfl
theorem dL_law_1592 : decode cL_law 1592 = .ok (.invokestatic 254, 3) := wnGet dwL_law_32 dkL_law_32 1 rfl
theorem dL_law_1595 : decode cL_law 1595 = .ok (.istore 5, 2) := wnGet dwL_law_32 dkL_law_32 2 rfl
theorem dL_law_1597 : decode cL_law 1597 = .ok (.aload_n 2, 1) := wnGet dwL_law_32 dkL_law_32 3 rfl
theorem dL_law_1598 : decode cL_law 1598 = .ok (.aload_n 0, 1) := wnGet dwL_law_32 dkL_law_32 4 rfl
theorem dL_law_1599 : decode cL_law 1599 = .ok (.iload 4, 2) := wnGet dwL_law_32 dkL_law_32 5 rfl
theorem dL_law_1601 : decode cL_law 1601 = .ok (.iconst 1, 1) := wnGet dwL_law_32 dkL_law_32 6 rfl
theorem dL_law_1602 : decode cL_law 1602 = .ok (.iadd, 1) := wnGet dwL_law_32 dkL_law_32 7 rfl
theorem dL_law_1603 : decode cL_law 1603 = .ok (.iaload, 1) := wnGet dwL_law_32 dkL_law_32 8 rfl
theorem dL_law_1604 : decode cL_law 1604 = .ok (.invokevirtual 256, 3) := wnGet dwL_law_32 dkL_law_32 9 rfl
theorem dL_law_1607 : decode cL_law 1607 = .ok (.astore 6, 2) := wnGet dwL_law_32 dkL_law_32 10 rfl
theorem dL_law_1609 : decode cL_law 1609 = .ok (.goto 443, 3) := wnGet dwL_law_32 dkL_law_32 11 rfl
theorem dL_law_1612 : decode cL_law 1612 = .ok (.aload_n 1, 1) := wnGet dwL_law_32 dkL_law_32 12 rfl
theorem dL_law_1613 : decode cL_law 1613 = .ok (.aload_n 0, 1) := wnGet dwL_law_32 dkL_law_32 13 rfl
theorem dL_law_1614 : decode cL_law 1614 = .ok (.iload 4, 2) := wnGet dwL_law_32 dkL_law_32 14 rfl
theorem dL_law_1616 : decode cL_law 1616 = .ok (.iconst 1, 1) := wnGet dwL_law_32 dkL_law_32 15 rfl
theorem dL_law_1617 : decode cL_law 1617 = .ok (.iadd, 1) := wnGet dwL_law_32 dkL_law_32 16 rfl
theorem dL_law_1618 : decode cL_law 1618 = .ok (.iaload, 1) := wnGet dwL_law_32 dkL_law_32 17 rfl
theorem dL_law_1619 : decode cL_law 1619 = .ok (.aload_n 0, 1) := wnGet dwL_law_32 dkL_law_32 18 rfl
theorem dL_law_1620 : decode cL_law 1620 = .ok (.iload 4, 2) := wnGet dwL_law_32 dkL_law_32 19 rfl
theorem dL_law_1622 : decode cL_law 1622 = .ok (.iconst 2, 1) := wnGet dwL_law_32 dkL_law_32 20 rfl
theorem dL_law_1623 : decode cL_law 1623 = .ok (.iadd, 1) := wnGet dwL_law_32 dkL_law_32 21 rfl
theorem dL_law_1624 : decode cL_law 1624 = .ok (.iaload, 1) := wnGet dwL_law_32 dkL_law_32 22 rfl
theorem dL_law_1625 : decode cL_law 1625 = .ok (.aload_n 0, 1) := wnGet dwL_law_32 dkL_law_32 23 rfl
theorem dL_law_1626 : decode cL_law 1626 = .ok (.iload 4, 2) := wnGet dwL_law_32 dkL_law_32 24 rfl
theorem dL_law_1628 : decode cL_law 1628 = .ok (.iconst 3, 1) := wnGet dwL_law_32 dkL_law_32 25 rfl
theorem dL_law_1629 : decode cL_law 1629 = .ok (.iadd, 1) := wnGet dwL_law_32 dkL_law_32 26 rfl
theorem dL_law_1630 : decode cL_law 1630 = .ok (.iaload, 1) := wnGet dwL_law_32 dkL_law_32 27 rfl
theorem dL_law_1631 : decode cL_law 1631 = .ok (.aload_n 3, 1) := wnGet dwL_law_32 dkL_law_32 28 rfl
theorem dL_law_1632 : decode cL_law 1632 = .ok (.invokestatic 257, 3) := wnGet dwL_law_32 dkL_law_32 29 rfl
theorem dL_law_1635 : decode cL_law 1635 = .ok (.istore 5, 2) := wnGet dwL_law_32 dkL_law_32 30 rfl
theorem dL_law_1637 : decode cL_law 1637 = .ok (.aload_n 2, 1) := wnGet dwL_law_32 dkL_law_32 31 rfl
def dvL_law_33 : List UInt8 := [42, 21, 4, 4, 96, 46, 42, 21, 4, 5, 96, 46, 42, 21, 4, 6, 96, 46, 182, 1, 3, 54, 6, 167, 1, 135, 43, 42, 21, 4, 4, 96, 46, 42, 21, 4, 5, 96, 46, 42, 21, 4, 6]
theorem dwL_law_33 : (cL_law.data.toList.drop 1638).take dvL_law_33.length = dvL_law_33 := by decide +kernel
theorem dkL_law_33 : ([(1638, (.aload_n 0, 1)), (1639, (.iload 4, 2)), (1641, (.iconst 1, 1)), (1642, (.iadd, 1)), (1643, (.iaload, 1)), (1644, (.aload_n 0, 1)), (1645, (.iload 4, 2)), (1647, (.iconst 2, 1)), (1648, (.iadd, 1)), (1649, (.iaload, 1)), (1650, (.aload_n 0, 1)), (1651, (.iload 4, 2)), (1653, (.iconst 3, 1)), (1654, (.iadd, 1)), (1655, (.iaload, 1)), (1656, (.invokevirtual 259, 3)), (1659, (.istore 6, 2)), (1661, (.goto 391, 3)), (1664, (.aload_n 1, 1)), (1665, (.aload_n 0, 1)), (1666, (.iload 4, 2)), (1668, (.iconst 1, 1)), (1669, (.iadd, 1)), (1670, (.iaload, 1)), (1671, (.aload_n 0, 1)), (1672, (.iload 4, 2)), (1674, (.iconst 2, 1)), (1675, (.iadd, 1)), (1676, (.iaload, 1)), (1677, (.aload_n 0, 1)), (1678, (.iload 4, 2)), (1680, (.iconst 3, 1))] : List (Nat × (Jvm.ClassFile.Instr × Nat))).all (wnL dvL_law_33 1638) = true := by decide +kernel
theorem dL_law_1638 : decode cL_law 1638 = .ok (.aload_n 0, 1) := wnGet dwL_law_33 dkL_law_33 0 rfl
theorem dL_law_1639 : decode cL_law 1639 = .ok (.iload 4, 2) := wnGet dwL_law_33 dkL_law_33 1 rfl
theorem dL_law_1641 : decode cL_law 1641 = .ok (.iconst 1, 1) := wnGet dwL_law_33 dkL_law_33 2 rfl
theorem dL_law_1642 : decode cL_law 1642 = .ok (.iadd, 1) := wnGet dwL_law_33 dkL_law_33 3 rfl
theorem dL_law_1643 : decode cL_law 1643 = .ok (.iaload, 1) := wnGet dwL_law_33 dkL_law_33 4 rfl
theorem dL_law_1644 : decode cL_law 1644 = .ok (.aload_n 0, 1) := wnGet dwL_law_33 dkL_law_33 5 rfl
theorem dL_law_1645 : decode cL_law 1645 = .ok (.iload 4, 2) := wnGet dwL_law_33 dkL_law_33 6 rfl
theorem dL_law_1647 : decode cL_law 1647 = .ok (.iconst 2, 1) := wnGet dwL_law_33 dkL_law_33 7 rfl
theorem dL_law_1648 : decode cL_law 1648 = .ok (.iadd, 1) := wnGet dwL_law_33 dkL_law_33 8 rfl
theorem dL_law_1649 : decode cL_law 1649 = .ok (.iaload, 1) := wnGet dwL_law_33 dkL_law_33 9 rfl
theorem dL_law_1650 : decode cL_law 1650 = .ok (.aload_n 0, 1) := wnGet dwL_law_33 dkL_law_33 10 rfl
theorem dL_law_1651 : decode cL_law 1651 = .ok (.iload 4, 2) := wnGet dwL_law_33 dkL_law_33 11 rfl
theorem dL_law_1653 : decode cL_law 1653 = .ok (.iconst 3, 1) := wnGet dwL_law_33 dkL_law_33 12 rfl
theorem dL_law_1654 : decode cL_law 1654 = .ok (.iadd, 1) := wnGet dwL_law_33 dkL_law_33 13 rfl
theorem dL_law_1655 : decode cL_law 1655 = .ok (.iaload, 1) := wnGet dwL_law_33 dkL_law_33 14 rfl
theorem dL_law_1656 : decode cL_law 1656 = .ok (.invokevirtual 259, 3) := wnGet dwL_law_33 dkL_law_33 15 rfl
theorem dL_law_1659 : decode cL_law 1659 = .ok (.istore 6, 2) := wnGet dwL_law_33 dkL_law_33 16 rfl
theorem dL_law_1661 : decode cL_law 1661 = .ok (.goto 391, 3) := wnGet dwL_law_33 dkL_law_33 17 rfl
theorem dL_law_1664 : decode cL_law 1664 = .ok (.aload_n 1, 1) := wnGet dwL_law_33 dkL_law_33 18 rfl
theorem dL_law_1665 : decode cL_law 1665 = .ok (.aload_n 0, 1) := wnGet dwL_law_33 dkL_law_33 19 rfl
theorem dL_law_1666 : decode cL_law 1666 = .ok (.iload 4, 2) := wnGet dwL_law_33 dkL_law_33 20 rfl
theorem dL_law_1668 : decode cL_law 1668 = .ok (.iconst 1, 1) := wnGet dwL_law_33 dkL_law_33 21 rfl
theorem dL_law_1669 : decode cL_law 1669 = .ok (.iadd, 1) := wnGet dwL_law_33 dkL_law_33 22 rfl
theorem dL_law_1670 : decode cL_law 1670 = .ok (.iaload, 1) := wnGet dwL_law_33 dkL_law_33 23 rfl
theorem dL_law_1671 : decode cL_law 1671 = .ok (.aload_n 0, 1) := wnGet dwL_law_33 dkL_law_33 24 rfl
theorem dL_law_1672 : decode cL_law 1672 = .ok (.iload 4, 2) := wnGet dwL_law_33 dkL_law_33 25 rfl
theorem dL_law_1674 : decode cL_law 1674 = .ok (.iconst 2, 1) := wnGet dwL_law_33 dkL_law_33 26 rfl
theorem dL_law_1675 : decode cL_law 1675 = .ok (.iadd, 1) := wnGet dwL_law_33 dkL_law_33 27 rfl
theorem dL_law_1676 : decode cL_law 1676 = .ok (.iaload, 1) := wnGet dwL_law_33 dkL_law_33 28 rfl
theorem dL_law_1677 : decode cL_law 1677 = .ok (.aload_n 0, 1) := wnGet dwL_law_33 dkL_law_33 29 rfl
theorem dL_law_1678 : decode cL_law 1678 = .ok (.iload 4, 2) := wnGet dwL_law_33 dkL_law_33 30 rfl
theorem dL_law_1680 : decode cL_law 1680 = .ok (.iconst 3, 1) := wnGet dwL_law_33 dkL_law_33 31 rfl
def dvL_law_34 : List UInt8 := [96, 46, 42, 21, 4, 7, 96, 46, 45, 184, 1, 4, 54, 5, 44, 42, 21, 4, 4, 96, 46, 42, 21, 4, 5, 96, 46, 42, 21, 4, 6, 96, 46, 42, 21, 4, 7, 96, 46, 182, 1, 6]
theorem dwL_law_34 : (cL_law.data.toList.drop 1681).take dvL_law_34.length = dvL_law_34 := by decide +kernel
theorem dkL_law_34 : ([(1681, (.iadd, 1)), (1682, (.iaload, 1)), (1683, (.aload_n 0, 1)), (1684, (.iload 4, 2)), (1686, (.iconst 4, 1)), (1687, (.iadd, 1)), (1688, (.iaload, 1)), (1689, (.aload_n 3, 1)), (1690, (.invokestatic 260, 3)), (1693, (.istore 5, 2)), (1695, (.aload_n 2, 1)), (1696, (.aload_n 0, 1)), (1697, (.iload 4, 2)), (1699, (.iconst 1, 1)), (1700, (.iadd, 1)), (1701, (.iaload, 1)), (1702, (.aload_n 0, 1)), (1703, (.iload 4, 2)), (1705, (.iconst 2, 1)), (1706, (.iadd, 1)), (1707, (.iaload, 1)), (1708, (.aload_n 0, 1)), (1709, (.iload 4, 2)), (1711, (.iconst 3, 1)), (1712, (.iadd, 1)), (1713, (.iaload, 1)), (1714, (.aload_n 0, 1)), (1715, (.iload 4, 2)), (1717, (.iconst 4, 1)), (1718, (.iadd, 1)), (1719, (.iaload, 1)), (1720, (.invokevirtual 262, 3))] : List (Nat × (Jvm.ClassFile.Instr × Nat))).all (wnL dvL_law_34 1681) = true := by decide +kernel
theorem dL_law_1681 : decode cL_law 1681 = .ok (.iadd, 1) := wnGet dwL_law_34 dkL_law_34 0 rfl
theorem dL_law_1682 : decode cL_law 1682 = .ok (.iaload, 1) := wnGet dwL_law_34 dkL_law_34 1 rfl
theorem dL_law_1683 : decode cL_law 1683 = .ok (.aload_n 0, 1) := wnGet dwL_law_34 dkL_law_34 2 rfl
theorem dL_law_1684 : decode cL_law 1684 = .ok (.iload 4, 2) := wnGet dwL_law_34 dkL_law_34 3 rfl
theorem dL_law_1686 : decode cL_law 1686 = .ok (.iconst 4, 1) := wnGet dwL_law_34 dkL_law_34 4 rfl
theorem dL_law_1687 : decode cL_law 1687 = .ok (.iadd, 1) := wnGet dwL_law_34 dkL_law_34 5 rfl
theorem dL_law_1688 : decode cL_law 1688 = .ok (.iaload, 1) := wnGet dwL_law_34 dkL_law_34 6 rfl
theorem dL_law_1689 : decode cL_law 1689 = .ok (.aload_n 3, 1) := wnGet dwL_law_34 dkL_law_34 7 rfl
theorem dL_law_1690 : decode cL_law 1690 = .ok (.invokestatic 260, 3) := wnGet dwL_law_34 dkL_law_34 8 rfl
theorem dL_law_1693 : decode cL_law 1693 = .ok (.istore 5, 2) := wnGet dwL_law_34 dkL_law_34 9 rfl
theorem dL_law_1695 : decode cL_law 1695 = .ok (.aload_n 2, 1) := wnGet dwL_law_34 dkL_law_34 10 rfl
theorem dL_law_1696 : decode cL_law 1696 = .ok (.aload_n 0, 1) := wnGet dwL_law_34 dkL_law_34 11 rfl
theorem dL_law_1697 : decode cL_law 1697 = .ok (.iload 4, 2) := wnGet dwL_law_34 dkL_law_34 12 rfl
theorem dL_law_1699 : decode cL_law 1699 = .ok (.iconst 1, 1) := wnGet dwL_law_34 dkL_law_34 13 rfl
theorem dL_law_1700 : decode cL_law 1700 = .ok (.iadd, 1) := wnGet dwL_law_34 dkL_law_34 14 rfl
theorem dL_law_1701 : decode cL_law 1701 = .ok (.iaload, 1) := wnGet dwL_law_34 dkL_law_34 15 rfl
theorem dL_law_1702 : decode cL_law 1702 = .ok (.aload_n 0, 1) := wnGet dwL_law_34 dkL_law_34 16 rfl
theorem dL_law_1703 : decode cL_law 1703 = .ok (.iload 4, 2) := wnGet dwL_law_34 dkL_law_34 17 rfl
theorem dL_law_1705 : decode cL_law 1705 = .ok (.iconst 2, 1) := wnGet dwL_law_34 dkL_law_34 18 rfl
theorem dL_law_1706 : decode cL_law 1706 = .ok (.iadd, 1) := wnGet dwL_law_34 dkL_law_34 19 rfl
theorem dL_law_1707 : decode cL_law 1707 = .ok (.iaload, 1) := wnGet dwL_law_34 dkL_law_34 20 rfl
theorem dL_law_1708 : decode cL_law 1708 = .ok (.aload_n 0, 1) := wnGet dwL_law_34 dkL_law_34 21 rfl
theorem dL_law_1709 : decode cL_law 1709 = .ok (.iload 4, 2) := wnGet dwL_law_34 dkL_law_34 22 rfl
theorem dL_law_1711 : decode cL_law 1711 = .ok (.iconst 3, 1) := wnGet dwL_law_34 dkL_law_34 23 rfl
theorem dL_law_1712 : decode cL_law 1712 = .ok (.iadd, 1) := wnGet dwL_law_34 dkL_law_34 24 rfl
theorem dL_law_1713 : decode cL_law 1713 = .ok (.iaload, 1) := wnGet dwL_law_34 dkL_law_34 25 rfl
theorem dL_law_1714 : decode cL_law 1714 = .ok (.aload_n 0, 1) := wnGet dwL_law_34 dkL_law_34 26 rfl
theorem dL_law_1715 : decode cL_law 1715 = .ok (.iload 4, 2) := wnGet dwL_law_34 dkL_law_34 27 rfl
theorem dL_law_1717 : decode cL_law 1717 = .ok (.iconst 4, 1) := wnGet dwL_law_34 dkL_law_34 28 rfl
theorem dL_law_1718 : decode cL_law 1718 = .ok (.iadd, 1) := wnGet dwL_law_34 dkL_law_34 29 rfl
theorem dL_law_1719 : decode cL_law 1719 = .ok (.iaload, 1) := wnGet dwL_law_34 dkL_law_34 30 rfl
theorem dL_law_1720 : decode cL_law 1720 = .ok (.invokevirtual 262, 3) := wnGet dwL_law_34 dkL_law_34 31 rfl
def dvL_law_35 : List UInt8 := [54, 6, 167, 1, 71, 43, 42, 21, 4, 4, 96, 46, 42, 21, 4, 5, 96, 46, 45, 184, 1, 7, 54, 5, 44, 42, 21, 4, 4, 96, 46, 42, 21, 4, 5, 96, 46, 182, 1, 9, 54, 6, 167, 1, 31, 43, 42]
theorem dwL_law_35 : (cL_law.data.toList.drop 1723).take dvL_law_35.length = dvL_law_35 := by decide +kernel
theorem dkL_law_35 : ([(1723, (.istore 6, 2)), (1725, (.goto 327, 3)), (1728, (.aload_n 1, 1)), (1729, (.aload_n 0, 1)), (1730, (.iload 4, 2)), (1732, (.iconst 1, 1)), (1733, (.iadd, 1)), (1734, (.iaload, 1)), (1735, (.aload_n 0, 1)), (1736, (.iload 4, 2)), (1738, (.iconst 2, 1)), (1739, (.iadd, 1)), (1740, (.iaload, 1)), (1741, (.aload_n 3, 1)), (1742, (.invokestatic 263, 3)), (1745, (.istore 5, 2)), (1747, (.aload_n 2, 1)), (1748, (.aload_n 0, 1)), (1749, (.iload 4, 2)), (1751, (.iconst 1, 1)), (1752, (.iadd, 1)), (1753, (.iaload, 1)), (1754, (.aload_n 0, 1)), (1755, (.iload 4, 2)), (1757, (.iconst 2, 1)), (1758, (.iadd, 1)), (1759, (.iaload, 1)), (1760, (.invokevirtual 265, 3)), (1763, (.istore 6, 2)), (1765, (.goto 287, 3)), (1768, (.aload_n 1, 1)), (1769, (.aload_n 0, 1))] : List (Nat × (Jvm.ClassFile.Instr × Nat))).all (wnL dvL_law_35 1723) = true := by decide +kernel
theorem dL_law_1723 : decode cL_law 1723 = .ok (.istore 6, 2) := wnGet dwL_law_35 dkL_law_35 0 rfl
theorem dL_law_1725 : decode cL_law 1725 = .ok (.goto 327, 3) := wnGet dwL_law_35 dkL_law_35 1 rfl
theorem dL_law_1728 : decode cL_law 1728 = .ok (.aload_n 1, 1) := wnGet dwL_law_35 dkL_law_35 2 rfl
theorem dL_law_1729 : decode cL_law 1729 = .ok (.aload_n 0, 1) := wnGet dwL_law_35 dkL_law_35 3 rfl
theorem dL_law_1730 : decode cL_law 1730 = .ok (.iload 4, 2) := wnGet dwL_law_35 dkL_law_35 4 rfl
theorem dL_law_1732 : decode cL_law 1732 = .ok (.iconst 1, 1) := wnGet dwL_law_35 dkL_law_35 5 rfl
theorem dL_law_1733 : decode cL_law 1733 = .ok (.iadd, 1) := wnGet dwL_law_35 dkL_law_35 6 rfl
theorem dL_law_1734 : decode cL_law 1734 = .ok (.iaload, 1) := wnGet dwL_law_35 dkL_law_35 7 rfl
theorem dL_law_1735 : decode cL_law 1735 = .ok (.aload_n 0, 1) := wnGet dwL_law_35 dkL_law_35 8 rfl
theorem dL_law_1736 : decode cL_law 1736 = .ok (.iload 4, 2) := wnGet dwL_law_35 dkL_law_35 9 rfl
theorem dL_law_1738 : decode cL_law 1738 = .ok (.iconst 2, 1) := wnGet dwL_law_35 dkL_law_35 10 rfl
theorem dL_law_1739 : decode cL_law 1739 = .ok (.iadd, 1) := wnGet dwL_law_35 dkL_law_35 11 rfl
theorem dL_law_1740 : decode cL_law 1740 = .ok (.iaload, 1) := wnGet dwL_law_35 dkL_law_35 12 rfl
theorem dL_law_1741 : decode cL_law 1741 = .ok (.aload_n 3, 1) := wnGet dwL_law_35 dkL_law_35 13 rfl
theorem dL_law_1742 : decode cL_law 1742 = .ok (.invokestatic 263, 3) := wnGet dwL_law_35 dkL_law_35 14 rfl
theorem dL_law_1745 : decode cL_law 1745 = .ok (.istore 5, 2) := wnGet dwL_law_35 dkL_law_35 15 rfl
theorem dL_law_1747 : decode cL_law 1747 = .ok (.aload_n 2, 1) := wnGet dwL_law_35 dkL_law_35 16 rfl
theorem dL_law_1748 : decode cL_law 1748 = .ok (.aload_n 0, 1) := wnGet dwL_law_35 dkL_law_35 17 rfl
theorem dL_law_1749 : decode cL_law 1749 = .ok (.iload 4, 2) := wnGet dwL_law_35 dkL_law_35 18 rfl
theorem dL_law_1751 : decode cL_law 1751 = .ok (.iconst 1, 1) := wnGet dwL_law_35 dkL_law_35 19 rfl
theorem dL_law_1752 : decode cL_law 1752 = .ok (.iadd, 1) := wnGet dwL_law_35 dkL_law_35 20 rfl
theorem dL_law_1753 : decode cL_law 1753 = .ok (.iaload, 1) := wnGet dwL_law_35 dkL_law_35 21 rfl
theorem dL_law_1754 : decode cL_law 1754 = .ok (.aload_n 0, 1) := wnGet dwL_law_35 dkL_law_35 22 rfl
theorem dL_law_1755 : decode cL_law 1755 = .ok (.iload 4, 2) := wnGet dwL_law_35 dkL_law_35 23 rfl
theorem dL_law_1757 : decode cL_law 1757 = .ok (.iconst 2, 1) := wnGet dwL_law_35 dkL_law_35 24 rfl
theorem dL_law_1758 : decode cL_law 1758 = .ok (.iadd, 1) := wnGet dwL_law_35 dkL_law_35 25 rfl
theorem dL_law_1759 : decode cL_law 1759 = .ok (.iaload, 1) := wnGet dwL_law_35 dkL_law_35 26 rfl
theorem dL_law_1760 : decode cL_law 1760 = .ok (.invokevirtual 265, 3) := wnGet dwL_law_35 dkL_law_35 27 rfl
theorem dL_law_1763 : decode cL_law 1763 = .ok (.istore 6, 2) := wnGet dwL_law_35 dkL_law_35 28 rfl
theorem dL_law_1765 : decode cL_law 1765 = .ok (.goto 287, 3) := wnGet dwL_law_35 dkL_law_35 29 rfl
theorem dL_law_1768 : decode cL_law 1768 = .ok (.aload_n 1, 1) := wnGet dwL_law_35 dkL_law_35 30 rfl
theorem dL_law_1769 : decode cL_law 1769 = .ok (.aload_n 0, 1) := wnGet dwL_law_35 dkL_law_35 31 rfl
def dvL_law_36 : List UInt8 := [21, 4, 4, 96, 46, 42, 21, 4, 5, 96, 46, 45, 184, 1, 10, 54, 5, 44, 42, 21, 4, 4, 96, 46, 42, 21, 4, 5, 96, 46, 182, 1, 12, 54, 6, 167, 0, 247, 43, 42, 21, 4, 4, 96, 46]
theorem dwL_law_36 : (cL_law.data.toList.drop 1770).take dvL_law_36.length = dvL_law_36 := by decide +kernel
theorem dkL_law_36 : ([(1770, (.iload 4, 2)), (1772, (.iconst 1, 1)), (1773, (.iadd, 1)), (1774, (.iaload, 1)), (1775, (.aload_n 0, 1)), (1776, (.iload 4, 2)), (1778, (.iconst 2, 1)), (1779, (.iadd, 1)), (1780, (.iaload, 1)), (1781, (.aload_n 3, 1)), (1782, (.invokestatic 266, 3)), (1785, (.istore 5, 2)), (1787, (.aload_n 2, 1)), (1788, (.aload_n 0, 1)), (1789, (.iload 4, 2)), (1791, (.iconst 1, 1)), (1792, (.iadd, 1)), (1793, (.iaload, 1)), (1794, (.aload_n 0, 1)), (1795, (.iload 4, 2)), (1797, (.iconst 2, 1)), (1798, (.iadd, 1)), (1799, (.iaload, 1)), (1800, (.invokevirtual 268, 3)), (1803, (.istore 6, 2)), (1805, (.goto 247, 3)), (1808, (.aload_n 1, 1)), (1809, (.aload_n 0, 1)), (1810, (.iload 4, 2)), (1812, (.iconst 1, 1)), (1813, (.iadd, 1)), (1814, (.iaload, 1))] : List (Nat × (Jvm.ClassFile.Instr × Nat))).all (wnL dvL_law_36 1770) = true := by decide +kernel
theorem dL_law_1770 : decode cL_law 1770 = .ok (.iload 4, 2) := wnGet dwL_law_36 dkL_law_36 0 rfl
theorem dL_law_1772 : decode cL_law 1772 = .ok (.iconst 1, 1) := wnGet dwL_law_36 dkL_law_36 1 rfl
theorem dL_law_1773 : decode cL_law 1773 = .ok (.iadd, 1) := wnGet dwL_law_36 dkL_law_36 2 rfl
theorem dL_law_1774 : decode cL_law 1774 = .ok (.iaload, 1) := wnGet dwL_law_36 dkL_law_36 3 rfl
theorem dL_law_1775 : decode cL_law 1775 = .ok (.aload_n 0, 1) := wnGet dwL_law_36 dkL_law_36 4 rfl
theorem dL_law_1776 : decode cL_law 1776 = .ok (.iload 4, 2) := wnGet dwL_law_36 dkL_law_36 5 rfl
theorem dL_law_1778 : decode cL_law 1778 = .ok (.iconst 2, 1) := wnGet dwL_law_36 dkL_law_36 6 rfl
theorem dL_law_1779 : decode cL_law 1779 = .ok (.iadd, 1) := wnGet dwL_law_36 dkL_law_36 7 rfl
theorem dL_law_1780 : decode cL_law 1780 = .ok (.iaload, 1) := wnGet dwL_law_36 dkL_law_36 8 rfl
theorem dL_law_1781 : decode cL_law 1781 = .ok (.aload_n 3, 1) := wnGet dwL_law_36 dkL_law_36 9 rfl
theorem dL_law_1782 : decode cL_law 1782 = .ok (.invokestatic 266, 3) := wnGet dwL_law_36 dkL_law_36 10 rfl
theorem dL_law_1785 : decode cL_law 1785 = .ok (.istore 5, 2) := wnGet dwL_law_36 dkL_law_36 11 rfl
theorem dL_law_1787 : decode cL_law 1787 = .ok (.aload_n 2, 1) := wnGet dwL_law_36 dkL_law_36 12 rfl
theorem dL_law_1788 : decode cL_law 1788 = .ok (.aload_n 0, 1) := wnGet dwL_law_36 dkL_law_36 13 rfl
theorem dL_law_1789 : decode cL_law 1789 = .ok (.iload 4, 2) := wnGet dwL_law_36 dkL_law_36 14 rfl
theorem dL_law_1791 : decode cL_law 1791 = .ok (.iconst 1, 1) := wnGet dwL_law_36 dkL_law_36 15 rfl
theorem dL_law_1792 : decode cL_law 1792 = .ok (.iadd, 1) := wnGet dwL_law_36 dkL_law_36 16 rfl
theorem dL_law_1793 : decode cL_law 1793 = .ok (.iaload, 1) := wnGet dwL_law_36 dkL_law_36 17 rfl
theorem dL_law_1794 : decode cL_law 1794 = .ok (.aload_n 0, 1) := wnGet dwL_law_36 dkL_law_36 18 rfl
theorem dL_law_1795 : decode cL_law 1795 = .ok (.iload 4, 2) := wnGet dwL_law_36 dkL_law_36 19 rfl
theorem dL_law_1797 : decode cL_law 1797 = .ok (.iconst 2, 1) := wnGet dwL_law_36 dkL_law_36 20 rfl
theorem dL_law_1798 : decode cL_law 1798 = .ok (.iadd, 1) := wnGet dwL_law_36 dkL_law_36 21 rfl
theorem dL_law_1799 : decode cL_law 1799 = .ok (.iaload, 1) := wnGet dwL_law_36 dkL_law_36 22 rfl
theorem dL_law_1800 : decode cL_law 1800 = .ok (.invokevirtual 268, 3) := wnGet dwL_law_36 dkL_law_36 23 rfl
theorem dL_law_1803 : decode cL_law 1803 = .ok (.istore 6, 2) := wnGet dwL_law_36 dkL_law_36 24 rfl
theorem dL_law_1805 : decode cL_law 1805 = .ok (.goto 247, 3) := wnGet dwL_law_36 dkL_law_36 25 rfl
theorem dL_law_1808 : decode cL_law 1808 = .ok (.aload_n 1, 1) := wnGet dwL_law_36 dkL_law_36 26 rfl
theorem dL_law_1809 : decode cL_law 1809 = .ok (.aload_n 0, 1) := wnGet dwL_law_36 dkL_law_36 27 rfl
theorem dL_law_1810 : decode cL_law 1810 = .ok (.iload 4, 2) := wnGet dwL_law_36 dkL_law_36 28 rfl
theorem dL_law_1812 : decode cL_law 1812 = .ok (.iconst 1, 1) := wnGet dwL_law_36 dkL_law_36 29 rfl
theorem dL_law_1813 : decode cL_law 1813 = .ok (.iadd, 1) := wnGet dwL_law_36 dkL_law_36 30 rfl
theorem dL_law_1814 : decode cL_law 1814 = .ok (.iaload, 1) := wnGet dwL_law_36 dkL_law_36 31 rfl
def dvL_law_37 : List UInt8 := [42, 21, 4, 5, 96, 46, 45, 184, 1, 13, 54, 5, 44, 42, 21, 4, 4, 96, 46, 42, 21, 4, 5, 96, 46, 182, 1, 15, 54, 6, 167, 0, 207, 43, 42, 21, 4, 4, 96, 46, 45, 184, 1, 16, 54, 5, 44]
theorem dwL_law_37 : (cL_law.data.toList.drop 1815).take dvL_law_37.length = dvL_law_37 := by decide +kernel
theorem dkL_law_37 : ([(1815, (.aload_n 0, 1)), (1816, (.iload 4, 2)), (1818, (.iconst 2, 1)), (1819, (.iadd, 1)), (1820, (.iaload, 1)), (1821, (.aload_n 3, 1)), (1822, (.invokestatic 269, 3)), (1825, (.istore 5, 2)), (1827, (.aload_n 2, 1)), (1828, (.aload_n 0, 1)), (1829, (.iload 4, 2)), (1831, (.iconst 1, 1)), (1832, (.iadd, 1)), (1833, (.iaload, 1)), (1834, (.aload_n 0, 1)), (1835, (.iload 4, 2)), (1837, (.iconst 2, 1)), (1838, (.iadd, 1)), (1839, (.iaload, 1)), (1840, (.invokevirtual 271, 3)), (1843, (.istore 6, 2)), (1845, (.goto 207, 3)), (1848, (.aload_n 1, 1)), (1849, (.aload_n 0, 1)), (1850, (.iload 4, 2)), (1852, (.iconst 1, 1)), (1853, (.iadd, 1)), (1854, (.iaload, 1)), (1855, (.aload_n 3, 1)), (1856, (.invokestatic 272, 3)), (1859, (.istore 5, 2)), (1861, (.aload_n 2, 1))] : List (Nat × (Jvm.ClassFile.Instr × Nat))).all (wnL dvL_law_37 1815) = true := by decide +kernel
theorem dL_law_1815 : decode cL_law 1815 = .ok (.aload_n 0, 1) := wnGet dwL_law_37 dkL_law_37 0 rfl
theorem dL_law_1816 : decode cL_law 1816 = .ok (.iload 4, 2) := wnGet dwL_law_37 dkL_law_37 1 rfl
theorem dL_law_1818 : decode cL_law 1818 = .ok (.iconst 2, 1) := wnGet dwL_law_37 dkL_law_37 2 rfl
theorem dL_law_1819 : decode cL_law 1819 = .ok (.iadd, 1) := wnGet dwL_law_37 dkL_law_37 3 rfl
theorem dL_law_1820 : decode cL_law 1820 = .ok (.iaload, 1) := wnGet dwL_law_37 dkL_law_37 4 rfl
theorem dL_law_1821 : decode cL_law 1821 = .ok (.aload_n 3, 1) := wnGet dwL_law_37 dkL_law_37 5 rfl
theorem dL_law_1822 : decode cL_law 1822 = .ok (.invokestatic 269, 3) := wnGet dwL_law_37 dkL_law_37 6 rfl
theorem dL_law_1825 : decode cL_law 1825 = .ok (.istore 5, 2) := wnGet dwL_law_37 dkL_law_37 7 rfl
theorem dL_law_1827 : decode cL_law 1827 = .ok (.aload_n 2, 1) := wnGet dwL_law_37 dkL_law_37 8 rfl
theorem dL_law_1828 : decode cL_law 1828 = .ok (.aload_n 0, 1) := wnGet dwL_law_37 dkL_law_37 9 rfl
theorem dL_law_1829 : decode cL_law 1829 = .ok (.iload 4, 2) := wnGet dwL_law_37 dkL_law_37 10 rfl
theorem dL_law_1831 : decode cL_law 1831 = .ok (.iconst 1, 1) := wnGet dwL_law_37 dkL_law_37 11 rfl
theorem dL_law_1832 : decode cL_law 1832 = .ok (.iadd, 1) := wnGet dwL_law_37 dkL_law_37 12 rfl
theorem dL_law_1833 : decode cL_law 1833 = .ok (.iaload, 1) := wnGet dwL_law_37 dkL_law_37 13 rfl
theorem dL_law_1834 : decode cL_law 1834 = .ok (.aload_n 0, 1) := wnGet dwL_law_37 dkL_law_37 14 rfl
theorem dL_law_1835 : decode cL_law 1835 = .ok (.iload 4, 2) := wnGet dwL_law_37 dkL_law_37 15 rfl
theorem dL_law_1837 : decode cL_law 1837 = .ok (.iconst 2, 1) := wnGet dwL_law_37 dkL_law_37 16 rfl
theorem dL_law_1838 : decode cL_law 1838 = .ok (.iadd, 1) := wnGet dwL_law_37 dkL_law_37 17 rfl
theorem dL_law_1839 : decode cL_law 1839 = .ok (.iaload, 1) := wnGet dwL_law_37 dkL_law_37 18 rfl
theorem dL_law_1840 : decode cL_law 1840 = .ok (.invokevirtual 271, 3) := wnGet dwL_law_37 dkL_law_37 19 rfl
theorem dL_law_1843 : decode cL_law 1843 = .ok (.istore 6, 2) := wnGet dwL_law_37 dkL_law_37 20 rfl
theorem dL_law_1845 : decode cL_law 1845 = .ok (.goto 207, 3) := wnGet dwL_law_37 dkL_law_37 21 rfl
theorem dL_law_1848 : decode cL_law 1848 = .ok (.aload_n 1, 1) := wnGet dwL_law_37 dkL_law_37 22 rfl
theorem dL_law_1849 : decode cL_law 1849 = .ok (.aload_n 0, 1) := wnGet dwL_law_37 dkL_law_37 23 rfl
theorem dL_law_1850 : decode cL_law 1850 = .ok (.iload 4, 2) := wnGet dwL_law_37 dkL_law_37 24 rfl
theorem dL_law_1852 : decode cL_law 1852 = .ok (.iconst 1, 1) := wnGet dwL_law_37 dkL_law_37 25 rfl
theorem dL_law_1853 : decode cL_law 1853 = .ok (.iadd, 1) := wnGet dwL_law_37 dkL_law_37 26 rfl
theorem dL_law_1854 : decode cL_law 1854 = .ok (.iaload, 1) := wnGet dwL_law_37 dkL_law_37 27 rfl
theorem dL_law_1855 : decode cL_law 1855 = .ok (.aload_n 3, 1) := wnGet dwL_law_37 dkL_law_37 28 rfl
theorem dL_law_1856 : decode cL_law 1856 = .ok (.invokestatic 272, 3) := wnGet dwL_law_37 dkL_law_37 29 rfl
theorem dL_law_1859 : decode cL_law 1859 = .ok (.istore 5, 2) := wnGet dwL_law_37 dkL_law_37 30 rfl
theorem dL_law_1861 : decode cL_law 1861 = .ok (.aload_n 2, 1) := wnGet dwL_law_37 dkL_law_37 31 rfl
def dvL_law_38 : List UInt8 := [42, 21, 4, 4, 96, 46, 182, 1, 18, 54, 6, 167, 0, 179, 43, 42, 21, 4, 4, 96, 46, 42, 21, 4, 5, 96, 46, 45, 184, 1, 19, 54, 5, 44, 42, 21, 4, 4, 96, 46, 42, 21, 4, 5, 96]
theorem dwL_law_38 : (cL_law.data.toList.drop 1862).take dvL_law_38.length = dvL_law_38 := by decide +kernel
theorem dkL_law_38 : ([(1862, (.aload_n 0, 1)), (1863, (.iload 4, 2)), (1865, (.iconst 1, 1)), (1866, (.iadd, 1)), (1867, (.iaload, 1)), (1868, (.invokevirtual 274, 3)), (1871, (.istore 6, 2)), (1873, (.goto 179, 3)), (1876, (.aload_n 1, 1)), (1877, (.aload_n 0, 1)), (1878, (.iload 4, 2)), (1880, (.iconst 1, 1)), (1881, (.iadd, 1)), (1882, (.iaload, 1)), (1883, (.aload_n 0, 1)), (1884, (.iload 4, 2)), (1886, (.iconst 2, 1)), (1887, (.iadd, 1)), (1888, (.iaload, 1)), (1889, (.aload_n 3, 1)), (1890, (.invokestatic 275, 3)), (1893, (.istore 5, 2)), (1895, (.aload_n 2, 1)), (1896, (.aload_n 0, 1)), (1897, (.iload 4, 2)), (1899, (.iconst 1, 1)), (1900, (.iadd, 1)), (1901, (.iaload, 1)), (1902, (.aload_n 0, 1)), (1903, (.iload 4, 2)), (1905, (.iconst 2, 1)), (1906, (.iadd, 1))] : List (Nat × (Jvm.ClassFile.Instr × Nat))).all (wnL dvL_law_38 1862) = true := by decide +kernel
theorem dL_law_1862 : decode cL_law 1862 = .ok (.aload_n 0, 1) := wnGet dwL_law_38 dkL_law_38 0 rfl
theorem dL_law_1863 : decode cL_law 1863 = .ok (.iload 4, 2) := wnGet dwL_law_38 dkL_law_38 1 rfl
theorem dL_law_1865 : decode cL_law 1865 = .ok (.iconst 1, 1) := wnGet dwL_law_38 dkL_law_38 2 rfl
theorem dL_law_1866 : decode cL_law 1866 = .ok (.iadd, 1) := wnGet dwL_law_38 dkL_law_38 3 rfl
theorem dL_law_1867 : decode cL_law 1867 = .ok (.iaload, 1) := wnGet dwL_law_38 dkL_law_38 4 rfl
theorem dL_law_1868 : decode cL_law 1868 = .ok (.invokevirtual 274, 3) := wnGet dwL_law_38 dkL_law_38 5 rfl
theorem dL_law_1871 : decode cL_law 1871 = .ok (.istore 6, 2) := wnGet dwL_law_38 dkL_law_38 6 rfl
theorem dL_law_1873 : decode cL_law 1873 = .ok (.goto 179, 3) := wnGet dwL_law_38 dkL_law_38 7 rfl
theorem dL_law_1876 : decode cL_law 1876 = .ok (.aload_n 1, 1) := wnGet dwL_law_38 dkL_law_38 8 rfl
theorem dL_law_1877 : decode cL_law 1877 = .ok (.aload_n 0, 1) := wnGet dwL_law_38 dkL_law_38 9 rfl
theorem dL_law_1878 : decode cL_law 1878 = .ok (.iload 4, 2) := wnGet dwL_law_38 dkL_law_38 10 rfl
theorem dL_law_1880 : decode cL_law 1880 = .ok (.iconst 1, 1) := wnGet dwL_law_38 dkL_law_38 11 rfl
theorem dL_law_1881 : decode cL_law 1881 = .ok (.iadd, 1) := wnGet dwL_law_38 dkL_law_38 12 rfl
theorem dL_law_1882 : decode cL_law 1882 = .ok (.iaload, 1) := wnGet dwL_law_38 dkL_law_38 13 rfl
theorem dL_law_1883 : decode cL_law 1883 = .ok (.aload_n 0, 1) := wnGet dwL_law_38 dkL_law_38 14 rfl
theorem dL_law_1884 : decode cL_law 1884 = .ok (.iload 4, 2) := wnGet dwL_law_38 dkL_law_38 15 rfl
theorem dL_law_1886 : decode cL_law 1886 = .ok (.iconst 2, 1) := wnGet dwL_law_38 dkL_law_38 16 rfl
theorem dL_law_1887 : decode cL_law 1887 = .ok (.iadd, 1) := wnGet dwL_law_38 dkL_law_38 17 rfl
theorem dL_law_1888 : decode cL_law 1888 = .ok (.iaload, 1) := wnGet dwL_law_38 dkL_law_38 18 rfl
theorem dL_law_1889 : decode cL_law 1889 = .ok (.aload_n 3, 1) := wnGet dwL_law_38 dkL_law_38 19 rfl
theorem dL_law_1890 : decode cL_law 1890 = .ok (.invokestatic 275, 3) := wnGet dwL_law_38 dkL_law_38 20 rfl
theorem dL_law_1893 : decode cL_law 1893 = .ok (.istore 5, 2) := wnGet dwL_law_38 dkL_law_38 21 rfl
theorem dL_law_1895 : decode cL_law 1895 = .ok (.aload_n 2, 1) := wnGet dwL_law_38 dkL_law_38 22 rfl
theorem dL_law_1896 : decode cL_law 1896 = .ok (.aload_n 0, 1) := wnGet dwL_law_38 dkL_law_38 23 rfl
theorem dL_law_1897 : decode cL_law 1897 = .ok (.iload 4, 2) := wnGet dwL_law_38 dkL_law_38 24 rfl
theorem dL_law_1899 : decode cL_law 1899 = .ok (.iconst 1, 1) := wnGet dwL_law_38 dkL_law_38 25 rfl
theorem dL_law_1900 : decode cL_law 1900 = .ok (.iadd, 1) := wnGet dwL_law_38 dkL_law_38 26 rfl
theorem dL_law_1901 : decode cL_law 1901 = .ok (.iaload, 1) := wnGet dwL_law_38 dkL_law_38 27 rfl
theorem dL_law_1902 : decode cL_law 1902 = .ok (.aload_n 0, 1) := wnGet dwL_law_38 dkL_law_38 28 rfl
theorem dL_law_1903 : decode cL_law 1903 = .ok (.iload 4, 2) := wnGet dwL_law_38 dkL_law_38 29 rfl
theorem dL_law_1905 : decode cL_law 1905 = .ok (.iconst 2, 1) := wnGet dwL_law_38 dkL_law_38 30 rfl
theorem dL_law_1906 : decode cL_law 1906 = .ok (.iadd, 1) := wnGet dwL_law_38 dkL_law_38 31 rfl
def dvL_law_39 : List UInt8 := [46, 182, 1, 21, 54, 6, 44, 182, 1, 22, 21, 5, 159, 0, 5, 3, 172, 21, 5, 154, 0, 16, 45, 180, 0, 13, 21, 6, 133, 148, 153, 0, 5, 3, 172, 167, 0, 110, 43, 42, 21, 4, 4, 96, 46, 42, 21, 4, 5, 96, 46, 45]
theorem dwL_law_39 : (cL_law.data.toList.drop 1907).take dvL_law_39.length = dvL_law_39 := by decide +kernel
theorem dkL_law_39 : ([(1907, (.iaload, 1)), (1908, (.invokevirtual 277, 3)), (1911, (.istore 6, 2)), (1913, (.aload_n 2, 1)), (1914, (.invokevirtual 278, 3)), (1917, (.iload 5, 2)), (1919, (.if_icmp .eq 5, 3)), (1922, (.iconst 0, 1)), (1923, (.ireturn, 1)), (1924, (.iload 5, 2)), (1926, (.ifCond .ne 16, 3)), (1929, (.aload_n 3, 1)), (1930, (.getfield 13, 3)), (1933, (.iload 6, 2)), (1935, (.i2l, 1)), (1936, (.lcmp, 1)), (1937, (.ifCond .eq 5, 3)), (1940, (.iconst 0, 1)), (1941, (.ireturn, 1)), (1942, (.goto 110, 3)), (1945, (.aload_n 1, 1)), (1946, (.aload_n 0, 1)), (1947, (.iload 4, 2)), (1949, (.iconst 1, 1)), (1950, (.iadd, 1)), (1951, (.iaload, 1)), (1952, (.aload_n 0, 1)), (1953, (.iload 4, 2)), (1955, (.iconst 2, 1)), (1956, (.iadd, 1)), (1957, (.iaload, 1)), (1958, (.aload_n 3, 1))] : List (Nat × (Jvm.ClassFile.Instr × Nat))).all (wnL dvL_law_39 1907) = true := by decide +kernel
theorem dL_law_1907 : decode cL_law 1907 = .ok (.iaload, 1) := wnGet dwL_law_39 dkL_law_39 0 rfl
theorem dL_law_1908 : decode cL_law 1908 = .ok (.invokevirtual 277, 3) := wnGet dwL_law_39 dkL_law_39 1 rfl
theorem dL_law_1911 : decode cL_law 1911 = .ok (.istore 6, 2) := wnGet dwL_law_39 dkL_law_39 2 rfl
theorem dL_law_1913 : decode cL_law 1913 = .ok (.aload_n 2, 1) := wnGet dwL_law_39 dkL_law_39 3 rfl
theorem dL_law_1914 : decode cL_law 1914 = .ok (.invokevirtual 278, 3) := wnGet dwL_law_39 dkL_law_39 4 rfl
theorem dL_law_1917 : decode cL_law 1917 = .ok (.iload 5, 2) := wnGet dwL_law_39 dkL_law_39 5 rfl
theorem dL_law_1919 : decode cL_law 1919 = .ok (.if_icmp .eq 5, 3) := wnGet dwL_law_39 dkL_law_39 6 rfl
theorem dL_law_1924 : decode cL_law 1924 = .ok (.iload 5, 2) := wnGet dwL_law_39 dkL_law_39 9 rfl
theorem dL_law_1926 : decode cL_law 1926 = .ok (.ifCond .ne 16, 3) := wnGet dwL_law_39 dkL_law_39 10 rfl
theorem dL_law_1929 : decode cL_law 1929 = .ok (.aload_n 3, 1) := wnGet dwL_law_39 dkL_law_39 11 rfl
theorem dL_law_1930 : decode cL_law 1930 = .ok (.getfield 13, 3) := wnGet dwL_law_39 dkL_law_39 12 rfl
theorem dL_law_1933 : decode cL_law 1933 = .ok (.iload 6, 2) := wnGet dwL_law_39 dkL_law_39 13 rfl
theorem dL_law_1935 : decode cL_law 1935 = .ok (.i2l, 1) := wnGet dwL_law_39 dkL_law_39 14 rfl
theorem dL_law_1936 : decode cL_law 1936 = .ok (.lcmp, 1) := wnGet dwL_law_39 dkL_law_39 15 rfl
theorem dL_law_1937 : decode cL_law 1937 = .ok (.ifCond .eq 5, 3) := wnGet dwL_law_39 dkL_law_39 16 rfl
theorem dL_law_1942 : decode cL_law 1942 = .ok (.goto 110, 3) := wnGet dwL_law_39 dkL_law_39 19 rfl
theorem dL_law_1945 : decode cL_law 1945 = .ok (.aload_n 1, 1) := wnGet dwL_law_39 dkL_law_39 20 rfl
theorem dL_law_1946 : decode cL_law 1946 = .ok (.aload_n 0, 1) := wnGet dwL_law_39 dkL_law_39 21 rfl
theorem dL_law_1947 : decode cL_law 1947 = .ok (.iload 4, 2) := wnGet dwL_law_39 dkL_law_39 22 rfl
theorem dL_law_1949 : decode cL_law 1949 = .ok (.iconst 1, 1) := wnGet dwL_law_39 dkL_law_39 23 rfl
theorem dL_law_1950 : decode cL_law 1950 = .ok (.iadd, 1) := wnGet dwL_law_39 dkL_law_39 24 rfl
theorem dL_law_1951 : decode cL_law 1951 = .ok (.iaload, 1) := wnGet dwL_law_39 dkL_law_39 25 rfl
theorem dL_law_1952 : decode cL_law 1952 = .ok (.aload_n 0, 1) := wnGet dwL_law_39 dkL_law_39 26 rfl
theorem dL_law_1953 : decode cL_law 1953 = .ok (.iload 4, 2) := wnGet dwL_law_39 dkL_law_39 27 rfl
theorem dL_law_1955 : decode cL_law 1955 = .ok (.iconst 2, 1) := wnGet dwL_law_39 dkL_law_39 28 rfl
theorem dL_law_1956 : decode cL_law 1956 = .ok (.iadd, 1) := wnGet dwL_law_39 dkL_law_39 29 rfl
theorem dL_law_1957 : decode cL_law 1957 = .ok (.iaload, 1) := wnGet dwL_law_39 dkL_law_39 30 rfl
theorem dL_law_1958 : decode cL_law 1958 = .ok (.aload_n 3, 1) := wnGet dwL_law_39 dkL_law_39 31 rfl
def dvL_law_40 : List UInt8 := [184, 1, 26, 54, 5, 44, 42, 21, 4, 4, 96, 46, 42, 21, 4, 5, 96, 46, 182, 1, 28, 54, 6, 167, 0, 70, 43, 182, 1, 29, 87, 44, 182, 1, 32, 87, 167, 0, 57, 43, 42, 21, 4, 4, 96, 46, 45, 184, 1, 33, 54, 5]
theorem dwL_law_40 : (cL_law.data.toList.drop 1959).take dvL_law_40.length = dvL_law_40 := by decide +kernel
theorem dkL_law_40 : ([(1959, (.invokestatic 282, 3)), (1962, (.istore 5, 2)), (1964, (.aload_n 2, 1)), (1965, (.aload_n 0, 1)), (1966, (.iload 4, 2)), (1968, (.iconst 1, 1)), (1969, (.iadd, 1)), (1970, (.iaload, 1)), (1971, (.aload_n 0, 1)), (1972, (.iload 4, 2)), (1974, (.iconst 2, 1)), (1975, (.iadd, 1)), (1976, (.iaload, 1)), (1977, (.invokevirtual 284, 3)), (1980, (.istore 6, 2)), (1982, (.goto 70, 3)), (1985, (.aload_n 1, 1)), (1986, (.invokevirtual 285, 3)), (1989, (.pop, 1)), (1990, (.aload_n 2, 1)), (1991, (.invokevirtual 288, 3)), (1994, (.pop, 1)), (1995, (.goto 57, 3)), (1998, (.aload_n 1, 1)), (1999, (.aload_n 0, 1)), (2000, (.iload 4, 2)), (2002, (.iconst 1, 1)), (2003, (.iadd, 1)), (2004, (.iaload, 1)), (2005, (.aload_n 3, 1)), (2006, (.invokestatic 289, 3)), (2009, (.istore 5, 2))] : List (Nat × (Jvm.ClassFile.Instr × Nat))).all (wnL dvL_law_40 1959) = true := by decide +kernel
theorem dL_law_1959 : decode cL_law 1959 = .ok (.invokestatic 282, 3) := wnGet dwL_law_40 dkL_law_40 0 rfl
theorem dL_law_1962 : decode cL_law 1962 = .ok (.istore 5, 2) := wnGet dwL_law_40 dkL_law_40 1 rfl
theorem dL_law_1964 : decode cL_law 1964 = .ok (.aload_n 2, 1) := wnGet dwL_law_40 dkL_law_40 2 rfl
theorem dL_law_1965 : decode cL_law 1965 = .ok (.aload_n 0, 1) := wnGet dwL_law_40 dkL_law_40 3 rfl
theorem dL_law_1966 : decode cL_law 1966 = .ok (.iload 4, 2) := wnGet dwL_law_40 dkL_law_40 4 rfl
theorem dL_law_1968 : decode cL_law 1968 = .ok (.iconst 1, 1) := wnGet dwL_law_40 dkL_law_40 5 rfl
theorem dL_law_1969 : decode cL_law 1969 = .ok (.iadd, 1) := wnGet dwL_law_40 dkL_law_40 6 rfl
theorem dL_law_1970 : decode cL_law 1970 = .ok (.iaload, 1) := wnGet dwL_law_40 dkL_law_40 7 rfl
theorem dL_law_1971 : decode cL_law 1971 = .ok (.aload_n 0, 1) := wnGet dwL_law_40 dkL_law_40 8 rfl
theorem dL_law_1972 : decode cL_law 1972 = .ok (.iload 4, 2) := wnGet dwL_law_40 dkL_law_40 9 rfl
theorem dL_law_1974 : decode cL_law 1974 = .ok (.iconst 2, 1) := wnGet dwL_law_40 dkL_law_40 10 rfl
theorem dL_law_1975 : decode cL_law 1975 = .ok (.iadd, 1) := wnGet dwL_law_40 dkL_law_40 11 rfl
theorem dL_law_1976 : decode cL_law 1976 = .ok (.iaload, 1) := wnGet dwL_law_40 dkL_law_40 12 rfl
theorem dL_law_1977 : decode cL_law 1977 = .ok (.invokevirtual 284, 3) := wnGet dwL_law_40 dkL_law_40 13 rfl
theorem dL_law_1980 : decode cL_law 1980 = .ok (.istore 6, 2) := wnGet dwL_law_40 dkL_law_40 14 rfl
theorem dL_law_1982 : decode cL_law 1982 = .ok (.goto 70, 3) := wnGet dwL_law_40 dkL_law_40 15 rfl
theorem dL_law_1985 : decode cL_law 1985 = .ok (.aload_n 1, 1) := wnGet dwL_law_40 dkL_law_40 16 rfl
theorem dL_law_1986 : decode cL_law 1986 = .ok (.invokevirtual 285, 3) := wnGet dwL_law_40 dkL_law_40 17 rfl
theorem dL_law_1989 : decode cL_law 1989 = .ok (.pop, 1) := wnGet dwL_law_40 dkL_law_40 18 rfl
theorem dL_law_1990 : decode cL_law 1990 = .ok (.aload_n 2, 1) := wnGet dwL_law_40 dkL_law_40 19 rfl
theorem dL_law_1991 : decode cL_law 1991 = .ok (.invokevirtual 288, 3) := wnGet dwL_law_40 dkL_law_40 20 rfl
theorem dL_law_1994 : decode cL_law 1994 = .ok (.pop, 1) := wnGet dwL_law_40 dkL_law_40 21 rfl
theorem dL_law_1995 : decode cL_law 1995 = .ok (.goto 57, 3) := wnGet dwL_law_40 dkL_law_40 22 rfl
theorem dL_law_1998 : decode cL_law 1998 = .ok (.aload_n 1, 1) := wnGet dwL_law_40 dkL_law_40 23 rfl
theorem dL_law_1999 : decode cL_law 1999 = .ok (.aload_n 0, 1) := wnGet dwL_law_40 dkL_law_40 24 rfl
theorem dL_law_2000 : decode cL_law 2000 = .ok (.iload 4, 2) := wnGet dwL_law_40 dkL_law_40 25 rfl
theorem dL_law_2002 : decode cL_law 2002 = .ok (.iconst 1, 1) := wnGet dwL_law_40 dkL_law_40 26 rfl
theorem dL_law_2003 : decode cL_law 2003 = .ok (.iadd, 1) := wnGet dwL_law_40 dkL_law_40 27 rfl
theorem dL_law_2004 : decode cL_law 2004 = .ok (.iaload, 1) := wnGet dwL_law_40 dkL_law_40 28 rfl
theorem dL_law_2005 : decode cL_law 2005 = .ok (.aload_n 3, 1) := wnGet dwL_law_40 dkL_law_40 29 rfl
theorem dL_law_2006 : decode cL_law 2006 = .ok (.invokestatic 289, 3) := wnGet dwL_law_40 dkL_law_40 30 rfl
theorem dL_law_2009 : decode cL_law 2009 = .ok (.istore 5, 2) := wnGet dwL_law_40 dkL_law_40 31 rfl
def dvL_law_41 : List UInt8 := [44, 42, 21, 4, 4, 96, 46, 182, 1, 35, 54, 6, 167, 0, 29, 43, 182, 1, 36, 87, 44, 182, 1, 40, 87, 167, 0, 16, 43, 182, 1, 41, 88, 44, 182, 1, 45, 88, 167, 0, 3, 132, 4, 5, 167, 248, 20, 4, 172]
theorem dwL_law_41 : (cL_law.data.toList.drop 2011).take dvL_law_41.length = dvL_law_41 := by decide +kernel
theorem dkL_law_41 : ([(2011, (.aload_n 2, 1)), (2012, (.aload_n 0, 1)), (2013, (.iload 4, 2)), (2015, (.iconst 1, 1)), (2016, (.iadd, 1)), (2017, (.iaload, 1)), (2018, (.invokevirtual 291, 3)), (2021, (.istore 6, 2)), (2023, (.goto 29, 3)), (2026, (.aload_n 1, 1)), (2027, (.invokevirtual 292, 3)), (2030, (.pop, 1)), (2031, (.aload_n 2, 1)), (2032, (.invokevirtual 296, 3)), (2035, (.pop, 1)), (2036, (.goto 16, 3)), (2039, (.aload_n 1, 1)), (2040, (.invokevirtual 297, 3)), (2043, (.pop2, 1)), (2044, (.aload_n 2, 1)), (2045, (.invokevirtual 301, 3)), (2048, (.pop2, 1)), (2049, (.goto 3, 3)), (2052, (.iinc 4 5, 3)), (2055, (.goto (-2028), 3)), (2058, (.iconst 1, 1)), (2059, (.ireturn, 1))] : List (Nat × (Jvm.ClassFile.Instr × Nat))).all (wnL dvL_law_41 2011) = true := by decide +kernel
theorem dL_law_2011 : decode cL_law 2011 = .ok (.aload_n 2, 1) := wnGet dwL_law_41 dkL_law_41 0 rfl
theorem dL_law_2012 : decode cL_law 2012 = .ok (.aload_n 0, 1) := wnGet dwL_law_41 dkL_law_41 1 rfl
theorem dL_law_2013 : decode cL_law 2013 = .ok (.iload 4, 2) := wnGet dwL_law_41 dkL_law_41 2 rfl
theorem dL_law_2015 : decode cL_law 2015 = .ok (.iconst 1, 1) := wnGet dwL_law_41 dkL_law_41 3 rfl
theorem dL_law_2016 : decode cL_law 2016 = .ok (.iadd, 1) := wnGet dwL_law_41 dkL_law_41 4 rfl
theorem dL_law_2017 : decode cL_law 2017 = .ok (.iaload, 1) := wnGet dwL_law_41 dkL_law_41 5 rfl
theorem dL_law_2018 : decode cL_law 2018 = .ok (.invokevirtual 291, 3) := wnGet dwL_law_41 dkL_law_41 6 rfl
theorem dL_law_2021 : decode cL_law 2021 = .ok (.istore 6, 2) := wnGet dwL_law_41 dkL_law_41 7 rfl
theorem dL_law_2023 : decode cL_law 2023 = .ok (.goto 29, 3) := wnGet dwL_law_41 dkL_law_41 8 rfl
theorem dL_law_2026 : decode cL_law 2026 = .ok (.aload_n 1, 1) := wnGet dwL_law_41 dkL_law_41 9 rfl
theorem dL_law_2027 : decode cL_law 2027 = .ok (.invokevirtual 292, 3) := wnGet dwL_law_41 dkL_law_41 10 rfl
theorem dL_law_2030 : decode cL_law 2030 = .ok (.pop, 1) := wnGet dwL_law_41 dkL_law_41 11 rfl
theorem dL_law_2031 : decode cL_law 2031 = .ok (.aload_n 2, 1) := wnGet dwL_law_41 dkL_law_41 12 rfl
theorem dL_law_2032 : decode cL_law 2032 = .ok (.invokevirtual 296, 3) := wnGet dwL_law_41 dkL_law_41 13 rfl
theorem dL_law_2035 : decode cL_law 2035 = .ok (.pop, 1) := wnGet dwL_law_41 dkL_law_41 14 rfl
theorem dL_law_2036 : decode cL_law 2036 = .ok (.goto 16, 3) := wnGet dwL_law_41 dkL_law_41 15 rfl
theorem dL_law_2039 : decode cL_law 2039 = .ok (.aload_n 1, 1) := wnGet dwL_law_41 dkL_law_41 16 rfl
theorem dL_law_2040 : decode cL_law 2040 = .ok (.invokevirtual 297, 3) := wnGet dwL_law_41 dkL_law_41 17 rfl
theorem dL_law_2043 : decode cL_law 2043 = .ok (.pop2, 1) := wnGet dwL_law_41 dkL_law_41 18 rfl
theorem dL_law_2044 : decode cL_law 2044 = .ok (.aload_n 2, 1) := wnGet dwL_law_41 dkL_law_41 19 rfl
theorem dL_law_2045 : decode cL_law 2045 = .ok (.invokevirtual 301, 3) := wnGet dwL_law_41 dkL_law_41 20 rfl
theorem dL_law_2048 : decode cL_law 2048 = .ok (.pop2, 1) := wnGet dwL_law_41 dkL_law_41 21 rfl
theorem dL_law_2049 : decode cL_law 2049 = .ok (.goto 3, 3) := wnGet dwL_law_41 dkL_law_41 22 rfl
theorem dL_law_2052 : decode cL_law 2052 = .ok (.iinc 4 5, 3) := wnGet dwL_law_41 dkL_law_41 23 rfl
theorem dL_law_2055 : decode cL_law 2055 = .ok (.goto (-2028), 3) := wnGet dwL_law_41 dkL_law_41 24 rfl
theorem dL_law_2058 : decode cL_law 2058 = .ok (.iconst 1, 1) := wnGet dwL_law_41 dkL_law_41 25 rfl
theorem dL_law_2059 : decode cL_law 2059 = .ok (.ireturn, 1) := wnGet dwL_law_41 dkL_law_41 26 rfl
