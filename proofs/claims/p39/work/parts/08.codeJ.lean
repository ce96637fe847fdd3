theorem dkJ5_init_d00df_0 : ([(0, (.aload_n 0, 1)), (1, (.invokespecial 3, 3)), (4, (.getstatic 18, 3)), (7, (.ifCond .eq 18, 3)), (10, (.aload_n 0, 1)), (11, (.iload_n 1, 1)), (12, (.newarray .byte, 2)), (14, (.putfield 15, 3)), (17, (.aload_n 0, 1)), (18, (.iconst 0, 1)), (19, (.putfield 22, 3)), (22, (.goto 16, 3)), (25, (.aload_n 0, 1)), (26, (.iload_n 1, 1)), (27, (.invokestatic 26, 3)), (30, (.putfield 15, 3)), (33, (.aload_n 0, 1)), (34, (.iconst 1, 1)), (35, (.putfield 22, 3)), (38, (.return_, 1))] : List (Nat × (Jvm.ClassFile.Instr × Nat))).all (dcB cJ5_init_d00df) = true := by decide +kernel
theorem dJ5_init_d00df_0 : decode cJ5_init_d00df 0 = .ok (.aload_n 0, 1) := dget dkJ5_init_d00df_0 0 rfl
theorem dJ5_init_d00df_1 : decode cJ5_init_d00df 1 = .ok (.invokespecial 3, 3) := dget dkJ5_init_d00df_0 1 rfl
theorem dJ5_init_d00df_4 : decode cJ5_init_d00df 4 = .ok (.getstatic 18, 3) := dget dkJ5_init_d00df_0 2 rfl
theorem dJ5_init_d00df_7 : decode cJ5_init_d00df 7 = .ok (.ifCond .eq 18, 3) := dget dkJ5_init_d00df_0 3 rfl
theorem dJ5_init_d00df_10 : decode cJ5_init_d00df 10 = .ok (.aload_n 0, 1) := dget dkJ5_init_d00df_0 4 rfl
theorem dJ5_init_d00df_11 : decode cJ5_init_d00df 11 = .ok (.iload_n 1, 1) := dget dkJ5_init_d00df_0 5 rfl
theorem dJ5_init_d00df_12 : decode cJ5_init_d00df 12 = .ok (.newarray .byte, 2) := dget dkJ5_init_d00df_0 6 rfl
theorem dJ5_init_d00df_14 : decode cJ5_init_d00df 14 = .ok (.putfield 15, 3) := dget dkJ5_init_d00df_0 7 rfl
theorem dJ5_init_d00df_17 : decode cJ5_init_d00df 17 = .ok (.aload_n 0, 1) := dget dkJ5_init_d00df_0 8 rfl
theorem dJ5_init_d00df_18 : decode cJ5_init_d00df 18 = .ok (.iconst 0, 1) := dget dkJ5_init_d00df_0 9 rfl
theorem dJ5_init_d00df_19 : decode cJ5_init_d00df 19 = .ok (.putfield 22, 3) := dget dkJ5_init_d00df_0 10 rfl
theorem dJ5_init_d00df_22 : decode cJ5_init_d00df 22 = .ok (.goto 16, 3) := dget dkJ5_init_d00df_0 11 rfl
theorem dJ5_init_d00df_38 : decode cJ5_init_d00df 38 = .ok (.return_, 1) := dget dkJ5_init_d00df_0 19 rfl
theorem dkJ5_length_8abf5_0 : ([(0, (.aload_n 0, 1)), (1, (.getfield 79, 3)), (4, (.ireturn, 1))] : List (Nat × (Jvm.ClassFile.Instr × Nat))).all (dcB cJ5_length_8abf5) = true := by decide +kernel
theorem dJ5_length_8abf5_0 : decode cJ5_length_8abf5 0 = .ok (.aload_n 0, 1) := dget dkJ5_length_8abf5_0 0 rfl
theorem dJ5_length_8abf5_1 : decode cJ5_length_8abf5 1 = .ok (.getfield 79, 3) := dget dkJ5_length_8abf5_0 1 rfl
theorem dJ5_length_8abf5_4 : decode cJ5_length_8abf5 4 = .ok (.ireturn, 1) := dget dkJ5_length_8abf5_0 2 rfl
theorem ggJ5_ensureCapacityInternal_d00df_J5_newCapacity_0f7a4 : GoodIn wsJ5_ensureCapacityInternal_d00df wsJ5_newCapacity_0f7a4 := tgCall 223 e_J5_newCapacity_0f7a4 (by decide +kernel)
theorem gJ5_ensureCapacityInternal_d00df_J5_newCapacity_0f7a4_u104J4 : GoodIn wsJ5_ensureCapacityInternal_d00df (va_wsU RJ5 104 RJ4 "java/lang/AbstractStringBuilder" ⟨"java/lang/AbstractStringBuilder", "newCapacity", "(I)I"⟩ yJ5_newCapacity_0f7a4 wsJ5_newCapacity_0f7a4) := goodIn_app (tgIn [218, 219, 220, 221, 222] (by decide +kernel) rfl) ggJ5_ensureCapacityInternal_d00df_J5_newCapacity_0f7a4
theorem ggJ5_ensureCapacityInternal_d00df_J7_copyOf_9075b : GoodIn wsJ5_ensureCapacityInternal_d00df wsJ7_copyOf_9075b := tgCall 239 e_J7_copyOf_9075b (by decide +kernel)
theorem gJ5_ensureCapacityInternal_d00df_J7_copyOf_9075b : GoodIn wsJ5_ensureCapacityInternal_d00df (va_wsS RJ5 108 yJ7_copyOf_9075b wsJ7_copyOf_9075b) := goodIn_app (tgIn [236, 237, 238] (by decide +kernel) rfl) ggJ5_ensureCapacityInternal_d00df_J7_copyOf_9075b
theorem dkJ5_ensureCapacityInternal_d00df_0 : ([(0, (.aload_n 0, 1)), (1, (.getfield 15, 3)), (4, (.arraylength, 1)), (5, (.aload_n 0, 1)), (6, (.getfield 22, 3)), (9, (.ishr, 1)), (10, (.istore_n 2, 1)), (11, (.iload_n 1, 1)), (12, (.iload_n 2, 1)), (13, (.isub, 1)), (14, (.ifCond .le 24, 3)), (17, (.aload_n 0, 1)), (18, (.aload_n 0, 1)), (19, (.getfield 15, 3)), (22, (.aload_n 0, 1)), (23, (.iload_n 1, 1)), (24, (.invokevirtual 104, 3)), (27, (.aload_n 0, 1)), (28, (.getfield 22, 3)), (31, (.ishl, 1)), (32, (.invokestatic 108, 3)), (35, (.putfield 15, 3)), (38, (.return_, 1))] : List (Nat × (Jvm.ClassFile.Instr × Nat))).all (dcB cJ5_ensureCapacityInternal_d00df) = true := by decide +kernel
theorem dJ5_ensureCapacityInternal_d00df_0 : decode cJ5_ensureCapacityInternal_d00df 0 = .ok (.aload_n 0, 1) := dget dkJ5_ensureCapacityInternal_d00df_0 0 rfl
theorem dJ5_ensureCapacityInternal_d00df_1 : decode cJ5_ensureCapacityInternal_d00df 1 = .ok (.getfield 15, 3) := dget dkJ5_ensureCapacityInternal_d00df_0 1 rfl
theorem dJ5_ensureCapacityInternal_d00df_4 : decode cJ5_ensureCapacityInternal_d00df 4 = .ok (.arraylength, 1) := dget dkJ5_ensureCapacityInternal_d00df_0 2 rfl
theorem dJ5_ensureCapacityInternal_d00df_5 : decode cJ5_ensureCapacityInternal_d00df 5 = .ok (.aload_n 0, 1) := dget dkJ5_ensureCapacityInternal_d00df_0 3 rfl
theorem dJ5_ensureCapacityInternal_d00df_6 : decode cJ5_ensureCapacityInternal_d00df 6 = .ok (.getfield 22, 3) := dget dkJ5_ensureCapacityInternal_d00df_0 4 rfl
theorem dJ5_ensureCapacityInternal_d00df_9 : decode cJ5_ensureCapacityInternal_d00df 9 = .ok (.ishr, 1) := dget dkJ5_ensureCapacityInternal_d00df_0 5 rfl
theorem dJ5_ensureCapacityInternal_d00df_10 : decode cJ5_ensureCapacityInternal_d00df 10 = .ok (.istore_n 2, 1) := dget dkJ5_ensureCapacityInternal_d00df_0 6 rfl
theorem dJ5_ensureCapacityInternal_d00df_11 : decode cJ5_ensureCapacityInternal_d00df 11 = .ok (.iload_n 1, 1) := dget dkJ5_ensureCapacityInternal_d00df_0 7 rfl
theorem dJ5_ensureCapacityInternal_d00df_12 : decode cJ5_ensureCapacityInternal_d00df 12 = .ok (.iload_n 2, 1) := dget dkJ5_ensureCapacityInternal_d00df_0 8 rfl
theorem dJ5_ensureCapacityInternal_d00df_13 : decode cJ5_ensureCapacityInternal_d00df 13 = .ok (.isub, 1) := dget dkJ5_ensureCapacityInternal_d00df_0 9 rfl
theorem dJ5_ensureCapacityInternal_d00df_14 : decode cJ5_ensureCapacityInternal_d00df 14 = .ok (.ifCond .le 24, 3) := dget dkJ5_ensureCapacityInternal_d00df_0 10 rfl
theorem dJ5_ensureCapacityInternal_d00df_17 : decode cJ5_ensureCapacityInternal_d00df 17 = .ok (.aload_n 0, 1) := dget dkJ5_ensureCapacityInternal_d00df_0 11 rfl
theorem dJ5_ensureCapacityInternal_d00df_18 : decode cJ5_ensureCapacityInternal_d00df 18 = .ok (.aload_n 0, 1) := dget dkJ5_ensureCapacityInternal_d00df_0 12 rfl
theorem dJ5_ensureCapacityInternal_d00df_19 : decode cJ5_ensureCapacityInternal_d00df 19 = .ok (.getfield 15, 3) := dget dkJ5_ensureCapacityInternal_d00df_0 13 rfl
theorem dJ5_ensureCapacityInternal_d00df_22 : decode cJ5_ensureCapacityInternal_d00df 22 = .ok (.aload_n 0, 1) := dget dkJ5_ensureCapacityInternal_d00df_0 14 rfl
theorem dJ5_ensureCapacityInternal_d00df_23 : decode cJ5_ensureCapacityInternal_d00df 23 = .ok (.iload_n 1, 1) := dget dkJ5_ensureCapacityInternal_d00df_0 15 rfl
theorem dJ5_ensureCapacityInternal_d00df_24 : decode cJ5_ensureCapacityInternal_d00df 24 = .ok (.invokevirtual 104, 3) := dget dkJ5_ensureCapacityInternal_d00df_0 16 rfl
theorem dJ5_ensureCapacityInternal_d00df_27 : decode cJ5_ensureCapacityInternal_d00df 27 = .ok (.aload_n 0, 1) := dget dkJ5_ensureCapacityInternal_d00df_0 17 rfl
theorem dJ5_ensureCapacityInternal_d00df_28 : decode cJ5_ensureCapacityInternal_d00df 28 = .ok (.getfield 22, 3) := dget dkJ5_ensureCapacityInternal_d00df_0 18 rfl
theorem dJ5_ensureCapacityInternal_d00df_31 : decode cJ5_ensureCapacityInternal_d00df 31 = .ok (.ishl, 1) := dget dkJ5_ensureCapacityInternal_d00df_0 19 rfl
theorem dJ5_ensureCapacityInternal_d00df_32 : decode cJ5_ensureCapacityInternal_d00df 32 = .ok (.invokestatic 108, 3) := dget dkJ5_ensureCapacityInternal_d00df_0 20 rfl
theorem dJ5_ensureCapacityInternal_d00df_35 : decode cJ5_ensureCapacityInternal_d00df 35 = .ok (.putfield 15, 3) := dget dkJ5_ensureCapacityInternal_d00df_0 21 rfl
theorem dJ5_ensureCapacityInternal_d00df_38 : decode cJ5_ensureCapacityInternal_d00df 38 = .ok (.return_, 1) := dget dkJ5_ensureCapacityInternal_d00df_0 22 rfl
theorem ggJ5_newCapacity_0f7a4_J8_newLength_cabcc : GoodIn wsJ5_newCapacity_0f7a4 wsJ8_newLength_cabcc := tgCall 228 e_J8_newLength_cabcc (by decide +kernel)
theorem gJ5_newCapacity_0f7a4_J8_newLength_cabcc : GoodIn wsJ5_newCapacity_0f7a4 (va_wsS RJ5 114 yJ8_newLength_cabcc wsJ8_newLength_cabcc) := goodIn_app (tgIn [225, 226, 227] (by decide +kernel) rfl) ggJ5_newCapacity_0f7a4_J8_newLength_cabcc
theorem dkJ5_newCapacity_0f7a4_0 : ([(0, (.aload_n 0, 1)), (1, (.getfield 15, 3)), (4, (.arraylength, 1)), (5, (.istore_n 2, 1)), (6, (.iload_n 1, 1)), (7, (.aload_n 0, 1)), (8, (.getfield 22, 3)), (11, (.ishl, 1)), (12, (.istore_n 3, 1)), (13, (.iload_n 3, 1)), (14, (.iload_n 2, 1)), (15, (.isub, 1)), (16, (.istore 4, 2)), (18, (.iload_n 2, 1)), (19, (.iload 4, 2)), (21, (.iload_n 2, 1)), (22, (.iconst 2, 1)), (23, (.aload_n 0, 1)), (24, (.getfield 22, 3)), (27, (.ishl, 1)), (28, (.iadd, 1)), (29, (.invokestatic 114, 3)), (32, (.istore 5, 2)), (34, (.iload 5, 2)), (36, (.ldc 39, 2)), (38, (.if_icmp .ne 13, 3)), (41, (.new 120, 3)), (44, (.dup, 1)), (45, (.ldc 122, 2)), (47, (.invokespecial 124, 3)), (50, (.athrow, 1)), (51, (.iload 5, 2)), (53, (.aload_n 0, 1)), (54, (.getfield 22, 3)), (57, (.ishr, 1)), (58, (.ireturn, 1))] : List (Nat × (Jvm.ClassFile.Instr × Nat))).all (dcB cJ5_newCapacity_0f7a4) = true := by decide +kernel
theorem dJ5_newCapacity_0f7a4_0 : decode cJ5_newCapacity_0f7a4 0 = .ok (.aload_n 0, 1) := dget dkJ5_newCapacity_0f7a4_0 0 rfl
theorem dJ5_newCapacity_0f7a4_1 : decode cJ5_newCapacity_0f7a4 1 = .ok (.getfield 15, 3) := dget dkJ5_newCapacity_0f7a4_0 1 rfl
theorem dJ5_newCapacity_0f7a4_4 : decode cJ5_newCapacity_0f7a4 4 = .ok (.arraylength, 1) := dget dkJ5_newCapacity_0f7a4_0 2 rfl
theorem dJ5_newCapacity_0f7a4_5 : decode cJ5_newCapacity_0f7a4 5 = .ok (.istore_n 2, 1) := dget dkJ5_newCapacity_0f7a4_0 3 rfl
theorem dJ5_newCapacity_0f7a4_6 : decode cJ5_newCapacity_0f7a4 6 = .ok (.iload_n 1, 1) := dget dkJ5_newCapacity_0f7a4_0 4 rfl
theorem dJ5_newCapacity_0f7a4_7 : decode cJ5_newCapacity_0f7a4 7 = .ok (.aload_n 0, 1) := dget dkJ5_newCapacity_0f7a4_0 5 rfl
theorem dJ5_newCapacity_0f7a4_8 : decode cJ5_newCapacity_0f7a4 8 = .ok (.getfield 22, 3) := dget dkJ5_newCapacity_0f7a4_0 6 rfl
theorem dJ5_newCapacity_0f7a4_11 : decode cJ5_newCapacity_0f7a4 11 = .ok (.ishl, 1) := dget dkJ5_newCapacity_0f7a4_0 7 rfl
theorem dJ5_newCapacity_0f7a4_12 : decode cJ5_newCapacity_0f7a4 12 = .ok (.istore_n 3, 1) := dget dkJ5_newCapacity_0f7a4_0 8 rfl
theorem dJ5_newCapacity_0f7a4_13 : decode cJ5_newCapacity_0f7a4 13 = .ok (.iload_n 3, 1) := dget dkJ5_newCapacity_0f7a4_0 9 rfl
theorem dJ5_newCapacity_0f7a4_14 : decode cJ5_newCapacity_0f7a4 14 = .ok (.iload_n 2, 1) := dget dkJ5_newCapacity_0f7a4_0 10 rfl
theorem dJ5_newCapacity_0f7a4_15 : decode cJ5_newCapacity_0f7a4 15 = .ok (.isub, 1) := dget dkJ5_newCapacity_0f7a4_0 11 rfl
theorem dJ5_newCapacity_0f7a4_16 : decode cJ5_newCapacity_0f7a4 16 = .ok (.istore 4, 2) := dget dkJ5_newCapacity_0f7a4_0 12 rfl
theorem dJ5_newCapacity_0f7a4_18 : decode cJ5_newCapacity_0f7a4 18 = .ok (.iload_n 2, 1) := dget dkJ5_newCapacity_0f7a4_0 13 rfl
theorem dJ5_newCapacity_0f7a4_19 : decode cJ5_newCapacity_0f7a4 19 = .ok (.iload 4, 2) := dget dkJ5_newCapacity_0f7a4_0 14 rfl
theorem dJ5_newCapacity_0f7a4_21 : decode cJ5_newCapacity_0f7a4 21 = .ok (.iload_n 2, 1) := dget dkJ5_newCapacity_0f7a4_0 15 rfl
theorem dJ5_newCapacity_0f7a4_22 : decode cJ5_newCapacity_0f7a4 22 = .ok (.iconst 2, 1) := dget dkJ5_newCapacity_0f7a4_0 16 rfl
theorem dJ5_newCapacity_0f7a4_23 : decode cJ5_newCapacity_0f7a4 23 = .ok (.aload_n 0, 1) := dget dkJ5_newCapacity_0f7a4_0 17 rfl
theorem dJ5_newCapacity_0f7a4_24 : decode cJ5_newCapacity_0f7a4 24 = .ok (.getfield 22, 3) := dget dkJ5_newCapacity_0f7a4_0 18 rfl
theorem dJ5_newCapacity_0f7a4_27 : decode cJ5_newCapacity_0f7a4 27 = .ok (.ishl, 1) := dget dkJ5_newCapacity_0f7a4_0 19 rfl
theorem dJ5_newCapacity_0f7a4_28 : decode cJ5_newCapacity_0f7a4 28 = .ok (.iadd, 1) := dget dkJ5_newCapacity_0f7a4_0 20 rfl
theorem dJ5_newCapacity_0f7a4_29 : decode cJ5_newCapacity_0f7a4 29 = .ok (.invokestatic 114, 3) := dget dkJ5_newCapacity_0f7a4_0 21 rfl
theorem dJ5_newCapacity_0f7a4_32 : decode cJ5_newCapacity_0f7a4 32 = .ok (.istore 5, 2) := dget dkJ5_newCapacity_0f7a4_0 22 rfl
theorem dJ5_newCapacity_0f7a4_34 : decode cJ5_newCapacity_0f7a4 34 = .ok (.iload 5, 2) := dget dkJ5_newCapacity_0f7a4_0 23 rfl
theorem dJ5_newCapacity_0f7a4_36 : decode cJ5_newCapacity_0f7a4 36 = .ok (.ldc 39, 2) := dget dkJ5_newCapacity_0f7a4_0 24 rfl
theorem dJ5_newCapacity_0f7a4_38 : decode cJ5_newCapacity_0f7a4 38 = .ok (.if_icmp .ne 13, 3) := dget dkJ5_newCapacity_0f7a4_0 25 rfl
theorem dJ5_newCapacity_0f7a4_51 : decode cJ5_newCapacity_0f7a4 51 = .ok (.iload 5, 2) := dget dkJ5_newCapacity_0f7a4_0 31 rfl
theorem dJ5_newCapacity_0f7a4_53 : decode cJ5_newCapacity_0f7a4 53 = .ok (.aload_n 0, 1) := dget dkJ5_newCapacity_0f7a4_0 32 rfl
theorem dJ5_newCapacity_0f7a4_54 : decode cJ5_newCapacity_0f7a4 54 = .ok (.getfield 22, 3) := dget dkJ5_newCapacity_0f7a4_0 33 rfl
theorem dJ5_newCapacity_0f7a4_57 : decode cJ5_newCapacity_0f7a4 57 = .ok (.ishr, 1) := dget dkJ5_newCapacity_0f7a4_0 34 rfl
theorem dJ5_newCapacity_0f7a4_58 : decode cJ5_newCapacity_0f7a4 58 = .ok (.ireturn, 1) := dget dkJ5_newCapacity_0f7a4_0 35 rfl
theorem ggJ5_append_cf1ce_J0_length_8abf5 : GoodIn wsJ5_append_cf1ce wsJ0_length_8abf5 := tgCall 765 e_J0_length_8abf5 (by decide +kernel)
theorem gJ5_append_cf1ce_J0_length_8abf5 : GoodIn wsJ5_append_cf1ce (wsV RJ5 32 RJ0 yJ0_length_8abf5 wsJ0_length_8abf5) := goodIn_app (tgIn [762, 763, 764, 264] (by decide +kernel) rfl) ggJ5_append_cf1ce_J0_length_8abf5
theorem ggJ5_append_cf1ce_J5_ensureCapacityInternal_d00df : GoodIn wsJ5_append_cf1ce wsJ5_ensureCapacityInternal_d00df := tgCall 299 e_J5_ensureCapacityInternal_d00df (by decide +kernel)
theorem gJ5_append_cf1ce_J5_ensureCapacityInternal_d00df_u100J4 : GoodIn wsJ5_append_cf1ce (va_wsU RJ5 100 RJ4 "java/lang/AbstractStringBuilder" ⟨"java/lang/AbstractStringBuilder", "ensureCapacityInternal", "(I)V"⟩ yJ5_ensureCapacityInternal_d00df wsJ5_ensureCapacityInternal_d00df) := goodIn_app (tgIn [295, 296, 297, 298, 222] (by decide +kernel) rfl) ggJ5_append_cf1ce_J5_ensureCapacityInternal_d00df
theorem ggJ5_append_cf1ce_J5_putStringAt_47b60 : GoodIn wsJ5_append_cf1ce wsJ5_putStringAt_47b60 := tgCall 770 e_J5_putStringAt_47b60 (by decide +kernel)
theorem gJ5_append_cf1ce_J5_putStringAt_47b60_u208J4 : GoodIn wsJ5_append_cf1ce (va_wsU RJ5 208 RJ4 "java/lang/AbstractStringBuilder" ⟨"java/lang/AbstractStringBuilder", "putStringAt", "(ILjava/lang/String;)V"⟩ yJ5_putStringAt_47b60 wsJ5_putStringAt_47b60) := goodIn_app (tgIn [766, 767, 768, 769, 222] (by decide +kernel) rfl) ggJ5_append_cf1ce_J5_putStringAt_47b60
theorem dkJ5_append_cf1ce_0 : ([(0, (.aload_n 1, 1)), (1, (.ifnonnull 8, 3)), (4, (.aload_n 0, 1)), (5, (.invokevirtual 204, 3)), (8, (.areturn, 1)), (9, (.aload_n 1, 1)), (10, (.invokevirtual 32, 3)), (13, (.istore_n 2, 1)), (14, (.aload_n 0, 1)), (15, (.aload_n 0, 1)), (16, (.getfield 79, 3)), (19, (.iload_n 2, 1)), (20, (.iadd, 1)), (21, (.invokevirtual 100, 3)), (24, (.aload_n 0, 1)), (25, (.aload_n 0, 1)), (26, (.getfield 79, 3)), (29, (.aload_n 1, 1)), (30, (.invokevirtual 208, 3)), (33, (.aload_n 0, 1)), (34, (.dup, 1)), (35, (.getfield 79, 3)), (38, (.iload_n 2, 1)), (39, (.iadd, 1)), (40, (.putfield 79, 3)), (43, (.aload_n 0, 1)), (44, (.areturn, 1))] : List (Nat × (Jvm.ClassFile.Instr × Nat))).all (dcB cJ5_append_cf1ce) = true := by decide +kernel
theorem dJ5_append_cf1ce_0 : decode cJ5_append_cf1ce 0 = .ok (.aload_n 1, 1) := dget dkJ5_append_cf1ce_0 0 rfl
theorem dJ5_append_cf1ce_1 : decode cJ5_append_cf1ce 1 = .ok (.ifnonnull 8, 3) := dget dkJ5_append_cf1ce_0 1 rfl
theorem dJ5_append_cf1ce_9 : decode cJ5_append_cf1ce 9 = .ok (.aload_n 1, 1) := dget dkJ5_append_cf1ce_0 5 rfl
theorem dJ5_append_cf1ce_10 : decode cJ5_append_cf1ce 10 = .ok (.invokevirtual 32, 3) := dget dkJ5_append_cf1ce_0 6 rfl
theorem dJ5_append_cf1ce_13 : decode cJ5_append_cf1ce 13 = .ok (.istore_n 2, 1) := dget dkJ5_append_cf1ce_0 7 rfl
theorem dJ5_append_cf1ce_14 : decode cJ5_append_cf1ce 14 = .ok (.aload_n 0, 1) := dget dkJ5_append_cf1ce_0 8 rfl
theorem dJ5_append_cf1ce_15 : decode cJ5_append_cf1ce 15 = .ok (.aload_n 0, 1) := dget dkJ5_append_cf1ce_0 9 rfl
theorem dJ5_append_cf1ce_16 : decode cJ5_append_cf1ce 16 = .ok (.getfield 79, 3) := dget dkJ5_append_cf1ce_0 10 rfl
theorem dJ5_append_cf1ce_19 : decode cJ5_append_cf1ce 19 = .ok (.iload_n 2, 1) := dget dkJ5_append_cf1ce_0 11 rfl
theorem dJ5_append_cf1ce_20 : decode cJ5_append_cf1ce 20 = .ok (.iadd, 1) := dget dkJ5_append_cf1ce_0 12 rfl
theorem dJ5_append_cf1ce_21 : decode cJ5_append_cf1ce 21 = .ok (.invokevirtual 100, 3) := dget dkJ5_append_cf1ce_0 13 rfl
theorem dJ5_append_cf1ce_24 : decode cJ5_append_cf1ce 24 = .ok (.aload_n 0, 1) := dget dkJ5_append_cf1ce_0 14 rfl
theorem dJ5_append_cf1ce_25 : decode cJ5_append_cf1ce 25 = .ok (.aload_n 0, 1) := dget dkJ5_append_cf1ce_0 15 rfl
theorem dJ5_append_cf1ce_26 : decode cJ5_append_cf1ce 26 = .ok (.getfield 79, 3) := dget dkJ5_append_cf1ce_0 16 rfl
theorem dJ5_append_cf1ce_29 : decode cJ5_append_cf1ce 29 = .ok (.aload_n 1, 1) := dget dkJ5_append_cf1ce_0 17 rfl
theorem dJ5_append_cf1ce_30 : decode cJ5_append_cf1ce 30 = .ok (.invokevirtual 208, 3) := dget dkJ5_append_cf1ce_0 18 rfl
theorem dJ5_append_cf1ce_33 : decode cJ5_append_cf1ce 33 = .ok (.aload_n 0, 1) := dget dkJ5_append_cf1ce_0 19 rfl
theorem dJ5_append_cf1ce_34 : decode cJ5_append_cf1ce 34 = .ok (.dup, 1) := dget dkJ5_append_cf1ce_0 20 rfl
theorem dJ5_append_cf1ce_35 : decode cJ5_append_cf1ce 35 = .ok (.getfield 79, 3) := dget dkJ5_append_cf1ce_0 21 rfl
theorem dJ5_append_cf1ce_38 : decode cJ5_append_cf1ce 38 = .ok (.iload_n 2, 1) := dget dkJ5_append_cf1ce_0 22 rfl
theorem dJ5_append_cf1ce_39 : decode cJ5_append_cf1ce 39 = .ok (.iadd, 1) := dget dkJ5_append_cf1ce_0 23 rfl
theorem dJ5_append_cf1ce_40 : decode cJ5_append_cf1ce 40 = .ok (.putfield 79, 3) := dget dkJ5_append_cf1ce_0 24 rfl
theorem dJ5_append_cf1ce_43 : decode cJ5_append_cf1ce 43 = .ok (.aload_n 0, 1) := dget dkJ5_append_cf1ce_0 25 rfl
theorem dJ5_append_cf1ce_44 : decode cJ5_append_cf1ce 44 = .ok (.areturn, 1) := dget dkJ5_append_cf1ce_0 26 rfl
theorem ggJ5_append_3fe6f_J5_ensureCapacityInternal_d00df : GoodIn wsJ5_append_3fe6f wsJ5_ensureCapacityInternal_d00df := tgCall 299 e_J5_ensureCapacityInternal_d00df (by decide +kernel)
theorem gJ5_append_3fe6f_J5_ensureCapacityInternal_d00df_u100J4 : GoodIn wsJ5_append_3fe6f (va_wsU RJ5 100 RJ4 "java/lang/AbstractStringBuilder" ⟨"java/lang/AbstractStringBuilder", "ensureCapacityInternal", "(I)V"⟩ yJ5_ensureCapacityInternal_d00df wsJ5_ensureCapacityInternal_d00df) := goodIn_app (tgIn [295, 296, 297, 298, 222] (by decide +kernel) rfl) ggJ5_append_3fe6f_J5_ensureCapacityInternal_d00df
theorem ggJ5_append_3fe6f_J5_isLatin1_aae02 : GoodIn wsJ5_append_3fe6f wsJ5_isLatin1_aae02 := tgCall 282 e_J5_isLatin1_aae02 (by decide +kernel)
theorem gJ5_append_3fe6f_J5_isLatin1_aae02_u83J4 : GoodIn wsJ5_append_3fe6f (va_wsU RJ5 83 RJ4 "java/lang/AbstractStringBuilder" ⟨"java/lang/AbstractStringBuilder", "isLatin1", "()Z"⟩ yJ5_isLatin1_aae02 wsJ5_isLatin1_aae02) := goodIn_app (tgIn [278, 279, 280, 281, 222] (by decide +kernel) rfl) ggJ5_append_3fe6f_J5_isLatin1_aae02
theorem ggJ5_append_3fe6f_J1_canEncode_fc78d : GoodIn wsJ5_append_3fe6f wsJ1_canEncode_fc78d := tgCall 302 e_J1_canEncode_fc78d (by decide +kernel)
theorem gJ5_append_3fe6f_J1_canEncode_fc78d : GoodIn wsJ5_append_3fe6f (va_wsS RJ5 191 yJ1_canEncode_fc78d wsJ1_canEncode_fc78d) := goodIn_app (tgIn [300, 301, 293] (by decide +kernel) rfl) ggJ5_append_3fe6f_J1_canEncode_fc78d
theorem dkJ5_append_3fe6f_0 : ([(0, (.aload_n 0, 1)), (1, (.aload_n 0, 1)), (2, (.getfield 79, 3)), (5, (.iconst 1, 1)), (6, (.iadd, 1)), (7, (.invokevirtual 100, 3)), (10, (.aload_n 0, 1)), (11, (.invokevirtual 83, 3)), (14, (.ifCond .eq 31, 3)), (17, (.iload_n 1, 1)), (18, (.invokestatic 191, 3)), (21, (.ifCond .eq 24, 3)), (24, (.aload_n 0, 1)), (25, (.getfield 15, 3)), (28, (.aload_n 0, 1)), (29, (.dup, 1)), (30, (.getfield 79, 3)), (33, (.dup_x1, 1)), (34, (.iconst 1, 1)), (35, (.iadd, 1)), (36, (.putfield 79, 3)), (39, (.iload_n 1, 1)), (40, (.i2b, 1)), (41, (.bastore, 1)), (42, (.goto 33, 3)), (45, (.aload_n 0, 1)), (46, (.invokevirtual 83, 3)), (49, (.ifCond .eq 7, 3)), (52, (.aload_n 0, 1)), (53, (.invokevirtual 195, 3)), (56, (.aload_n 0, 1)), (57, (.getfield 15, 3)), (60, (.aload_n 0, 1)), (61, (.dup, 1)), (62, (.getfield 79, 3)), (65, (.dup_x1, 1)), (66, (.iconst 1, 1)), (67, (.iadd, 1)), (68, (.putfield 79, 3)), (71, (.iload_n 1, 1))] : List (Nat × (Jvm.ClassFile.Instr × Nat))).all (dcB cJ5_append_3fe6f) = true := by decide +kernel
theorem dJ5_append_3fe6f_0 : decode cJ5_append_3fe6f 0 = .ok (.aload_n 0, 1) := dget dkJ5_append_3fe6f_0 0 rfl
theorem dJ5_append_3fe6f_1 : decode cJ5_append_3fe6f 1 = .ok (.aload_n 0, 1) := dget dkJ5_append_3fe6f_0 1 rfl
theorem dJ5_append_3fe6f_2 : decode cJ5_append_3fe6f 2 = .ok (.getfield 79, 3) := dget dkJ5_append_3fe6f_0 2 rfl
theorem dJ5_append_3fe6f_5 : decode cJ5_append_3fe6f 5 = .ok (.iconst 1, 1) := dget dkJ5_append_3fe6f_0 3 rfl
theorem dJ5_append_3fe6f_6 : decode cJ5_append_3fe6f 6 = .ok (.iadd, 1) := dget dkJ5_append_3fe6f_0 4 rfl
theorem dJ5_append_3fe6f_7 : decode cJ5_append_3fe6f 7 = .ok (.invokevirtual 100, 3) := dget dkJ5_append_3fe6f_0 5 rfl
theorem dJ5_append_3fe6f_10 : decode cJ5_append_3fe6f 10 = .ok (.aload_n 0, 1) := dget dkJ5_append_3fe6f_0 6 rfl
theorem dJ5_append_3fe6f_11 : decode cJ5_append_3fe6f 11 = .ok (.invokevirtual 83, 3) := dget dkJ5_append_3fe6f_0 7 rfl
theorem dJ5_append_3fe6f_14 : decode cJ5_append_3fe6f 14 = .ok (.ifCond .eq 31, 3) := dget dkJ5_append_3fe6f_0 8 rfl
theorem dJ5_append_3fe6f_17 : decode cJ5_append_3fe6f 17 = .ok (.iload_n 1, 1) := dget dkJ5_append_3fe6f_0 9 rfl
theorem dJ5_append_3fe6f_18 : decode cJ5_append_3fe6f 18 = .ok (.invokestatic 191, 3) := dget dkJ5_append_3fe6f_0 10 rfl
theorem dJ5_append_3fe6f_21 : decode cJ5_append_3fe6f 21 = .ok (.ifCond .eq 24, 3) := dget dkJ5_append_3fe6f_0 11 rfl
theorem dJ5_append_3fe6f_24 : decode cJ5_append_3fe6f 24 = .ok (.aload_n 0, 1) := dget dkJ5_append_3fe6f_0 12 rfl
theorem dJ5_append_3fe6f_25 : decode cJ5_append_3fe6f 25 = .ok (.getfield 15, 3) := dget dkJ5_append_3fe6f_0 13 rfl
theorem dJ5_append_3fe6f_28 : decode cJ5_append_3fe6f 28 = .ok (.aload_n 0, 1) := dget dkJ5_append_3fe6f_0 14 rfl
theorem dJ5_append_3fe6f_29 : decode cJ5_append_3fe6f 29 = .ok (.dup, 1) := dget dkJ5_append_3fe6f_0 15 rfl
theorem dJ5_append_3fe6f_30 : decode cJ5_append_3fe6f 30 = .ok (.getfield 79, 3) := dget dkJ5_append_3fe6f_0 16 rfl
theorem dJ5_append_3fe6f_33 : decode cJ5_append_3fe6f 33 = .ok (.dup_x1, 1) := dget dkJ5_append_3fe6f_0 17 rfl
theorem dJ5_append_3fe6f_34 : decode cJ5_append_3fe6f 34 = .ok (.iconst 1, 1) := dget dkJ5_append_3fe6f_0 18 rfl
theorem dJ5_append_3fe6f_35 : decode cJ5_append_3fe6f 35 = .ok (.iadd, 1) := dget dkJ5_append_3fe6f_0 19 rfl
theorem dJ5_append_3fe6f_36 : decode cJ5_append_3fe6f 36 = .ok (.putfield 79, 3) := dget dkJ5_append_3fe6f_0 20 rfl
theorem dJ5_append_3fe6f_39 : decode cJ5_append_3fe6f 39 = .ok (.iload_n 1, 1) := dget dkJ5_append_3fe6f_0 21 rfl
theorem dJ5_append_3fe6f_40 : decode cJ5_append_3fe6f 40 = .ok (.i2b, 1) := dget dkJ5_append_3fe6f_0 22 rfl
theorem dJ5_append_3fe6f_41 : decode cJ5_append_3fe6f 41 = .ok (.bastore, 1) := dget dkJ5_append_3fe6f_0 23 rfl
theorem dJ5_append_3fe6f_42 : decode cJ5_append_3fe6f 42 = .ok (.goto 33, 3) := dget dkJ5_append_3fe6f_0 24 rfl
theorem dkJ5_append_3fe6f_1 : ([(72, (.invokestatic 197, 3)), (75, (.aload_n 0, 1)), (76, (.areturn, 1))] : List (Nat × (Jvm.ClassFile.Instr × Nat))).all (dcB cJ5_append_3fe6f) = true := by decide +kernel
theorem dJ5_append_3fe6f_75 : decode cJ5_append_3fe6f 75 = .ok (.aload_n 0, 1) := dget dkJ5_append_3fe6f_1 1 rfl
theorem dJ5_append_3fe6f_76 : decode cJ5_append_3fe6f 76 = .ok (.areturn, 1) := dget dkJ5_append_3fe6f_1 2 rfl
theorem ggJ5_append_c97b9_J6_stringSize_0f7a4 : GoodIn wsJ5_append_c97b9 wsJ6_stringSize_0f7a4 := tgCall 354 e_J6_stringSize_0f7a4 (by decide +kernel)
theorem gJ5_append_c97b9_J6_stringSize_0f7a4 : GoodIn wsJ5_append_c97b9 (va_wsS RJ5 245 yJ6_stringSize_0f7a4 wsJ6_stringSize_0f7a4) := goodIn_app (tgIn [352, 353, 45] (by decide +kernel) rfl) ggJ5_append_c97b9_J6_stringSize_0f7a4
theorem ggJ5_append_c97b9_J5_ensureCapacityInternal_d00df : GoodIn wsJ5_append_c97b9 wsJ5_ensureCapacityInternal_d00df := tgCall 299 e_J5_ensureCapacityInternal_d00df (by decide +kernel)
theorem gJ5_append_c97b9_J5_ensureCapacityInternal_d00df_u100J4 : GoodIn wsJ5_append_c97b9 (va_wsU RJ5 100 RJ4 "java/lang/AbstractStringBuilder" ⟨"java/lang/AbstractStringBuilder", "ensureCapacityInternal", "(I)V"⟩ yJ5_ensureCapacityInternal_d00df wsJ5_ensureCapacityInternal_d00df) := goodIn_app (tgIn [295, 296, 297, 298, 222] (by decide +kernel) rfl) ggJ5_append_c97b9_J5_ensureCapacityInternal_d00df
theorem ggJ5_append_c97b9_J5_isLatin1_aae02 : GoodIn wsJ5_append_c97b9 wsJ5_isLatin1_aae02 := tgCall 282 e_J5_isLatin1_aae02 (by decide +kernel)
theorem gJ5_append_c97b9_J5_isLatin1_aae02_u83J4 : GoodIn wsJ5_append_c97b9 (va_wsU RJ5 83 RJ4 "java/lang/AbstractStringBuilder" ⟨"java/lang/AbstractStringBuilder", "isLatin1", "()Z"⟩ yJ5_isLatin1_aae02 wsJ5_isLatin1_aae02) := goodIn_app (tgIn [278, 279, 280, 281, 222] (by decide +kernel) rfl) ggJ5_append_c97b9_J5_isLatin1_aae02
theorem ggJ5_append_c97b9_J6_getChars_ba4f3 : GoodIn wsJ5_append_c97b9 wsJ6_getChars_ba4f3 := tgCall 357 e_J6_getChars_ba4f3 (by decide +kernel)
theorem gJ5_append_c97b9_J6_getChars_ba4f3 : GoodIn wsJ5_append_c97b9 (va_wsS RJ5 248 yJ6_getChars_ba4f3 wsJ6_getChars_ba4f3) := goodIn_app (tgIn [355, 356, 45] (by decide +kernel) rfl) ggJ5_append_c97b9_J6_getChars_ba4f3
theorem dkJ5_append_c97b9_0 : ([(0, (.aload_n 0, 1)), (1, (.getfield 79, 3)), (4, (.istore_n 2, 1)), (5, (.iload_n 2, 1)), (6, (.iload_n 1, 1)), (7, (.invokestatic 245, 3)), (10, (.iadd, 1)), (11, (.istore_n 3, 1)), (12, (.aload_n 0, 1)), (13, (.iload_n 3, 1)), (14, (.invokevirtual 100, 3)), (17, (.aload_n 0, 1)), (18, (.invokevirtual 83, 3)), (21, (.ifCond .eq 16, 3)), (24, (.iload_n 1, 1)), (25, (.iload_n 3, 1)), (26, (.aload_n 0, 1)), (27, (.getfield 15, 3)), (30, (.invokestatic 248, 3)), (33, (.pop, 1)), (34, (.goto 14, 3)), (37, (.iload_n 1, 1)), (38, (.iload_n 2, 1)), (39, (.iload_n 3, 1)), (40, (.aload_n 0, 1)), (41, (.getfield 15, 3)), (44, (.invokestatic 251, 3)), (47, (.pop, 1)), (48, (.aload_n 0, 1)), (49, (.iload_n 3, 1)), (50, (.putfield 79, 3)), (53, (.aload_n 0, 1)), (54, (.areturn, 1))] : List (Nat × (Jvm.ClassFile.Instr × Nat))).all (dcB cJ5_append_c97b9) = true := by decide +kernel
theorem dJ5_append_c97b9_0 : decode cJ5_append_c97b9 0 = .ok (.aload_n 0, 1) := dget dkJ5_append_c97b9_0 0 rfl
theorem dJ5_append_c97b9_1 : decode cJ5_append_c97b9 1 = .ok (.getfield 79, 3) := dget dkJ5_append_c97b9_0 1 rfl
theorem dJ5_append_c97b9_4 : decode cJ5_append_c97b9 4 = .ok (.istore_n 2, 1) := dget dkJ5_append_c97b9_0 2 rfl
theorem dJ5_append_c97b9_5 : decode cJ5_append_c97b9 5 = .ok (.iload_n 2, 1) := dget dkJ5_append_c97b9_0 3 rfl
theorem dJ5_append_c97b9_6 : decode cJ5_append_c97b9 6 = .ok (.iload_n 1, 1) := dget dkJ5_append_c97b9_0 4 rfl
theorem dJ5_append_c97b9_7 : decode cJ5_append_c97b9 7 = .ok (.invokestatic 245, 3) := dget dkJ5_append_c97b9_0 5 rfl
theorem dJ5_append_c97b9_10 : decode cJ5_append_c97b9 10 = .ok (.iadd, 1) := dget dkJ5_append_c97b9_0 6 rfl
theorem dJ5_append_c97b9_11 : decode cJ5_append_c97b9 11 = .ok (.istore_n 3, 1) := dget dkJ5_append_c97b9_0 7 rfl
theorem dJ5_append_c97b9_12 : decode cJ5_append_c97b9 12 = .ok (.aload_n 0, 1) := dget dkJ5_append_c97b9_0 8 rfl
theorem dJ5_append_c97b9_13 : decode cJ5_append_c97b9 13 = .ok (.iload_n 3, 1) := dget dkJ5_append_c97b9_0 9 rfl
theorem dJ5_append_c97b9_14 : decode cJ5_append_c97b9 14 = .ok (.invokevirtual 100, 3) := dget dkJ5_append_c97b9_0 10 rfl
theorem dJ5_append_c97b9_17 : decode cJ5_append_c97b9 17 = .ok (.aload_n 0, 1) := dget dkJ5_append_c97b9_0 11 rfl
theorem dJ5_append_c97b9_18 : decode cJ5_append_c97b9 18 = .ok (.invokevirtual 83, 3) := dget dkJ5_append_c97b9_0 12 rfl
theorem dJ5_append_c97b9_21 : decode cJ5_append_c97b9 21 = .ok (.ifCond .eq 16, 3) := dget dkJ5_append_c97b9_0 13 rfl
theorem dJ5_append_c97b9_24 : decode cJ5_append_c97b9 24 = .ok (.iload_n 1, 1) := dget dkJ5_append_c97b9_0 14 rfl
theorem dJ5_append_c97b9_25 : decode cJ5_append_c97b9 25 = .ok (.iload_n 3, 1) := dget dkJ5_append_c97b9_0 15 rfl
theorem dJ5_append_c97b9_26 : decode cJ5_append_c97b9 26 = .ok (.aload_n 0, 1) := dget dkJ5_append_c97b9_0 16 rfl
theorem dJ5_append_c97b9_27 : decode cJ5_append_c97b9 27 = .ok (.getfield 15, 3) := dget dkJ5_append_c97b9_0 17 rfl
theorem dJ5_append_c97b9_30 : decode cJ5_append_c97b9 30 = .ok (.invokestatic 248, 3) := dget dkJ5_append_c97b9_0 18 rfl
theorem dJ5_append_c97b9_33 : decode cJ5_append_c97b9 33 = .ok (.pop, 1) := dget dkJ5_append_c97b9_0 19 rfl
theorem dJ5_append_c97b9_34 : decode cJ5_append_c97b9 34 = .ok (.goto 14, 3) := dget dkJ5_append_c97b9_0 20 rfl
theorem dJ5_append_c97b9_48 : decode cJ5_append_c97b9 48 = .ok (.aload_n 0, 1) := dget dkJ5_append_c97b9_0 28 rfl
theorem dJ5_append_c97b9_49 : decode cJ5_append_c97b9 49 = .ok (.iload_n 3, 1) := dget dkJ5_append_c97b9_0 29 rfl
theorem dJ5_append_c97b9_50 : decode cJ5_append_c97b9 50 = .ok (.putfield 79, 3) := dget dkJ5_append_c97b9_0 30 rfl
theorem dJ5_append_c97b9_53 : decode cJ5_append_c97b9 53 = .ok (.aload_n 0, 1) := dget dkJ5_append_c97b9_0 31 rfl
theorem dJ5_append_c97b9_54 : decode cJ5_append_c97b9 54 = .ok (.areturn, 1) := dget dkJ5_append_c97b9_0 32 rfl
theorem dkJ5_getValue_6d5f1_0 : ([(0, (.aload_n 0, 1)), (1, (.getfield 15, 3)), (4, (.areturn, 1))] : List (Nat × (Jvm.ClassFile.Instr × Nat))).all (dcB cJ5_getValue_6d5f1) = true := by decide +kernel
theorem dJ5_getValue_6d5f1_0 : decode cJ5_getValue_6d5f1 0 = .ok (.aload_n 0, 1) := dget dkJ5_getValue_6d5f1_0 0 rfl
theorem dJ5_getValue_6d5f1_1 : decode cJ5_getValue_6d5f1 1 = .ok (.getfield 15, 3) := dget dkJ5_getValue_6d5f1_0 1 rfl
theorem dJ5_getValue_6d5f1_4 : decode cJ5_getValue_6d5f1 4 = .ok (.areturn, 1) := dget dkJ5_getValue_6d5f1_0 2 rfl
theorem dkJ5_isLatin1_aae02_0 : ([(0, (.getstatic 18, 3)), (3, (.ifCond .eq 14, 3)), (6, (.aload_n 0, 1)), (7, (.getfield 22, 3)), (10, (.ifCond .ne 7, 3)), (13, (.iconst 1, 1)), (14, (.goto 4, 3)), (17, (.iconst 0, 1)), (18, (.ireturn, 1))] : List (Nat × (Jvm.ClassFile.Instr × Nat))).all (dcB cJ5_isLatin1_aae02) = true := by decide +kernel
theorem dJ5_isLatin1_aae02_0 : decode cJ5_isLatin1_aae02 0 = .ok (.getstatic 18, 3) := dget dkJ5_isLatin1_aae02_0 0 rfl
theorem dJ5_isLatin1_aae02_3 : decode cJ5_isLatin1_aae02 3 = .ok (.ifCond .eq 14, 3) := dget dkJ5_isLatin1_aae02_0 1 rfl
theorem dJ5_isLatin1_aae02_6 : decode cJ5_isLatin1_aae02 6 = .ok (.aload_n 0, 1) := dget dkJ5_isLatin1_aae02_0 2 rfl
theorem dJ5_isLatin1_aae02_7 : decode cJ5_isLatin1_aae02 7 = .ok (.getfield 22, 3) := dget dkJ5_isLatin1_aae02_0 3 rfl
theorem dJ5_isLatin1_aae02_10 : decode cJ5_isLatin1_aae02 10 = .ok (.ifCond .ne 7, 3) := dget dkJ5_isLatin1_aae02_0 4 rfl
theorem dJ5_isLatin1_aae02_13 : decode cJ5_isLatin1_aae02 13 = .ok (.iconst 1, 1) := dget dkJ5_isLatin1_aae02_0 5 rfl
theorem dJ5_isLatin1_aae02_14 : decode cJ5_isLatin1_aae02 14 = .ok (.goto 4, 3) := dget dkJ5_isLatin1_aae02_0 6 rfl
theorem dJ5_isLatin1_aae02_18 : decode cJ5_isLatin1_aae02 18 = .ok (.ireturn, 1) := dget dkJ5_isLatin1_aae02_0 8 rfl
theorem ggJ5_inflateIfNeededFor_a7421_J0_coder_7d493 : GoodIn wsJ5_inflateIfNeededFor_a7421 wsJ0_coder_7d493 := tgCall 744 e_J0_coder_7d493 (by decide +kernel)
theorem gJ5_inflateIfNeededFor_a7421_J0_coder_7d493 : GoodIn wsJ5_inflateIfNeededFor_a7421 (wsV RJ5 40 RJ0 yJ0_coder_7d493 wsJ0_coder_7d493) := goodIn_app (tgIn [741, 742, 743, 264] (by decide +kernel) rfl) ggJ5_inflateIfNeededFor_a7421_J0_coder_7d493
theorem dkJ5_inflateIfNeededFor_a7421_0 : ([(0, (.getstatic 18, 3)), (3, (.ifCond .eq 18, 3)), (6, (.aload_n 0, 1)), (7, (.getfield 22, 3)), (10, (.aload_n 1, 1)), (11, (.invokevirtual 40, 3)), (14, (.if_icmp .eq 7, 3)), (17, (.aload_n 0, 1)), (18, (.invokevirtual 195, 3)), (21, (.return_, 1))] : List (Nat × (Jvm.ClassFile.Instr × Nat))).all (dcB cJ5_inflateIfNeededFor_a7421) = true := by decide +kernel
theorem dJ5_inflateIfNeededFor_a7421_0 : decode cJ5_inflateIfNeededFor_a7421 0 = .ok (.getstatic 18, 3) := dget dkJ5_inflateIfNeededFor_a7421_0 0 rfl
theorem dJ5_inflateIfNeededFor_a7421_3 : decode cJ5_inflateIfNeededFor_a7421 3 = .ok (.ifCond .eq 18, 3) := dget dkJ5_inflateIfNeededFor_a7421_0 1 rfl
theorem dJ5_inflateIfNeededFor_a7421_6 : decode cJ5_inflateIfNeededFor_a7421 6 = .ok (.aload_n 0, 1) := dget dkJ5_inflateIfNeededFor_a7421_0 2 rfl
theorem dJ5_inflateIfNeededFor_a7421_7 : decode cJ5_inflateIfNeededFor_a7421 7 = .ok (.getfield 22, 3) := dget dkJ5_inflateIfNeededFor_a7421_0 3 rfl
theorem dJ5_inflateIfNeededFor_a7421_10 : decode cJ5_inflateIfNeededFor_a7421 10 = .ok (.aload_n 1, 1) := dget dkJ5_inflateIfNeededFor_a7421_0 4 rfl
theorem dJ5_inflateIfNeededFor_a7421_11 : decode cJ5_inflateIfNeededFor_a7421 11 = .ok (.invokevirtual 40, 3) := dget dkJ5_inflateIfNeededFor_a7421_0 5 rfl
theorem dJ5_inflateIfNeededFor_a7421_14 : decode cJ5_inflateIfNeededFor_a7421 14 = .ok (.if_icmp .eq 7, 3) := dget dkJ5_inflateIfNeededFor_a7421_0 6 rfl
theorem dJ5_inflateIfNeededFor_a7421_21 : decode cJ5_inflateIfNeededFor_a7421 21 = .ok (.return_, 1) := dget dkJ5_inflateIfNeededFor_a7421_0 9 rfl
theorem ggJ5_putStringAt_47b60_J5_inflateIfNeededFor_a7421 : GoodIn wsJ5_putStringAt_47b60 wsJ5_inflateIfNeededFor_a7421 := tgCall 752 e_J5_inflateIfNeededFor_a7421 (by decide +kernel)
theorem gJ5_putStringAt_47b60_J5_inflateIfNeededFor_a7421_u397J4 : GoodIn wsJ5_putStringAt_47b60 (va_wsU RJ5 397 RJ4 "java/lang/AbstractStringBuilder" ⟨"java/lang/AbstractStringBuilder", "inflateIfNeededFor", "(Ljava/lang/String;)V"⟩ yJ5_inflateIfNeededFor_a7421 wsJ5_inflateIfNeededFor_a7421) := goodIn_app (tgIn [748, 749, 750, 751, 222] (by decide +kernel) rfl) ggJ5_putStringAt_47b60_J5_inflateIfNeededFor_a7421
theorem ggJ5_putStringAt_47b60_J0_getBytes_840e7 : GoodIn wsJ5_putStringAt_47b60 wsJ0_getBytes_840e7 := tgCall 756 e_J0_getBytes_840e7 (by decide +kernel)
theorem gJ5_putStringAt_47b60_J0_getBytes_840e7 : GoodIn wsJ5_putStringAt_47b60 (wsV RJ5 399 RJ0 yJ0_getBytes_840e7 wsJ0_getBytes_840e7) := goodIn_app (tgIn [753, 754, 755, 264] (by decide +kernel) rfl) ggJ5_putStringAt_47b60_J0_getBytes_840e7
theorem dkJ5_putStringAt_47b60_0 : ([(0, (.aload_n 0, 1)), (1, (.aload_n 2, 1)), (2, (.invokevirtual 397, 3)), (5, (.aload_n 2, 1)), (6, (.aload_n 0, 1)), (7, (.getfield 15, 3)), (10, (.iload_n 1, 1)), (11, (.aload_n 0, 1)), (12, (.getfield 22, 3)), (15, (.invokevirtual 399, 3)), (18, (.return_, 1))] : List (Nat × (Jvm.ClassFile.Instr × Nat))).all (dcB cJ5_putStringAt_47b60) = true := by decide +kernel
theorem dJ5_putStringAt_47b60_0 : decode cJ5_putStringAt_47b60 0 = .ok (.aload_n 0, 1) := dget dkJ5_putStringAt_47b60_0 0 rfl
theorem dJ5_putStringAt_47b60_1 : decode cJ5_putStringAt_47b60 1 = .ok (.aload_n 2, 1) := dget dkJ5_putStringAt_47b60_0 1 rfl
theorem dJ5_putStringAt_47b60_2 : decode cJ5_putStringAt_47b60 2 = .ok (.invokevirtual 397, 3) := dget dkJ5_putStringAt_47b60_0 2 rfl
theorem dJ5_putStringAt_47b60_5 : decode cJ5_putStringAt_47b60 5 = .ok (.aload_n 2, 1) := dget dkJ5_putStringAt_47b60_0 3 rfl
theorem dJ5_putStringAt_47b60_6 : decode cJ5_putStringAt_47b60 6 = .ok (.aload_n 0, 1) := dget dkJ5_putStringAt_47b60_0 4 rfl
theorem dJ5_putStringAt_47b60_7 : decode cJ5_putStringAt_47b60 7 = .ok (.getfield 15, 3) := dget dkJ5_putStringAt_47b60_0 5 rfl
theorem dJ5_putStringAt_47b60_10 : decode cJ5_putStringAt_47b60 10 = .ok (.iload_n 1, 1) := dget dkJ5_putStringAt_47b60_0 6 rfl
theorem dJ5_putStringAt_47b60_11 : decode cJ5_putStringAt_47b60 11 = .ok (.aload_n 0, 1) := dget dkJ5_putStringAt_47b60_0 7 rfl
theorem dJ5_putStringAt_47b60_12 : decode cJ5_putStringAt_47b60 12 = .ok (.getfield 22, 3) := dget dkJ5_putStringAt_47b60_0 8 rfl
theorem dJ5_putStringAt_47b60_15 : decode cJ5_putStringAt_47b60 15 = .ok (.invokevirtual 399, 3) := dget dkJ5_putStringAt_47b60_0 9 rfl
theorem dJ5_putStringAt_47b60_18 : decode cJ5_putStringAt_47b60 18 = .ok (.return_, 1) := dget dkJ5_putStringAt_47b60_0 10 rfl
def dvJ6_getChars_ba4f3_0 : List UInt8 := [27, 54, 5, 26, 156, 0, 7, 4, 167, 0, 4, 3, 54, 6, 21, 6, 154, 0, 6, 26, 116, 59, 26, 16, 156, 163, 0, 47, 26, 16, 100, 108, 62, 29, 16, 100, 104, 26, 100, 54, 4, 29, 59, 44, 132, 5, 255, 21, 5, 178, 0, 83]
theorem dwJ6_getChars_ba4f3_0 : (cJ6_getChars_ba4f3.data.toList.drop 0).take dvJ6_getChars_ba4f3_0.length = dvJ6_getChars_ba4f3_0 := by decide +kernel
theorem dkJ6_getChars_ba4f3_0 : ([(0, (.iload_n 1, 1)), (1, (.istore 5, 2)), (3, (.iload_n 0, 1)), (4, (.ifCond .ge 7, 3)), (7, (.iconst 1, 1)), (8, (.goto 4, 3)), (11, (.iconst 0, 1)), (12, (.istore 6, 2)), (14, (.iload 6, 2)), (16, (.ifCond .ne 6, 3)), (19, (.iload_n 0, 1)), (20, (.ineg, 1)), (21, (.istore_n 0, 1)), (22, (.iload_n 0, 1)), (23, (.bipush (-100), 2)), (25, (.if_icmp .gt 47, 3)), (28, (.iload_n 0, 1)), (29, (.bipush 100, 2)), (31, (.idiv, 1)), (32, (.istore_n 3, 1)), (33, (.iload_n 3, 1)), (34, (.bipush 100, 2)), (36, (.imul, 1)), (37, (.iload_n 0, 1)), (38, (.isub, 1)), (39, (.istore 4, 2)), (41, (.iload_n 3, 1)), (42, (.istore_n 0, 1)), (43, (.aload_n 2, 1)), (44, (.iinc 5 (-1), 3)), (47, (.iload 5, 2)), (49, (.getstatic 83, 3))] : List (Nat × (Jvm.ClassFile.Instr × Nat))).all (wnL dvJ6_getChars_ba4f3_0 0) = true := by decide +kernel
theorem dJ6_getChars_ba4f3_0 : decode cJ6_getChars_ba4f3 0 = .ok (.iload_n 1, 1) := wnGet dwJ6_getChars_ba4f3_0 dkJ6_getChars_ba4f3_0 0 rfl
theorem dJ6_getChars_ba4f3_1 : decode cJ6_getChars_ba4f3 1 = .ok (.istore 5, 2) := wnGet dwJ6_getChars_ba4f3_0 dkJ6_getChars_ba4f3_0 1 rfl
theorem dJ6_getChars_ba4f3_3 : decode cJ6_getChars_ba4f3 3 = .ok (.iload_n 0, 1) := wnGet dwJ6_getChars_ba4f3_0 dkJ6_getChars_ba4f3_0 2 rfl
theorem dJ6_getChars_ba4f3_4 : decode cJ6_getChars_ba4f3 4 = .ok (.ifCond .ge 7, 3) := wnGet dwJ6_getChars_ba4f3_0 dkJ6_getChars_ba4f3_0 3 rfl
theorem dJ6_getChars_ba4f3_11 : decode cJ6_getChars_ba4f3 11 = .ok (.iconst 0, 1) := wnGet dwJ6_getChars_ba4f3_0 dkJ6_getChars_ba4f3_0 6 rfl
theorem dJ6_getChars_ba4f3_12 : decode cJ6_getChars_ba4f3 12 = .ok (.istore 6, 2) := wnGet dwJ6_getChars_ba4f3_0 dkJ6_getChars_ba4f3_0 7 rfl
theorem dJ6_getChars_ba4f3_14 : decode cJ6_getChars_ba4f3 14 = .ok (.iload 6, 2) := wnGet dwJ6_getChars_ba4f3_0 dkJ6_getChars_ba4f3_0 8 rfl
theorem dJ6_getChars_ba4f3_16 : decode cJ6_getChars_ba4f3 16 = .ok (.ifCond .ne 6, 3) := wnGet dwJ6_getChars_ba4f3_0 dkJ6_getChars_ba4f3_0 9 rfl
theorem dJ6_getChars_ba4f3_19 : decode cJ6_getChars_ba4f3 19 = .ok (.iload_n 0, 1) := wnGet dwJ6_getChars_ba4f3_0 dkJ6_getChars_ba4f3_0 10 rfl
theorem dJ6_getChars_ba4f3_20 : decode cJ6_getChars_ba4f3 20 = .ok (.ineg, 1) := wnGet dwJ6_getChars_ba4f3_0 dkJ6_getChars_ba4f3_0 11 rfl
theorem dJ6_getChars_ba4f3_21 : decode cJ6_getChars_ba4f3 21 = .ok (.istore_n 0, 1) := wnGet dwJ6_getChars_ba4f3_0 dkJ6_getChars_ba4f3_0 12 rfl
theorem dJ6_getChars_ba4f3_22 : decode cJ6_getChars_ba4f3 22 = .ok (.iload_n 0, 1) := wnGet dwJ6_getChars_ba4f3_0 dkJ6_getChars_ba4f3_0 13 rfl
theorem dJ6_getChars_ba4f3_23 : decode cJ6_getChars_ba4f3 23 = .ok (.bipush (-100), 2) := wnGet dwJ6_getChars_ba4f3_0 dkJ6_getChars_ba4f3_0 14 rfl
theorem dJ6_getChars_ba4f3_25 : decode cJ6_getChars_ba4f3 25 = .ok (.if_icmp .gt 47, 3) := wnGet dwJ6_getChars_ba4f3_0 dkJ6_getChars_ba4f3_0 15 rfl
theorem dJ6_getChars_ba4f3_28 : decode cJ6_getChars_ba4f3 28 = .ok (.iload_n 0, 1) := wnGet dwJ6_getChars_ba4f3_0 dkJ6_getChars_ba4f3_0 16 rfl
theorem dJ6_getChars_ba4f3_29 : decode cJ6_getChars_ba4f3 29 = .ok (.bipush 100, 2) := wnGet dwJ6_getChars_ba4f3_0 dkJ6_getChars_ba4f3_0 17 rfl
theorem dJ6_getChars_ba4f3_31 : decode cJ6_getChars_ba4f3 31 = .ok (.idiv, 1) := wnGet dwJ6_getChars_ba4f3_0 dkJ6_getChars_ba4f3_0 18 rfl
theorem dJ6_getChars_ba4f3_32 : decode cJ6_getChars_ba4f3 32 = .ok (.istore_n 3, 1) := wnGet dwJ6_getChars_ba4f3_0 dkJ6_getChars_ba4f3_0 19 rfl
theorem dJ6_getChars_ba4f3_33 : decode cJ6_getChars_ba4f3 33 = .ok (.iload_n 3, 1) := wnGet dwJ6_getChars_ba4f3_0 dkJ6_getChars_ba4f3_0 20 rfl
theorem dJ6_getChars_ba4f3_34 : decode cJ6_getChars_ba4f3 34 = .ok (.bipush 100, 2) := wnGet dwJ6_getChars_ba4f3_0 dkJ6_getChars_ba4f3_0 21 rfl
theorem dJ6_getChars_ba4f3_36 : decode cJ6_getChars_ba4f3 36 = .ok (.imul, 1) := wnGet dwJ6_getChars_ba4f3_0 dkJ6_getChars_ba4f3_0 22 rfl
theorem dJ6_getChars_ba4f3_37 : decode cJ6_getChars_ba4f3 37 = .ok (.iload_n 0, 1) := wnGet dwJ6_getChars_ba4f3_0 dkJ6_getChars_ba4f3_0 23 rfl
theorem dJ6_getChars_ba4f3_38 : decode cJ6_getChars_ba4f3 38 = .ok (.isub, 1) := wnGet dwJ6_getChars_ba4f3_0 dkJ6_getChars_ba4f3_0 24 rfl
theorem dJ6_getChars_ba4f3_39 : decode cJ6_getChars_ba4f3 39 = .ok (.istore 4, 2) := wnGet dwJ6_getChars_ba4f3_0 dkJ6_getChars_ba4f3_0 25 rfl
theorem dJ6_getChars_ba4f3_41 : decode cJ6_getChars_ba4f3 41 = .ok (.iload_n 3, 1) := wnGet dwJ6_getChars_ba4f3_0 dkJ6_getChars_ba4f3_0 26 rfl
theorem dJ6_getChars_ba4f3_42 : decode cJ6_getChars_ba4f3 42 = .ok (.istore_n 0, 1) := wnGet dwJ6_getChars_ba4f3_0 dkJ6_getChars_ba4f3_0 27 rfl
theorem dJ6_getChars_ba4f3_43 : decode cJ6_getChars_ba4f3 43 = .ok (.aload_n 2, 1) := wnGet dwJ6_getChars_ba4f3_0 dkJ6_getChars_ba4f3_0 28 rfl
theorem dJ6_getChars_ba4f3_44 : decode cJ6_getChars_ba4f3 44 = .ok (.iinc 5 (-1), 3) := wnGet dwJ6_getChars_ba4f3_0 dkJ6_getChars_ba4f3_0 29 rfl
theorem dJ6_getChars_ba4f3_47 : decode cJ6_getChars_ba4f3 47 = .ok (.iload 5, 2) := wnGet dwJ6_getChars_ba4f3_0 dkJ6_getChars_ba4f3_0 30 rfl
theorem dJ6_getChars_ba4f3_49 : decode cJ6_getChars_ba4f3 49 = .ok (.getstatic 83, 3) := wnGet dwJ6_getChars_ba4f3_0 dkJ6_getChars_ba4f3_0 31 rfl
def dvJ6_getChars_ba4f3_1 : List UInt8 := [21, 4, 51, 84, 44, 132, 5, 255, 21, 5, 178, 0, 87, 21, 4, 51, 84, 167, 255, 209, 44, 132, 5, 255, 21, 5, 178, 0, 83, 26, 116, 51, 84, 26, 16, 247, 162, 0, 16, 44, 132, 5, 255, 21, 5, 178, 0, 87, 26, 116, 51, 84, 21, 6, 153, 0, 12]
theorem dwJ6_getChars_ba4f3_1 : (cJ6_getChars_ba4f3.data.toList.drop 52).take dvJ6_getChars_ba4f3_1.length = dvJ6_getChars_ba4f3_1 := by decide +kernel
theorem dkJ6_getChars_ba4f3_1 : ([(52, (.iload 4, 2)), (54, (.baload, 1)), (55, (.bastore, 1)), (56, (.aload_n 2, 1)), (57, (.iinc 5 (-1), 3)), (60, (.iload 5, 2)), (62, (.getstatic 87, 3)), (65, (.iload 4, 2)), (67, (.baload, 1)), (68, (.bastore, 1)), (69, (.goto (-47), 3)), (72, (.aload_n 2, 1)), (73, (.iinc 5 (-1), 3)), (76, (.iload 5, 2)), (78, (.getstatic 83, 3)), (81, (.iload_n 0, 1)), (82, (.ineg, 1)), (83, (.baload, 1)), (84, (.bastore, 1)), (85, (.iload_n 0, 1)), (86, (.bipush (-9), 2)), (88, (.if_icmp .ge 16, 3)), (91, (.aload_n 2, 1)), (92, (.iinc 5 (-1), 3)), (95, (.iload 5, 2)), (97, (.getstatic 87, 3)), (100, (.iload_n 0, 1)), (101, (.ineg, 1)), (102, (.baload, 1)), (103, (.bastore, 1)), (104, (.iload 6, 2)), (106, (.ifCond .eq 12, 3))] : List (Nat × (Jvm.ClassFile.Instr × Nat))).all (wnL dvJ6_getChars_ba4f3_1 52) = true := by decide +kernel
theorem dJ6_getChars_ba4f3_52 : decode cJ6_getChars_ba4f3 52 = .ok (.iload 4, 2) := wnGet dwJ6_getChars_ba4f3_1 dkJ6_getChars_ba4f3_1 0 rfl
theorem dJ6_getChars_ba4f3_54 : decode cJ6_getChars_ba4f3 54 = .ok (.baload, 1) := wnGet dwJ6_getChars_ba4f3_1 dkJ6_getChars_ba4f3_1 1 rfl
theorem dJ6_getChars_ba4f3_55 : decode cJ6_getChars_ba4f3 55 = .ok (.bastore, 1) := wnGet dwJ6_getChars_ba4f3_1 dkJ6_getChars_ba4f3_1 2 rfl
theorem dJ6_getChars_ba4f3_56 : decode cJ6_getChars_ba4f3 56 = .ok (.aload_n 2, 1) := wnGet dwJ6_getChars_ba4f3_1 dkJ6_getChars_ba4f3_1 3 rfl
theorem dJ6_getChars_ba4f3_57 : decode cJ6_getChars_ba4f3 57 = .ok (.iinc 5 (-1), 3) := wnGet dwJ6_getChars_ba4f3_1 dkJ6_getChars_ba4f3_1 4 rfl
theorem dJ6_getChars_ba4f3_60 : decode cJ6_getChars_ba4f3 60 = .ok (.iload 5, 2) := wnGet dwJ6_getChars_ba4f3_1 dkJ6_getChars_ba4f3_1 5 rfl
theorem dJ6_getChars_ba4f3_62 : decode cJ6_getChars_ba4f3 62 = .ok (.getstatic 87, 3) := wnGet dwJ6_getChars_ba4f3_1 dkJ6_getChars_ba4f3_1 6 rfl
theorem dJ6_getChars_ba4f3_65 : decode cJ6_getChars_ba4f3 65 = .ok (.iload 4, 2) := wnGet dwJ6_getChars_ba4f3_1 dkJ6_getChars_ba4f3_1 7 rfl
theorem dJ6_getChars_ba4f3_67 : decode cJ6_getChars_ba4f3 67 = .ok (.baload, 1) := wnGet dwJ6_getChars_ba4f3_1 dkJ6_getChars_ba4f3_1 8 rfl
theorem dJ6_getChars_ba4f3_68 : decode cJ6_getChars_ba4f3 68 = .ok (.bastore, 1) := wnGet dwJ6_getChars_ba4f3_1 dkJ6_getChars_ba4f3_1 9 rfl
theorem dJ6_getChars_ba4f3_69 : decode cJ6_getChars_ba4f3 69 = .ok (.goto (-47), 3) := wnGet dwJ6_getChars_ba4f3_1 dkJ6_getChars_ba4f3_1 10 rfl
theorem dJ6_getChars_ba4f3_72 : decode cJ6_getChars_ba4f3 72 = .ok (.aload_n 2, 1) := wnGet dwJ6_getChars_ba4f3_1 dkJ6_getChars_ba4f3_1 11 rfl
theorem dJ6_getChars_ba4f3_73 : decode cJ6_getChars_ba4f3 73 = .ok (.iinc 5 (-1), 3) := wnGet dwJ6_getChars_ba4f3_1 dkJ6_getChars_ba4f3_1 12 rfl
theorem dJ6_getChars_ba4f3_76 : decode cJ6_getChars_ba4f3 76 = .ok (.iload 5, 2) := wnGet dwJ6_getChars_ba4f3_1 dkJ6_getChars_ba4f3_1 13 rfl
theorem dJ6_getChars_ba4f3_78 : decode cJ6_getChars_ba4f3 78 = .ok (.getstatic 83, 3) := wnGet dwJ6_getChars_ba4f3_1 dkJ6_getChars_ba4f3_1 14 rfl
theorem dJ6_getChars_ba4f3_81 : decode cJ6_getChars_ba4f3 81 = .ok (.iload_n 0, 1) := wnGet dwJ6_getChars_ba4f3_1 dkJ6_getChars_ba4f3_1 15 rfl
theorem dJ6_getChars_ba4f3_82 : decode cJ6_getChars_ba4f3 82 = .ok (.ineg, 1) := wnGet dwJ6_getChars_ba4f3_1 dkJ6_getChars_ba4f3_1 16 rfl
theorem dJ6_getChars_ba4f3_83 : decode cJ6_getChars_ba4f3 83 = .ok (.baload, 1) := wnGet dwJ6_getChars_ba4f3_1 dkJ6_getChars_ba4f3_1 17 rfl
theorem dJ6_getChars_ba4f3_84 : decode cJ6_getChars_ba4f3 84 = .ok (.bastore, 1) := wnGet dwJ6_getChars_ba4f3_1 dkJ6_getChars_ba4f3_1 18 rfl
theorem dJ6_getChars_ba4f3_85 : decode cJ6_getChars_ba4f3 85 = .ok (.iload_n 0, 1) := wnGet dwJ6_getChars_ba4f3_1 dkJ6_getChars_ba4f3_1 19 rfl
theorem dJ6_getChars_ba4f3_86 : decode cJ6_getChars_ba4f3 86 = .ok (.bipush (-9), 2) := wnGet dwJ6_getChars_ba4f3_1 dkJ6_getChars_ba4f3_1 20 rfl
theorem dJ6_getChars_ba4f3_88 : decode cJ6_getChars_ba4f3 88 = .ok (.if_icmp .ge 16, 3) := wnGet dwJ6_getChars_ba4f3_1 dkJ6_getChars_ba4f3_1 21 rfl
theorem dJ6_getChars_ba4f3_91 : decode cJ6_getChars_ba4f3 91 = .ok (.aload_n 2, 1) := wnGet dwJ6_getChars_ba4f3_1 dkJ6_getChars_ba4f3_1 22 rfl
theorem dJ6_getChars_ba4f3_92 : decode cJ6_getChars_ba4f3 92 = .ok (.iinc 5 (-1), 3) := wnGet dwJ6_getChars_ba4f3_1 dkJ6_getChars_ba4f3_1 23 rfl
theorem dJ6_getChars_ba4f3_95 : decode cJ6_getChars_ba4f3 95 = .ok (.iload 5, 2) := wnGet dwJ6_getChars_ba4f3_1 dkJ6_getChars_ba4f3_1 24 rfl
theorem dJ6_getChars_ba4f3_97 : decode cJ6_getChars_ba4f3 97 = .ok (.getstatic 87, 3) := wnGet dwJ6_getChars_ba4f3_1 dkJ6_getChars_ba4f3_1 25 rfl
theorem dJ6_getChars_ba4f3_100 : decode cJ6_getChars_ba4f3 100 = .ok (.iload_n 0, 1) := wnGet dwJ6_getChars_ba4f3_1 dkJ6_getChars_ba4f3_1 26 rfl
theorem dJ6_getChars_ba4f3_101 : decode cJ6_getChars_ba4f3 101 = .ok (.ineg, 1) := wnGet dwJ6_getChars_ba4f3_1 dkJ6_getChars_ba4f3_1 27 rfl
theorem dJ6_getChars_ba4f3_102 : decode cJ6_getChars_ba4f3 102 = .ok (.baload, 1) := wnGet dwJ6_getChars_ba4f3_1 dkJ6_getChars_ba4f3_1 28 rfl
theorem dJ6_getChars_ba4f3_103 : decode cJ6_getChars_ba4f3 103 = .ok (.bastore, 1) := wnGet dwJ6_getChars_ba4f3_1 dkJ6_getChars_ba4f3_1 29 rfl
theorem dJ6_getChars_ba4f3_104 : decode cJ6_getChars_ba4f3 104 = .ok (.iload 6, 2) := wnGet dwJ6_getChars_ba4f3_1 dkJ6_getChars_ba4f3_1 30 rfl
theorem dJ6_getChars_ba4f3_106 : decode cJ6_getChars_ba4f3 106 = .ok (.ifCond .eq 12, 3) := wnGet dwJ6_getChars_ba4f3_1 dkJ6_getChars_ba4f3_1 31 rfl
def dvJ6_getChars_ba4f3_2 : List UInt8 := [44, 132, 5, 255, 21, 5, 16, 45, 84, 21, 5, 172]
theorem dwJ6_getChars_ba4f3_2 : (cJ6_getChars_ba4f3.data.toList.drop 109).take dvJ6_getChars_ba4f3_2.length = dvJ6_getChars_ba4f3_2 := by decide +kernel
theorem dkJ6_getChars_ba4f3_2 : ([(109, (.aload_n 2, 1)), (110, (.iinc 5 (-1), 3)), (113, (.iload 5, 2)), (115, (.bipush 45, 2)), (117, (.bastore, 1)), (118, (.iload 5, 2)), (120, (.ireturn, 1))] : List (Nat × (Jvm.ClassFile.Instr × Nat))).all (wnL dvJ6_getChars_ba4f3_2 109) = true := by decide +kernel
theorem dJ6_getChars_ba4f3_118 : decode cJ6_getChars_ba4f3 118 = .ok (.iload 5, 2) := wnGet dwJ6_getChars_ba4f3_2 dkJ6_getChars_ba4f3_2 5 rfl
theorem dJ6_getChars_ba4f3_120 : decode cJ6_getChars_ba4f3 120 = .ok (.ireturn, 1) := wnGet dwJ6_getChars_ba4f3_2 dkJ6_getChars_ba4f3_2 6 rfl
theorem dkJ6_stringSize_0f7a4_0 : ([(0, (.iconst 1, 1)), (1, (.istore_n 1, 1)), (2, (.iload_n 0, 1)), (3, (.ifCond .lt 8, 3)), (6, (.iconst 0, 1)), (7, (.istore_n 1, 1)), (8, (.iload_n 0, 1)), (9, (.ineg, 1)), (10, (.istore_n 0, 1)), (11, (.bipush (-10), 2)), (13, (.istore_n 2, 1)), (14, (.iconst 1, 1)), (15, (.istore_n 3, 1)), (16, (.iload_n 3, 1)), (17, (.bipush 10, 2)), (19, (.if_icmp .ge 23, 3)), (22, (.iload_n 0, 1)), (23, (.iload_n 2, 1)), (24, (.if_icmp .le 7, 3)), (27, (.iload_n 3, 1)), (28, (.iload_n 1, 1)), (29, (.iadd, 1)), (30, (.ireturn, 1)), (31, (.bipush 10, 2)), (33, (.iload_n 2, 1)), (34, (.imul, 1)), (35, (.istore_n 2, 1)), (36, (.iinc 3 1, 3)), (39, (.goto (-23), 3)), (42, (.bipush 10, 2)), (44, (.iload_n 1, 1)), (45, (.iadd, 1)), (46, (.ireturn, 1))] : List (Nat × (Jvm.ClassFile.Instr × Nat))).all (dcB cJ6_stringSize_0f7a4) = true := by decide +kernel
theorem dJ6_stringSize_0f7a4_0 : decode cJ6_stringSize_0f7a4 0 = .ok (.iconst 1, 1) := dget dkJ6_stringSize_0f7a4_0 0 rfl
theorem dJ6_stringSize_0f7a4_1 : decode cJ6_stringSize_0f7a4 1 = .ok (.istore_n 1, 1) := dget dkJ6_stringSize_0f7a4_0 1 rfl
theorem dJ6_stringSize_0f7a4_2 : decode cJ6_stringSize_0f7a4 2 = .ok (.iload_n 0, 1) := dget dkJ6_stringSize_0f7a4_0 2 rfl
theorem dJ6_stringSize_0f7a4_3 : decode cJ6_stringSize_0f7a4 3 = .ok (.ifCond .lt 8, 3) := dget dkJ6_stringSize_0f7a4_0 3 rfl
theorem dJ6_stringSize_0f7a4_6 : decode cJ6_stringSize_0f7a4 6 = .ok (.iconst 0, 1) := dget dkJ6_stringSize_0f7a4_0 4 rfl
theorem dJ6_stringSize_0f7a4_7 : decode cJ6_stringSize_0f7a4 7 = .ok (.istore_n 1, 1) := dget dkJ6_stringSize_0f7a4_0 5 rfl
theorem dJ6_stringSize_0f7a4_8 : decode cJ6_stringSize_0f7a4 8 = .ok (.iload_n 0, 1) := dget dkJ6_stringSize_0f7a4_0 6 rfl
theorem dJ6_stringSize_0f7a4_9 : decode cJ6_stringSize_0f7a4 9 = .ok (.ineg, 1) := dget dkJ6_stringSize_0f7a4_0 7 rfl
theorem dJ6_stringSize_0f7a4_10 : decode cJ6_stringSize_0f7a4 10 = .ok (.istore_n 0, 1) := dget dkJ6_stringSize_0f7a4_0 8 rfl
theorem dJ6_stringSize_0f7a4_11 : decode cJ6_stringSize_0f7a4 11 = .ok (.bipush (-10), 2) := dget dkJ6_stringSize_0f7a4_0 9 rfl
theorem dJ6_stringSize_0f7a4_13 : decode cJ6_stringSize_0f7a4 13 = .ok (.istore_n 2, 1) := dget dkJ6_stringSize_0f7a4_0 10 rfl
theorem dJ6_stringSize_0f7a4_14 : decode cJ6_stringSize_0f7a4 14 = .ok (.iconst 1, 1) := dget dkJ6_stringSize_0f7a4_0 11 rfl
theorem dJ6_stringSize_0f7a4_15 : decode cJ6_stringSize_0f7a4 15 = .ok (.istore_n 3, 1) := dget dkJ6_stringSize_0f7a4_0 12 rfl
theorem dJ6_stringSize_0f7a4_16 : decode cJ6_stringSize_0f7a4 16 = .ok (.iload_n 3, 1) := dget dkJ6_stringSize_0f7a4_0 13 rfl
theorem dJ6_stringSize_0f7a4_17 : decode cJ6_stringSize_0f7a4 17 = .ok (.bipush 10, 2) := dget dkJ6_stringSize_0f7a4_0 14 rfl
theorem dJ6_stringSize_0f7a4_19 : decode cJ6_stringSize_0f7a4 19 = .ok (.if_icmp .ge 23, 3) := dget dkJ6_stringSize_0f7a4_0 15 rfl
theorem dJ6_stringSize_0f7a4_22 : decode cJ6_stringSize_0f7a4 22 = .ok (.iload_n 0, 1) := dget dkJ6_stringSize_0f7a4_0 16 rfl
theorem dJ6_stringSize_0f7a4_23 : decode cJ6_stringSize_0f7a4 23 = .ok (.iload_n 2, 1) := dget dkJ6_stringSize_0f7a4_0 17 rfl
theorem dJ6_stringSize_0f7a4_24 : decode cJ6_stringSize_0f7a4 24 = .ok (.if_icmp .le 7, 3) := dget dkJ6_stringSize_0f7a4_0 18 rfl
theorem dJ6_stringSize_0f7a4_27 : decode cJ6_stringSize_0f7a4 27 = .ok (.iload_n 3, 1) := dget dkJ6_stringSize_0f7a4_0 19 rfl
theorem dJ6_stringSize_0f7a4_28 : decode cJ6_stringSize_0f7a4 28 = .ok (.iload_n 1, 1) := dget dkJ6_stringSize_0f7a4_0 20 rfl
theorem dJ6_stringSize_0f7a4_29 : decode cJ6_stringSize_0f7a4 29 = .ok (.iadd, 1) := dget dkJ6_stringSize_0f7a4_0 21 rfl
theorem dJ6_stringSize_0f7a4_30 : decode cJ6_stringSize_0f7a4 30 = .ok (.ireturn, 1) := dget dkJ6_stringSize_0f7a4_0 22 rfl
theorem dJ6_stringSize_0f7a4_31 : decode cJ6_stringSize_0f7a4 31 = .ok (.bipush 10, 2) := dget dkJ6_stringSize_0f7a4_0 23 rfl
theorem dJ6_stringSize_0f7a4_33 : decode cJ6_stringSize_0f7a4 33 = .ok (.iload_n 2, 1) := dget dkJ6_stringSize_0f7a4_0 24 rfl
theorem dJ6_stringSize_0f7a4_34 : decode cJ6_stringSize_0f7a4 34 = .ok (.imul, 1) := dget dkJ6_stringSize_0f7a4_0 25 rfl
theorem dJ6_stringSize_0f7a4_35 : decode cJ6_stringSize_0f7a4 35 = .ok (.istore_n 2, 1) := dget dkJ6_stringSize_0f7a4_0 26 rfl
theorem dJ6_stringSize_0f7a4_36 : decode cJ6_stringSize_0f7a4 36 = .ok (.iinc 3 1, 3) := dget dkJ6_stringSize_0f7a4_0 27 rfl
theorem dJ6_stringSize_0f7a4_39 : decode cJ6_stringSize_0f7a4 39 = .ok (.goto (-23), 3) := dget dkJ6_stringSize_0f7a4_0 28 rfl
theorem dkJ6_bitCount_0f7a4_0 : ([(0, (.iload_n 0, 1)), (1, (.iload_n 0, 1)), (2, (.iconst 1, 1)), (3, (.iushr, 1)), (4, (.ldc_w 265, 3)), (7, (.iand, 1)), (8, (.isub, 1)), (9, (.istore_n 0, 1)), (10, (.iload_n 0, 1)), (11, (.ldc_w 266, 3)), (14, (.iand, 1)), (15, (.iload_n 0, 1)), (16, (.iconst 2, 1)), (17, (.iushr, 1)), (18, (.ldc_w 266, 3)), (21, (.iand, 1)), (22, (.iadd, 1)), (23, (.istore_n 0, 1)), (24, (.iload_n 0, 1)), (25, (.iload_n 0, 1)), (26, (.iconst 4, 1)), (27, (.iushr, 1)), (28, (.iadd, 1)), (29, (.ldc_w 267, 3)), (32, (.iand, 1)), (33, (.istore_n 0, 1)), (34, (.iload_n 0, 1)), (35, (.iload_n 0, 1)), (36, (.bipush 8, 2)), (38, (.iushr, 1)), (39, (.iadd, 1)), (40, (.istore_n 0, 1)), (41, (.iload_n 0, 1)), (42, (.iload_n 0, 1)), (43, (.bipush 16, 2)), (45, (.iushr, 1)), (46, (.iadd, 1)), (47, (.istore_n 0, 1)), (48, (.iload_n 0, 1)), (49, (.bipush 63, 2))] : List (Nat × (Jvm.ClassFile.Instr × Nat))).all (dcB cJ6_bitCount_0f7a4) = true := by decide +kernel
theorem dJ6_bitCount_0f7a4_0 : decode cJ6_bitCount_0f7a4 0 = .ok (.iload_n 0, 1) := dget dkJ6_bitCount_0f7a4_0 0 rfl
theorem dJ6_bitCount_0f7a4_1 : decode cJ6_bitCount_0f7a4 1 = .ok (.iload_n 0, 1) := dget dkJ6_bitCount_0f7a4_0 1 rfl
theorem dJ6_bitCount_0f7a4_2 : decode cJ6_bitCount_0f7a4 2 = .ok (.iconst 1, 1) := dget dkJ6_bitCount_0f7a4_0 2 rfl
theorem dJ6_bitCount_0f7a4_3 : decode cJ6_bitCount_0f7a4 3 = .ok (.iushr, 1) := dget dkJ6_bitCount_0f7a4_0 3 rfl
theorem dJ6_bitCount_0f7a4_4 : decode cJ6_bitCount_0f7a4 4 = .ok (.ldc_w 265, 3) := dget dkJ6_bitCount_0f7a4_0 4 rfl
theorem dJ6_bitCount_0f7a4_7 : decode cJ6_bitCount_0f7a4 7 = .ok (.iand, 1) := dget dkJ6_bitCount_0f7a4_0 5 rfl
theorem dJ6_bitCount_0f7a4_8 : decode cJ6_bitCount_0f7a4 8 = .ok (.isub, 1) := dget dkJ6_bitCount_0f7a4_0 6 rfl
theorem dJ6_bitCount_0f7a4_9 : decode cJ6_bitCount_0f7a4 9 = .ok (.istore_n 0, 1) := dget dkJ6_bitCount_0f7a4_0 7 rfl
theorem dJ6_bitCount_0f7a4_10 : decode cJ6_bitCount_0f7a4 10 = .ok (.iload_n 0, 1) := dget dkJ6_bitCount_0f7a4_0 8 rfl
theorem dJ6_bitCount_0f7a4_11 : decode cJ6_bitCount_0f7a4 11 = .ok (.ldc_w 266, 3) := dget dkJ6_bitCount_0f7a4_0 9 rfl
theorem dJ6_bitCount_0f7a4_14 : decode cJ6_bitCount_0f7a4 14 = .ok (.iand, 1) := dget dkJ6_bitCount_0f7a4_0 10 rfl
theorem dJ6_bitCount_0f7a4_15 : decode cJ6_bitCount_0f7a4 15 = .ok (.iload_n 0, 1) := dget dkJ6_bitCount_0f7a4_0 11 rfl
theorem dJ6_bitCount_0f7a4_16 : decode cJ6_bitCount_0f7a4 16 = .ok (.iconst 2, 1) := dget dkJ6_bitCount_0f7a4_0 12 rfl
theorem dJ6_bitCount_0f7a4_17 : decode cJ6_bitCount_0f7a4 17 = .ok (.iushr, 1) := dget dkJ6_bitCount_0f7a4_0 13 rfl
theorem dJ6_bitCount_0f7a4_18 : decode cJ6_bitCount_0f7a4 18 = .ok (.ldc_w 266, 3) := dget dkJ6_bitCount_0f7a4_0 14 rfl
theorem dJ6_bitCount_0f7a4_21 : decode cJ6_bitCount_0f7a4 21 = .ok (.iand, 1) := dget dkJ6_bitCount_0f7a4_0 15 rfl
theorem dJ6_bitCount_0f7a4_22 : decode cJ6_bitCount_0f7a4 22 = .ok (.iadd, 1) := dget dkJ6_bitCount_0f7a4_0 16 rfl
theorem dJ6_bitCount_0f7a4_23 : decode cJ6_bitCount_0f7a4 23 = .ok (.istore_n 0, 1) := dget dkJ6_bitCount_0f7a4_0 17 rfl
theorem dJ6_bitCount_0f7a4_24 : decode cJ6_bitCount_0f7a4 24 = .ok (.iload_n 0, 1) := dget dkJ6_bitCount_0f7a4_0 18 rfl
theorem dJ6_bitCount_0f7a4_25 : decode cJ6_bitCount_0f7a4 25 = .ok (.iload_n 0, 1) := dget dkJ6_bitCount_0f7a4_0 19 rfl
theorem dJ6_bitCount_0f7a4_26 : decode cJ6_bitCount_0f7a4 26 = .ok (.iconst 4, 1) := dget dkJ6_bitCount_0f7a4_0 20 rfl
theorem dJ6_bitCount_0f7a4_27 : decode cJ6_bitCount_0f7a4 27 = .ok (.iushr, 1) := dget dkJ6_bitCount_0f7a4_0 21 rfl
theorem dJ6_bitCount_0f7a4_28 : decode cJ6_bitCount_0f7a4 28 = .ok (.iadd, 1) := dget dkJ6_bitCount_0f7a4_0 22 rfl
theorem dJ6_bitCount_0f7a4_29 : decode cJ6_bitCount_0f7a4 29 = .ok (.ldc_w 267, 3) := dget dkJ6_bitCount_0f7a4_0 23 rfl
theorem dJ6_bitCount_0f7a4_32 : decode cJ6_bitCount_0f7a4 32 = .ok (.iand, 1) := dget dkJ6_bitCount_0f7a4_0 24 rfl
theorem dJ6_bitCount_0f7a4_33 : decode cJ6_bitCount_0f7a4 33 = .ok (.istore_n 0, 1) := dget dkJ6_bitCount_0f7a4_0 25 rfl
theorem dJ6_bitCount_0f7a4_34 : decode cJ6_bitCount_0f7a4 34 = .ok (.iload_n 0, 1) := dget dkJ6_bitCount_0f7a4_0 26 rfl
theorem dJ6_bitCount_0f7a4_35 : decode cJ6_bitCount_0f7a4 35 = .ok (.iload_n 0, 1) := dget dkJ6_bitCount_0f7a4_0 27 rfl
theorem dJ6_bitCount_0f7a4_36 : decode cJ6_bitCount_0f7a4 36 = .ok (.bipush 8, 2) := dget dkJ6_bitCount_0f7a4_0 28 rfl
theorem dJ6_bitCount_0f7a4_38 : decode cJ6_bitCount_0f7a4 38 = .ok (.iushr, 1) := dget dkJ6_bitCount_0f7a4_0 29 rfl
theorem dJ6_bitCount_0f7a4_39 : decode cJ6_bitCount_0f7a4 39 = .ok (.iadd, 1) := dget dkJ6_bitCount_0f7a4_0 30 rfl
theorem dJ6_bitCount_0f7a4_40 : decode cJ6_bitCount_0f7a4 40 = .ok (.istore_n 0, 1) := dget dkJ6_bitCount_0f7a4_0 31 rfl
theorem dJ6_bitCount_0f7a4_41 : decode cJ6_bitCount_0f7a4 41 = .ok (.iload_n 0, 1) := dget dkJ6_bitCount_0f7a4_0 32 rfl
theorem dJ6_bitCount_0f7a4_42 : decode cJ6_bitCount_0f7a4 42 = .ok (.iload_n 0, 1) := dget dkJ6_bitCount_0f7a4_0 33 rfl
theorem dJ6_bitCount_0f7a4_43 : decode cJ6_bitCount_0f7a4 43 = .ok (.bipush 16, 2) := dget dkJ6_bitCount_0f7a4_0 34 rfl
theorem dJ6_bitCount_0f7a4_45 : decode cJ6_bitCount_0f7a4 45 = .ok (.iushr, 1) := dget dkJ6_bitCount_0f7a4_0 35 rfl
theorem dJ6_bitCount_0f7a4_46 : decode cJ6_bitCount_0f7a4 46 = .ok (.iadd, 1) := dget dkJ6_bitCount_0f7a4_0 36 rfl
theorem dJ6_bitCount_0f7a4_47 : decode cJ6_bitCount_0f7a4 47 = .ok (.istore_n 0, 1) := dget dkJ6_bitCount_0f7a4_0 37 rfl
theorem dJ6_bitCount_0f7a4_48 : decode cJ6_bitCount_0f7a4 48 = .ok (.iload_n 0, 1) := dget dkJ6_bitCount_0f7a4_0 38 rfl
theorem dJ6_bitCount_0f7a4_49 : decode cJ6_bitCount_0f7a4 49 = .ok (.bipush 63, 2) := dget dkJ6_bitCount_0f7a4_0 39 rfl
theorem dkJ6_bitCount_0f7a4_1 : ([(51, (.iand, 1)), (52, (.ireturn, 1))] : List (Nat × (Jvm.ClassFile.Instr × Nat))).all (dcB cJ6_bitCount_0f7a4) = true := by decide +kernel
theorem dJ6_bitCount_0f7a4_51 : decode cJ6_bitCount_0f7a4 51 = .ok (.iand, 1) := dget dkJ6_bitCount_0f7a4_1 0 rfl
theorem dJ6_bitCount_0f7a4_52 : decode cJ6_bitCount_0f7a4 52 = .ok (.ireturn, 1) := dget dkJ6_bitCount_0f7a4_1 1 rfl
theorem dkJ9_floorMod_7cf53_0 : ([(0, (.iload_n 0, 1)), (1, (.iload_n 1, 1)), (2, (.irem, 1)), (3, (.istore_n 2, 1)), (4, (.iload_n 0, 1)), (5, (.iload_n 1, 1)), (6, (.ixor, 1)), (7, (.ifCond .ge 11, 3)), (10, (.iload_n 2, 1)), (11, (.ifCond .eq 7, 3)), (14, (.iload_n 2, 1)), (15, (.iload_n 1, 1)), (16, (.iadd, 1)), (17, (.ireturn, 1)), (18, (.iload_n 2, 1)), (19, (.ireturn, 1))] : List (Nat × (Jvm.ClassFile.Instr × Nat))).all (dcB cJ9_floorMod_7cf53) = true := by decide +kernel
theorem dJ9_floorMod_7cf53_0 : decode cJ9_floorMod_7cf53 0 = .ok (.iload_n 0, 1) := dget dkJ9_floorMod_7cf53_0 0 rfl
theorem dJ9_floorMod_7cf53_1 : decode cJ9_floorMod_7cf53 1 = .ok (.iload_n 1, 1) := dget dkJ9_floorMod_7cf53_0 1 rfl
theorem dJ9_floorMod_7cf53_2 : decode cJ9_floorMod_7cf53 2 = .ok (.irem, 1) := dget dkJ9_floorMod_7cf53_0 2 rfl
theorem dJ9_floorMod_7cf53_3 : decode cJ9_floorMod_7cf53 3 = .ok (.istore_n 2, 1) := dget dkJ9_floorMod_7cf53_0 3 rfl
theorem dJ9_floorMod_7cf53_4 : decode cJ9_floorMod_7cf53 4 = .ok (.iload_n 0, 1) := dget dkJ9_floorMod_7cf53_0 4 rfl
theorem dJ9_floorMod_7cf53_5 : decode cJ9_floorMod_7cf53 5 = .ok (.iload_n 1, 1) := dget dkJ9_floorMod_7cf53_0 5 rfl
theorem dJ9_floorMod_7cf53_6 : decode cJ9_floorMod_7cf53 6 = .ok (.ixor, 1) := dget dkJ9_floorMod_7cf53_0 6 rfl
theorem dJ9_floorMod_7cf53_7 : decode cJ9_floorMod_7cf53 7 = .ok (.ifCond .ge 11, 3) := dget dkJ9_floorMod_7cf53_0 7 rfl
theorem dJ9_floorMod_7cf53_10 : decode cJ9_floorMod_7cf53 10 = .ok (.iload_n 2, 1) := dget dkJ9_floorMod_7cf53_0 8 rfl
theorem dJ9_floorMod_7cf53_11 : decode cJ9_floorMod_7cf53 11 = .ok (.ifCond .eq 7, 3) := dget dkJ9_floorMod_7cf53_0 9 rfl
theorem dJ9_floorMod_7cf53_14 : decode cJ9_floorMod_7cf53 14 = .ok (.iload_n 2, 1) := dget dkJ9_floorMod_7cf53_0 10 rfl
theorem dJ9_floorMod_7cf53_15 : decode cJ9_floorMod_7cf53 15 = .ok (.iload_n 1, 1) := dget dkJ9_floorMod_7cf53_0 11 rfl
theorem dJ9_floorMod_7cf53_16 : decode cJ9_floorMod_7cf53 16 = .ok (.iadd, 1) := dget dkJ9_floorMod_7cf53_0 12 rfl
theorem dJ9_floorMod_7cf53_17 : decode cJ9_floorMod_7cf53 17 = .ok (.ireturn, 1) := dget dkJ9_floorMod_7cf53_0 13 rfl
theorem dJ9_floorMod_7cf53_18 : decode cJ9_floorMod_7cf53 18 = .ok (.iload_n 2, 1) := dget dkJ9_floorMod_7cf53_0 14 rfl
theorem dJ9_floorMod_7cf53_19 : decode cJ9_floorMod_7cf53 19 = .ok (.ireturn, 1) := dget dkJ9_floorMod_7cf53_0 15 rfl
theorem ggJ0_init_81219_J0_init_db425 : GoodIn wsJ0_init_81219 wsJ0_init_db425 := tgCall 406 e_J0_init_db425 (by decide +kernel)
theorem gJ0_init_81219_J0_init_db425 : GoodIn wsJ0_init_81219 (wsJ0_init_db425) := ggJ0_init_81219_J0_init_db425
theorem dkJ0_init_81219_0 : ([(0, (.aload_n 0, 1)), (1, (.aload_n 1, 1)), (2, (.aconst_null, 1)), (3, (.invokespecial 489, 3)), (6, (.return_, 1))] : List (Nat × (Jvm.ClassFile.Instr × Nat))).all (dcB cJ0_init_81219) = true := by decide +kernel
theorem dJ0_init_81219_0 : decode cJ0_init_81219 0 = .ok (.aload_n 0, 1) := dget dkJ0_init_81219_0 0 rfl
theorem dJ0_init_81219_1 : decode cJ0_init_81219 1 = .ok (.aload_n 1, 1) := dget dkJ0_init_81219_0 1 rfl
theorem dJ0_init_81219_2 : decode cJ0_init_81219 2 = .ok (.aconst_null, 1) := dget dkJ0_init_81219_0 2 rfl
theorem dJ0_init_81219_3 : decode cJ0_init_81219 3 = .ok (.invokespecial 489, 3) := dget dkJ0_init_81219_0 3 rfl
theorem dJ0_init_81219_6 : decode cJ0_init_81219 6 = .ok (.return_, 1) := dget dkJ0_init_81219_0 4 rfl
theorem ggJ0_length_8abf5_J0_coder_7d493 : GoodIn wsJ0_length_8abf5 wsJ0_coder_7d493 := tgCall 744 e_J0_coder_7d493 (by decide +kernel)
theorem gJ0_length_8abf5_J0_coder_7d493 : GoodIn wsJ0_length_8abf5 (wsV RJ0 335 RJ0 yJ0_coder_7d493 wsJ0_coder_7d493) := goodIn_app (tgIn [746, 742, 743, 264] (by decide +kernel) rfl) ggJ0_length_8abf5_J0_coder_7d493
theorem dkJ0_length_8abf5_0 : ([(0, (.aload_n 0, 1)), (1, (.getfield 9, 3)), (4, (.arraylength, 1)), (5, (.aload_n 0, 1)), (6, (.invokevirtual 335, 3)), (9, (.ishr, 1)), (10, (.ireturn, 1))] : List (Nat × (Jvm.ClassFile.Instr × Nat))).all (dcB cJ0_length_8abf5) = true := by decide +kernel
theorem dJ0_length_8abf5_0 : decode cJ0_length_8abf5 0 = .ok (.aload_n 0, 1) := dget dkJ0_length_8abf5_0 0 rfl
theorem dJ0_length_8abf5_1 : decode cJ0_length_8abf5 1 = .ok (.getfield 9, 3) := dget dkJ0_length_8abf5_0 1 rfl
theorem dJ0_length_8abf5_4 : decode cJ0_length_8abf5 4 = .ok (.arraylength, 1) := dget dkJ0_length_8abf5_0 2 rfl
theorem dJ0_length_8abf5_5 : decode cJ0_length_8abf5 5 = .ok (.aload_n 0, 1) := dget dkJ0_length_8abf5_0 3 rfl
theorem dJ0_length_8abf5_6 : decode cJ0_length_8abf5 6 = .ok (.invokevirtual 335, 3) := dget dkJ0_length_8abf5_0 4 rfl
theorem dJ0_length_8abf5_9 : decode cJ0_length_8abf5 9 = .ok (.ishr, 1) := dget dkJ0_length_8abf5_0 5 rfl
theorem dJ0_length_8abf5_10 : decode cJ0_length_8abf5 10 = .ok (.ireturn, 1) := dget dkJ0_length_8abf5_0 6 rfl
theorem dkJ0_isEmpty_aae02_0 : ([(0, (.aload_n 0, 1)), (1, (.getfield 9, 3)), (4, (.arraylength, 1)), (5, (.ifCond .ne 7, 3)), (8, (.iconst 1, 1)), (9, (.goto 4, 3)), (12, (.iconst 0, 1)), (13, (.ireturn, 1))] : List (Nat × (Jvm.ClassFile.Instr × Nat))).all (dcB cJ0_isEmpty_aae02) = true := by decide +kernel
theorem dJ0_isEmpty_aae02_0 : decode cJ0_isEmpty_aae02 0 = .ok (.aload_n 0, 1) := dget dkJ0_isEmpty_aae02_0 0 rfl
theorem dJ0_isEmpty_aae02_1 : decode cJ0_isEmpty_aae02 1 = .ok (.getfield 9, 3) := dget dkJ0_isEmpty_aae02_0 1 rfl
theorem dJ0_isEmpty_aae02_4 : decode cJ0_isEmpty_aae02 4 = .ok (.arraylength, 1) := dget dkJ0_isEmpty_aae02_0 2 rfl
theorem dJ0_isEmpty_aae02_5 : decode cJ0_isEmpty_aae02 5 = .ok (.ifCond .ne 7, 3) := dget dkJ0_isEmpty_aae02_0 3 rfl
theorem dJ0_isEmpty_aae02_8 : decode cJ0_isEmpty_aae02 8 = .ok (.iconst 1, 1) := dget dkJ0_isEmpty_aae02_0 4 rfl
theorem dJ0_isEmpty_aae02_9 : decode cJ0_isEmpty_aae02 9 = .ok (.goto 4, 3) := dget dkJ0_isEmpty_aae02_0 5 rfl
theorem dJ0_isEmpty_aae02_12 : decode cJ0_isEmpty_aae02 12 = .ok (.iconst 0, 1) := dget dkJ0_isEmpty_aae02_0 6 rfl
theorem dJ0_isEmpty_aae02_13 : decode cJ0_isEmpty_aae02 13 = .ok (.ireturn, 1) := dget dkJ0_isEmpty_aae02_0 7 rfl
theorem ggJ0_getBytes_840e7_J0_coder_7d493 : GoodIn wsJ0_getBytes_840e7 wsJ0_coder_7d493 := tgCall 744 e_J0_coder_7d493 (by decide +kernel)
theorem gJ0_getBytes_840e7_J0_coder_7d493 : GoodIn wsJ0_getBytes_840e7 (wsV RJ0 335 RJ0 yJ0_coder_7d493 wsJ0_coder_7d493) := goodIn_app (tgIn [746, 742, 743, 264] (by decide +kernel) rfl) ggJ0_getBytes_840e7_J0_coder_7d493
theorem dkJ0_getBytes_840e7_0 : ([(0, (.aload_n 0, 1)), (1, (.invokevirtual 335, 3)), (4, (.iload_n 3, 1)), (5, (.if_icmp .ne 23, 3)), (8, (.aload_n 0, 1)), (9, (.getfield 9, 3)), (12, (.iconst 0, 1)), (13, (.aload_n 1, 1)), (14, (.iload_n 2, 1)), (15, (.iload_n 3, 1)), (16, (.ishl, 1)), (17, (.aload_n 0, 1)), (18, (.getfield 9, 3)), (21, (.arraylength, 1)), (22, (.invokestatic 212, 3)), (25, (.goto 18, 3)), (28, (.aload_n 0, 1)), (29, (.getfield 9, 3)), (32, (.iconst 0, 1)), (33, (.aload_n 1, 1)), (34, (.iload_n 2, 1)), (35, (.aload_n 0, 1)), (36, (.getfield 9, 3)), (39, (.arraylength, 1)), (40, (.invokestatic 106, 3)), (43, (.return_, 1))] : List (Nat × (Jvm.ClassFile.Instr × Nat))).all (dcB cJ0_getBytes_840e7) = true := by decide +kernel
theorem dJ0_getBytes_840e7_0 : decode cJ0_getBytes_840e7 0 = .ok (.aload_n 0, 1) := dget dkJ0_getBytes_840e7_0 0 rfl
theorem dJ0_getBytes_840e7_1 : decode cJ0_getBytes_840e7 1 = .ok (.invokevirtual 335, 3) := dget dkJ0_getBytes_840e7_0 1 rfl
theorem dJ0_getBytes_840e7_4 : decode cJ0_getBytes_840e7 4 = .ok (.iload_n 3, 1) := dget dkJ0_getBytes_840e7_0 2 rfl
theorem dJ0_getBytes_840e7_5 : decode cJ0_getBytes_840e7 5 = .ok (.if_icmp .ne 23, 3) := dget dkJ0_getBytes_840e7_0 3 rfl
theorem dJ0_getBytes_840e7_8 : decode cJ0_getBytes_840e7 8 = .ok (.aload_n 0, 1) := dget dkJ0_getBytes_840e7_0 4 rfl
theorem dJ0_getBytes_840e7_9 : decode cJ0_getBytes_840e7 9 = .ok (.getfield 9, 3) := dget dkJ0_getBytes_840e7_0 5 rfl
theorem dJ0_getBytes_840e7_12 : decode cJ0_getBytes_840e7 12 = .ok (.iconst 0, 1) := dget dkJ0_getBytes_840e7_0 6 rfl
theorem dJ0_getBytes_840e7_13 : decode cJ0_getBytes_840e7 13 = .ok (.aload_n 1, 1) := dget dkJ0_getBytes_840e7_0 7 rfl
theorem dJ0_getBytes_840e7_14 : decode cJ0_getBytes_840e7 14 = .ok (.iload_n 2, 1) := dget dkJ0_getBytes_840e7_0 8 rfl
theorem dJ0_getBytes_840e7_15 : decode cJ0_getBytes_840e7 15 = .ok (.iload_n 3, 1) := dget dkJ0_getBytes_840e7_0 9 rfl
theorem dJ0_getBytes_840e7_16 : decode cJ0_getBytes_840e7 16 = .ok (.ishl, 1) := dget dkJ0_getBytes_840e7_0 10 rfl
theorem dJ0_getBytes_840e7_17 : decode cJ0_getBytes_840e7 17 = .ok (.aload_n 0, 1) := dget dkJ0_getBytes_840e7_0 11 rfl
theorem dJ0_getBytes_840e7_18 : decode cJ0_getBytes_840e7 18 = .ok (.getfield 9, 3) := dget dkJ0_getBytes_840e7_0 12 rfl
theorem dJ0_getBytes_840e7_21 : decode cJ0_getBytes_840e7 21 = .ok (.arraylength, 1) := dget dkJ0_getBytes_840e7_0 13 rfl
theorem dJ0_getBytes_840e7_22 : decode cJ0_getBytes_840e7 22 = .ok (.invokestatic 212, 3) := dget dkJ0_getBytes_840e7_0 14 rfl
theorem dJ0_getBytes_840e7_25 : decode cJ0_getBytes_840e7 25 = .ok (.goto 18, 3) := dget dkJ0_getBytes_840e7_0 15 rfl
theorem dJ0_getBytes_840e7_43 : decode cJ0_getBytes_840e7 43 = .ok (.return_, 1) := dget dkJ0_getBytes_840e7_0 25 rfl
theorem ggJ0_init_db425_J5_getValue_6d5f1 : GoodIn wsJ0_init_db425 wsJ5_getValue_6d5f1 := tgCall 393 e_J5_getValue_6d5f1 (by decide +kernel)
theorem gJ0_init_db425_J5_getValue_6d5f1_u552J4 : GoodIn wsJ0_init_db425 (va_wsU RJ0 552 RJ4 "java/lang/AbstractStringBuilder" ⟨"java/lang/AbstractStringBuilder", "getValue", "()[B"⟩ yJ5_getValue_6d5f1 wsJ5_getValue_6d5f1) := goodIn_app (tgIn [389, 390, 391, 392, 222] (by decide +kernel) rfl) ggJ0_init_db425_J5_getValue_6d5f1
theorem ggJ0_init_db425_J4_length_8abf5 : GoodIn wsJ0_init_db425 wsJ4_length_8abf5 := tgCall 329 e_J4_length_8abf5 (by decide +kernel)
set_option maxRecDepth 20000 in
theorem gJ0_init_db425_J4_length_8abf5_u549J4 : GoodIn wsJ0_init_db425 (va_wsO RJ0 549 RJ4 "java/lang/AbstractStringBuilder" ⟨"java/lang/AbstractStringBuilder", "length", "()I"⟩ yJ4_length_8abf5 wsJ4_length_8abf5) := goodIn_app (goodIn_of _ (by decide +kernel)) ggJ0_init_db425_J4_length_8abf5
theorem ggJ0_init_db425_J5_isLatin1_aae02 : GoodIn wsJ0_init_db425 wsJ5_isLatin1_aae02 := tgCall 282 e_J5_isLatin1_aae02 (by decide +kernel)
theorem gJ0_init_db425_J5_isLatin1_aae02_u1047J4 : GoodIn wsJ0_init_db425 (va_wsU RJ0 1047 RJ4 "java/lang/AbstractStringBuilder" ⟨"java/lang/AbstractStringBuilder", "isLatin1", "()Z"⟩ yJ5_isLatin1_aae02 wsJ5_isLatin1_aae02) := goodIn_app (tgIn [396, 279, 280, 281, 222] (by decide +kernel) rfl) ggJ0_init_db425_J5_isLatin1_aae02
theorem ggJ0_init_db425_J7_copyOfRange_39247 : GoodIn wsJ0_init_db425 wsJ7_copyOfRange_39247 := tgCall 383 e_J7_copyOfRange_39247 (by decide +kernel)
theorem gJ0_init_db425_J7_copyOfRange_39247 : GoodIn wsJ0_init_db425 (va_wsS RJ0 54 yJ7_copyOfRange_39247 wsJ7_copyOfRange_39247) := goodIn_app (tgIn [397, 382, 238] (by decide +kernel) rfl) ggJ0_init_db425_J7_copyOfRange_39247
theorem dkJ0_init_db425_0 : ([(0, (.aload_n 0, 1)), (1, (.invokespecial 1, 3)), (4, (.aload_n 1, 1)), (5, (.invokevirtual 552, 3)), (8, (.astore_n 3, 1)), (9, (.aload_n 1, 1)), (10, (.invokevirtual 549, 3)), (13, (.istore 4, 2)), (15, (.aload_n 1, 1)), (16, (.invokevirtual 1047, 3)), (19, (.ifCond .eq 22, 3)), (22, (.aload_n 0, 1)), (23, (.iconst 0, 1)), (24, (.putfield 15, 3)), (27, (.aload_n 0, 1)), (28, (.aload_n 3, 1)), (29, (.iconst 0, 1)), (30, (.iload 4, 2)), (32, (.invokestatic 54, 3)), (35, (.putfield 9, 3)), (38, (.goto 59, 3)), (41, (.getstatic 38, 3)), (44, (.ifCond .eq 35, 3)), (47, (.aload_n 1, 1)), (48, (.getfield 1048, 3)), (51, (.ifCond .eq 28, 3)), (54, (.aload_n 0, 1)), (55, (.aload_n 3, 1)), (56, (.iconst 0, 1)), (57, (.iload 4, 2)), (59, (.invokestatic 1051, 3)), (62, (.putfield 9, 3)), (65, (.aload_n 0, 1)), (66, (.aload_n 0, 1)), (67, (.getfield 9, 3)), (70, (.iload 4, 2)), (72, (.invokestatic 47, 3)), (75, (.putfield 15, 3)), (78, (.return_, 1)), (79, (.aload_n 0, 1))] : List (Nat × (Jvm.ClassFile.Instr × Nat))).all (dcB cJ0_init_db425) = true := by decide +kernel
theorem dJ0_init_db425_0 : decode cJ0_init_db425 0 = .ok (.aload_n 0, 1) := dget dkJ0_init_db425_0 0 rfl
theorem dJ0_init_db425_1 : decode cJ0_init_db425 1 = .ok (.invokespecial 1, 3) := dget dkJ0_init_db425_0 1 rfl
theorem dJ0_init_db425_4 : decode cJ0_init_db425 4 = .ok (.aload_n 1, 1) := dget dkJ0_init_db425_0 2 rfl
theorem dJ0_init_db425_5 : decode cJ0_init_db425 5 = .ok (.invokevirtual 552, 3) := dget dkJ0_init_db425_0 3 rfl
theorem dJ0_init_db425_8 : decode cJ0_init_db425 8 = .ok (.astore_n 3, 1) := dget dkJ0_init_db425_0 4 rfl
theorem dJ0_init_db425_9 : decode cJ0_init_db425 9 = .ok (.aload_n 1, 1) := dget dkJ0_init_db425_0 5 rfl
theorem dJ0_init_db425_10 : decode cJ0_init_db425 10 = .ok (.invokevirtual 549, 3) := dget dkJ0_init_db425_0 6 rfl
theorem dJ0_init_db425_13 : decode cJ0_init_db425 13 = .ok (.istore 4, 2) := dget dkJ0_init_db425_0 7 rfl
theorem dJ0_init_db425_15 : decode cJ0_init_db425 15 = .ok (.aload_n 1, 1) := dget dkJ0_init_db425_0 8 rfl
theorem dJ0_init_db425_16 : decode cJ0_init_db425 16 = .ok (.invokevirtual 1047, 3) := dget dkJ0_init_db425_0 9 rfl
theorem dJ0_init_db425_19 : decode cJ0_init_db425 19 = .ok (.ifCond .eq 22, 3) := dget dkJ0_init_db425_0 10 rfl
theorem dJ0_init_db425_22 : decode cJ0_init_db425 22 = .ok (.aload_n 0, 1) := dget dkJ0_init_db425_0 11 rfl
theorem dJ0_init_db425_23 : decode cJ0_init_db425 23 = .ok (.iconst 0, 1) := dget dkJ0_init_db425_0 12 rfl
theorem dJ0_init_db425_24 : decode cJ0_init_db425 24 = .ok (.putfield 15, 3) := dget dkJ0_init_db425_0 13 rfl
theorem dJ0_init_db425_27 : decode cJ0_init_db425 27 = .ok (.aload_n 0, 1) := dget dkJ0_init_db425_0 14 rfl
theorem dJ0_init_db425_28 : decode cJ0_init_db425 28 = .ok (.aload_n 3, 1) := dget dkJ0_init_db425_0 15 rfl
theorem dJ0_init_db425_29 : decode cJ0_init_db425 29 = .ok (.iconst 0, 1) := dget dkJ0_init_db425_0 16 rfl
theorem dJ0_init_db425_30 : decode cJ0_init_db425 30 = .ok (.iload 4, 2) := dget dkJ0_init_db425_0 17 rfl
theorem dJ0_init_db425_32 : decode cJ0_init_db425 32 = .ok (.invokestatic 54, 3) := dget dkJ0_init_db425_0 18 rfl
theorem dJ0_init_db425_35 : decode cJ0_init_db425 35 = .ok (.putfield 9, 3) := dget dkJ0_init_db425_0 19 rfl
theorem dJ0_init_db425_38 : decode cJ0_init_db425 38 = .ok (.goto 59, 3) := dget dkJ0_init_db425_0 20 rfl
theorem dkJ0_init_db425_1 : ([(80, (.iconst 1, 1)), (81, (.putfield 15, 3)), (84, (.aload_n 0, 1)), (85, (.aload_n 3, 1)), (86, (.iconst 0, 1)), (87, (.iload 4, 2)), (89, (.iconst 1, 1)), (90, (.ishl, 1)), (91, (.invokestatic 54, 3)), (94, (.putfield 9, 3)), (97, (.return_, 1))] : List (Nat × (Jvm.ClassFile.Instr × Nat))).all (dcB cJ0_init_db425) = true := by decide +kernel
theorem dJ0_init_db425_97 : decode cJ0_init_db425 97 = .ok (.return_, 1) := dget dkJ0_init_db425_1 10 rfl
theorem dkJ0_coder_7d493_0 : ([(0, (.getstatic 38, 3)), (3, (.ifCond .eq 10, 3)), (6, (.aload_n 0, 1)), (7, (.getfield 15, 3)), (10, (.goto 4, 3)), (13, (.iconst 1, 1)), (14, (.ireturn, 1))] : List (Nat × (Jvm.ClassFile.Instr × Nat))).all (dcB cJ0_coder_7d493) = true := by decide +kernel
theorem dJ0_coder_7d493_0 : decode cJ0_coder_7d493 0 = .ok (.getstatic 38, 3) := dget dkJ0_coder_7d493_0 0 rfl
theorem dJ0_coder_7d493_3 : decode cJ0_coder_7d493 3 = .ok (.ifCond .eq 10, 3) := dget dkJ0_coder_7d493_0 1 rfl
theorem dJ0_coder_7d493_6 : decode cJ0_coder_7d493 6 = .ok (.aload_n 0, 1) := dget dkJ0_coder_7d493_0 2 rfl
theorem dJ0_coder_7d493_7 : decode cJ0_coder_7d493 7 = .ok (.getfield 15, 3) := dget dkJ0_coder_7d493_0 3 rfl
theorem dJ0_coder_7d493_10 : decode cJ0_coder_7d493 10 = .ok (.goto 4, 3) := dget dkJ0_coder_7d493_0 4 rfl
theorem dJ0_coder_7d493_14 : decode cJ0_coder_7d493 14 = .ok (.ireturn, 1) := dget dkJ0_coder_7d493_0 6 rfl
theorem ggJ4_init_da8c8_J5_init_d00df : GoodIn wsJ4_init_da8c8 wsJ5_init_d00df := tgCall 418 e_J5_init_d00df (by decide +kernel)
theorem gJ4_init_da8c8_J5_init_d00df : GoodIn wsJ4_init_da8c8 (wsJ5_init_d00df) := ggJ4_init_da8c8_J5_init_d00df
theorem dkJ4_init_da8c8_0 : ([(0, (.aload_n 0, 1)), (1, (.bipush 16, 2)), (3, (.invokespecial 1, 3)), (6, (.return_, 1))] : List (Nat × (Jvm.ClassFile.Instr × Nat))).all (dcB cJ4_init_da8c8) = true := by decide +kernel
theorem dJ4_init_da8c8_0 : decode cJ4_init_da8c8 0 = .ok (.aload_n 0, 1) := dget dkJ4_init_da8c8_0 0 rfl
theorem dJ4_init_da8c8_1 : decode cJ4_init_da8c8 1 = .ok (.bipush 16, 2) := dget dkJ4_init_da8c8_0 1 rfl
theorem dJ4_init_da8c8_3 : decode cJ4_init_da8c8 3 = .ok (.invokespecial 1, 3) := dget dkJ4_init_da8c8_0 2 rfl
theorem dJ4_init_da8c8_6 : decode cJ4_init_da8c8 6 = .ok (.return_, 1) := dget dkJ4_init_da8c8_0 3 rfl
theorem ggJ4_append_15ec4_J5_append_cf1ce : GoodIn wsJ4_append_15ec4 wsJ5_append_cf1ce := tgCall 774 e_J5_append_cf1ce (by decide +kernel)
theorem gJ4_append_15ec4_J5_append_cf1ce_s29 : GoodIn wsJ4_append_15ec4 (va_wsSU RJ4 29 yJ5_append_cf1ce wsJ5_append_cf1ce) := goodIn_app (tgIn [771, 772, 322, 773, 222] (by decide +kernel) rfl) ggJ4_append_15ec4_J5_append_cf1ce
theorem dkJ4_append_15ec4_0 : ([(0, (.aload_n 0, 1)), (1, (.aload_n 1, 1)), (2, (.invokespecial 29, 3)), (5, (.pop, 1)), (6, (.aload_n 0, 1)), (7, (.areturn, 1))] : List (Nat × (Jvm.ClassFile.Instr × Nat))).all (dcB cJ4_append_15ec4) = true := by decide +kernel
theorem dJ4_append_15ec4_0 : decode cJ4_append_15ec4 0 = .ok (.aload_n 0, 1) := dget dkJ4_append_15ec4_0 0 rfl
theorem dJ4_append_15ec4_1 : decode cJ4_append_15ec4 1 = .ok (.aload_n 1, 1) := dget dkJ4_append_15ec4_0 1 rfl
theorem dJ4_append_15ec4_2 : decode cJ4_append_15ec4 2 = .ok (.invokespecial 29, 3) := dget dkJ4_append_15ec4_0 2 rfl
theorem dJ4_append_15ec4_5 : decode cJ4_append_15ec4 5 = .ok (.pop, 1) := dget dkJ4_append_15ec4_0 3 rfl
theorem dJ4_append_15ec4_6 : decode cJ4_append_15ec4 6 = .ok (.aload_n 0, 1) := dget dkJ4_append_15ec4_0 4 rfl
theorem dJ4_append_15ec4_7 : decode cJ4_append_15ec4 7 = .ok (.areturn, 1) := dget dkJ4_append_15ec4_0 5 rfl
theorem ggJ4_append_cf468_J5_append_3fe6f : GoodIn wsJ4_append_cf468 wsJ5_append_3fe6f := tgCall 324 e_J5_append_3fe6f (by decide +kernel)
theorem gJ4_append_cf468_J5_append_3fe6f_s50 : GoodIn wsJ4_append_cf468 (va_wsSU RJ4 50 yJ5_append_3fe6f wsJ5_append_3fe6f) := goodIn_app (tgIn [320, 321, 322, 323, 222] (by decide +kernel) rfl) ggJ4_append_cf468_J5_append_3fe6f
theorem dkJ4_append_cf468_0 : ([(0, (.aload_n 0, 1)), (1, (.iload_n 1, 1)), (2, (.invokespecial 50, 3)), (5, (.pop, 1)), (6, (.aload_n 0, 1)), (7, (.areturn, 1))] : List (Nat × (Jvm.ClassFile.Instr × Nat))).all (dcB cJ4_append_cf468) = true := by decide +kernel
theorem dJ4_append_cf468_0 : decode cJ4_append_cf468 0 = .ok (.aload_n 0, 1) := dget dkJ4_append_cf468_0 0 rfl
theorem dJ4_append_cf468_1 : decode cJ4_append_cf468 1 = .ok (.iload_n 1, 1) := dget dkJ4_append_cf468_0 1 rfl
theorem dJ4_append_cf468_2 : decode cJ4_append_cf468 2 = .ok (.invokespecial 50, 3) := dget dkJ4_append_cf468_0 2 rfl
theorem dJ4_append_cf468_5 : decode cJ4_append_cf468 5 = .ok (.pop, 1) := dget dkJ4_append_cf468_0 3 rfl
theorem dJ4_append_cf468_6 : decode cJ4_append_cf468 6 = .ok (.aload_n 0, 1) := dget dkJ4_append_cf468_0 4 rfl
theorem dJ4_append_cf468_7 : decode cJ4_append_cf468 7 = .ok (.areturn, 1) := dget dkJ4_append_cf468_0 5 rfl
theorem ggJ4_append_bf812_J5_append_c97b9 : GoodIn wsJ4_append_bf812 wsJ5_append_c97b9 := tgCall 366 e_J5_append_c97b9 (by decide +kernel)
theorem gJ4_append_bf812_J5_append_c97b9_s53 : GoodIn wsJ4_append_bf812 (va_wsSU RJ4 53 yJ5_append_c97b9 wsJ5_append_c97b9) := goodIn_app (tgIn [363, 364, 322, 365, 222] (by decide +kernel) rfl) ggJ4_append_bf812_J5_append_c97b9
theorem dkJ4_append_bf812_0 : ([(0, (.aload_n 0, 1)), (1, (.iload_n 1, 1)), (2, (.invokespecial 53, 3)), (5, (.pop, 1)), (6, (.aload_n 0, 1)), (7, (.areturn, 1))] : List (Nat × (Jvm.ClassFile.Instr × Nat))).all (dcB cJ4_append_bf812) = true := by decide +kernel
theorem dJ4_append_bf812_0 : decode cJ4_append_bf812 0 = .ok (.aload_n 0, 1) := dget dkJ4_append_bf812_0 0 rfl
theorem dJ4_append_bf812_1 : decode cJ4_append_bf812 1 = .ok (.iload_n 1, 1) := dget dkJ4_append_bf812_0 1 rfl
theorem dJ4_append_bf812_2 : decode cJ4_append_bf812 2 = .ok (.invokespecial 53, 3) := dget dkJ4_append_bf812_0 2 rfl
theorem dJ4_append_bf812_5 : decode cJ4_append_bf812 5 = .ok (.pop, 1) := dget dkJ4_append_bf812_0 3 rfl
theorem dJ4_append_bf812_6 : decode cJ4_append_bf812 6 = .ok (.aload_n 0, 1) := dget dkJ4_append_bf812_0 4 rfl
theorem dJ4_append_bf812_7 : decode cJ4_append_bf812 7 = .ok (.areturn, 1) := dget dkJ4_append_bf812_0 5 rfl
theorem ggJ4_toString_0e30d_J0_init_81219 : GoodIn wsJ4_toString_0e30d wsJ0_init_81219 := tgCall 411 e_J0_init_81219 (by decide +kernel)
theorem gJ4_toString_0e30d_J0_init_81219 : GoodIn wsJ4_toString_0e30d (wsJ0_init_81219) := ggJ4_toString_0e30d_J0_init_81219
theorem dkJ4_toString_0e30d_0 : ([(0, (.new 18, 3)), (3, (.dup, 1)), (4, (.aload_n 0, 1)), (5, (.invokespecial 137, 3)), (8, (.areturn, 1))] : List (Nat × (Jvm.ClassFile.Instr × Nat))).all (dcB cJ4_toString_0e30d) = true := by decide +kernel
theorem dJ4_toString_0e30d_0 : decode cJ4_toString_0e30d 0 = .ok (.new 18, 3) := dget dkJ4_toString_0e30d_0 0 rfl
theorem dJ4_toString_0e30d_3 : decode cJ4_toString_0e30d 3 = .ok (.dup, 1) := dget dkJ4_toString_0e30d_0 1 rfl
theorem dJ4_toString_0e30d_4 : decode cJ4_toString_0e30d 4 = .ok (.aload_n 0, 1) := dget dkJ4_toString_0e30d_0 2 rfl
theorem dJ4_toString_0e30d_5 : decode cJ4_toString_0e30d 5 = .ok (.invokespecial 137, 3) := dget dkJ4_toString_0e30d_0 3 rfl
theorem dJ4_toString_0e30d_8 : decode cJ4_toString_0e30d 8 = .ok (.areturn, 1) := dget dkJ4_toString_0e30d_0 4 rfl
theorem ggJ4_length_8abf5_J5_length_8abf5 : GoodIn wsJ4_length_8abf5 wsJ5_length_8abf5 := tgCall 333 e_J5_length_8abf5 (by decide +kernel)
theorem gJ4_length_8abf5_J5_length_8abf5_s343 : GoodIn wsJ4_length_8abf5 (va_wsSU RJ4 343 yJ5_length_8abf5 wsJ5_length_8abf5) := goodIn_app (tgIn [330, 331, 322, 332, 222] (by decide +kernel) rfl) ggJ4_length_8abf5_J5_length_8abf5
theorem dkJ4_length_8abf5_0 : ([(0, (.aload_n 0, 1)), (1, (.invokespecial 343, 3)), (4, (.ireturn, 1))] : List (Nat × (Jvm.ClassFile.Instr × Nat))).all (dcB cJ4_length_8abf5) = true := by decide +kernel
theorem dJ4_length_8abf5_0 : decode cJ4_length_8abf5 0 = .ok (.aload_n 0, 1) := dget dkJ4_length_8abf5_0 0 rfl
theorem dJ4_length_8abf5_1 : decode cJ4_length_8abf5 1 = .ok (.invokespecial 343, 3) := dget dkJ4_length_8abf5_0 1 rfl
theorem dJ4_length_8abf5_4 : decode cJ4_length_8abf5 4 = .ok (.ireturn, 1) := dget dkJ4_length_8abf5_0 2 rfl
theorem dkJ1_canEncode_fc78d_0 : ([(0, (.iload_n 0, 1)), (1, (.sipush 255, 3)), (4, (.if_icmp .gt 7, 3)), (7, (.iconst 1, 1)), (8, (.goto 4, 3)), (11, (.iconst 0, 1)), (12, (.ireturn, 1))] : List (Nat × (Jvm.ClassFile.Instr × Nat))).all (dcB cJ1_canEncode_fc78d) = true := by decide +kernel
theorem dJ1_canEncode_fc78d_0 : decode cJ1_canEncode_fc78d 0 = .ok (.iload_n 0, 1) := dget dkJ1_canEncode_fc78d_0 0 rfl
theorem dJ1_canEncode_fc78d_1 : decode cJ1_canEncode_fc78d 1 = .ok (.sipush 255, 3) := dget dkJ1_canEncode_fc78d_0 1 rfl
theorem dJ1_canEncode_fc78d_4 : decode cJ1_canEncode_fc78d 4 = .ok (.if_icmp .gt 7, 3) := dget dkJ1_canEncode_fc78d_0 2 rfl
theorem dJ1_canEncode_fc78d_7 : decode cJ1_canEncode_fc78d 7 = .ok (.iconst 1, 1) := dget dkJ1_canEncode_fc78d_0 3 rfl
theorem dJ1_canEncode_fc78d_8 : decode cJ1_canEncode_fc78d 8 = .ok (.goto 4, 3) := dget dkJ1_canEncode_fc78d_0 4 rfl
theorem dJ1_canEncode_fc78d_12 : decode cJ1_canEncode_fc78d 12 = .ok (.ireturn, 1) := dget dkJ1_canEncode_fc78d_0 6 rfl
theorem dkJ7_copyOf_9075b_0 : ([(0, (.iload_n 1, 1)), (1, (.aload_n 0, 1)), (2, (.arraylength, 1)), (3, (.if_icmp .ne 11, 3)), (6, (.aload_n 0, 1)), (7, (.invokevirtual 310, 3)), (10, (.checkcast 311, 3)), (13, (.areturn, 1)), (14, (.iload_n 1, 1)), (15, (.newarray .byte, 2)), (17, (.astore_n 2, 1)), (18, (.aload_n 0, 1)), (19, (.iconst 0, 1)), (20, (.aload_n 2, 1)), (21, (.iconst 0, 1)), (22, (.aload_n 0, 1)), (23, (.arraylength, 1)), (24, (.iload_n 1, 1)), (25, (.invokestatic 304, 3)), (28, (.invokestatic 150, 3)), (31, (.aload_n 2, 1)), (32, (.areturn, 1))] : List (Nat × (Jvm.ClassFile.Instr × Nat))).all (dcB cJ7_copyOf_9075b) = true := by decide +kernel
theorem dJ7_copyOf_9075b_0 : decode cJ7_copyOf_9075b 0 = .ok (.iload_n 1, 1) := dget dkJ7_copyOf_9075b_0 0 rfl
theorem dJ7_copyOf_9075b_1 : decode cJ7_copyOf_9075b 1 = .ok (.aload_n 0, 1) := dget dkJ7_copyOf_9075b_0 1 rfl
theorem dJ7_copyOf_9075b_2 : decode cJ7_copyOf_9075b 2 = .ok (.arraylength, 1) := dget dkJ7_copyOf_9075b_0 2 rfl
theorem dJ7_copyOf_9075b_3 : decode cJ7_copyOf_9075b 3 = .ok (.if_icmp .ne 11, 3) := dget dkJ7_copyOf_9075b_0 3 rfl
theorem dJ7_copyOf_9075b_14 : decode cJ7_copyOf_9075b 14 = .ok (.iload_n 1, 1) := dget dkJ7_copyOf_9075b_0 8 rfl
theorem dJ7_copyOf_9075b_15 : decode cJ7_copyOf_9075b 15 = .ok (.newarray .byte, 2) := dget dkJ7_copyOf_9075b_0 9 rfl
theorem dJ7_copyOf_9075b_17 : decode cJ7_copyOf_9075b 17 = .ok (.astore_n 2, 1) := dget dkJ7_copyOf_9075b_0 10 rfl
theorem dJ7_copyOf_9075b_18 : decode cJ7_copyOf_9075b 18 = .ok (.aload_n 0, 1) := dget dkJ7_copyOf_9075b_0 11 rfl
theorem dJ7_copyOf_9075b_19 : decode cJ7_copyOf_9075b 19 = .ok (.iconst 0, 1) := dget dkJ7_copyOf_9075b_0 12 rfl
theorem dJ7_copyOf_9075b_20 : decode cJ7_copyOf_9075b 20 = .ok (.aload_n 2, 1) := dget dkJ7_copyOf_9075b_0 13 rfl
theorem dJ7_copyOf_9075b_21 : decode cJ7_copyOf_9075b 21 = .ok (.iconst 0, 1) := dget dkJ7_copyOf_9075b_0 14 rfl
theorem dJ7_copyOf_9075b_22 : decode cJ7_copyOf_9075b 22 = .ok (.aload_n 0, 1) := dget dkJ7_copyOf_9075b_0 15 rfl
theorem dJ7_copyOf_9075b_23 : decode cJ7_copyOf_9075b 23 = .ok (.arraylength, 1) := dget dkJ7_copyOf_9075b_0 16 rfl
theorem dJ7_copyOf_9075b_24 : decode cJ7_copyOf_9075b 24 = .ok (.iload_n 1, 1) := dget dkJ7_copyOf_9075b_0 17 rfl
theorem dJ7_copyOf_9075b_25 : decode cJ7_copyOf_9075b 25 = .ok (.invokestatic 304, 3) := dget dkJ7_copyOf_9075b_0 18 rfl
theorem dJ7_copyOf_9075b_28 : decode cJ7_copyOf_9075b 28 = .ok (.invokestatic 150, 3) := dget dkJ7_copyOf_9075b_0 19 rfl
theorem dJ7_copyOf_9075b_31 : decode cJ7_copyOf_9075b 31 = .ok (.aload_n 2, 1) := dget dkJ7_copyOf_9075b_0 20 rfl
theorem dJ7_copyOf_9075b_32 : decode cJ7_copyOf_9075b 32 = .ok (.areturn, 1) := dget dkJ7_copyOf_9075b_0 21 rfl
theorem dkJ7_checkLength_df160_0 : ([(0, (.iload_n 1, 1)), (1, (.iload_n 0, 1)), (2, (.if_icmp .ge 35, 3)), (5, (.new 43, 3)), (8, (.dup, 1)), (9, (.new 45, 3)), (12, (.dup, 1)), (13, (.invokespecial 47, 3)), (16, (.iload_n 0, 1)), (17, (.invokevirtual 54, 3)), (20, (.ldc_w 337, 3)), (23, (.invokevirtual 50, 3)), (26, (.iload_n 1, 1)), (27, (.invokevirtual 54, 3)), (30, (.invokevirtual 61, 3)), (33, (.invokespecial 65, 3)), (36, (.athrow, 1)), (37, (.return_, 1))] : List (Nat × (Jvm.ClassFile.Instr × Nat))).all (dcB cJ7_checkLength_df160) = true := by decide +kernel
theorem dJ7_checkLength_df160_0 : decode cJ7_checkLength_df160 0 = .ok (.iload_n 1, 1) := dget dkJ7_checkLength_df160_0 0 rfl
theorem dJ7_checkLength_df160_1 : decode cJ7_checkLength_df160 1 = .ok (.iload_n 0, 1) := dget dkJ7_checkLength_df160_0 1 rfl
theorem dJ7_checkLength_df160_2 : decode cJ7_checkLength_df160 2 = .ok (.if_icmp .ge 35, 3) := dget dkJ7_checkLength_df160_0 2 rfl
theorem dJ7_checkLength_df160_37 : decode cJ7_checkLength_df160 37 = .ok (.return_, 1) := dget dkJ7_checkLength_df160_0 17 rfl
theorem ggJ7_copyOfRange_39247_J7_copyOfRangeByte_39247 : GoodIn wsJ7_copyOfRange_39247 wsJ7_copyOfRangeByte_39247 := tgCall 369 e_J7_copyOfRangeByte_39247 (by decide +kernel)
theorem gJ7_copyOfRange_39247_J7_copyOfRangeByte_39247 : GoodIn wsJ7_copyOfRange_39247 (va_wsS RJ7 339 yJ7_copyOfRangeByte_39247 wsJ7_copyOfRangeByte_39247) := goodIn_app (tgIn [367, 368, 238] (by decide +kernel) rfl) ggJ7_copyOfRange_39247_J7_copyOfRangeByte_39247
theorem dkJ7_copyOfRange_39247_0 : ([(0, (.iload_n 1, 1)), (1, (.ifCond .ne 9, 3)), (4, (.iload_n 2, 1)), (5, (.aload_n 0, 1)), (6, (.arraylength, 1)), (7, (.if_icmp .eq 10, 3)), (10, (.aload_n 0, 1)), (11, (.iload_n 1, 1)), (12, (.iload_n 2, 1)), (13, (.invokestatic 339, 3)), (16, (.areturn, 1)), (17, (.aload_n 0, 1)), (18, (.invokevirtual 310, 3)), (21, (.checkcast 311, 3)), (24, (.areturn, 1))] : List (Nat × (Jvm.ClassFile.Instr × Nat))).all (dcB cJ7_copyOfRange_39247) = true := by decide +kernel
theorem dJ7_copyOfRange_39247_0 : decode cJ7_copyOfRange_39247 0 = .ok (.iload_n 1, 1) := dget dkJ7_copyOfRange_39247_0 0 rfl
theorem dJ7_copyOfRange_39247_1 : decode cJ7_copyOfRange_39247 1 = .ok (.ifCond .ne 9, 3) := dget dkJ7_copyOfRange_39247_0 1 rfl
theorem dJ7_copyOfRange_39247_4 : decode cJ7_copyOfRange_39247 4 = .ok (.iload_n 2, 1) := dget dkJ7_copyOfRange_39247_0 2 rfl
theorem dJ7_copyOfRange_39247_5 : decode cJ7_copyOfRange_39247 5 = .ok (.aload_n 0, 1) := dget dkJ7_copyOfRange_39247_0 3 rfl
theorem dJ7_copyOfRange_39247_6 : decode cJ7_copyOfRange_39247 6 = .ok (.arraylength, 1) := dget dkJ7_copyOfRange_39247_0 4 rfl
theorem dJ7_copyOfRange_39247_7 : decode cJ7_copyOfRange_39247 7 = .ok (.if_icmp .eq 10, 3) := dget dkJ7_copyOfRange_39247_0 5 rfl
theorem dJ7_copyOfRange_39247_10 : decode cJ7_copyOfRange_39247 10 = .ok (.aload_n 0, 1) := dget dkJ7_copyOfRange_39247_0 6 rfl
theorem dJ7_copyOfRange_39247_11 : decode cJ7_copyOfRange_39247 11 = .ok (.iload_n 1, 1) := dget dkJ7_copyOfRange_39247_0 7 rfl
theorem dJ7_copyOfRange_39247_12 : decode cJ7_copyOfRange_39247 12 = .ok (.iload_n 2, 1) := dget dkJ7_copyOfRange_39247_0 8 rfl
theorem dJ7_copyOfRange_39247_13 : decode cJ7_copyOfRange_39247 13 = .ok (.invokestatic 339, 3) := dget dkJ7_copyOfRange_39247_0 9 rfl
theorem dJ7_copyOfRange_39247_16 : decode cJ7_copyOfRange_39247 16 = .ok (.areturn, 1) := dget dkJ7_copyOfRange_39247_0 10 rfl
theorem dJ7_copyOfRange_39247_17 : decode cJ7_copyOfRange_39247 17 = .ok (.aload_n 0, 1) := dget dkJ7_copyOfRange_39247_0 11 rfl
theorem dJ7_copyOfRange_39247_18 : decode cJ7_copyOfRange_39247 18 = .ok (.invokevirtual 310, 3) := dget dkJ7_copyOfRange_39247_0 12 rfl
theorem dJ7_copyOfRange_39247_21 : decode cJ7_copyOfRange_39247 21 = .ok (.checkcast 311, 3) := dget dkJ7_copyOfRange_39247_0 13 rfl
theorem dJ7_copyOfRange_39247_24 : decode cJ7_copyOfRange_39247 24 = .ok (.areturn, 1) := dget dkJ7_copyOfRange_39247_0 14 rfl
theorem ggJ7_copyOfRangeByte_39247_J7_checkLength_df160 : GoodIn wsJ7_copyOfRangeByte_39247 wsJ7_checkLength_df160 := tgCall 372 e_J7_checkLength_df160 (by decide +kernel)
theorem gJ7_copyOfRangeByte_39247_J7_checkLength_df160 : GoodIn wsJ7_copyOfRangeByte_39247 (va_wsS RJ7 343 yJ7_checkLength_df160 wsJ7_checkLength_df160) := goodIn_app (tgIn [370, 371, 238] (by decide +kernel) rfl) ggJ7_copyOfRangeByte_39247_J7_checkLength_df160
theorem dkJ7_copyOfRangeByte_39247_0 : ([(0, (.iload_n 1, 1)), (1, (.iload_n 2, 1)), (2, (.invokestatic 343, 3)), (5, (.iload_n 2, 1)), (6, (.iload_n 1, 1)), (7, (.isub, 1)), (8, (.istore_n 3, 1)), (9, (.iload_n 3, 1)), (10, (.newarray .byte, 2)), (12, (.astore 4, 2)), (14, (.aload_n 0, 1)), (15, (.iload_n 1, 1)), (16, (.aload 4, 2)), (18, (.iconst 0, 1)), (19, (.aload_n 0, 1)), (20, (.arraylength, 1)), (21, (.iload_n 1, 1)), (22, (.isub, 1)), (23, (.iload_n 3, 1)), (24, (.invokestatic 304, 3)), (27, (.invokestatic 150, 3)), (30, (.aload 4, 2)), (32, (.areturn, 1))] : List (Nat × (Jvm.ClassFile.Instr × Nat))).all (dcB cJ7_copyOfRangeByte_39247) = true := by decide +kernel
theorem dJ7_copyOfRangeByte_39247_0 : decode cJ7_copyOfRangeByte_39247 0 = .ok (.iload_n 1, 1) := dget dkJ7_copyOfRangeByte_39247_0 0 rfl
theorem dJ7_copyOfRangeByte_39247_1 : decode cJ7_copyOfRangeByte_39247 1 = .ok (.iload_n 2, 1) := dget dkJ7_copyOfRangeByte_39247_0 1 rfl
theorem dJ7_copyOfRangeByte_39247_2 : decode cJ7_copyOfRangeByte_39247 2 = .ok (.invokestatic 343, 3) := dget dkJ7_copyOfRangeByte_39247_0 2 rfl
theorem dJ7_copyOfRangeByte_39247_5 : decode cJ7_copyOfRangeByte_39247 5 = .ok (.iload_n 2, 1) := dget dkJ7_copyOfRangeByte_39247_0 3 rfl
theorem dJ7_copyOfRangeByte_39247_6 : decode cJ7_copyOfRangeByte_39247 6 = .ok (.iload_n 1, 1) := dget dkJ7_copyOfRangeByte_39247_0 4 rfl
theorem dJ7_copyOfRangeByte_39247_7 : decode cJ7_copyOfRangeByte_39247 7 = .ok (.isub, 1) := dget dkJ7_copyOfRangeByte_39247_0 5 rfl
theorem dJ7_copyOfRangeByte_39247_8 : decode cJ7_copyOfRangeByte_39247 8 = .ok (.istore_n 3, 1) := dget dkJ7_copyOfRangeByte_39247_0 6 rfl
theorem dJ7_copyOfRangeByte_39247_9 : decode cJ7_copyOfRangeByte_39247 9 = .ok (.iload_n 3, 1) := dget dkJ7_copyOfRangeByte_39247_0 7 rfl
theorem dJ7_copyOfRangeByte_39247_10 : decode cJ7_copyOfRangeByte_39247 10 = .ok (.newarray .byte, 2) := dget dkJ7_copyOfRangeByte_39247_0 8 rfl
theorem dJ7_copyOfRangeByte_39247_12 : decode cJ7_copyOfRangeByte_39247 12 = .ok (.astore 4, 2) := dget dkJ7_copyOfRangeByte_39247_0 9 rfl
theorem dJ7_copyOfRangeByte_39247_14 : decode cJ7_copyOfRangeByte_39247 14 = .ok (.aload_n 0, 1) := dget dkJ7_copyOfRangeByte_39247_0 10 rfl
theorem dJ7_copyOfRangeByte_39247_15 : decode cJ7_copyOfRangeByte_39247 15 = .ok (.iload_n 1, 1) := dget dkJ7_copyOfRangeByte_39247_0 11 rfl
theorem dJ7_copyOfRangeByte_39247_16 : decode cJ7_copyOfRangeByte_39247 16 = .ok (.aload 4, 2) := dget dkJ7_copyOfRangeByte_39247_0 12 rfl
theorem dJ7_copyOfRangeByte_39247_18 : decode cJ7_copyOfRangeByte_39247 18 = .ok (.iconst 0, 1) := dget dkJ7_copyOfRangeByte_39247_0 13 rfl
theorem dJ7_copyOfRangeByte_39247_19 : decode cJ7_copyOfRangeByte_39247 19 = .ok (.aload_n 0, 1) := dget dkJ7_copyOfRangeByte_39247_0 14 rfl
theorem dJ7_copyOfRangeByte_39247_20 : decode cJ7_copyOfRangeByte_39247 20 = .ok (.arraylength, 1) := dget dkJ7_copyOfRangeByte_39247_0 15 rfl
theorem dJ7_copyOfRangeByte_39247_21 : decode cJ7_copyOfRangeByte_39247 21 = .ok (.iload_n 1, 1) := dget dkJ7_copyOfRangeByte_39247_0 16 rfl
theorem dJ7_copyOfRangeByte_39247_22 : decode cJ7_copyOfRangeByte_39247 22 = .ok (.isub, 1) := dget dkJ7_copyOfRangeByte_39247_0 17 rfl
theorem dJ7_copyOfRangeByte_39247_23 : decode cJ7_copyOfRangeByte_39247 23 = .ok (.iload_n 3, 1) := dget dkJ7_copyOfRangeByte_39247_0 18 rfl
theorem dJ7_copyOfRangeByte_39247_24 : decode cJ7_copyOfRangeByte_39247 24 = .ok (.invokestatic 304, 3) := dget dkJ7_copyOfRangeByte_39247_0 19 rfl
theorem dJ7_copyOfRangeByte_39247_27 : decode cJ7_copyOfRangeByte_39247 27 = .ok (.invokestatic 150, 3) := dget dkJ7_copyOfRangeByte_39247_0 20 rfl
theorem dJ7_copyOfRangeByte_39247_30 : decode cJ7_copyOfRangeByte_39247 30 = .ok (.aload 4, 2) := dget dkJ7_copyOfRangeByte_39247_0 21 rfl
theorem dJ7_copyOfRangeByte_39247_32 : decode cJ7_copyOfRangeByte_39247 32 = .ok (.areturn, 1) := dget dkJ7_copyOfRangeByte_39247_0 22 rfl
theorem dkJ8_newLength_cabcc_0 : ([(0, (.iload_n 0, 1)), (1, (.iload_n 1, 1)), (2, (.iload_n 2, 1)), (3, (.invokestatic 194, 3)), (6, (.iadd, 1)), (7, (.istore_n 3, 1)), (8, (.iconst 0, 1)), (9, (.iload_n 3, 1)), (10, (.if_icmp .ge 11, 3)), (13, (.iload_n 3, 1)), (14, (.ldc 200, 2)), (16, (.if_icmp .gt 5, 3)), (19, (.iload_n 3, 1)), (20, (.ireturn, 1)), (21, (.iload_n 0, 1)), (22, (.iload_n 1, 1)), (23, (.invokestatic 201, 3)), (26, (.ireturn, 1))] : List (Nat × (Jvm.ClassFile.Instr × Nat))).all (dcB cJ8_newLength_cabcc) = true := by decide +kernel
theorem dJ8_newLength_cabcc_0 : decode cJ8_newLength_cabcc 0 = .ok (.iload_n 0, 1) := dget dkJ8_newLength_cabcc_0 0 rfl
theorem dJ8_newLength_cabcc_1 : decode cJ8_newLength_cabcc 1 = .ok (.iload_n 1, 1) := dget dkJ8_newLength_cabcc_0 1 rfl
theorem dJ8_newLength_cabcc_2 : decode cJ8_newLength_cabcc 2 = .ok (.iload_n 2, 1) := dget dkJ8_newLength_cabcc_0 2 rfl
theorem dJ8_newLength_cabcc_3 : decode cJ8_newLength_cabcc 3 = .ok (.invokestatic 194, 3) := dget dkJ8_newLength_cabcc_0 3 rfl
theorem dJ8_newLength_cabcc_6 : decode cJ8_newLength_cabcc 6 = .ok (.iadd, 1) := dget dkJ8_newLength_cabcc_0 4 rfl
theorem dJ8_newLength_cabcc_7 : decode cJ8_newLength_cabcc 7 = .ok (.istore_n 3, 1) := dget dkJ8_newLength_cabcc_0 5 rfl
theorem dJ8_newLength_cabcc_8 : decode cJ8_newLength_cabcc 8 = .ok (.iconst 0, 1) := dget dkJ8_newLength_cabcc_0 6 rfl
theorem dJ8_newLength_cabcc_9 : decode cJ8_newLength_cabcc 9 = .ok (.iload_n 3, 1) := dget dkJ8_newLength_cabcc_0 7 rfl
theorem dJ8_newLength_cabcc_10 : decode cJ8_newLength_cabcc 10 = .ok (.if_icmp .ge 11, 3) := dget dkJ8_newLength_cabcc_0 8 rfl
theorem dJ8_newLength_cabcc_13 : decode cJ8_newLength_cabcc 13 = .ok (.iload_n 3, 1) := dget dkJ8_newLength_cabcc_0 9 rfl
theorem dJ8_newLength_cabcc_14 : decode cJ8_newLength_cabcc 14 = .ok (.ldc 200, 2) := dget dkJ8_newLength_cabcc_0 10 rfl
theorem dJ8_newLength_cabcc_16 : decode cJ8_newLength_cabcc 16 = .ok (.if_icmp .gt 5, 3) := dget dkJ8_newLength_cabcc_0 11 rfl
theorem dJ8_newLength_cabcc_19 : decode cJ8_newLength_cabcc 19 = .ok (.iload_n 3, 1) := dget dkJ8_newLength_cabcc_0 12 rfl
theorem dJ8_newLength_cabcc_20 : decode cJ8_newLength_cabcc 20 = .ok (.ireturn, 1) := dget dkJ8_newLength_cabcc_0 13 rfl
