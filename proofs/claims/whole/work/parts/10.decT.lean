theorem d_T_init_0 : decode (iC M_T_init) 0 = .ok (.aload_n 0, 1) := by decide +kernel
theorem d_T_init_1 : decode (iC M_T_init) 1 = .ok (.invokespecial 5, 3) := by decide +kernel
theorem d_T_init_4 : decode (iC M_T_init) 4 = .ok (.aload_n 0, 1) := by decide +kernel
theorem d_T_init_5 : decode (iC M_T_init) 5 = .ok (.sipush 4000, 3) := by decide +kernel
theorem d_T_init_8 : decode (iC M_T_init) 8 = .ok (.newarray .byte, 2) := by decide +kernel
theorem d_T_init_10 : decode (iC M_T_init) 10 = .ok (.putfield 11, 3) := by decide +kernel
theorem d_T_init_13 : decode (iC M_T_init) 13 = .ok (.aload_n 0, 1) := by decide +kernel
theorem d_T_init_14 : decode (iC M_T_init) 14 = .ok (.iconst (-1), 1) := by decide +kernel
theorem d_T_init_15 : decode (iC M_T_init) 15 = .ok (.putfield 15, 3) := by decide +kernel
theorem d_T_init_18 : decode (iC M_T_init) 18 = .ok (.return_, 1) := by decide +kernel
theorem d_T_byteCount_0 : decode (iC M_T_byteCount) 0 = .ok (.aload_n 0, 1) := by decide +kernel
theorem d_T_byteCount_1 : decode (iC M_T_byteCount) 1 = .ok (.getfield 19, 3) := by decide +kernel
theorem d_T_byteCount_4 : decode (iC M_T_byteCount) 4 = .ok (.bipush 7, 2) := by decide +kernel
theorem d_T_byteCount_6 : decode (iC M_T_byteCount) 6 = .ok (.iadd, 1) := by decide +kernel
theorem d_T_byteCount_7 : decode (iC M_T_byteCount) 7 = .ok (.iconst 3, 1) := by decide +kernel
theorem d_T_byteCount_8 : decode (iC M_T_byteCount) 8 = .ok (.ishr, 1) := by decide +kernel
theorem d_T_byteCount_9 : decode (iC M_T_byteCount) 9 = .ok (.ireturn, 1) := by decide +kernel
theorem d_T_cut_0 : decode (iC M_T_cut) 0 = .ok (.iload_n 1, 1) := by decide +kernel
theorem d_T_cut_1 : decode (iC M_T_cut) 1 = .ok (.ifCond .lt 11, 3) := by decide +kernel
theorem d_T_cut_4 : decode (iC M_T_cut) 4 = .ok (.iload_n 1, 1) := by decide +kernel
theorem d_T_cut_5 : decode (iC M_T_cut) 5 = .ok (.aload_n 0, 1) := by decide +kernel
theorem d_T_cut_6 : decode (iC M_T_cut) 6 = .ok (.invokevirtual 22, 3) := by decide +kernel
theorem d_T_cut_9 : decode (iC M_T_cut) 9 = .ok (.if_icmp .le 5, 3) := by decide +kernel
theorem d_T_cut_12 : decode (iC M_T_cut) 12 = .ok (.iconst 0, 1) := by decide +kernel
theorem d_T_cut_13 : decode (iC M_T_cut) 13 = .ok (.ireturn, 1) := by decide +kernel
theorem d_T_cut_14 : decode (iC M_T_cut) 14 = .ok (.aload_n 0, 1) := by decide +kernel
theorem d_T_cut_15 : decode (iC M_T_cut) 15 = .ok (.bipush 8, 2) := by decide +kernel
theorem d_T_cut_17 : decode (iC M_T_cut) 17 = .ok (.iload_n 1, 1) := by decide +kernel
theorem d_T_cut_18 : decode (iC M_T_cut) 18 = .ok (.imul, 1) := by decide +kernel
theorem d_T_cut_19 : decode (iC M_T_cut) 19 = .ok (.putfield 19, 3) := by decide +kernel
theorem d_T_cut_22 : decode (iC M_T_cut) 22 = .ok (.iconst 1, 1) := by decide +kernel
theorem d_T_cut_23 : decode (iC M_T_cut) 23 = .ok (.ireturn, 1) := by decide +kernel
theorem d_T_append_0 : decode (iC M_T_append) 0 = .ok (.iload_n 2, 1) := by decide +kernel
theorem d_T_append_1 : decode (iC M_T_append) 1 = .ok (.iconst 1, 1) := by decide +kernel
theorem d_T_append_2 : decode (iC M_T_append) 2 = .ok (.if_icmp .lt 21, 3) := by decide +kernel
theorem d_T_append_5 : decode (iC M_T_append) 5 = .ok (.iload_n 2, 1) := by decide +kernel
theorem d_T_append_6 : decode (iC M_T_append) 6 = .ok (.bipush 32, 2) := by decide +kernel
theorem d_T_append_8 : decode (iC M_T_append) 8 = .ok (.if_icmp .gt 15, 3) := by decide +kernel
theorem d_T_append_11 : decode (iC M_T_append) 11 = .ok (.aload_n 0, 1) := by decide +kernel
theorem d_T_append_12 : decode (iC M_T_append) 12 = .ok (.getfield 19, 3) := by decide +kernel
theorem d_T_append_15 : decode (iC M_T_append) 15 = .ok (.iload_n 2, 1) := by decide +kernel
theorem d_T_append_16 : decode (iC M_T_append) 16 = .ok (.iadd, 1) := by decide +kernel
theorem d_T_append_17 : decode (iC M_T_append) 17 = .ok (.sipush 32000, 3) := by decide +kernel
theorem d_T_append_20 : decode (iC M_T_append) 20 = .ok (.if_icmp .le 5, 3) := by decide +kernel
theorem d_T_append_23 : decode (iC M_T_append) 23 = .ok (.iconst (-1), 1) := by decide +kernel
theorem d_T_append_24 : decode (iC M_T_append) 24 = .ok (.ireturn, 1) := by decide +kernel
theorem d_T_append_25 : decode (iC M_T_append) 25 = .ok (.iload_n 2, 1) := by decide +kernel
theorem d_T_append_26 : decode (iC M_T_append) 26 = .ok (.iconst 1, 1) := by decide +kernel
theorem d_T_append_27 : decode (iC M_T_append) 27 = .ok (.isub, 1) := by decide +kernel
theorem d_T_append_28 : decode (iC M_T_append) 28 = .ok (.istore_n 3, 1) := by decide +kernel
theorem d_T_append_29 : decode (iC M_T_append) 29 = .ok (.iload_n 3, 1) := by decide +kernel
theorem d_T_append_30 : decode (iC M_T_append) 30 = .ok (.ifCond .lt 18, 3) := by decide +kernel
theorem d_T_append_33 : decode (iC M_T_append) 33 = .ok (.aload_n 0, 1) := by decide +kernel
theorem d_T_append_34 : decode (iC M_T_append) 34 = .ok (.iload_n 1, 1) := by decide +kernel
theorem d_T_append_35 : decode (iC M_T_append) 35 = .ok (.iload_n 3, 1) := by decide +kernel
theorem d_T_append_36 : decode (iC M_T_append) 36 = .ok (.ishr, 1) := by decide +kernel
theorem d_T_append_37 : decode (iC M_T_append) 37 = .ok (.iconst 1, 1) := by decide +kernel
theorem d_T_append_38 : decode (iC M_T_append) 38 = .ok (.iand, 1) := by decide +kernel
theorem d_T_append_39 : decode (iC M_T_append) 39 = .ok (.invokevirtual 26, 3) := by decide +kernel
theorem d_T_append_42 : decode (iC M_T_append) 42 = .ok (.iinc 3 (-1), 3) := by decide +kernel
theorem d_T_append_45 : decode (iC M_T_append) 45 = .ok (.goto (-16), 3) := by decide +kernel
theorem d_T_append_48 : decode (iC M_T_append) 48 = .ok (.aload_n 0, 1) := by decide +kernel
theorem d_T_append_49 : decode (iC M_T_append) 49 = .ok (.getfield 19, 3) := by decide +kernel
theorem d_T_append_52 : decode (iC M_T_append) 52 = .ok (.ireturn, 1) := by decide +kernel
theorem d_T_appendBit_0 : decode (iC M_T_appendBit) 0 = .ok (.aload_n 0, 1) := by decide +kernel
theorem d_T_appendBit_1 : decode (iC M_T_appendBit) 1 = .ok (.getfield 19, 3) := by decide +kernel
theorem d_T_appendBit_4 : decode (iC M_T_appendBit) 4 = .ok (.iconst 3, 1) := by decide +kernel
theorem d_T_appendBit_5 : decode (iC M_T_appendBit) 5 = .ok (.ishr, 1) := by decide +kernel
theorem d_T_appendBit_6 : decode (iC M_T_appendBit) 6 = .ok (.istore_n 2, 1) := by decide +kernel
theorem d_T_appendBit_7 : decode (iC M_T_appendBit) 7 = .ok (.aload_n 0, 1) := by decide +kernel
theorem d_T_appendBit_8 : decode (iC M_T_appendBit) 8 = .ok (.getfield 19, 3) := by decide +kernel
theorem d_T_appendBit_11 : decode (iC M_T_appendBit) 11 = .ok (.bipush 7, 2) := by decide +kernel
theorem d_T_appendBit_13 : decode (iC M_T_appendBit) 13 = .ok (.iand, 1) := by decide +kernel
theorem d_T_appendBit_14 : decode (iC M_T_appendBit) 14 = .ok (.istore_n 3, 1) := by decide +kernel
theorem d_T_appendBit_15 : decode (iC M_T_appendBit) 15 = .ok (.iload_n 3, 1) := by decide +kernel
theorem d_T_appendBit_16 : decode (iC M_T_appendBit) 16 = .ok (.ifCond .ne 7, 3) := by decide +kernel
theorem d_T_appendBit_19 : decode (iC M_T_appendBit) 19 = .ok (.iconst 0, 1) := by decide +kernel
theorem d_T_appendBit_20 : decode (iC M_T_appendBit) 20 = .ok (.goto 9, 3) := by decide +kernel
theorem d_T_appendBit_23 : decode (iC M_T_appendBit) 23 = .ok (.aload_n 0, 1) := by decide +kernel
theorem d_T_appendBit_24 : decode (iC M_T_appendBit) 24 = .ok (.getfield 11, 3) := by decide +kernel
theorem d_T_appendBit_27 : decode (iC M_T_appendBit) 27 = .ok (.iload_n 2, 1) := by decide +kernel
theorem d_T_appendBit_28 : decode (iC M_T_appendBit) 28 = .ok (.baload, 1) := by decide +kernel
theorem d_T_appendBit_29 : decode (iC M_T_appendBit) 29 = .ok (.istore 4, 2) := by decide +kernel
theorem d_T_appendBit_31 : decode (iC M_T_appendBit) 31 = .ok (.aload_n 0, 1) := by decide +kernel
theorem d_T_appendBit_32 : decode (iC M_T_appendBit) 32 = .ok (.getfield 11, 3) := by decide +kernel
theorem d_T_appendBit_35 : decode (iC M_T_appendBit) 35 = .ok (.iload_n 2, 1) := by decide +kernel
theorem d_T_appendBit_36 : decode (iC M_T_appendBit) 36 = .ok (.iload 4, 2) := by decide +kernel
theorem d_T_appendBit_38 : decode (iC M_T_appendBit) 38 = .ok (.iload_n 1, 1) := by decide +kernel
theorem d_T_appendBit_39 : decode (iC M_T_appendBit) 39 = .ok (.bipush 7, 2) := by decide +kernel
theorem d_T_appendBit_41 : decode (iC M_T_appendBit) 41 = .ok (.iload_n 3, 1) := by decide +kernel
theorem d_T_appendBit_42 : decode (iC M_T_appendBit) 42 = .ok (.isub, 1) := by decide +kernel
theorem d_T_appendBit_43 : decode (iC M_T_appendBit) 43 = .ok (.ishl, 1) := by decide +kernel
theorem d_T_appendBit_44 : decode (iC M_T_appendBit) 44 = .ok (.ior, 1) := by decide +kernel
theorem d_T_appendBit_45 : decode (iC M_T_appendBit) 45 = .ok (.i2b, 1) := by decide +kernel
theorem d_T_appendBit_46 : decode (iC M_T_appendBit) 46 = .ok (.bastore, 1) := by decide +kernel
theorem d_T_appendBit_47 : decode (iC M_T_appendBit) 47 = .ok (.aload_n 0, 1) := by decide +kernel
theorem d_T_appendBit_48 : decode (iC M_T_appendBit) 48 = .ok (.dup, 1) := by decide +kernel
theorem d_T_appendBit_49 : decode (iC M_T_appendBit) 49 = .ok (.getfield 19, 3) := by decide +kernel
theorem d_T_appendBit_52 : decode (iC M_T_appendBit) 52 = .ok (.iconst 1, 1) := by decide +kernel
theorem d_T_appendBit_53 : decode (iC M_T_appendBit) 53 = .ok (.iadd, 1) := by decide +kernel
theorem d_T_appendBit_54 : decode (iC M_T_appendBit) 54 = .ok (.putfield 19, 3) := by decide +kernel
theorem d_T_appendBit_57 : decode (iC M_T_appendBit) 57 = .ok (.return_, 1) := by decide +kernel
theorem d_T_rewind_0 : decode (iC M_T_rewind) 0 = .ok (.aload_n 0, 1) := by decide +kernel
theorem d_T_rewind_1 : decode (iC M_T_rewind) 1 = .ok (.aload_n 0, 1) := by decide +kernel
theorem d_T_rewind_2 : decode (iC M_T_rewind) 2 = .ok (.invokevirtual 22, 3) := by decide +kernel
theorem d_T_rewind_5 : decode (iC M_T_rewind) 5 = .ok (.invokevirtual 30, 3) := by decide +kernel
theorem d_T_rewind_8 : decode (iC M_T_rewind) 8 = .ok (.pop, 1) := by decide +kernel
theorem d_T_rewind_9 : decode (iC M_T_rewind) 9 = .ok (.aload_n 0, 1) := by decide +kernel
theorem d_T_rewind_10 : decode (iC M_T_rewind) 10 = .ok (.iconst 0, 1) := by decide +kernel
theorem d_T_rewind_11 : decode (iC M_T_rewind) 11 = .ok (.putfield 34, 3) := by decide +kernel
theorem d_T_rewind_14 : decode (iC M_T_rewind) 14 = .ok (.aload_n 0, 1) := by decide +kernel
theorem d_T_rewind_15 : decode (iC M_T_rewind) 15 = .ok (.iconst (-1), 1) := by decide +kernel
theorem d_T_rewind_16 : decode (iC M_T_rewind) 16 = .ok (.putfield 15, 3) := by decide +kernel
theorem d_T_rewind_19 : decode (iC M_T_rewind) 19 = .ok (.return_, 1) := by decide +kernel
theorem d_T_expect_0 : decode (iC M_T_expect) 0 = .ok (.iload_n 2, 1) := by decide +kernel
theorem d_T_expect_1 : decode (iC M_T_expect) 1 = .ok (.iconst 1, 1) := by decide +kernel
theorem d_T_expect_2 : decode (iC M_T_expect) 2 = .ok (.isub, 1) := by decide +kernel
theorem d_T_expect_3 : decode (iC M_T_expect) 3 = .ok (.istore_n 3, 1) := by decide +kernel
theorem d_T_expect_4 : decode (iC M_T_expect) 4 = .ok (.iload_n 3, 1) := by decide +kernel
theorem d_T_expect_5 : decode (iC M_T_expect) 5 = .ok (.ifCond .lt 31, 3) := by decide +kernel
theorem d_T_expect_8 : decode (iC M_T_expect) 8 = .ok (.aload_n 0, 1) := by decide +kernel
theorem d_T_expect_9 : decode (iC M_T_expect) 9 = .ok (.invokevirtual 40, 3) := by decide +kernel
theorem d_T_expect_12 : decode (iC M_T_expect) 12 = .ok (.iload_n 1, 1) := by decide +kernel
theorem d_T_expect_13 : decode (iC M_T_expect) 13 = .ok (.iload_n 3, 1) := by decide +kernel
theorem d_T_expect_14 : decode (iC M_T_expect) 14 = .ok (.ishr, 1) := by decide +kernel
theorem d_T_expect_15 : decode (iC M_T_expect) 15 = .ok (.iconst 1, 1) := by decide +kernel
theorem d_T_expect_16 : decode (iC M_T_expect) 16 = .ok (.iand, 1) := by decide +kernel
theorem d_T_expect_17 : decode (iC M_T_expect) 17 = .ok (.if_icmp .eq 13, 3) := by decide +kernel
theorem d_T_expect_20 : decode (iC M_T_expect) 20 = .ok (.aload_n 0, 1) := by decide +kernel
theorem d_T_expect_21 : decode (iC M_T_expect) 21 = .ok (.aload_n 0, 1) := by decide +kernel
theorem d_T_expect_22 : decode (iC M_T_expect) 22 = .ok (.getfield 34, 3) := by decide +kernel
theorem d_T_expect_25 : decode (iC M_T_expect) 25 = .ok (.iconst 1, 1) := by decide +kernel
theorem d_T_expect_26 : decode (iC M_T_expect) 26 = .ok (.isub, 1) := by decide +kernel
theorem d_T_expect_27 : decode (iC M_T_expect) 27 = .ok (.invokevirtual 47, 3) := by decide +kernel
theorem d_T_expect_30 : decode (iC M_T_expect) 30 = .ok (.iinc 3 (-1), 3) := by decide +kernel
theorem d_T_expect_33 : decode (iC M_T_expect) 33 = .ok (.goto (-29), 3) := by decide +kernel
theorem d_T_expect_36 : decode (iC M_T_expect) 36 = .ok (.return_, 1) := by decide +kernel
theorem d_T_next_0 : decode (iC M_T_next) 0 = .ok (.aload_n 0, 1) := by decide +kernel
theorem d_T_next_1 : decode (iC M_T_next) 1 = .ok (.getfield 34, 3) := by decide +kernel
theorem d_T_next_4 : decode (iC M_T_next) 4 = .ok (.aload_n 0, 1) := by decide +kernel
theorem d_T_next_5 : decode (iC M_T_next) 5 = .ok (.getfield 19, 3) := by decide +kernel
theorem d_T_next_8 : decode (iC M_T_next) 8 = .ok (.if_icmp .lt 19, 3) := by decide +kernel
theorem d_T_next_11 : decode (iC M_T_next) 11 = .ok (.aload_n 0, 1) := by decide +kernel
theorem d_T_next_12 : decode (iC M_T_next) 12 = .ok (.aload_n 0, 1) := by decide +kernel
theorem d_T_next_13 : decode (iC M_T_next) 13 = .ok (.getfield 19, 3) := by decide +kernel
theorem d_T_next_16 : decode (iC M_T_next) 16 = .ok (.putfield 15, 3) := by decide +kernel
theorem d_T_next_19 : decode (iC M_T_next) 19 = .ok (.new 37, 3) := by decide +kernel
theorem d_T_next_22 : decode (iC M_T_next) 22 = .ok (.dup, 1) := by decide +kernel
theorem d_T_next_23 : decode (iC M_T_next) 23 = .ok (.invokespecial 39, 3) := by decide +kernel
theorem d_T_next_26 : decode (iC M_T_next) 26 = .ok (.athrow, 1) := by decide +kernel
theorem d_T_next_27 : decode (iC M_T_next) 27 = .ok (.aload_n 0, 1) := by decide +kernel
theorem d_T_next_28 : decode (iC M_T_next) 28 = .ok (.getfield 11, 3) := by decide +kernel
theorem d_T_next_31 : decode (iC M_T_next) 31 = .ok (.aload_n 0, 1) := by decide +kernel
theorem d_T_next_32 : decode (iC M_T_next) 32 = .ok (.getfield 34, 3) := by decide +kernel
theorem d_T_next_35 : decode (iC M_T_next) 35 = .ok (.iconst 3, 1) := by decide +kernel
theorem d_T_next_36 : decode (iC M_T_next) 36 = .ok (.ishr, 1) := by decide +kernel
theorem d_T_next_37 : decode (iC M_T_next) 37 = .ok (.baload, 1) := by decide +kernel
theorem d_T_next_38 : decode (iC M_T_next) 38 = .ok (.bipush 7, 2) := by decide +kernel
theorem d_T_next_40 : decode (iC M_T_next) 40 = .ok (.aload_n 0, 1) := by decide +kernel
theorem d_T_next_41 : decode (iC M_T_next) 41 = .ok (.getfield 34, 3) := by decide +kernel
theorem d_T_next_44 : decode (iC M_T_next) 44 = .ok (.bipush 7, 2) := by decide +kernel
theorem d_T_next_46 : decode (iC M_T_next) 46 = .ok (.iand, 1) := by decide +kernel
theorem d_T_next_47 : decode (iC M_T_next) 47 = .ok (.isub, 1) := by decide +kernel
theorem d_T_next_48 : decode (iC M_T_next) 48 = .ok (.ishr, 1) := by decide +kernel
theorem d_T_next_49 : decode (iC M_T_next) 49 = .ok (.iconst 1, 1) := by decide +kernel
theorem d_T_next_50 : decode (iC M_T_next) 50 = .ok (.iand, 1) := by decide +kernel
theorem d_T_next_51 : decode (iC M_T_next) 51 = .ok (.istore_n 1, 1) := by decide +kernel
theorem d_T_next_52 : decode (iC M_T_next) 52 = .ok (.aload_n 0, 1) := by decide +kernel
theorem d_T_next_53 : decode (iC M_T_next) 53 = .ok (.dup, 1) := by decide +kernel
theorem d_T_next_54 : decode (iC M_T_next) 54 = .ok (.getfield 34, 3) := by decide +kernel
theorem d_T_next_57 : decode (iC M_T_next) 57 = .ok (.iconst 1, 1) := by decide +kernel
theorem d_T_next_58 : decode (iC M_T_next) 58 = .ok (.iadd, 1) := by decide +kernel
theorem d_T_next_59 : decode (iC M_T_next) 59 = .ok (.putfield 34, 3) := by decide +kernel
theorem d_T_next_62 : decode (iC M_T_next) 62 = .ok (.iload_n 1, 1) := by decide +kernel
theorem d_T_next_63 : decode (iC M_T_next) 63 = .ok (.ireturn, 1) := by decide +kernel
theorem d_T_failAt_0 : decode (iC M_T_failAt) 0 = .ok (.aload_n 0, 1) := by decide +kernel
theorem d_T_failAt_1 : decode (iC M_T_failAt) 1 = .ok (.iload_n 1, 1) := by decide +kernel
theorem d_T_failAt_2 : decode (iC M_T_failAt) 2 = .ok (.putfield 15, 3) := by decide +kernel
theorem d_T_failAt_5 : decode (iC M_T_failAt) 5 = .ok (.new 37, 3) := by decide +kernel
theorem d_T_failAt_8 : decode (iC M_T_failAt) 8 = .ok (.dup, 1) := by decide +kernel
theorem d_T_failAt_9 : decode (iC M_T_failAt) 9 = .ok (.invokespecial 39, 3) := by decide +kernel
theorem d_T_failAt_12 : decode (iC M_T_failAt) 12 = .ok (.athrow, 1) := by decide +kernel
theorem d_T_number_0 : decode (iC M_T_number) 0 = .ok (.iconst 0, 1) := by decide +kernel
theorem d_T_number_1 : decode (iC M_T_number) 1 = .ok (.istore_n 2, 1) := by decide +kernel
theorem d_T_number_2 : decode (iC M_T_number) 2 = .ok (.iconst 0, 1) := by decide +kernel
theorem d_T_number_3 : decode (iC M_T_number) 3 = .ok (.istore_n 3, 1) := by decide +kernel
theorem d_T_number_4 : decode (iC M_T_number) 4 = .ok (.iload_n 3, 1) := by decide +kernel
theorem d_T_number_5 : decode (iC M_T_number) 5 = .ok (.iload_n 1, 1) := by decide +kernel
theorem d_T_number_6 : decode (iC M_T_number) 6 = .ok (.if_icmp .ge 18, 3) := by decide +kernel
theorem d_T_number_9 : decode (iC M_T_number) 9 = .ok (.iconst 2, 1) := by decide +kernel
theorem d_T_number_10 : decode (iC M_T_number) 10 = .ok (.iload_n 2, 1) := by decide +kernel
theorem d_T_number_11 : decode (iC M_T_number) 11 = .ok (.imul, 1) := by decide +kernel
theorem d_T_number_12 : decode (iC M_T_number) 12 = .ok (.aload_n 0, 1) := by decide +kernel
theorem d_T_number_13 : decode (iC M_T_number) 13 = .ok (.invokevirtual 40, 3) := by decide +kernel
theorem d_T_number_16 : decode (iC M_T_number) 16 = .ok (.iadd, 1) := by decide +kernel
theorem d_T_number_17 : decode (iC M_T_number) 17 = .ok (.istore_n 2, 1) := by decide +kernel
theorem d_T_number_18 : decode (iC M_T_number) 18 = .ok (.iinc 3 1, 3) := by decide +kernel
theorem d_T_number_21 : decode (iC M_T_number) 21 = .ok (.goto (-17), 3) := by decide +kernel
theorem d_T_number_24 : decode (iC M_T_number) 24 = .ok (.iload_n 2, 1) := by decide +kernel
theorem d_T_number_25 : decode (iC M_T_number) 25 = .ok (.ireturn, 1) := by decide +kernel
theorem d_T_align_0 : decode (iC M_T_align) 0 = .ok (.aload_n 0, 1) := by decide +kernel
theorem d_T_align_1 : decode (iC M_T_align) 1 = .ok (.iconst 0, 1) := by decide +kernel
theorem d_T_align_2 : decode (iC M_T_align) 2 = .ok (.aload_n 0, 1) := by decide +kernel
theorem d_T_align_3 : decode (iC M_T_align) 3 = .ok (.getfield 34, 3) := by decide +kernel
theorem d_T_align_6 : decode (iC M_T_align) 6 = .ok (.ineg, 1) := by decide +kernel
theorem d_T_align_7 : decode (iC M_T_align) 7 = .ok (.bipush 7, 2) := by decide +kernel
theorem d_T_align_9 : decode (iC M_T_align) 9 = .ok (.iand, 1) := by decide +kernel
theorem d_T_align_10 : decode (iC M_T_align) 10 = .ok (.invokevirtual 50, 3) := by decide +kernel
theorem d_T_align_13 : decode (iC M_T_align) 13 = .ok (.return_, 1) := by decide +kernel
theorem d_T_nonZero_0 : decode (iC M_T_nonZero) 0 = .ok (.aload_n 0, 1) := by decide +kernel
theorem d_T_nonZero_1 : decode (iC M_T_nonZero) 1 = .ok (.iload_n 1, 1) := by decide +kernel
theorem d_T_nonZero_2 : decode (iC M_T_nonZero) 2 = .ok (.invokevirtual 43, 3) := by decide +kernel
theorem d_T_nonZero_5 : decode (iC M_T_nonZero) 5 = .ok (.istore_n 2, 1) := by decide +kernel
theorem d_T_nonZero_6 : decode (iC M_T_nonZero) 6 = .ok (.iload_n 2, 1) := by decide +kernel
theorem d_T_nonZero_7 : decode (iC M_T_nonZero) 7 = .ok (.ifCond .ne 13, 3) := by decide +kernel
theorem d_T_nonZero_10 : decode (iC M_T_nonZero) 10 = .ok (.aload_n 0, 1) := by decide +kernel
theorem d_T_nonZero_11 : decode (iC M_T_nonZero) 11 = .ok (.aload_n 0, 1) := by decide +kernel
theorem d_T_nonZero_12 : decode (iC M_T_nonZero) 12 = .ok (.getfield 34, 3) := by decide +kernel
theorem d_T_nonZero_15 : decode (iC M_T_nonZero) 15 = .ok (.iconst 1, 1) := by decide +kernel
theorem d_T_nonZero_16 : decode (iC M_T_nonZero) 16 = .ok (.isub, 1) := by decide +kernel
theorem d_T_nonZero_17 : decode (iC M_T_nonZero) 17 = .ok (.invokevirtual 47, 3) := by decide +kernel
theorem d_T_nonZero_20 : decode (iC M_T_nonZero) 20 = .ok (.iload_n 2, 1) := by decide +kernel
theorem d_T_nonZero_21 : decode (iC M_T_nonZero) 21 = .ok (.ireturn, 1) := by decide +kernel
theorem d_T_unsigned_0 : decode (iC M_T_unsigned) 0 = .ok (.aload_n 0, 1) := by decide +kernel
theorem d_T_unsigned_1 : decode (iC M_T_unsigned) 1 = .ok (.getfield 34, 3) := by decide +kernel
theorem d_T_unsigned_4 : decode (iC M_T_unsigned) 4 = .ok (.istore_n 2, 1) := by decide +kernel
theorem d_T_unsigned_5 : decode (iC M_T_unsigned) 5 = .ok (.iconst 0, 1) := by decide +kernel
theorem d_T_unsigned_6 : decode (iC M_T_unsigned) 6 = .ok (.istore_n 3, 1) := by decide +kernel
theorem d_T_unsigned_7 : decode (iC M_T_unsigned) 7 = .ok (.iload_n 3, 1) := by decide +kernel
theorem d_T_unsigned_8 : decode (iC M_T_unsigned) 8 = .ok (.bipush 20, 2) := by decide +kernel
theorem d_T_unsigned_10 : decode (iC M_T_unsigned) 10 = .ok (.if_icmp .gt 16, 3) := by decide +kernel
theorem d_T_unsigned_13 : decode (iC M_T_unsigned) 13 = .ok (.aload_n 0, 1) := by decide +kernel
theorem d_T_unsigned_14 : decode (iC M_T_unsigned) 14 = .ok (.invokevirtual 40, 3) := by decide +kernel
theorem d_T_unsigned_17 : decode (iC M_T_unsigned) 17 = .ok (.ifCond .ne 9, 3) := by decide +kernel
theorem d_T_unsigned_20 : decode (iC M_T_unsigned) 20 = .ok (.iinc 3 1, 3) := by decide +kernel
theorem d_T_unsigned_23 : decode (iC M_T_unsigned) 23 = .ok (.goto (-16), 3) := by decide +kernel
theorem d_T_unsigned_26 : decode (iC M_T_unsigned) 26 = .ok (.iload_n 3, 1) := by decide +kernel
theorem d_T_unsigned_27 : decode (iC M_T_unsigned) 27 = .ok (.bipush 20, 2) := by decide +kernel
theorem d_T_unsigned_29 : decode (iC M_T_unsigned) 29 = .ok (.if_icmp .le 13, 3) := by decide +kernel
theorem d_T_unsigned_32 : decode (iC M_T_unsigned) 32 = .ok (.aload_n 0, 1) := by decide +kernel
theorem d_T_unsigned_33 : decode (iC M_T_unsigned) 33 = .ok (.aload_n 0, 1) := by decide +kernel
theorem d_T_unsigned_34 : decode (iC M_T_unsigned) 34 = .ok (.getfield 34, 3) := by decide +kernel
theorem d_T_unsigned_37 : decode (iC M_T_unsigned) 37 = .ok (.iconst 1, 1) := by decide +kernel
theorem d_T_unsigned_38 : decode (iC M_T_unsigned) 38 = .ok (.isub, 1) := by decide +kernel
theorem d_T_unsigned_39 : decode (iC M_T_unsigned) 39 = .ok (.invokevirtual 47, 3) := by decide +kernel
theorem d_T_unsigned_42 : decode (iC M_T_unsigned) 42 = .ok (.iconst 0, 1) := by decide +kernel
theorem d_T_unsigned_43 : decode (iC M_T_unsigned) 43 = .ok (.istore 4, 2) := by decide +kernel
theorem d_T_unsigned_45 : decode (iC M_T_unsigned) 45 = .ok (.iconst 0, 1) := by decide +kernel
theorem d_T_unsigned_46 : decode (iC M_T_unsigned) 46 = .ok (.istore 5, 2) := by decide +kernel
theorem d_T_unsigned_48 : decode (iC M_T_unsigned) 48 = .ok (.iload 5, 2) := by decide +kernel
theorem d_T_unsigned_50 : decode (iC M_T_unsigned) 50 = .ok (.iload_n 3, 1) := by decide +kernel
theorem d_T_unsigned_51 : decode (iC M_T_unsigned) 51 = .ok (.if_icmp .ge 20, 3) := by decide +kernel
theorem d_T_unsigned_54 : decode (iC M_T_unsigned) 54 = .ok (.iconst 2, 1) := by decide +kernel
theorem d_T_unsigned_55 : decode (iC M_T_unsigned) 55 = .ok (.iload 4, 2) := by decide +kernel
theorem d_T_unsigned_57 : decode (iC M_T_unsigned) 57 = .ok (.imul, 1) := by decide +kernel
theorem d_T_unsigned_58 : decode (iC M_T_unsigned) 58 = .ok (.aload_n 0, 1) := by decide +kernel
theorem d_T_unsigned_59 : decode (iC M_T_unsigned) 59 = .ok (.invokevirtual 40, 3) := by decide +kernel
theorem d_T_unsigned_62 : decode (iC M_T_unsigned) 62 = .ok (.iadd, 1) := by decide +kernel
theorem d_T_unsigned_63 : decode (iC M_T_unsigned) 63 = .ok (.istore 4, 2) := by decide +kernel
theorem d_T_unsigned_65 : decode (iC M_T_unsigned) 65 = .ok (.iinc 5 1, 3) := by decide +kernel
theorem d_T_unsigned_68 : decode (iC M_T_unsigned) 68 = .ok (.goto (-20), 3) := by decide +kernel
theorem d_T_unsigned_71 : decode (iC M_T_unsigned) 71 = .ok (.iconst 1, 1) := by decide +kernel
theorem d_T_unsigned_72 : decode (iC M_T_unsigned) 72 = .ok (.iload_n 3, 1) := by decide +kernel
theorem d_T_unsigned_73 : decode (iC M_T_unsigned) 73 = .ok (.ishl, 1) := by decide +kernel
theorem d_T_unsigned_74 : decode (iC M_T_unsigned) 74 = .ok (.iconst 1, 1) := by decide +kernel
theorem d_T_unsigned_75 : decode (iC M_T_unsigned) 75 = .ok (.isub, 1) := by decide +kernel
theorem d_T_unsigned_76 : decode (iC M_T_unsigned) 76 = .ok (.iload 4, 2) := by decide +kernel
theorem d_T_unsigned_78 : decode (iC M_T_unsigned) 78 = .ok (.iadd, 1) := by decide +kernel
theorem d_T_unsigned_79 : decode (iC M_T_unsigned) 79 = .ok (.istore 5, 2) := by decide +kernel
theorem d_T_unsigned_81 : decode (iC M_T_unsigned) 81 = .ok (.iload 5, 2) := by decide +kernel
theorem d_T_unsigned_83 : decode (iC M_T_unsigned) 83 = .ok (.iload_n 1, 1) := by decide +kernel
theorem d_T_unsigned_84 : decode (iC M_T_unsigned) 84 = .ok (.if_icmp .le 8, 3) := by decide +kernel
theorem d_T_unsigned_87 : decode (iC M_T_unsigned) 87 = .ok (.aload_n 0, 1) := by decide +kernel
theorem d_T_unsigned_88 : decode (iC M_T_unsigned) 88 = .ok (.iload_n 2, 1) := by decide +kernel
theorem d_T_unsigned_89 : decode (iC M_T_unsigned) 89 = .ok (.invokevirtual 47, 3) := by decide +kernel
theorem d_T_unsigned_92 : decode (iC M_T_unsigned) 92 = .ok (.iload 5, 2) := by decide +kernel
theorem d_T_unsigned_94 : decode (iC M_T_unsigned) 94 = .ok (.ireturn, 1) := by decide +kernel
theorem d_T_signed_0 : decode (iC M_T_signed) 0 = .ok (.aload_n 0, 1) := by decide +kernel
theorem d_T_signed_1 : decode (iC M_T_signed) 1 = .ok (.getfield 34, 3) := by decide +kernel
theorem d_T_signed_4 : decode (iC M_T_signed) 4 = .ok (.istore_n 3, 1) := by decide +kernel
theorem d_T_signed_5 : decode (iC M_T_signed) 5 = .ok (.aload_n 0, 1) := by decide +kernel
theorem d_T_signed_6 : decode (iC M_T_signed) 6 = .ok (.ldc 54, 2) := by decide +kernel
theorem d_T_signed_8 : decode (iC M_T_signed) 8 = .ok (.invokevirtual 55, 3) := by decide +kernel
theorem d_T_signed_11 : decode (iC M_T_signed) 11 = .ok (.istore 4, 2) := by decide +kernel
theorem d_T_signed_13 : decode (iC M_T_signed) 13 = .ok (.iload 4, 2) := by decide +kernel
theorem d_T_signed_15 : decode (iC M_T_signed) 15 = .ok (.iconst 1, 1) := by decide +kernel
theorem d_T_signed_16 : decode (iC M_T_signed) 16 = .ok (.iand, 1) := by decide +kernel
theorem d_T_signed_17 : decode (iC M_T_signed) 17 = .ok (.iconst 1, 1) := by decide +kernel
theorem d_T_signed_18 : decode (iC M_T_signed) 18 = .ok (.if_icmp .ne 12, 3) := by decide +kernel
theorem d_T_signed_21 : decode (iC M_T_signed) 21 = .ok (.iload 4, 2) := by decide +kernel
theorem d_T_signed_23 : decode (iC M_T_signed) 23 = .ok (.iconst 1, 1) := by decide +kernel
theorem d_T_signed_24 : decode (iC M_T_signed) 24 = .ok (.iadd, 1) := by decide +kernel
theorem d_T_signed_25 : decode (iC M_T_signed) 25 = .ok (.iconst 2, 1) := by decide +kernel
theorem d_T_signed_26 : decode (iC M_T_signed) 26 = .ok (.idiv, 1) := by decide +kernel
theorem d_T_signed_27 : decode (iC M_T_signed) 27 = .ok (.goto 8, 3) := by decide +kernel
theorem d_T_signed_30 : decode (iC M_T_signed) 30 = .ok (.iload 4, 2) := by decide +kernel
theorem d_T_signed_32 : decode (iC M_T_signed) 32 = .ok (.iconst 2, 1) := by decide +kernel
theorem d_T_signed_33 : decode (iC M_T_signed) 33 = .ok (.idiv, 1) := by decide +kernel
theorem d_T_signed_34 : decode (iC M_T_signed) 34 = .ok (.ineg, 1) := by decide +kernel
theorem d_T_signed_35 : decode (iC M_T_signed) 35 = .ok (.istore 5, 2) := by decide +kernel
theorem d_T_signed_37 : decode (iC M_T_signed) 37 = .ok (.iload 5, 2) := by decide +kernel
theorem d_T_signed_39 : decode (iC M_T_signed) 39 = .ok (.iload_n 1, 1) := by decide +kernel
theorem d_T_signed_40 : decode (iC M_T_signed) 40 = .ok (.if_icmp .lt 9, 3) := by decide +kernel
theorem d_T_signed_43 : decode (iC M_T_signed) 43 = .ok (.iload 5, 2) := by decide +kernel
theorem d_T_signed_45 : decode (iC M_T_signed) 45 = .ok (.iload_n 2, 1) := by decide +kernel
theorem d_T_signed_46 : decode (iC M_T_signed) 46 = .ok (.if_icmp .le 8, 3) := by decide +kernel
theorem d_T_signed_49 : decode (iC M_T_signed) 49 = .ok (.aload_n 0, 1) := by decide +kernel
theorem d_T_signed_50 : decode (iC M_T_signed) 50 = .ok (.iload_n 3, 1) := by decide +kernel
theorem d_T_signed_51 : decode (iC M_T_signed) 51 = .ok (.invokevirtual 47, 3) := by decide +kernel
theorem d_T_signed_54 : decode (iC M_T_signed) 54 = .ok (.iload 5, 2) := by decide +kernel
theorem d_T_signed_56 : decode (iC M_T_signed) 56 = .ok (.ireturn, 1) := by decide +kernel
