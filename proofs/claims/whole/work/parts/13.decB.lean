theorem d_B_init_0 : decode (iC M_B_init) 0 = .ok (.aload_n 0, 1) := by decide +kernel
theorem d_B_init_1 : decode (iC M_B_init) 1 = .ok (.invokespecial 1, 3) := by decide +kernel
theorem d_B_init_4 : decode (iC M_B_init) 4 = .ok (.aload_n 0, 1) := by decide +kernel
theorem d_B_init_5 : decode (iC M_B_init) 5 = .ok (.bipush 64, 2) := by decide +kernel
theorem d_B_init_7 : decode (iC M_B_init) 7 = .ok (.newarray .int, 2) := by decide +kernel
theorem d_B_init_9 : decode (iC M_B_init) 9 = .ok (.putfield 7, 3) := by decide +kernel
theorem d_B_init_12 : decode (iC M_B_init) 12 = .ok (.aload_n 0, 1) := by decide +kernel
theorem d_B_init_13 : decode (iC M_B_init) 13 = .ok (.bipush 64, 2) := by decide +kernel
theorem d_B_init_15 : decode (iC M_B_init) 15 = .ok (.newarray .int, 2) := by decide +kernel
theorem d_B_init_17 : decode (iC M_B_init) 17 = .ok (.putfield 13, 3) := by decide +kernel
theorem d_B_init_20 : decode (iC M_B_init) 20 = .ok (.return_, 1) := by decide +kernel
theorem d_J_fill_0 : decode (iC M_J_fill) 0 = .ok (.iconst 0, 1) := by decide +kernel
theorem d_J_fill_1 : decode (iC M_J_fill) 1 = .ok (.istore_n 2, 1) := by decide +kernel
theorem d_J_fill_2 : decode (iC M_J_fill) 2 = .ok (.aload_n 0, 1) := by decide +kernel
theorem d_J_fill_3 : decode (iC M_J_fill) 3 = .ok (.arraylength, 1) := by decide +kernel
theorem d_J_fill_4 : decode (iC M_J_fill) 4 = .ok (.istore_n 3, 1) := by decide +kernel
theorem d_J_fill_5 : decode (iC M_J_fill) 5 = .ok (.iload_n 2, 1) := by decide +kernel
theorem d_J_fill_6 : decode (iC M_J_fill) 6 = .ok (.iload_n 3, 1) := by decide +kernel
theorem d_J_fill_7 : decode (iC M_J_fill) 7 = .ok (.if_icmp .ge 13, 3) := by decide +kernel
theorem d_J_fill_10 : decode (iC M_J_fill) 10 = .ok (.aload_n 0, 1) := by decide +kernel
theorem d_J_fill_11 : decode (iC M_J_fill) 11 = .ok (.iload_n 2, 1) := by decide +kernel
theorem d_J_fill_12 : decode (iC M_J_fill) 12 = .ok (.iload_n 1, 1) := by decide +kernel
theorem d_J_fill_13 : decode (iC M_J_fill) 13 = .ok (.iastore, 1) := by decide +kernel
theorem d_J_fill_14 : decode (iC M_J_fill) 14 = .ok (.iinc 2 1, 3) := by decide +kernel
theorem d_J_fill_17 : decode (iC M_J_fill) 17 = .ok (.goto (-12), 3) := by decide +kernel
theorem d_J_fill_20 : decode (iC M_J_fill) 20 = .ok (.return_, 1) := by decide +kernel
theorem d_B_clear_0 : decode (iC M_B_clear) 0 = .ok (.aload_n 0, 1) := by decide +kernel
theorem d_B_clear_1 : decode (iC M_B_clear) 1 = .ok (.getfield 7, 3) := by decide +kernel
theorem d_B_clear_4 : decode (iC M_B_clear) 4 = .ok (.iconst 0, 1) := by decide +kernel
theorem d_B_clear_5 : decode (iC M_B_clear) 5 = .ok (.invokestatic 16, 3) := by decide +kernel
theorem d_B_clear_8 : decode (iC M_B_clear) 8 = .ok (.aload_n 0, 1) := by decide +kernel
theorem d_B_clear_9 : decode (iC M_B_clear) 9 = .ok (.iconst 0, 1) := by decide +kernel
theorem d_B_clear_10 : decode (iC M_B_clear) 10 = .ok (.putfield 22, 3) := by decide +kernel
theorem d_B_clear_13 : decode (iC M_B_clear) 13 = .ok (.aload_n 0, 1) := by decide +kernel
theorem d_B_clear_14 : decode (iC M_B_clear) 14 = .ok (.iconst 0, 1) := by decide +kernel
theorem d_B_clear_15 : decode (iC M_B_clear) 15 = .ok (.putfield 26, 3) := by decide +kernel
theorem d_B_clear_18 : decode (iC M_B_clear) 18 = .ok (.return_, 1) := by decide +kernel
theorem d_B_putDc_0 : decode (iC M_B_putDc) 0 = .ok (.aload_n 0, 1) := by decide +kernel
theorem d_B_putDc_1 : decode (iC M_B_putDc) 1 = .ok (.iconst 0, 1) := by decide +kernel
theorem d_B_putDc_2 : decode (iC M_B_putDc) 2 = .ok (.bipush 8, 2) := by decide +kernel
theorem d_B_putDc_4 : decode (iC M_B_putDc) 4 = .ok (.iload_n 1, 1) := by decide +kernel
theorem d_B_putDc_5 : decode (iC M_B_putDc) 5 = .ok (.imul, 1) := by decide +kernel
theorem d_B_putDc_6 : decode (iC M_B_putDc) 6 = .ok (.invokevirtual 29, 3) := by decide +kernel
theorem d_B_putDc_9 : decode (iC M_B_putDc) 9 = .ok (.return_, 1) := by decide +kernel
theorem d_B_put_0 : decode (iC M_B_put) 0 = .ok (.aload_n 0, 1) := by decide +kernel
theorem d_B_put_1 : decode (iC M_B_put) 1 = .ok (.getfield 7, 3) := by decide +kernel
theorem d_B_put_4 : decode (iC M_B_put) 4 = .ok (.iload_n 1, 1) := by decide +kernel
theorem d_B_put_5 : decode (iC M_B_put) 5 = .ok (.iload_n 2, 1) := by decide +kernel
theorem d_B_put_6 : decode (iC M_B_put) 6 = .ok (.iastore, 1) := by decide +kernel
theorem d_B_put_7 : decode (iC M_B_put) 7 = .ok (.aload_n 0, 1) := by decide +kernel
theorem d_B_put_8 : decode (iC M_B_put) 8 = .ok (.dup, 1) := by decide +kernel
theorem d_B_put_9 : decode (iC M_B_put) 9 = .ok (.getfield 22, 3) := by decide +kernel
theorem d_B_put_12 : decode (iC M_B_put) 12 = .ok (.iload_n 2, 1) := by decide +kernel
theorem d_B_put_13 : decode (iC M_B_put) 13 = .ok (.iadd, 1) := by decide +kernel
theorem d_B_put_14 : decode (iC M_B_put) 14 = .ok (.putfield 22, 3) := by decide +kernel
theorem d_B_put_17 : decode (iC M_B_put) 17 = .ok (.aload_n 0, 1) := by decide +kernel
theorem d_B_put_18 : decode (iC M_B_put) 18 = .ok (.dup, 1) := by decide +kernel
theorem d_B_put_19 : decode (iC M_B_put) 19 = .ok (.getfield 26, 3) := by decide +kernel
theorem d_B_put_22 : decode (iC M_B_put) 22 = .ok (.iconst 1, 1) := by decide +kernel
theorem d_B_put_23 : decode (iC M_B_put) 23 = .ok (.iload_n 1, 1) := by decide +kernel
theorem d_B_put_24 : decode (iC M_B_put) 24 = .ok (.iconst 3, 1) := by decide +kernel
theorem d_B_put_25 : decode (iC M_B_put) 25 = .ok (.ishr, 1) := by decide +kernel
theorem d_B_put_26 : decode (iC M_B_put) 26 = .ok (.ishl, 1) := by decide +kernel
theorem d_B_put_27 : decode (iC M_B_put) 27 = .ok (.ior, 1) := by decide +kernel
theorem d_B_put_28 : decode (iC M_B_put) 28 = .ok (.putfield 26, 3) := by decide +kernel
theorem d_B_put_31 : decode (iC M_B_put) 31 = .ok (.return_, 1) := by decide +kernel
theorem d_B_putLevel_0 : decode (iC M_B_putLevel) 0 = .ok (.getstatic 33, 3) := by decide +kernel
theorem d_B_putLevel_3 : decode (iC M_B_putLevel) 3 = .ok (.iload_n 1, 1) := by decide +kernel
theorem d_B_putLevel_4 : decode (iC M_B_putLevel) 4 = .ok (.iaload, 1) := by decide +kernel
theorem d_B_putLevel_5 : decode (iC M_B_putLevel) 5 = .ok (.istore 5, 2) := by decide +kernel
theorem d_B_putLevel_7 : decode (iC M_B_putLevel) 7 = .ok (.bipush 38, 2) := by decide +kernel
theorem d_B_putLevel_9 : decode (iC M_B_putLevel) 9 = .ok (.bipush 8, 2) := by decide +kernel
theorem d_B_putLevel_11 : decode (iC M_B_putLevel) 11 = .ok (.iconst 2, 1) := by decide +kernel
theorem d_B_putLevel_12 : decode (iC M_B_putLevel) 12 = .ok (.iload 5, 2) := by decide +kernel
theorem d_B_putLevel_14 : decode (iC M_B_putLevel) 14 = .ok (.bipush 7, 2) := by decide +kernel
theorem d_B_putLevel_16 : decode (iC M_B_putLevel) 16 = .ok (.iand, 1) := by decide +kernel
theorem d_B_putLevel_17 : decode (iC M_B_putLevel) 17 = .ok (.iload 5, 2) := by decide +kernel
theorem d_B_putLevel_19 : decode (iC M_B_putLevel) 19 = .ok (.iconst 3, 1) := by decide +kernel
theorem d_B_putLevel_20 : decode (iC M_B_putLevel) 20 = .ok (.ishr, 1) := by decide +kernel
theorem d_B_putLevel_21 : decode (iC M_B_putLevel) 21 = .ok (.iadd, 1) := by decide +kernel
theorem d_B_putLevel_22 : decode (iC M_B_putLevel) 22 = .ok (.imul, 1) := by decide +kernel
theorem d_B_putLevel_23 : decode (iC M_B_putLevel) 23 = .ok (.iadd, 1) := by decide +kernel
theorem d_B_putLevel_24 : decode (iC M_B_putLevel) 24 = .ok (.invokestatic 36, 3) := by decide +kernel
theorem d_B_putLevel_27 : decode (iC M_B_putLevel) 27 = .ok (.istore 6, 2) := by decide +kernel
theorem d_B_putLevel_29 : decode (iC M_B_putLevel) 29 = .ok (.iload 4, 2) := by decide +kernel
theorem d_B_putLevel_31 : decode (iC M_B_putLevel) 31 = .ok (.ifCond .eq 15, 3) := by decide +kernel
theorem d_B_putLevel_34 : decode (iC M_B_putLevel) 34 = .ok (.iload_n 2, 1) := by decide +kernel
theorem d_B_putLevel_35 : decode (iC M_B_putLevel) 35 = .ok (.iload 6, 2) := by decide +kernel
theorem d_B_putLevel_37 : decode (iC M_B_putLevel) 37 = .ok (.imul, 1) := by decide +kernel
theorem d_B_putLevel_38 : decode (iC M_B_putLevel) 38 = .ok (.iload_n 3, 1) := by decide +kernel
theorem d_B_putLevel_39 : decode (iC M_B_putLevel) 39 = .ok (.imul, 1) := by decide +kernel
theorem d_B_putLevel_40 : decode (iC M_B_putLevel) 40 = .ok (.bipush 8, 2) := by decide +kernel
theorem d_B_putLevel_42 : decode (iC M_B_putLevel) 42 = .ok (.idiv, 1) := by decide +kernel
theorem d_B_putLevel_43 : decode (iC M_B_putLevel) 43 = .ok (.goto 18, 3) := by decide +kernel
theorem d_B_putLevel_46 : decode (iC M_B_putLevel) 46 = .ok (.iconst 2, 1) := by decide +kernel
theorem d_B_putLevel_47 : decode (iC M_B_putLevel) 47 = .ok (.iload_n 2, 1) := by decide +kernel
theorem d_B_putLevel_48 : decode (iC M_B_putLevel) 48 = .ok (.imul, 1) := by decide +kernel
theorem d_B_putLevel_49 : decode (iC M_B_putLevel) 49 = .ok (.iload_n 2, 1) := by decide +kernel
theorem d_B_putLevel_50 : decode (iC M_B_putLevel) 50 = .ok (.ifCond .le 7, 3) := by decide +kernel
theorem d_B_putLevel_53 : decode (iC M_B_putLevel) 53 = .ok (.iconst 1, 1) := by decide +kernel
theorem d_B_putLevel_54 : decode (iC M_B_putLevel) 54 = .ok (.goto 4, 3) := by decide +kernel
theorem d_B_putLevel_57 : decode (iC M_B_putLevel) 57 = .ok (.iconst (-1), 1) := by decide +kernel
theorem d_B_putLevel_58 : decode (iC M_B_putLevel) 58 = .ok (.iadd, 1) := by decide +kernel
theorem d_B_putLevel_59 : decode (iC M_B_putLevel) 59 = .ok (.iload_n 3, 1) := by decide +kernel
theorem d_B_putLevel_60 : decode (iC M_B_putLevel) 60 = .ok (.imul, 1) := by decide +kernel
theorem d_B_putLevel_61 : decode (iC M_B_putLevel) 61 = .ok (.istore 7, 2) := by decide +kernel
theorem d_B_putLevel_63 : decode (iC M_B_putLevel) 63 = .ok (.aload_n 0, 1) := by decide +kernel
theorem d_B_putLevel_64 : decode (iC M_B_putLevel) 64 = .ok (.iload 5, 2) := by decide +kernel
theorem d_B_putLevel_66 : decode (iC M_B_putLevel) 66 = .ok (.iload 7, 2) := by decide +kernel
theorem d_B_putLevel_68 : decode (iC M_B_putLevel) 68 = .ok (.sipush (-2048), 3) := by decide +kernel
theorem d_B_putLevel_71 : decode (iC M_B_putLevel) 71 = .ok (.sipush 2047, 3) := by decide +kernel
theorem d_B_putLevel_74 : decode (iC M_B_putLevel) 74 = .ok (.invokestatic 42, 3) := by decide +kernel
theorem d_B_putLevel_77 : decode (iC M_B_putLevel) 77 = .ok (.invokevirtual 29, 3) := by decide +kernel
theorem d_B_putLevel_80 : decode (iC M_B_putLevel) 80 = .ok (.return_, 1) := by decide +kernel
theorem d_B_makeSums_0 : decode (iC M_B_makeSums) 0 = .ok (.aload_n 0, 1) := by decide +kernel
theorem d_B_makeSums_1 : decode (iC M_B_makeSums) 1 = .ok (.getfield 22, 3) := by decide +kernel
theorem d_B_makeSums_4 : decode (iC M_B_makeSums) 4 = .ok (.iconst 1, 1) := by decide +kernel
theorem d_B_makeSums_5 : decode (iC M_B_makeSums) 5 = .ok (.iand, 1) := by decide +kernel
theorem d_B_makeSums_6 : decode (iC M_B_makeSums) 6 = .ok (.ifCond .ne 26, 3) := by decide +kernel
theorem d_B_makeSums_9 : decode (iC M_B_makeSums) 9 = .ok (.aload_n 0, 1) := by decide +kernel
theorem d_B_makeSums_10 : decode (iC M_B_makeSums) 10 = .ok (.getfield 7, 3) := by decide +kernel
theorem d_B_makeSums_13 : decode (iC M_B_makeSums) 13 = .ok (.bipush 63, 2) := by decide +kernel
theorem d_B_makeSums_15 : decode (iC M_B_makeSums) 15 = .ok (.dup2, 1) := by decide +kernel
theorem d_B_makeSums_16 : decode (iC M_B_makeSums) 16 = .ok (.iaload, 1) := by decide +kernel
theorem d_B_makeSums_17 : decode (iC M_B_makeSums) 17 = .ok (.iconst 1, 1) := by decide +kernel
theorem d_B_makeSums_18 : decode (iC M_B_makeSums) 18 = .ok (.ixor, 1) := by decide +kernel
theorem d_B_makeSums_19 : decode (iC M_B_makeSums) 19 = .ok (.iastore, 1) := by decide +kernel
theorem d_B_makeSums_20 : decode (iC M_B_makeSums) 20 = .ok (.aload_n 0, 1) := by decide +kernel
theorem d_B_makeSums_21 : decode (iC M_B_makeSums) 21 = .ok (.dup, 1) := by decide +kernel
theorem d_B_makeSums_22 : decode (iC M_B_makeSums) 22 = .ok (.getfield 26, 3) := by decide +kernel
theorem d_B_makeSums_25 : decode (iC M_B_makeSums) 25 = .ok (.sipush 128, 3) := by decide +kernel
theorem d_B_makeSums_28 : decode (iC M_B_makeSums) 28 = .ok (.ior, 1) := by decide +kernel
theorem d_B_makeSums_29 : decode (iC M_B_makeSums) 29 = .ok (.putfield 26, 3) := by decide +kernel
theorem d_B_makeSums_32 : decode (iC M_B_makeSums) 32 = .ok (.aload_n 0, 1) := by decide +kernel
theorem d_B_makeSums_33 : decode (iC M_B_makeSums) 33 = .ok (.getfield 13, 3) := by decide +kernel
theorem d_B_makeSums_36 : decode (iC M_B_makeSums) 36 = .ok (.sipush 16384, 3) := by decide +kernel
theorem d_B_makeSums_39 : decode (iC M_B_makeSums) 39 = .ok (.invokestatic 16, 3) := by decide +kernel
theorem d_B_makeSums_42 : decode (iC M_B_makeSums) 42 = .ok (.iconst 0, 1) := by decide +kernel
theorem d_B_makeSums_43 : decode (iC M_B_makeSums) 43 = .ok (.istore_n 1, 1) := by decide +kernel
theorem d_B_makeSums_44 : decode (iC M_B_makeSums) 44 = .ok (.iload_n 1, 1) := by decide +kernel
theorem d_B_makeSums_45 : decode (iC M_B_makeSums) 45 = .ok (.bipush 8, 2) := by decide +kernel
theorem d_B_makeSums_47 : decode (iC M_B_makeSums) 47 = .ok (.if_icmp .ge 26, 3) := by decide +kernel
theorem d_B_makeSums_50 : decode (iC M_B_makeSums) 50 = .ok (.aload_n 0, 1) := by decide +kernel
theorem d_B_makeSums_51 : decode (iC M_B_makeSums) 51 = .ok (.getfield 26, 3) := by decide +kernel
theorem d_B_makeSums_54 : decode (iC M_B_makeSums) 54 = .ok (.iload_n 1, 1) := by decide +kernel
theorem d_B_makeSums_55 : decode (iC M_B_makeSums) 55 = .ok (.ishr, 1) := by decide +kernel
theorem d_B_makeSums_56 : decode (iC M_B_makeSums) 56 = .ok (.iconst 1, 1) := by decide +kernel
theorem d_B_makeSums_57 : decode (iC M_B_makeSums) 57 = .ok (.iand, 1) := by decide +kernel
theorem d_B_makeSums_58 : decode (iC M_B_makeSums) 58 = .ok (.iconst 1, 1) := by decide +kernel
theorem d_B_makeSums_59 : decode (iC M_B_makeSums) 59 = .ok (.if_icmp .ne 8, 3) := by decide +kernel
theorem d_B_makeSums_62 : decode (iC M_B_makeSums) 62 = .ok (.aload_n 0, 1) := by decide +kernel
theorem d_B_makeSums_63 : decode (iC M_B_makeSums) 63 = .ok (.iload_n 1, 1) := by decide +kernel
theorem d_B_makeSums_64 : decode (iC M_B_makeSums) 64 = .ok (.invokevirtual 48, 3) := by decide +kernel
theorem d_B_makeSums_67 : decode (iC M_B_makeSums) 67 = .ok (.iinc 1 1, 3) := by decide +kernel
theorem d_B_makeSums_70 : decode (iC M_B_makeSums) 70 = .ok (.goto (-26), 3) := by decide +kernel
theorem d_B_makeSums_73 : decode (iC M_B_makeSums) 73 = .ok (.iconst 0, 1) := by decide +kernel
theorem d_B_makeSums_74 : decode (iC M_B_makeSums) 74 = .ok (.istore_n 1, 1) := by decide +kernel
theorem d_B_makeSums_75 : decode (iC M_B_makeSums) 75 = .ok (.iload_n 1, 1) := by decide +kernel
theorem d_B_makeSums_76 : decode (iC M_B_makeSums) 76 = .ok (.aload_n 0, 1) := by decide +kernel
theorem d_B_makeSums_77 : decode (iC M_B_makeSums) 77 = .ok (.getfield 13, 3) := by decide +kernel
theorem d_B_makeSums_80 : decode (iC M_B_makeSums) 80 = .ok (.arraylength, 1) := by decide +kernel
theorem d_B_makeSums_81 : decode (iC M_B_makeSums) 81 = .ok (.if_icmp .ge 20, 3) := by decide +kernel
theorem d_B_makeSums_84 : decode (iC M_B_makeSums) 84 = .ok (.aload_n 0, 1) := by decide +kernel
theorem d_B_makeSums_85 : decode (iC M_B_makeSums) 85 = .ok (.getfield 13, 3) := by decide +kernel
theorem d_B_makeSums_88 : decode (iC M_B_makeSums) 88 = .ok (.iload_n 1, 1) := by decide +kernel
theorem d_B_makeSums_89 : decode (iC M_B_makeSums) 89 = .ok (.dup2, 1) := by decide +kernel
theorem d_B_makeSums_90 : decode (iC M_B_makeSums) 90 = .ok (.iaload, 1) := by decide +kernel
theorem d_B_makeSums_91 : decode (iC M_B_makeSums) 91 = .ok (.bipush 15, 2) := by decide +kernel
theorem d_B_makeSums_93 : decode (iC M_B_makeSums) 93 = .ok (.ishr, 1) := by decide +kernel
theorem d_B_makeSums_94 : decode (iC M_B_makeSums) 94 = .ok (.iastore, 1) := by decide +kernel
theorem d_B_makeSums_95 : decode (iC M_B_makeSums) 95 = .ok (.iinc 1 1, 3) := by decide +kernel
theorem d_B_makeSums_98 : decode (iC M_B_makeSums) 98 = .ok (.goto (-23), 3) := by decide +kernel
theorem d_B_makeSums_101 : decode (iC M_B_makeSums) 101 = .ok (.return_, 1) := by decide +kernel
theorem d_B_addRow_0 : decode (iC M_B_addRow) 0 = .ok (.iconst 0, 1) := by decide +kernel
theorem d_B_addRow_1 : decode (iC M_B_addRow) 1 = .ok (.istore_n 2, 1) := by decide +kernel
theorem d_B_addRow_2 : decode (iC M_B_addRow) 2 = .ok (.iload_n 2, 1) := by decide +kernel
theorem d_B_addRow_3 : decode (iC M_B_addRow) 3 = .ok (.bipush 8, 2) := by decide +kernel
theorem d_B_addRow_5 : decode (iC M_B_addRow) 5 = .ok (.if_icmp .ge 105, 3) := by decide +kernel
theorem d_B_addRow_8 : decode (iC M_B_addRow) 8 = .ok (.sipush 1024, 3) := by decide +kernel
theorem d_B_addRow_11 : decode (iC M_B_addRow) 11 = .ok (.istore_n 3, 1) := by decide +kernel
theorem d_B_addRow_12 : decode (iC M_B_addRow) 12 = .ok (.iconst 0, 1) := by decide +kernel
theorem d_B_addRow_13 : decode (iC M_B_addRow) 13 = .ok (.istore 4, 2) := by decide +kernel
theorem d_B_addRow_15 : decode (iC M_B_addRow) 15 = .ok (.iload 4, 2) := by decide +kernel
theorem d_B_addRow_17 : decode (iC M_B_addRow) 17 = .ok (.bipush 8, 2) := by decide +kernel
theorem d_B_addRow_19 : decode (iC M_B_addRow) 19 = .ok (.if_icmp .ge 36, 3) := by decide +kernel
theorem d_B_addRow_22 : decode (iC M_B_addRow) 22 = .ok (.iload_n 3, 1) := by decide +kernel
theorem d_B_addRow_23 : decode (iC M_B_addRow) 23 = .ok (.aload_n 0, 1) := by decide +kernel
theorem d_B_addRow_24 : decode (iC M_B_addRow) 24 = .ok (.getfield 7, 3) := by decide +kernel
theorem d_B_addRow_27 : decode (iC M_B_addRow) 27 = .ok (.bipush 8, 2) := by decide +kernel
theorem d_B_addRow_29 : decode (iC M_B_addRow) 29 = .ok (.iload_n 1, 1) := by decide +kernel
theorem d_B_addRow_30 : decode (iC M_B_addRow) 30 = .ok (.imul, 1) := by decide +kernel
theorem d_B_addRow_31 : decode (iC M_B_addRow) 31 = .ok (.iload 4, 2) := by decide +kernel
theorem d_B_addRow_33 : decode (iC M_B_addRow) 33 = .ok (.iadd, 1) := by decide +kernel
theorem d_B_addRow_34 : decode (iC M_B_addRow) 34 = .ok (.iaload, 1) := by decide +kernel
theorem d_B_addRow_35 : decode (iC M_B_addRow) 35 = .ok (.getstatic 52, 3) := by decide +kernel
theorem d_B_addRow_38 : decode (iC M_B_addRow) 38 = .ok (.bipush 8, 2) := by decide +kernel
theorem d_B_addRow_40 : decode (iC M_B_addRow) 40 = .ok (.iload 4, 2) := by decide +kernel
theorem d_B_addRow_42 : decode (iC M_B_addRow) 42 = .ok (.imul, 1) := by decide +kernel
theorem d_B_addRow_43 : decode (iC M_B_addRow) 43 = .ok (.iload_n 2, 1) := by decide +kernel
theorem d_B_addRow_44 : decode (iC M_B_addRow) 44 = .ok (.iadd, 1) := by decide +kernel
theorem d_B_addRow_45 : decode (iC M_B_addRow) 45 = .ok (.iaload, 1) := by decide +kernel
theorem d_B_addRow_46 : decode (iC M_B_addRow) 46 = .ok (.imul, 1) := by decide +kernel
theorem d_B_addRow_47 : decode (iC M_B_addRow) 47 = .ok (.iadd, 1) := by decide +kernel
theorem d_B_addRow_48 : decode (iC M_B_addRow) 48 = .ok (.istore_n 3, 1) := by decide +kernel
theorem d_B_addRow_49 : decode (iC M_B_addRow) 49 = .ok (.iinc 4 1, 3) := by decide +kernel
theorem d_B_addRow_52 : decode (iC M_B_addRow) 52 = .ok (.goto (-37), 3) := by decide +kernel
theorem d_B_addRow_55 : decode (iC M_B_addRow) 55 = .ok (.iload_n 3, 1) := by decide +kernel
theorem d_B_addRow_56 : decode (iC M_B_addRow) 56 = .ok (.bipush 11, 2) := by decide +kernel
theorem d_B_addRow_58 : decode (iC M_B_addRow) 58 = .ok (.ishr, 1) := by decide +kernel
theorem d_B_addRow_59 : decode (iC M_B_addRow) 59 = .ok (.istore_n 3, 1) := by decide +kernel
theorem d_B_addRow_60 : decode (iC M_B_addRow) 60 = .ok (.iconst 0, 1) := by decide +kernel
theorem d_B_addRow_61 : decode (iC M_B_addRow) 61 = .ok (.istore 4, 2) := by decide +kernel
theorem d_B_addRow_63 : decode (iC M_B_addRow) 63 = .ok (.iload 4, 2) := by decide +kernel
theorem d_B_addRow_65 : decode (iC M_B_addRow) 65 = .ok (.bipush 8, 2) := by decide +kernel
theorem d_B_addRow_67 : decode (iC M_B_addRow) 67 = .ok (.if_icmp .ge 37, 3) := by decide +kernel
theorem d_B_addRow_70 : decode (iC M_B_addRow) 70 = .ok (.aload_n 0, 1) := by decide +kernel
theorem d_B_addRow_71 : decode (iC M_B_addRow) 71 = .ok (.getfield 13, 3) := by decide +kernel
theorem d_B_addRow_74 : decode (iC M_B_addRow) 74 = .ok (.bipush 8, 2) := by decide +kernel
theorem d_B_addRow_76 : decode (iC M_B_addRow) 76 = .ok (.iload 4, 2) := by decide +kernel
theorem d_B_addRow_78 : decode (iC M_B_addRow) 78 = .ok (.imul, 1) := by decide +kernel
theorem d_B_addRow_79 : decode (iC M_B_addRow) 79 = .ok (.iload_n 2, 1) := by decide +kernel
theorem d_B_addRow_80 : decode (iC M_B_addRow) 80 = .ok (.iadd, 1) := by decide +kernel
theorem d_B_addRow_81 : decode (iC M_B_addRow) 81 = .ok (.dup2, 1) := by decide +kernel
theorem d_B_addRow_82 : decode (iC M_B_addRow) 82 = .ok (.iaload, 1) := by decide +kernel
theorem d_B_addRow_83 : decode (iC M_B_addRow) 83 = .ok (.iload_n 3, 1) := by decide +kernel
theorem d_B_addRow_84 : decode (iC M_B_addRow) 84 = .ok (.getstatic 52, 3) := by decide +kernel
theorem d_B_addRow_87 : decode (iC M_B_addRow) 87 = .ok (.bipush 8, 2) := by decide +kernel
theorem d_B_addRow_89 : decode (iC M_B_addRow) 89 = .ok (.iload_n 1, 1) := by decide +kernel
theorem d_B_addRow_90 : decode (iC M_B_addRow) 90 = .ok (.imul, 1) := by decide +kernel
theorem d_B_addRow_91 : decode (iC M_B_addRow) 91 = .ok (.iload 4, 2) := by decide +kernel
theorem d_B_addRow_93 : decode (iC M_B_addRow) 93 = .ok (.iadd, 1) := by decide +kernel
theorem d_B_addRow_94 : decode (iC M_B_addRow) 94 = .ok (.iaload, 1) := by decide +kernel
theorem d_B_addRow_95 : decode (iC M_B_addRow) 95 = .ok (.imul, 1) := by decide +kernel
theorem d_B_addRow_96 : decode (iC M_B_addRow) 96 = .ok (.iadd, 1) := by decide +kernel
theorem d_B_addRow_97 : decode (iC M_B_addRow) 97 = .ok (.iastore, 1) := by decide +kernel
theorem d_B_addRow_98 : decode (iC M_B_addRow) 98 = .ok (.iinc 4 1, 3) := by decide +kernel
theorem d_B_addRow_101 : decode (iC M_B_addRow) 101 = .ok (.goto (-38), 3) := by decide +kernel
theorem d_B_addRow_104 : decode (iC M_B_addRow) 104 = .ok (.iinc 2 1, 3) := by decide +kernel
theorem d_B_addRow_107 : decode (iC M_B_addRow) 107 = .ok (.goto (-105), 3) := by decide +kernel
theorem d_B_addRow_110 : decode (iC M_B_addRow) 110 = .ok (.return_, 1) := by decide +kernel
