theorem d_X_init_0 : decode (iC M_X_init) 0 = .ok (.aload_n 0, 1) := by decide +kernel
theorem d_X_init_1 : decode (iC M_X_init) 1 = .ok (.invokespecial 1, 3) := by decide +kernel
theorem d_X_init_4 : decode (iC M_X_init) 4 = .ok (.aload_n 0, 1) := by decide +kernel
theorem d_X_init_5 : decode (iC M_X_init) 5 = .ok (.new 7, 3) := by decide +kernel
theorem d_X_init_8 : decode (iC M_X_init) 8 = .ok (.dup, 1) := by decide +kernel
theorem d_X_init_9 : decode (iC M_X_init) 9 = .ok (.invokespecial 9, 3) := by decide +kernel
theorem d_X_init_12 : decode (iC M_X_init) 12 = .ok (.putfield 10, 3) := by decide +kernel
theorem d_X_init_15 : decode (iC M_X_init) 15 = .ok (.aload_n 0, 1) := by decide +kernel
theorem d_X_init_16 : decode (iC M_X_init) 16 = .ok (.new 16, 3) := by decide +kernel
theorem d_X_init_19 : decode (iC M_X_init) 19 = .ok (.dup, 1) := by decide +kernel
theorem d_X_init_20 : decode (iC M_X_init) 20 = .ok (.invokespecial 18, 3) := by decide +kernel
theorem d_X_init_23 : decode (iC M_X_init) 23 = .ok (.putfield 19, 3) := by decide +kernel
theorem d_X_init_26 : decode (iC M_X_init) 26 = .ok (.aload_n 0, 1) := by decide +kernel
theorem d_X_init_27 : decode (iC M_X_init) 27 = .ok (.new 23, 3) := by decide +kernel
theorem d_X_init_30 : decode (iC M_X_init) 30 = .ok (.dup, 1) := by decide +kernel
theorem d_X_init_31 : decode (iC M_X_init) 31 = .ok (.aload_n 0, 1) := by decide +kernel
theorem d_X_init_32 : decode (iC M_X_init) 32 = .ok (.getfield 10, 3) := by decide +kernel
theorem d_X_init_35 : decode (iC M_X_init) 35 = .ok (.aload_n 0, 1) := by decide +kernel
theorem d_X_init_36 : decode (iC M_X_init) 36 = .ok (.getfield 19, 3) := by decide +kernel
theorem d_X_init_39 : decode (iC M_X_init) 39 = .ok (.invokespecial 25, 3) := by decide +kernel
theorem d_X_init_42 : decode (iC M_X_init) 42 = .ok (.putfield 28, 3) := by decide +kernel
theorem d_X_init_45 : decode (iC M_X_init) 45 = .ok (.return_, 1) := by decide +kernel
theorem d_R_init_0 : decode (iC M_R_init) 0 = .ok (.aload_n 0, 1) := by decide +kernel
theorem d_R_init_1 : decode (iC M_R_init) 1 = .ok (.invokespecial 3, 3) := by decide +kernel
theorem d_R_init_4 : decode (iC M_R_init) 4 = .ok (.aload_n 0, 1) := by decide +kernel
theorem d_R_init_5 : decode (iC M_R_init) 5 = .ok (.bipush 8, 2) := by decide +kernel
theorem d_R_init_7 : decode (iC M_R_init) 7 = .ok (.newarray .int, 2) := by decide +kernel
theorem d_R_init_9 : decode (iC M_R_init) 9 = .ok (.putfield 9, 3) := by decide +kernel
theorem d_R_init_12 : decode (iC M_R_init) 12 = .ok (.aload_n 0, 1) := by decide +kernel
theorem d_R_init_13 : decode (iC M_R_init) 13 = .ok (.bipush 20, 2) := by decide +kernel
theorem d_R_init_15 : decode (iC M_R_init) 15 = .ok (.anewarray 15, 3) := by decide +kernel
theorem d_R_init_18 : decode (iC M_R_init) 18 = .ok (.putfield 17, 3) := by decide +kernel
theorem d_R_init_21 : decode (iC M_R_init) 21 = .ok (.aload_n 0, 1) := by decide +kernel
theorem d_R_init_22 : decode (iC M_R_init) 22 = .ok (.iconst 1, 1) := by decide +kernel
theorem d_R_init_23 : decode (iC M_R_init) 23 = .ok (.putfield 21, 3) := by decide +kernel
theorem d_R_init_26 : decode (iC M_R_init) 26 = .ok (.aload_n 0, 1) := by decide +kernel
theorem d_R_init_27 : decode (iC M_R_init) 27 = .ok (.iconst 1, 1) := by decide +kernel
theorem d_R_init_28 : decode (iC M_R_init) 28 = .ok (.putfield 25, 3) := by decide +kernel
theorem d_R_init_31 : decode (iC M_R_init) 31 = .ok (.aload_n 0, 1) := by decide +kernel
theorem d_R_init_32 : decode (iC M_R_init) 32 = .ok (.new 15, 3) := by decide +kernel
theorem d_R_init_35 : decode (iC M_R_init) 35 = .ok (.dup, 1) := by decide +kernel
theorem d_R_init_36 : decode (iC M_R_init) 36 = .ok (.invokespecial 28, 3) := by decide +kernel
theorem d_R_init_39 : decode (iC M_R_init) 39 = .ok (.putfield 29, 3) := by decide +kernel
theorem d_R_init_42 : decode (iC M_R_init) 42 = .ok (.aload_n 0, 1) := by decide +kernel
theorem d_R_init_43 : decode (iC M_R_init) 43 = .ok (.new 15, 3) := by decide +kernel
theorem d_R_init_46 : decode (iC M_R_init) 46 = .ok (.dup, 1) := by decide +kernel
theorem d_R_init_47 : decode (iC M_R_init) 47 = .ok (.invokespecial 28, 3) := by decide +kernel
theorem d_R_init_50 : decode (iC M_R_init) 50 = .ok (.putfield 33, 3) := by decide +kernel
theorem d_R_init_53 : decode (iC M_R_init) 53 = .ok (.aload_n 0, 1) := by decide +kernel
theorem d_R_init_54 : decode (iC M_R_init) 54 = .ok (.new 15, 3) := by decide +kernel
theorem d_R_init_57 : decode (iC M_R_init) 57 = .ok (.dup, 1) := by decide +kernel
theorem d_R_init_58 : decode (iC M_R_init) 58 = .ok (.invokespecial 28, 3) := by decide +kernel
theorem d_R_init_61 : decode (iC M_R_init) 61 = .ok (.putfield 36, 3) := by decide +kernel
theorem d_R_init_64 : decode (iC M_R_init) 64 = .ok (.return_, 1) := by decide +kernel
theorem d_X_feed_0 : decode (iC M_X_feed) 0 = .ok (.aload_n 0, 1) := by decide +kernel
theorem d_X_feed_1 : decode (iC M_X_feed) 1 = .ok (.getfield 10, 3) := by decide +kernel
theorem d_X_feed_4 : decode (iC M_X_feed) 4 = .ok (.invokevirtual 32, 3) := by decide +kernel
theorem d_X_feed_7 : decode (iC M_X_feed) 7 = .ok (.istore 6, 2) := by decide +kernel
theorem d_X_feed_9 : decode (iC M_X_feed) 9 = .ok (.iload 6, 2) := by decide +kernel
theorem d_X_feed_11 : decode (iC M_X_feed) 11 = .ok (.bipush 20, 2) := by decide +kernel
theorem d_X_feed_13 : decode (iC M_X_feed) 13 = .ok (.iadd, 1) := by decide +kernel
theorem d_X_feed_14 : decode (iC M_X_feed) 14 = .ok (.sipush 4000, 3) := by decide +kernel
theorem d_X_feed_17 : decode (iC M_X_feed) 17 = .ok (.if_icmp .le 5, 3) := by decide +kernel
theorem d_X_feed_20 : decode (iC M_X_feed) 20 = .ok (.iconst (-1), 1) := by decide +kernel
theorem d_X_feed_21 : decode (iC M_X_feed) 21 = .ok (.ireturn, 1) := by decide +kernel
theorem d_X_feed_22 : decode (iC M_X_feed) 22 = .ok (.aload_n 0, 1) := by decide +kernel
theorem d_X_feed_23 : decode (iC M_X_feed) 23 = .ok (.getfield 10, 3) := by decide +kernel
theorem d_X_feed_26 : decode (iC M_X_feed) 26 = .ok (.iload 6, 2) := by decide +kernel
theorem d_X_feed_28 : decode (iC M_X_feed) 28 = .ok (.invokevirtual 36, 3) := by decide +kernel
theorem d_X_feed_31 : decode (iC M_X_feed) 31 = .ok (.pop, 1) := by decide +kernel
theorem d_X_feed_32 : decode (iC M_X_feed) 32 = .ok (.aload_n 0, 1) := by decide +kernel
theorem d_X_feed_33 : decode (iC M_X_feed) 33 = .ok (.getfield 10, 3) := by decide +kernel
theorem d_X_feed_36 : decode (iC M_X_feed) 36 = .ok (.iload_n 1, 1) := by decide +kernel
theorem d_X_feed_37 : decode (iC M_X_feed) 37 = .ok (.bipush 32, 2) := by decide +kernel
theorem d_X_feed_39 : decode (iC M_X_feed) 39 = .ok (.invokevirtual 40, 3) := by decide +kernel
theorem d_X_feed_42 : decode (iC M_X_feed) 42 = .ok (.pop, 1) := by decide +kernel
theorem d_X_feed_43 : decode (iC M_X_feed) 43 = .ok (.aload_n 0, 1) := by decide +kernel
theorem d_X_feed_44 : decode (iC M_X_feed) 44 = .ok (.getfield 10, 3) := by decide +kernel
theorem d_X_feed_47 : decode (iC M_X_feed) 47 = .ok (.iload_n 2, 1) := by decide +kernel
theorem d_X_feed_48 : decode (iC M_X_feed) 48 = .ok (.bipush 32, 2) := by decide +kernel
theorem d_X_feed_50 : decode (iC M_X_feed) 50 = .ok (.invokevirtual 40, 3) := by decide +kernel
theorem d_X_feed_53 : decode (iC M_X_feed) 53 = .ok (.pop, 1) := by decide +kernel
theorem d_X_feed_54 : decode (iC M_X_feed) 54 = .ok (.aload_n 0, 1) := by decide +kernel
theorem d_X_feed_55 : decode (iC M_X_feed) 55 = .ok (.getfield 10, 3) := by decide +kernel
theorem d_X_feed_58 : decode (iC M_X_feed) 58 = .ok (.iload_n 3, 1) := by decide +kernel
theorem d_X_feed_59 : decode (iC M_X_feed) 59 = .ok (.bipush 32, 2) := by decide +kernel
theorem d_X_feed_61 : decode (iC M_X_feed) 61 = .ok (.invokevirtual 40, 3) := by decide +kernel
theorem d_X_feed_64 : decode (iC M_X_feed) 64 = .ok (.pop, 1) := by decide +kernel
theorem d_X_feed_65 : decode (iC M_X_feed) 65 = .ok (.aload_n 0, 1) := by decide +kernel
theorem d_X_feed_66 : decode (iC M_X_feed) 66 = .ok (.getfield 10, 3) := by decide +kernel
theorem d_X_feed_69 : decode (iC M_X_feed) 69 = .ok (.iload 4, 2) := by decide +kernel
theorem d_X_feed_71 : decode (iC M_X_feed) 71 = .ok (.bipush 32, 2) := by decide +kernel
theorem d_X_feed_73 : decode (iC M_X_feed) 73 = .ok (.invokevirtual 40, 3) := by decide +kernel
theorem d_X_feed_76 : decode (iC M_X_feed) 76 = .ok (.pop, 1) := by decide +kernel
theorem d_X_feed_77 : decode (iC M_X_feed) 77 = .ok (.aload_n 0, 1) := by decide +kernel
theorem d_X_feed_78 : decode (iC M_X_feed) 78 = .ok (.getfield 10, 3) := by decide +kernel
theorem d_X_feed_81 : decode (iC M_X_feed) 81 = .ok (.iload 5, 2) := by decide +kernel
theorem d_X_feed_83 : decode (iC M_X_feed) 83 = .ok (.bipush 32, 2) := by decide +kernel
theorem d_X_feed_85 : decode (iC M_X_feed) 85 = .ok (.invokevirtual 40, 3) := by decide +kernel
theorem d_X_feed_88 : decode (iC M_X_feed) 88 = .ok (.pop, 1) := by decide +kernel
theorem d_X_feed_89 : decode (iC M_X_feed) 89 = .ok (.aload_n 0, 1) := by decide +kernel
theorem d_X_feed_90 : decode (iC M_X_feed) 90 = .ok (.getfield 10, 3) := by decide +kernel
theorem d_X_feed_93 : decode (iC M_X_feed) 93 = .ok (.invokevirtual 32, 3) := by decide +kernel
theorem d_X_feed_96 : decode (iC M_X_feed) 96 = .ok (.ireturn, 1) := by decide +kernel
theorem d_X_end_0 : decode (iC M_X_end) 0 = .ok (.aload_n 0, 1) := by decide +kernel
theorem d_X_end_1 : decode (iC M_X_end) 1 = .ok (.getfield 10, 3) := by decide +kernel
theorem d_X_end_4 : decode (iC M_X_end) 4 = .ok (.iload_n 1, 1) := by decide +kernel
theorem d_X_end_5 : decode (iC M_X_end) 5 = .ok (.invokevirtual 36, 3) := by decide +kernel
theorem d_X_end_8 : decode (iC M_X_end) 8 = .ok (.ireturn, 1) := by decide +kernel
theorem d_X_bits_0 : decode (iC M_X_bits) 0 = .ok (.aload_n 0, 1) := by decide +kernel
theorem d_X_bits_1 : decode (iC M_X_bits) 1 = .ok (.getfield 10, 3) := by decide +kernel
theorem d_X_bits_4 : decode (iC M_X_bits) 4 = .ok (.iload_n 1, 1) := by decide +kernel
theorem d_X_bits_5 : decode (iC M_X_bits) 5 = .ok (.iload_n 2, 1) := by decide +kernel
theorem d_X_bits_6 : decode (iC M_X_bits) 6 = .ok (.invokevirtual 40, 3) := by decide +kernel
theorem d_X_bits_9 : decode (iC M_X_bits) 9 = .ok (.ireturn, 1) := by decide +kernel
theorem d_X_read_0 : decode (iC M_X_read) 0 = .ok (.aload_n 0, 1) := by decide +kernel
theorem d_X_read_1 : decode (iC M_X_read) 1 = .ok (.getfield 19, 3) := by decide +kernel
theorem d_X_read_4 : decode (iC M_X_read) 4 = .ok (.invokevirtual 44, 3) := by decide +kernel
theorem d_X_read_7 : decode (iC M_X_read) 7 = .ok (.aload_n 0, 1) := by decide +kernel
theorem d_X_read_8 : decode (iC M_X_read) 8 = .ok (.getfield 10, 3) := by decide +kernel
theorem d_X_read_11 : decode (iC M_X_read) 11 = .ok (.invokevirtual 47, 3) := by decide +kernel
theorem d_X_read_14 : decode (iC M_X_read) 14 = .ok (.aload_n 0, 1) := by decide +kernel
theorem d_X_read_15 : decode (iC M_X_read) 15 = .ok (.getfield 28, 3) := by decide +kernel
theorem d_X_read_18 : decode (iC M_X_read) 18 = .ok (.invokevirtual 50, 3) := by decide +kernel
theorem d_X_read_21 : decode (iC M_X_read) 21 = .ok (.iconst 0, 1) := by decide +kernel
theorem d_X_read_22 : decode (iC M_X_read) 22 = .ok (.istore_n 1, 1) := by decide +kernel
theorem d_X_read_23 : decode (iC M_X_read) 23 = .ok (.iload_n 1, 1) := by decide +kernel
theorem d_X_read_24 : decode (iC M_X_read) 24 = .ok (.sipush 4000, 3) := by decide +kernel
theorem d_X_read_27 : decode (iC M_X_read) 27 = .ok (.if_icmp .ge 27, 3) := by decide +kernel
theorem d_X_read_30 : decode (iC M_X_read) 30 = .ok (.aload_n 0, 1) := by decide +kernel
theorem d_X_read_31 : decode (iC M_X_read) 31 = .ok (.getfield 28, 3) := by decide +kernel
theorem d_X_read_34 : decode (iC M_X_read) 34 = .ok (.invokevirtual 53, 3) := by decide +kernel
theorem d_X_read_37 : decode (iC M_X_read) 37 = .ok (.ifCond .eq 17, 3) := by decide +kernel
theorem d_X_read_40 : decode (iC M_X_read) 40 = .ok (.aload_n 0, 1) := by decide +kernel
theorem d_X_read_41 : decode (iC M_X_read) 41 = .ok (.getfield 28, 3) := by decide +kernel
theorem d_X_read_44 : decode (iC M_X_read) 44 = .ok (.iload_n 1, 1) := by decide +kernel
theorem d_X_read_45 : decode (iC M_X_read) 45 = .ok (.invokevirtual 57, 3) := by decide +kernel
theorem d_X_read_48 : decode (iC M_X_read) 48 = .ok (.iinc 1 1, 3) := by decide +kernel
theorem d_X_read_51 : decode (iC M_X_read) 51 = .ok (.goto (-28), 3) := by decide +kernel
theorem d_X_read_54 : decode (iC M_X_read) 54 = .ok (.goto 4, 3) := by decide +kernel
theorem d_X_read_57 : decode (iC M_X_read) 57 = .ok (.astore_n 1, 1) := by decide +kernel
theorem d_X_read_58 : decode (iC M_X_read) 58 = .ok (.aload_n 0, 1) := by decide +kernel
theorem d_X_read_59 : decode (iC M_X_read) 59 = .ok (.getfield 19, 3) := by decide +kernel
theorem d_X_read_62 : decode (iC M_X_read) 62 = .ok (.invokevirtual 63, 3) := by decide +kernel
theorem d_X_read_65 : decode (iC M_X_read) 65 = .ok (.aload_n 0, 1) := by decide +kernel
theorem d_X_read_66 : decode (iC M_X_read) 66 = .ok (.getfield 10, 3) := by decide +kernel
theorem d_X_read_69 : decode (iC M_X_read) 69 = .ok (.iconst 0, 1) := by decide +kernel
theorem d_X_read_70 : decode (iC M_X_read) 70 = .ok (.invokevirtual 36, 3) := by decide +kernel
theorem d_X_read_73 : decode (iC M_X_read) 73 = .ok (.pop, 1) := by decide +kernel
theorem d_X_read_74 : decode (iC M_X_read) 74 = .ok (.aload_n 0, 1) := by decide +kernel
theorem d_X_read_75 : decode (iC M_X_read) 75 = .ok (.getfield 19, 3) := by decide +kernel
theorem d_X_read_78 : decode (iC M_X_read) 78 = .ok (.getfield 66, 3) := by decide +kernel
theorem d_X_read_81 : decode (iC M_X_read) 81 = .ok (.iconst 2, 1) := by decide +kernel
theorem d_X_read_82 : decode (iC M_X_read) 82 = .ok (.iaload, 1) := by decide +kernel
theorem d_X_read_83 : decode (iC M_X_read) 83 = .ok (.ireturn, 1) := by decide +kernel
theorem d_R_clear_0 : decode (iC M_R_clear) 0 = .ok (.aload_n 0, 1) := by decide +kernel
theorem d_R_clear_1 : decode (iC M_R_clear) 1 = .ok (.getfield 9, 3) := by decide +kernel
theorem d_R_clear_4 : decode (iC M_R_clear) 4 = .ok (.iconst 0, 1) := by decide +kernel
theorem d_R_clear_5 : decode (iC M_R_clear) 5 = .ok (.invokestatic 39, 3) := by decide +kernel
theorem d_R_clear_8 : decode (iC M_R_clear) 8 = .ok (.aload_n 0, 1) := by decide +kernel
theorem d_R_clear_9 : decode (iC M_R_clear) 9 = .ok (.iconst 0, 1) := by decide +kernel
theorem d_R_clear_10 : decode (iC M_R_clear) 10 = .ok (.putfield 45, 3) := by decide +kernel
theorem d_R_clear_13 : decode (iC M_R_clear) 13 = .ok (.return_, 1) := by decide +kernel
theorem d_R_setSize_0 : decode (iC M_R_setSize) 0 = .ok (.aload_n 0, 1) := by decide +kernel
theorem d_R_setSize_1 : decode (iC M_R_setSize) 1 = .ok (.iload_n 1, 1) := by decide +kernel
theorem d_R_setSize_2 : decode (iC M_R_setSize) 2 = .ok (.putfield 21, 3) := by decide +kernel
theorem d_R_setSize_5 : decode (iC M_R_setSize) 5 = .ok (.aload_n 0, 1) := by decide +kernel
theorem d_R_setSize_6 : decode (iC M_R_setSize) 6 = .ok (.iload_n 2, 1) := by decide +kernel
theorem d_R_setSize_7 : decode (iC M_R_setSize) 7 = .ok (.putfield 25, 3) := by decide +kernel
theorem d_R_setSize_10 : decode (iC M_R_setSize) 10 = .ok (.aload_n 0, 1) := by decide +kernel
theorem d_R_setSize_11 : decode (iC M_R_setSize) 11 = .ok (.getfield 9, 3) := by decide +kernel
theorem d_R_setSize_14 : decode (iC M_R_setSize) 14 = .ok (.iconst 0, 1) := by decide +kernel
theorem d_R_setSize_15 : decode (iC M_R_setSize) 15 = .ok (.bipush 16, 2) := by decide +kernel
theorem d_R_setSize_17 : decode (iC M_R_setSize) 17 = .ok (.aload_n 0, 1) := by decide +kernel
theorem d_R_setSize_18 : decode (iC M_R_setSize) 18 = .ok (.getfield 21, 3) := by decide +kernel
theorem d_R_setSize_21 : decode (iC M_R_setSize) 21 = .ok (.imul, 1) := by decide +kernel
theorem d_R_setSize_22 : decode (iC M_R_setSize) 22 = .ok (.iastore, 1) := by decide +kernel
theorem d_R_setSize_23 : decode (iC M_R_setSize) 23 = .ok (.aload_n 0, 1) := by decide +kernel
theorem d_R_setSize_24 : decode (iC M_R_setSize) 24 = .ok (.getfield 9, 3) := by decide +kernel
theorem d_R_setSize_27 : decode (iC M_R_setSize) 27 = .ok (.iconst 1, 1) := by decide +kernel
theorem d_R_setSize_28 : decode (iC M_R_setSize) 28 = .ok (.bipush 16, 2) := by decide +kernel
theorem d_R_setSize_30 : decode (iC M_R_setSize) 30 = .ok (.aload_n 0, 1) := by decide +kernel
theorem d_R_setSize_31 : decode (iC M_R_setSize) 31 = .ok (.getfield 25, 3) := by decide +kernel
theorem d_R_setSize_34 : decode (iC M_R_setSize) 34 = .ok (.imul, 1) := by decide +kernel
theorem d_R_setSize_35 : decode (iC M_R_setSize) 35 = .ok (.iastore, 1) := by decide +kernel
theorem d_R_setSize_36 : decode (iC M_R_setSize) 36 = .ok (.return_, 1) := by decide +kernel
theorem d_R_begin_0 : decode (iC M_R_begin) 0 = .ok (.aload_n 0, 1) := by decide +kernel
theorem d_R_begin_1 : decode (iC M_R_begin) 1 = .ok (.getfield 29, 3) := by decide +kernel
theorem d_R_begin_4 : decode (iC M_R_begin) 4 = .ok (.aload_n 0, 1) := by decide +kernel
theorem d_R_begin_5 : decode (iC M_R_begin) 5 = .ok (.getfield 21, 3) := by decide +kernel
theorem d_R_begin_8 : decode (iC M_R_begin) 8 = .ok (.aload_n 0, 1) := by decide +kernel
theorem d_R_begin_9 : decode (iC M_R_begin) 9 = .ok (.getfield 25, 3) := by decide +kernel
theorem d_R_begin_12 : decode (iC M_R_begin) 12 = .ok (.invokevirtual 48, 3) := by decide +kernel
theorem d_R_begin_15 : decode (iC M_R_begin) 15 = .ok (.aload_n 0, 1) := by decide +kernel
theorem d_R_begin_16 : decode (iC M_R_begin) 16 = .ok (.getfield 29, 3) := by decide +kernel
theorem d_R_begin_19 : decode (iC M_R_begin) 19 = .ok (.getfield 52, 3) := by decide +kernel
theorem d_R_begin_22 : decode (iC M_R_begin) 22 = .ok (.iconst 0, 1) := by decide +kernel
theorem d_R_begin_23 : decode (iC M_R_begin) 23 = .ok (.iload_n 1, 1) := by decide +kernel
theorem d_R_begin_24 : decode (iC M_R_begin) 24 = .ok (.iastore, 1) := by decide +kernel
theorem d_R_begin_25 : decode (iC M_R_begin) 25 = .ok (.aload_n 0, 1) := by decide +kernel
theorem d_R_begin_26 : decode (iC M_R_begin) 26 = .ok (.getfield 29, 3) := by decide +kernel
theorem d_R_begin_29 : decode (iC M_R_begin) 29 = .ok (.getfield 52, 3) := by decide +kernel
theorem d_R_begin_32 : decode (iC M_R_begin) 32 = .ok (.iconst 1, 1) := by decide +kernel
theorem d_R_begin_33 : decode (iC M_R_begin) 33 = .ok (.iload_n 2, 1) := by decide +kernel
theorem d_R_begin_34 : decode (iC M_R_begin) 34 = .ok (.iastore, 1) := by decide +kernel
theorem d_R_begin_35 : decode (iC M_R_begin) 35 = .ok (.aload_n 0, 1) := by decide +kernel
theorem d_R_begin_36 : decode (iC M_R_begin) 36 = .ok (.getfield 29, 3) := by decide +kernel
theorem d_R_begin_39 : decode (iC M_R_begin) 39 = .ok (.getfield 52, 3) := by decide +kernel
theorem d_R_begin_42 : decode (iC M_R_begin) 42 = .ok (.iconst 2, 1) := by decide +kernel
theorem d_R_begin_43 : decode (iC M_R_begin) 43 = .ok (.iconst 0, 1) := by decide +kernel
theorem d_R_begin_44 : decode (iC M_R_begin) 44 = .ok (.iastore, 1) := by decide +kernel
theorem d_R_begin_45 : decode (iC M_R_begin) 45 = .ok (.aload_n 0, 1) := by decide +kernel
theorem d_R_begin_46 : decode (iC M_R_begin) 46 = .ok (.getfield 29, 3) := by decide +kernel
theorem d_R_begin_49 : decode (iC M_R_begin) 49 = .ok (.getfield 52, 3) := by decide +kernel
theorem d_R_begin_52 : decode (iC M_R_begin) 52 = .ok (.iconst 3, 1) := by decide +kernel
theorem d_R_begin_53 : decode (iC M_R_begin) 53 = .ok (.iconst 0, 1) := by decide +kernel
theorem d_R_begin_54 : decode (iC M_R_begin) 54 = .ok (.iastore, 1) := by decide +kernel
theorem d_R_begin_55 : decode (iC M_R_begin) 55 = .ok (.return_, 1) := by decide +kernel
theorem d_X_held_0 : decode (iC M_X_held) 0 = .ok (.iload_n 0, 1) := by decide +kernel
theorem d_X_held_1 : decode (iC M_X_held) 1 = .ok (.iload_n 1, 1) := by decide +kernel
theorem d_X_held_2 : decode (iC M_X_held) 2 = .ok (.if_icmp .ge 7, 3) := by decide +kernel
theorem d_X_held_5 : decode (iC M_X_held) 5 = .ok (.iload_n 1, 1) := by decide +kernel
theorem d_X_held_6 : decode (iC M_X_held) 6 = .ok (.goto 13, 3) := by decide +kernel
theorem d_X_held_9 : decode (iC M_X_held) 9 = .ok (.iload_n 0, 1) := by decide +kernel
theorem d_X_held_10 : decode (iC M_X_held) 10 = .ok (.iload_n 2, 1) := by decide +kernel
theorem d_X_held_11 : decode (iC M_X_held) 11 = .ok (.if_icmp .le 7, 3) := by decide +kernel
theorem d_X_held_14 : decode (iC M_X_held) 14 = .ok (.iload_n 2, 1) := by decide +kernel
theorem d_X_held_15 : decode (iC M_X_held) 15 = .ok (.goto 4, 3) := by decide +kernel
theorem d_X_held_18 : decode (iC M_X_held) 18 = .ok (.iload_n 0, 1) := by decide +kernel
theorem d_X_held_19 : decode (iC M_X_held) 19 = .ok (.ireturn, 1) := by decide +kernel
theorem d_R_takeWhole_0 : decode (iC M_R_takeWhole) 0 = .ok (.aload_n 0, 1) := by decide +kernel
theorem d_R_takeWhole_1 : decode (iC M_R_takeWhole) 1 = .ok (.getfield 9, 3) := by decide +kernel
theorem d_R_takeWhole_4 : decode (iC M_R_takeWhole) 4 = .ok (.iconst 3, 1) := by decide +kernel
theorem d_R_takeWhole_5 : decode (iC M_R_takeWhole) 5 = .ok (.dup2, 1) := by decide +kernel
theorem d_R_takeWhole_6 : decode (iC M_R_takeWhole) 6 = .ok (.iaload, 1) := by decide +kernel
theorem d_R_takeWhole_7 : decode (iC M_R_takeWhole) 7 = .ok (.iconst 1, 1) := by decide +kernel
theorem d_R_takeWhole_8 : decode (iC M_R_takeWhole) 8 = .ok (.iadd, 1) := by decide +kernel
theorem d_R_takeWhole_9 : decode (iC M_R_takeWhole) 9 = .ok (.iastore, 1) := by decide +kernel
theorem d_R_takeWhole_10 : decode (iC M_R_takeWhole) 10 = .ok (.aload_n 0, 1) := by decide +kernel
theorem d_R_takeWhole_11 : decode (iC M_R_takeWhole) 11 = .ok (.getfield 29, 3) := by decide +kernel
theorem d_R_takeWhole_14 : decode (iC M_R_takeWhole) 14 = .ok (.getfield 52, 3) := by decide +kernel
theorem d_R_takeWhole_17 : decode (iC M_R_takeWhole) 17 = .ok (.iconst 0, 1) := by decide +kernel
theorem d_R_takeWhole_18 : decode (iC M_R_takeWhole) 18 = .ok (.iaload, 1) := by decide +kernel
theorem d_R_takeWhole_19 : decode (iC M_R_takeWhole) 19 = .ok (.istore_n 1, 1) := by decide +kernel
theorem d_R_takeWhole_20 : decode (iC M_R_takeWhole) 20 = .ok (.iload_n 1, 1) := by decide +kernel
theorem d_R_takeWhole_21 : decode (iC M_R_takeWhole) 21 = .ok (.iconst 1, 1) := by decide +kernel
theorem d_R_takeWhole_22 : decode (iC M_R_takeWhole) 22 = .ok (.if_icmp .eq 17, 3) := by decide +kernel
theorem d_R_takeWhole_25 : decode (iC M_R_takeWhole) 25 = .ok (.iload_n 1, 1) := by decide +kernel
theorem d_R_takeWhole_26 : decode (iC M_R_takeWhole) 26 = .ok (.iconst 2, 1) := by decide +kernel
theorem d_R_takeWhole_27 : decode (iC M_R_takeWhole) 27 = .ok (.if_icmp .eq 12, 3) := by decide +kernel
theorem d_R_takeWhole_30 : decode (iC M_R_takeWhole) 30 = .ok (.aload_n 0, 1) := by decide +kernel
theorem d_R_takeWhole_31 : decode (iC M_R_takeWhole) 31 = .ok (.aload_n 0, 1) := by decide +kernel
theorem d_R_takeWhole_32 : decode (iC M_R_takeWhole) 32 = .ok (.getfield 29, 3) := by decide +kernel
theorem d_R_takeWhole_35 : decode (iC M_R_takeWhole) 35 = .ok (.invokevirtual 55, 3) := by decide +kernel
theorem d_R_takeWhole_38 : decode (iC M_R_takeWhole) 38 = .ok (.return_, 1) := by decide +kernel
theorem d_R_takeWhole_39 : decode (iC M_R_takeWhole) 39 = .ok (.aload_n 0, 1) := by decide +kernel
theorem d_R_takeWhole_40 : decode (iC M_R_takeWhole) 40 = .ok (.getfield 45, 3) := by decide +kernel
theorem d_R_takeWhole_43 : decode (iC M_R_takeWhole) 43 = .ok (.ifCond .le 11, 3) := by decide +kernel
theorem d_R_takeWhole_46 : decode (iC M_R_takeWhole) 46 = .ok (.aload_n 0, 1) := by decide +kernel
theorem d_R_takeWhole_47 : decode (iC M_R_takeWhole) 47 = .ok (.aload_n 0, 1) := by decide +kernel
theorem d_R_takeWhole_48 : decode (iC M_R_takeWhole) 48 = .ok (.getfield 33, 3) := by decide +kernel
theorem d_R_takeWhole_51 : decode (iC M_R_takeWhole) 51 = .ok (.invokevirtual 55, 3) := by decide +kernel
theorem d_R_takeWhole_54 : decode (iC M_R_takeWhole) 54 = .ok (.aload_n 0, 1) := by decide +kernel
theorem d_R_takeWhole_55 : decode (iC M_R_takeWhole) 55 = .ok (.getfield 36, 3) := by decide +kernel
theorem d_R_takeWhole_58 : decode (iC M_R_takeWhole) 58 = .ok (.astore_n 2, 1) := by decide +kernel
theorem d_R_takeWhole_59 : decode (iC M_R_takeWhole) 59 = .ok (.aload_n 0, 1) := by decide +kernel
theorem d_R_takeWhole_60 : decode (iC M_R_takeWhole) 60 = .ok (.aload_n 0, 1) := by decide +kernel
theorem d_R_takeWhole_61 : decode (iC M_R_takeWhole) 61 = .ok (.getfield 33, 3) := by decide +kernel
theorem d_R_takeWhole_64 : decode (iC M_R_takeWhole) 64 = .ok (.putfield 36, 3) := by decide +kernel
theorem d_R_takeWhole_67 : decode (iC M_R_takeWhole) 67 = .ok (.aload_n 0, 1) := by decide +kernel
theorem d_R_takeWhole_68 : decode (iC M_R_takeWhole) 68 = .ok (.aload_n 0, 1) := by decide +kernel
theorem d_R_takeWhole_69 : decode (iC M_R_takeWhole) 69 = .ok (.getfield 29, 3) := by decide +kernel
theorem d_R_takeWhole_72 : decode (iC M_R_takeWhole) 72 = .ok (.putfield 33, 3) := by decide +kernel
theorem d_R_takeWhole_75 : decode (iC M_R_takeWhole) 75 = .ok (.aload_n 0, 1) := by decide +kernel
theorem d_R_takeWhole_76 : decode (iC M_R_takeWhole) 76 = .ok (.aload_n 2, 1) := by decide +kernel
theorem d_R_takeWhole_77 : decode (iC M_R_takeWhole) 77 = .ok (.putfield 29, 3) := by decide +kernel
theorem d_R_takeWhole_80 : decode (iC M_R_takeWhole) 80 = .ok (.aload_n 0, 1) := by decide +kernel
theorem d_R_takeWhole_81 : decode (iC M_R_takeWhole) 81 = .ok (.iconst 2, 1) := by decide +kernel
theorem d_R_takeWhole_82 : decode (iC M_R_takeWhole) 82 = .ok (.aload_n 0, 1) := by decide +kernel
theorem d_R_takeWhole_83 : decode (iC M_R_takeWhole) 83 = .ok (.getfield 45, 3) := by decide +kernel
theorem d_R_takeWhole_86 : decode (iC M_R_takeWhole) 86 = .ok (.iconst 1, 1) := by decide +kernel
theorem d_R_takeWhole_87 : decode (iC M_R_takeWhole) 87 = .ok (.iadd, 1) := by decide +kernel
theorem d_R_takeWhole_88 : decode (iC M_R_takeWhole) 88 = .ok (.invokestatic 59, 3) := by decide +kernel
theorem d_R_takeWhole_91 : decode (iC M_R_takeWhole) 91 = .ok (.putfield 45, 3) := by decide +kernel
theorem d_R_takeWhole_94 : decode (iC M_R_takeWhole) 94 = .ok (.return_, 1) := by decide +kernel
theorem d_R_show_0 : decode (iC M_R_show) 0 = .ok (.aload_n 0, 1) := by decide +kernel
theorem d_R_show_1 : decode (iC M_R_show) 1 = .ok (.getfield 9, 3) := by decide +kernel
theorem d_R_show_4 : decode (iC M_R_show) 4 = .ok (.iconst 2, 1) := by decide +kernel
theorem d_R_show_5 : decode (iC M_R_show) 5 = .ok (.iaload, 1) := by decide +kernel
theorem d_R_show_6 : decode (iC M_R_show) 6 = .ok (.istore_n 2, 1) := by decide +kernel
theorem d_R_show_7 : decode (iC M_R_show) 7 = .ok (.aload_n 0, 1) := by decide +kernel
theorem d_R_show_8 : decode (iC M_R_show) 8 = .ok (.getfield 9, 3) := by decide +kernel
theorem d_R_show_11 : decode (iC M_R_show) 11 = .ok (.iconst 2, 1) := by decide +kernel
theorem d_R_show_12 : decode (iC M_R_show) 12 = .ok (.dup2, 1) := by decide +kernel
theorem d_R_show_13 : decode (iC M_R_show) 13 = .ok (.iaload, 1) := by decide +kernel
theorem d_R_show_14 : decode (iC M_R_show) 14 = .ok (.iconst 1, 1) := by decide +kernel
theorem d_R_show_15 : decode (iC M_R_show) 15 = .ok (.iadd, 1) := by decide +kernel
theorem d_R_show_16 : decode (iC M_R_show) 16 = .ok (.iastore, 1) := by decide +kernel
theorem d_R_show_17 : decode (iC M_R_show) 17 = .ok (.iload_n 2, 1) := by decide +kernel
theorem d_R_show_18 : decode (iC M_R_show) 18 = .ok (.bipush 20, 2) := by decide +kernel
theorem d_R_show_20 : decode (iC M_R_show) 20 = .ok (.if_icmp .lt 4, 3) := by decide +kernel
theorem d_R_show_23 : decode (iC M_R_show) 23 = .ok (.return_, 1) := by decide +kernel
theorem d_R_show_24 : decode (iC M_R_show) 24 = .ok (.aload_n 0, 1) := by decide +kernel
theorem d_R_show_25 : decode (iC M_R_show) 25 = .ok (.getfield 17, 3) := by decide +kernel
theorem d_R_show_28 : decode (iC M_R_show) 28 = .ok (.iload_n 2, 1) := by decide +kernel
theorem d_R_show_29 : decode (iC M_R_show) 29 = .ok (.aaload, 1) := by decide +kernel
theorem d_R_show_30 : decode (iC M_R_show) 30 = .ok (.astore_n 3, 1) := by decide +kernel
theorem d_R_show_31 : decode (iC M_R_show) 31 = .ok (.aload_n 3, 1) := by decide +kernel
theorem d_R_show_32 : decode (iC M_R_show) 32 = .ok (.ifnonnull 18, 3) := by decide +kernel
theorem d_R_show_35 : decode (iC M_R_show) 35 = .ok (.new 15, 3) := by decide +kernel
theorem d_R_show_38 : decode (iC M_R_show) 38 = .ok (.dup, 1) := by decide +kernel
theorem d_R_show_39 : decode (iC M_R_show) 39 = .ok (.invokespecial 28, 3) := by decide +kernel
theorem d_R_show_42 : decode (iC M_R_show) 42 = .ok (.astore_n 3, 1) := by decide +kernel
theorem d_R_show_43 : decode (iC M_R_show) 43 = .ok (.aload_n 0, 1) := by decide +kernel
theorem d_R_show_44 : decode (iC M_R_show) 44 = .ok (.getfield 17, 3) := by decide +kernel
theorem d_R_show_47 : decode (iC M_R_show) 47 = .ok (.iload_n 2, 1) := by decide +kernel
theorem d_R_show_48 : decode (iC M_R_show) 48 = .ok (.aload_n 3, 1) := by decide +kernel
theorem d_R_show_49 : decode (iC M_R_show) 49 = .ok (.aastore, 1) := by decide +kernel
theorem d_R_show_50 : decode (iC M_R_show) 50 = .ok (.aload_n 3, 1) := by decide +kernel
theorem d_R_show_51 : decode (iC M_R_show) 51 = .ok (.aload_n 0, 1) := by decide +kernel
theorem d_R_show_52 : decode (iC M_R_show) 52 = .ok (.getfield 21, 3) := by decide +kernel
theorem d_R_show_55 : decode (iC M_R_show) 55 = .ok (.aload_n 0, 1) := by decide +kernel
theorem d_R_show_56 : decode (iC M_R_show) 56 = .ok (.getfield 25, 3) := by decide +kernel
theorem d_R_show_59 : decode (iC M_R_show) 59 = .ok (.invokevirtual 48, 3) := by decide +kernel
theorem d_R_show_62 : decode (iC M_R_show) 62 = .ok (.aload_n 3, 1) := by decide +kernel
theorem d_R_show_63 : decode (iC M_R_show) 63 = .ok (.aload_n 1, 1) := by decide +kernel
theorem d_R_show_64 : decode (iC M_R_show) 64 = .ok (.invokevirtual 65, 3) := by decide +kernel
theorem d_R_show_67 : decode (iC M_R_show) 67 = .ok (.return_, 1) := by decide +kernel
theorem d_R_finish_0 : decode (iC M_R_finish) 0 = .ok (.aload_n 0, 1) := by decide +kernel
theorem d_R_finish_1 : decode (iC M_R_finish) 1 = .ok (.getfield 45, 3) := by decide +kernel
theorem d_R_finish_4 : decode (iC M_R_finish) 4 = .ok (.ifCond .le 11, 3) := by decide +kernel
theorem d_R_finish_7 : decode (iC M_R_finish) 7 = .ok (.aload_n 0, 1) := by decide +kernel
theorem d_R_finish_8 : decode (iC M_R_finish) 8 = .ok (.aload_n 0, 1) := by decide +kernel
theorem d_R_finish_9 : decode (iC M_R_finish) 9 = .ok (.getfield 33, 3) := by decide +kernel
theorem d_R_finish_12 : decode (iC M_R_finish) 12 = .ok (.invokevirtual 55, 3) := by decide +kernel
theorem d_R_finish_15 : decode (iC M_R_finish) 15 = .ok (.return_, 1) := by decide +kernel
theorem d_X_wrong_0 : decode (iC M_X_wrong) 0 = .ok (.aload_n 0, 1) := by decide +kernel
theorem d_X_wrong_1 : decode (iC M_X_wrong) 1 = .ok (.getfield 10, 3) := by decide +kernel
theorem d_X_wrong_4 : decode (iC M_X_wrong) 4 = .ok (.getfield 70, 3) := by decide +kernel
theorem d_X_wrong_7 : decode (iC M_X_wrong) 7 = .ok (.ireturn, 1) := by decide +kernel
theorem d_X_dot_0 : decode (iC M_X_dot) 0 = .ok (.aload_n 0, 1) := by decide +kernel
theorem d_X_dot_1 : decode (iC M_X_dot) 1 = .ok (.getfield 19, 3) := by decide +kernel
theorem d_X_dot_4 : decode (iC M_X_dot) 4 = .ok (.iload_n 1, 1) := by decide +kernel
theorem d_X_dot_5 : decode (iC M_X_dot) 5 = .ok (.iload_n 2, 1) := by decide +kernel
theorem d_X_dot_6 : decode (iC M_X_dot) 6 = .ok (.invokevirtual 86, 3) := by decide +kernel
theorem d_X_dot_9 : decode (iC M_X_dot) 9 = .ok (.astore 5, 2) := by decide +kernel
theorem d_X_dot_11 : decode (iC M_X_dot) 11 = .ok (.aload 5, 2) := by decide +kernel
theorem d_X_dot_13 : decode (iC M_X_dot) 13 = .ok (.ifnonnull 7, 3) := by decide +kernel
theorem d_X_dot_16 : decode (iC M_X_dot) 16 = .ok (.iconst (-1), 1) := by decide +kernel
theorem d_X_dot_17 : decode (iC M_X_dot) 17 = .ok (.goto 11, 3) := by decide +kernel
theorem d_X_dot_20 : decode (iC M_X_dot) 20 = .ok (.aload 5, 2) := by decide +kernel
theorem d_X_dot_22 : decode (iC M_X_dot) 22 = .ok (.iload_n 3, 1) := by decide +kernel
theorem d_X_dot_23 : decode (iC M_X_dot) 23 = .ok (.iload 4, 2) := by decide +kernel
theorem d_X_dot_25 : decode (iC M_X_dot) 25 = .ok (.invokevirtual 90, 3) := by decide +kernel
theorem d_X_dot_28 : decode (iC M_X_dot) 28 = .ok (.ireturn, 1) := by decide +kernel
theorem d_R_keptPlane_0 : decode (iC M_R_keptPlane) 0 = .ok (.aload_n 0, 1) := by decide +kernel
theorem d_R_keptPlane_1 : decode (iC M_R_keptPlane) 1 = .ok (.iload_n 1, 1) := by decide +kernel
theorem d_R_keptPlane_2 : decode (iC M_R_keptPlane) 2 = .ok (.invokevirtual 68, 3) := by decide +kernel
theorem d_R_keptPlane_5 : decode (iC M_R_keptPlane) 5 = .ok (.astore_n 3, 1) := by decide +kernel
theorem d_R_keptPlane_6 : decode (iC M_R_keptPlane) 6 = .ok (.aload_n 3, 1) := by decide +kernel
theorem d_R_keptPlane_7 : decode (iC M_R_keptPlane) 7 = .ok (.ifnull 16, 3) := by decide +kernel
theorem d_R_keptPlane_10 : decode (iC M_R_keptPlane) 10 = .ok (.iload_n 2, 1) := by decide +kernel
theorem d_R_keptPlane_11 : decode (iC M_R_keptPlane) 11 = .ok (.ifCond .lt 12, 3) := by decide +kernel
theorem d_R_keptPlane_14 : decode (iC M_R_keptPlane) 14 = .ok (.iload_n 2, 1) := by decide +kernel
theorem d_R_keptPlane_15 : decode (iC M_R_keptPlane) 15 = .ok (.aload_n 3, 1) := by decide +kernel
theorem d_R_keptPlane_16 : decode (iC M_R_keptPlane) 16 = .ok (.getfield 72, 3) := by decide +kernel
theorem d_R_keptPlane_19 : decode (iC M_R_keptPlane) 19 = .ok (.arraylength, 1) := by decide +kernel
theorem d_R_keptPlane_20 : decode (iC M_R_keptPlane) 20 = .ok (.if_icmp .lt 5, 3) := by decide +kernel
theorem d_R_keptPlane_23 : decode (iC M_R_keptPlane) 23 = .ok (.aconst_null, 1) := by decide +kernel
theorem d_R_keptPlane_24 : decode (iC M_R_keptPlane) 24 = .ok (.areturn, 1) := by decide +kernel
theorem d_R_keptPlane_25 : decode (iC M_R_keptPlane) 25 = .ok (.aload_n 3, 1) := by decide +kernel
theorem d_R_keptPlane_26 : decode (iC M_R_keptPlane) 26 = .ok (.getfield 72, 3) := by decide +kernel
theorem d_R_keptPlane_29 : decode (iC M_R_keptPlane) 29 = .ok (.iload_n 2, 1) := by decide +kernel
theorem d_R_keptPlane_30 : decode (iC M_R_keptPlane) 30 = .ok (.aaload, 1) := by decide +kernel
theorem d_R_keptPlane_31 : decode (iC M_R_keptPlane) 31 = .ok (.areturn, 1) := by decide +kernel
theorem d_R_keptPicture_0 : decode (iC M_R_keptPicture) 0 = .ok (.iload_n 1, 1) := by decide +kernel
theorem d_R_keptPicture_1 : decode (iC M_R_keptPicture) 1 = .ok (.ifCond .lt 19, 3) := by decide +kernel
theorem d_R_keptPicture_4 : decode (iC M_R_keptPicture) 4 = .ok (.iload_n 1, 1) := by decide +kernel
theorem d_R_keptPicture_5 : decode (iC M_R_keptPicture) 5 = .ok (.bipush 20, 2) := by decide +kernel
theorem d_R_keptPicture_7 : decode (iC M_R_keptPicture) 7 = .ok (.if_icmp .ge 13, 3) := by decide +kernel
theorem d_R_keptPicture_10 : decode (iC M_R_keptPicture) 10 = .ok (.iload_n 1, 1) := by decide +kernel
theorem d_R_keptPicture_11 : decode (iC M_R_keptPicture) 11 = .ok (.aload_n 0, 1) := by decide +kernel
theorem d_R_keptPicture_12 : decode (iC M_R_keptPicture) 12 = .ok (.getfield 9, 3) := by decide +kernel
theorem d_R_keptPicture_15 : decode (iC M_R_keptPicture) 15 = .ok (.iconst 2, 1) := by decide +kernel
theorem d_R_keptPicture_16 : decode (iC M_R_keptPicture) 16 = .ok (.iaload, 1) := by decide +kernel
theorem d_R_keptPicture_17 : decode (iC M_R_keptPicture) 17 = .ok (.if_icmp .lt 7, 3) := by decide +kernel
theorem d_R_keptPicture_20 : decode (iC M_R_keptPicture) 20 = .ok (.aconst_null, 1) := by decide +kernel
theorem d_R_keptPicture_21 : decode (iC M_R_keptPicture) 21 = .ok (.goto 9, 3) := by decide +kernel
theorem d_R_keptPicture_24 : decode (iC M_R_keptPicture) 24 = .ok (.aload_n 0, 1) := by decide +kernel
theorem d_R_keptPicture_25 : decode (iC M_R_keptPicture) 25 = .ok (.getfield 17, 3) := by decide +kernel
theorem d_R_keptPicture_28 : decode (iC M_R_keptPicture) 28 = .ok (.iload_n 1, 1) := by decide +kernel
theorem d_R_keptPicture_29 : decode (iC M_R_keptPicture) 29 = .ok (.aaload, 1) := by decide +kernel
theorem d_R_keptPicture_30 : decode (iC M_R_keptPicture) 30 = .ok (.areturn, 1) := by decide +kernel
theorem d_X_sum_0 : decode (iC M_X_sum) 0 = .ok (.aload_n 0, 1) := by decide +kernel
theorem d_X_sum_1 : decode (iC M_X_sum) 1 = .ok (.getfield 19, 3) := by decide +kernel
theorem d_X_sum_4 : decode (iC M_X_sum) 4 = .ok (.iload_n 1, 1) := by decide +kernel
theorem d_X_sum_5 : decode (iC M_X_sum) 5 = .ok (.iload_n 2, 1) := by decide +kernel
theorem d_X_sum_6 : decode (iC M_X_sum) 6 = .ok (.invokevirtual 86, 3) := by decide +kernel
theorem d_X_sum_9 : decode (iC M_X_sum) 9 = .ok (.astore_n 3, 1) := by decide +kernel
theorem d_X_sum_10 : decode (iC M_X_sum) 10 = .ok (.aload_n 3, 1) := by decide +kernel
theorem d_X_sum_11 : decode (iC M_X_sum) 11 = .ok (.ifnonnull 7, 3) := by decide +kernel
theorem d_X_sum_14 : decode (iC M_X_sum) 14 = .ok (.iconst (-1), 1) := by decide +kernel
theorem d_X_sum_15 : decode (iC M_X_sum) 15 = .ok (.goto 7, 3) := by decide +kernel
theorem d_X_sum_18 : decode (iC M_X_sum) 18 = .ok (.aload_n 3, 1) := by decide +kernel
theorem d_X_sum_19 : decode (iC M_X_sum) 19 = .ok (.invokevirtual 95, 3) := by decide +kernel
theorem d_X_sum_22 : decode (iC M_X_sum) 22 = .ok (.ireturn, 1) := by decide +kernel
theorem d_X_look_0 : decode (iC M_X_look) 0 = .ok (.iload_n 1, 1) := by decide +kernel
theorem d_X_look_1 : decode (iC M_X_look) 1 = .ok (.ifCond .lt 15, 3) := by decide +kernel
theorem d_X_look_4 : decode (iC M_X_look) 4 = .ok (.iload_n 1, 1) := by decide +kernel
theorem d_X_look_5 : decode (iC M_X_look) 5 = .ok (.aload_n 0, 1) := by decide +kernel
theorem d_X_look_6 : decode (iC M_X_look) 6 = .ok (.getfield 19, 3) := by decide +kernel
theorem d_X_look_9 : decode (iC M_X_look) 9 = .ok (.getfield 66, 3) := by decide +kernel
theorem d_X_look_12 : decode (iC M_X_look) 12 = .ok (.arraylength, 1) := by decide +kernel
theorem d_X_look_13 : decode (iC M_X_look) 13 = .ok (.if_icmp .lt 11, 3) := by decide +kernel
theorem d_X_look_16 : decode (iC M_X_look) 16 = .ok (.new 74, 3) := by decide +kernel
theorem d_X_look_19 : decode (iC M_X_look) 19 = .ok (.dup, 1) := by decide +kernel
theorem d_X_look_20 : decode (iC M_X_look) 20 = .ok (.invokespecial 76, 3) := by decide +kernel
theorem d_X_look_23 : decode (iC M_X_look) 23 = .ok (.athrow, 1) := by decide +kernel
theorem d_X_look_24 : decode (iC M_X_look) 24 = .ok (.aload_n 0, 1) := by decide +kernel
theorem d_X_look_25 : decode (iC M_X_look) 25 = .ok (.getfield 19, 3) := by decide +kernel
theorem d_X_look_28 : decode (iC M_X_look) 28 = .ok (.getfield 66, 3) := by decide +kernel
theorem d_X_look_31 : decode (iC M_X_look) 31 = .ok (.iload_n 1, 1) := by decide +kernel
theorem d_X_look_32 : decode (iC M_X_look) 32 = .ok (.iaload, 1) := by decide +kernel
theorem d_X_look_33 : decode (iC M_X_look) 33 = .ok (.ireturn, 1) := by decide +kernel
theorem d_X_shown_0 : decode (iC M_X_shown) 0 = .ok (.aload_n 0, 1) := by decide +kernel
theorem d_X_shown_1 : decode (iC M_X_shown) 1 = .ok (.getfield 19, 3) := by decide +kernel
theorem d_X_shown_4 : decode (iC M_X_shown) 4 = .ok (.iload_n 1, 1) := by decide +kernel
theorem d_X_shown_5 : decode (iC M_X_shown) 5 = .ok (.invokevirtual 77, 3) := by decide +kernel
theorem d_X_shown_8 : decode (iC M_X_shown) 8 = .ok (.astore_n 3, 1) := by decide +kernel
theorem d_X_shown_9 : decode (iC M_X_shown) 9 = .ok (.aload_n 3, 1) := by decide +kernel
theorem d_X_shown_10 : decode (iC M_X_shown) 10 = .ok (.ifnull 16, 3) := by decide +kernel
theorem d_X_shown_13 : decode (iC M_X_shown) 13 = .ok (.iload_n 2, 1) := by decide +kernel
theorem d_X_shown_14 : decode (iC M_X_shown) 14 = .ok (.ifCond .lt 12, 3) := by decide +kernel
theorem d_X_shown_17 : decode (iC M_X_shown) 17 = .ok (.iload_n 2, 1) := by decide +kernel
theorem d_X_shown_18 : decode (iC M_X_shown) 18 = .ok (.aload_n 3, 1) := by decide +kernel
theorem d_X_shown_19 : decode (iC M_X_shown) 19 = .ok (.getfield 81, 3) := by decide +kernel
theorem d_X_shown_22 : decode (iC M_X_shown) 22 = .ok (.arraylength, 1) := by decide +kernel
theorem d_X_shown_23 : decode (iC M_X_shown) 23 = .ok (.if_icmp .lt 11, 3) := by decide +kernel
theorem d_X_shown_26 : decode (iC M_X_shown) 26 = .ok (.new 74, 3) := by decide +kernel
theorem d_X_shown_29 : decode (iC M_X_shown) 29 = .ok (.dup, 1) := by decide +kernel
theorem d_X_shown_30 : decode (iC M_X_shown) 30 = .ok (.invokespecial 76, 3) := by decide +kernel
theorem d_X_shown_33 : decode (iC M_X_shown) 33 = .ok (.athrow, 1) := by decide +kernel
theorem d_X_shown_34 : decode (iC M_X_shown) 34 = .ok (.aload_n 3, 1) := by decide +kernel
theorem d_X_shown_35 : decode (iC M_X_shown) 35 = .ok (.getfield 81, 3) := by decide +kernel
theorem d_X_shown_38 : decode (iC M_X_shown) 38 = .ok (.iload_n 2, 1) := by decide +kernel
theorem d_X_shown_39 : decode (iC M_X_shown) 39 = .ok (.iaload, 1) := by decide +kernel
theorem d_X_shown_40 : decode (iC M_X_shown) 40 = .ok (.ireturn, 1) := by decide +kernel
