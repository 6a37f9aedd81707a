theorem d_P_init_0 : decode (iC M_P_init) 0 = .ok (.aload_n 0, 1) := by decide +kernel
theorem d_P_init_1 : decode (iC M_P_init) 1 = .ok (.invokespecial 1, 3) := by decide +kernel
theorem d_P_init_4 : decode (iC M_P_init) 4 = .ok (.aload_n 0, 1) := by decide +kernel
theorem d_P_init_5 : decode (iC M_P_init) 5 = .ok (.iconst 3, 1) := by decide +kernel
theorem d_P_init_6 : decode (iC M_P_init) 6 = .ok (.anewarray 7, 3) := by decide +kernel
theorem d_P_init_9 : decode (iC M_P_init) 9 = .ok (.dup, 1) := by decide +kernel
theorem d_P_init_10 : decode (iC M_P_init) 10 = .ok (.iconst 0, 1) := by decide +kernel
theorem d_P_init_11 : decode (iC M_P_init) 11 = .ok (.new 7, 3) := by decide +kernel
theorem d_P_init_14 : decode (iC M_P_init) 14 = .ok (.dup, 1) := by decide +kernel
theorem d_P_init_15 : decode (iC M_P_init) 15 = .ok (.bipush 16, 2) := by decide +kernel
theorem d_P_init_17 : decode (iC M_P_init) 17 = .ok (.invokespecial 9, 3) := by decide +kernel
theorem d_P_init_20 : decode (iC M_P_init) 20 = .ok (.aastore, 1) := by decide +kernel
theorem d_P_init_21 : decode (iC M_P_init) 21 = .ok (.dup, 1) := by decide +kernel
theorem d_P_init_22 : decode (iC M_P_init) 22 = .ok (.iconst 1, 1) := by decide +kernel
theorem d_P_init_23 : decode (iC M_P_init) 23 = .ok (.new 7, 3) := by decide +kernel
theorem d_P_init_26 : decode (iC M_P_init) 26 = .ok (.dup, 1) := by decide +kernel
theorem d_P_init_27 : decode (iC M_P_init) 27 = .ok (.bipush 8, 2) := by decide +kernel
theorem d_P_init_29 : decode (iC M_P_init) 29 = .ok (.invokespecial 9, 3) := by decide +kernel
theorem d_P_init_32 : decode (iC M_P_init) 32 = .ok (.aastore, 1) := by decide +kernel
theorem d_P_init_33 : decode (iC M_P_init) 33 = .ok (.dup, 1) := by decide +kernel
theorem d_P_init_34 : decode (iC M_P_init) 34 = .ok (.iconst 2, 1) := by decide +kernel
theorem d_P_init_35 : decode (iC M_P_init) 35 = .ok (.new 7, 3) := by decide +kernel
theorem d_P_init_38 : decode (iC M_P_init) 38 = .ok (.dup, 1) := by decide +kernel
theorem d_P_init_39 : decode (iC M_P_init) 39 = .ok (.bipush 8, 2) := by decide +kernel
theorem d_P_init_41 : decode (iC M_P_init) 41 = .ok (.invokespecial 9, 3) := by decide +kernel
theorem d_P_init_44 : decode (iC M_P_init) 44 = .ok (.aastore, 1) := by decide +kernel
theorem d_P_init_45 : decode (iC M_P_init) 45 = .ok (.putfield 12, 3) := by decide +kernel
theorem d_P_init_48 : decode (iC M_P_init) 48 = .ok (.aload_n 0, 1) := by decide +kernel
theorem d_P_init_49 : decode (iC M_P_init) 49 = .ok (.iconst 4, 1) := by decide +kernel
theorem d_P_init_50 : decode (iC M_P_init) 50 = .ok (.newarray .int, 2) := by decide +kernel
theorem d_P_init_52 : decode (iC M_P_init) 52 = .ok (.putfield 18, 3) := by decide +kernel
theorem d_P_init_55 : decode (iC M_P_init) 55 = .ok (.return_, 1) := by decide +kernel
theorem d_L_init_0 : decode (iC M_L_init) 0 = .ok (.aload_n 0, 1) := by decide +kernel
theorem d_L_init_1 : decode (iC M_L_init) 1 = .ok (.invokespecial 3, 3) := by decide +kernel
theorem d_L_init_4 : decode (iC M_L_init) 4 = .ok (.aload_n 0, 1) := by decide +kernel
theorem d_L_init_5 : decode (iC M_L_init) 5 = .ok (.iconst 0, 1) := by decide +kernel
theorem d_L_init_6 : decode (iC M_L_init) 6 = .ok (.newarray .int, 2) := by decide +kernel
theorem d_L_init_8 : decode (iC M_L_init) 8 = .ok (.putfield 9, 3) := by decide +kernel
theorem d_L_init_11 : decode (iC M_L_init) 11 = .ok (.aload_n 0, 1) := by decide +kernel
theorem d_L_init_12 : decode (iC M_L_init) 12 = .ok (.iload_n 1, 1) := by decide +kernel
theorem d_L_init_13 : decode (iC M_L_init) 13 = .ok (.putfield 15, 3) := by decide +kernel
theorem d_L_init_16 : decode (iC M_L_init) 16 = .ok (.return_, 1) := by decide +kernel
theorem d_P_resize_0 : decode (iC M_P_resize) 0 = .ok (.iconst 0, 1) := by decide +kernel
theorem d_P_resize_1 : decode (iC M_P_resize) 1 = .ok (.istore_n 3, 1) := by decide +kernel
theorem d_P_resize_2 : decode (iC M_P_resize) 2 = .ok (.iload_n 3, 1) := by decide +kernel
theorem d_P_resize_3 : decode (iC M_P_resize) 3 = .ok (.aload_n 0, 1) := by decide +kernel
theorem d_P_resize_4 : decode (iC M_P_resize) 4 = .ok (.getfield 12, 3) := by decide +kernel
theorem d_P_resize_7 : decode (iC M_P_resize) 7 = .ok (.arraylength, 1) := by decide +kernel
theorem d_P_resize_8 : decode (iC M_P_resize) 8 = .ok (.if_icmp .ge 20, 3) := by decide +kernel
theorem d_P_resize_11 : decode (iC M_P_resize) 11 = .ok (.aload_n 0, 1) := by decide +kernel
theorem d_P_resize_12 : decode (iC M_P_resize) 12 = .ok (.getfield 12, 3) := by decide +kernel
theorem d_P_resize_15 : decode (iC M_P_resize) 15 = .ok (.iload_n 3, 1) := by decide +kernel
theorem d_P_resize_16 : decode (iC M_P_resize) 16 = .ok (.aaload, 1) := by decide +kernel
theorem d_P_resize_17 : decode (iC M_P_resize) 17 = .ok (.iload_n 1, 1) := by decide +kernel
theorem d_P_resize_18 : decode (iC M_P_resize) 18 = .ok (.iload_n 2, 1) := by decide +kernel
theorem d_P_resize_19 : decode (iC M_P_resize) 19 = .ok (.invokevirtual 22, 3) := by decide +kernel
theorem d_P_resize_22 : decode (iC M_P_resize) 22 = .ok (.iinc 3 1, 3) := by decide +kernel
theorem d_P_resize_25 : decode (iC M_P_resize) 25 = .ok (.goto (-23), 3) := by decide +kernel
theorem d_P_resize_28 : decode (iC M_P_resize) 28 = .ok (.return_, 1) := by decide +kernel
theorem d_L_resize_0 : decode (iC M_L_resize) 0 = .ok (.aload_n 0, 1) := by decide +kernel
theorem d_L_resize_1 : decode (iC M_L_resize) 1 = .ok (.aload_n 0, 1) := by decide +kernel
theorem d_L_resize_2 : decode (iC M_L_resize) 2 = .ok (.getfield 15, 3) := by decide +kernel
theorem d_L_resize_5 : decode (iC M_L_resize) 5 = .ok (.iload_n 1, 1) := by decide +kernel
theorem d_L_resize_6 : decode (iC M_L_resize) 6 = .ok (.imul, 1) := by decide +kernel
theorem d_L_resize_7 : decode (iC M_L_resize) 7 = .ok (.putfield 19, 3) := by decide +kernel
theorem d_L_resize_10 : decode (iC M_L_resize) 10 = .ok (.aload_n 0, 1) := by decide +kernel
theorem d_L_resize_11 : decode (iC M_L_resize) 11 = .ok (.aload_n 0, 1) := by decide +kernel
theorem d_L_resize_12 : decode (iC M_L_resize) 12 = .ok (.getfield 15, 3) := by decide +kernel
theorem d_L_resize_15 : decode (iC M_L_resize) 15 = .ok (.iload_n 2, 1) := by decide +kernel
theorem d_L_resize_16 : decode (iC M_L_resize) 16 = .ok (.imul, 1) := by decide +kernel
theorem d_L_resize_17 : decode (iC M_L_resize) 17 = .ok (.putfield 22, 3) := by decide +kernel
theorem d_L_resize_20 : decode (iC M_L_resize) 20 = .ok (.aload_n 0, 1) := by decide +kernel
theorem d_L_resize_21 : decode (iC M_L_resize) 21 = .ok (.getfield 9, 3) := by decide +kernel
theorem d_L_resize_24 : decode (iC M_L_resize) 24 = .ok (.arraylength, 1) := by decide +kernel
theorem d_L_resize_25 : decode (iC M_L_resize) 25 = .ok (.aload_n 0, 1) := by decide +kernel
theorem d_L_resize_26 : decode (iC M_L_resize) 26 = .ok (.getfield 19, 3) := by decide +kernel
theorem d_L_resize_29 : decode (iC M_L_resize) 29 = .ok (.aload_n 0, 1) := by decide +kernel
theorem d_L_resize_30 : decode (iC M_L_resize) 30 = .ok (.getfield 22, 3) := by decide +kernel
theorem d_L_resize_33 : decode (iC M_L_resize) 33 = .ok (.imul, 1) := by decide +kernel
theorem d_L_resize_34 : decode (iC M_L_resize) 34 = .ok (.if_icmp .ge 18, 3) := by decide +kernel
theorem d_L_resize_37 : decode (iC M_L_resize) 37 = .ok (.aload_n 0, 1) := by decide +kernel
theorem d_L_resize_38 : decode (iC M_L_resize) 38 = .ok (.aload_n 0, 1) := by decide +kernel
theorem d_L_resize_39 : decode (iC M_L_resize) 39 = .ok (.getfield 19, 3) := by decide +kernel
theorem d_L_resize_42 : decode (iC M_L_resize) 42 = .ok (.aload_n 0, 1) := by decide +kernel
theorem d_L_resize_43 : decode (iC M_L_resize) 43 = .ok (.getfield 22, 3) := by decide +kernel
theorem d_L_resize_46 : decode (iC M_L_resize) 46 = .ok (.imul, 1) := by decide +kernel
theorem d_L_resize_47 : decode (iC M_L_resize) 47 = .ok (.newarray .int, 2) := by decide +kernel
theorem d_L_resize_49 : decode (iC M_L_resize) 49 = .ok (.putfield 9, 3) := by decide +kernel
theorem d_L_resize_52 : decode (iC M_L_resize) 52 = .ok (.return_, 1) := by decide +kernel
theorem d_L_foretell_0 : decode (iC M_L_foretell) 0 = .ok (.aload_n 0, 1) := by decide +kernel
theorem d_L_foretell_1 : decode (iC M_L_foretell) 1 = .ok (.getfield 15, 3) := by decide +kernel
theorem d_L_foretell_4 : decode (iC M_L_foretell) 4 = .ok (.bipush 16, 2) := by decide +kernel
theorem d_L_foretell_6 : decode (iC M_L_foretell) 6 = .ok (.if_icmp .ne 10, 3) := by decide +kernel
theorem d_L_foretell_9 : decode (iC M_L_foretell) 9 = .ok (.aload 4, 2) := by decide +kernel
theorem d_L_foretell_11 : decode (iC M_L_foretell) 11 = .ok (.iconst 0, 1) := by decide +kernel
theorem d_L_foretell_12 : decode (iC M_L_foretell) 12 = .ok (.iaload, 1) := by decide +kernel
theorem d_L_foretell_13 : decode (iC M_L_foretell) 13 = .ok (.goto 9, 3) := by decide +kernel
theorem d_L_foretell_16 : decode (iC M_L_foretell) 16 = .ok (.aload 4, 2) := by decide +kernel
theorem d_L_foretell_18 : decode (iC M_L_foretell) 18 = .ok (.iconst 0, 1) := by decide +kernel
theorem d_L_foretell_19 : decode (iC M_L_foretell) 19 = .ok (.iaload, 1) := by decide +kernel
theorem d_L_foretell_20 : decode (iC M_L_foretell) 20 = .ok (.iconst 2, 1) := by decide +kernel
theorem d_L_foretell_21 : decode (iC M_L_foretell) 21 = .ok (.idiv, 1) := by decide +kernel
theorem d_L_foretell_22 : decode (iC M_L_foretell) 22 = .ok (.istore 6, 2) := by decide +kernel
theorem d_L_foretell_24 : decode (iC M_L_foretell) 24 = .ok (.aload_n 0, 1) := by decide +kernel
theorem d_L_foretell_25 : decode (iC M_L_foretell) 25 = .ok (.getfield 15, 3) := by decide +kernel
theorem d_L_foretell_28 : decode (iC M_L_foretell) 28 = .ok (.bipush 16, 2) := by decide +kernel
theorem d_L_foretell_30 : decode (iC M_L_foretell) 30 = .ok (.if_icmp .ne 10, 3) := by decide +kernel
theorem d_L_foretell_33 : decode (iC M_L_foretell) 33 = .ok (.aload 4, 2) := by decide +kernel
theorem d_L_foretell_35 : decode (iC M_L_foretell) 35 = .ok (.iconst 1, 1) := by decide +kernel
theorem d_L_foretell_36 : decode (iC M_L_foretell) 36 = .ok (.iaload, 1) := by decide +kernel
theorem d_L_foretell_37 : decode (iC M_L_foretell) 37 = .ok (.goto 9, 3) := by decide +kernel
theorem d_L_foretell_40 : decode (iC M_L_foretell) 40 = .ok (.aload 4, 2) := by decide +kernel
theorem d_L_foretell_42 : decode (iC M_L_foretell) 42 = .ok (.iconst 1, 1) := by decide +kernel
theorem d_L_foretell_43 : decode (iC M_L_foretell) 43 = .ok (.iaload, 1) := by decide +kernel
theorem d_L_foretell_44 : decode (iC M_L_foretell) 44 = .ok (.iconst 2, 1) := by decide +kernel
theorem d_L_foretell_45 : decode (iC M_L_foretell) 45 = .ok (.idiv, 1) := by decide +kernel
theorem d_L_foretell_46 : decode (iC M_L_foretell) 46 = .ok (.istore 7, 2) := by decide +kernel
theorem d_L_foretell_48 : decode (iC M_L_foretell) 48 = .ok (.aload_n 0, 1) := by decide +kernel
theorem d_L_foretell_49 : decode (iC M_L_foretell) 49 = .ok (.getfield 15, 3) := by decide +kernel
theorem d_L_foretell_52 : decode (iC M_L_foretell) 52 = .ok (.iload_n 2, 1) := by decide +kernel
theorem d_L_foretell_53 : decode (iC M_L_foretell) 53 = .ok (.imul, 1) := by decide +kernel
theorem d_L_foretell_54 : decode (iC M_L_foretell) 54 = .ok (.istore 8, 2) := by decide +kernel
theorem d_L_foretell_56 : decode (iC M_L_foretell) 56 = .ok (.aload_n 0, 1) := by decide +kernel
theorem d_L_foretell_57 : decode (iC M_L_foretell) 57 = .ok (.getfield 15, 3) := by decide +kernel
theorem d_L_foretell_60 : decode (iC M_L_foretell) 60 = .ok (.iload_n 3, 1) := by decide +kernel
theorem d_L_foretell_61 : decode (iC M_L_foretell) 61 = .ok (.imul, 1) := by decide +kernel
theorem d_L_foretell_62 : decode (iC M_L_foretell) 62 = .ok (.istore 9, 2) := by decide +kernel
theorem d_L_foretell_64 : decode (iC M_L_foretell) 64 = .ok (.iload 9, 2) := by decide +kernel
theorem d_L_foretell_66 : decode (iC M_L_foretell) 66 = .ok (.istore 10, 2) := by decide +kernel
theorem d_L_foretell_68 : decode (iC M_L_foretell) 68 = .ok (.iload 10, 2) := by decide +kernel
theorem d_L_foretell_70 : decode (iC M_L_foretell) 70 = .ok (.iload 9, 2) := by decide +kernel
theorem d_L_foretell_72 : decode (iC M_L_foretell) 72 = .ok (.aload_n 0, 1) := by decide +kernel
theorem d_L_foretell_73 : decode (iC M_L_foretell) 73 = .ok (.getfield 15, 3) := by decide +kernel
theorem d_L_foretell_76 : decode (iC M_L_foretell) 76 = .ok (.iadd, 1) := by decide +kernel
theorem d_L_foretell_77 : decode (iC M_L_foretell) 77 = .ok (.if_icmp .ge 81, 3) := by decide +kernel
theorem d_L_foretell_80 : decode (iC M_L_foretell) 80 = .ok (.iload 10, 2) := by decide +kernel
theorem d_L_foretell_82 : decode (iC M_L_foretell) 82 = .ok (.aload_n 0, 1) := by decide +kernel
theorem d_L_foretell_83 : decode (iC M_L_foretell) 83 = .ok (.getfield 19, 3) := by decide +kernel
theorem d_L_foretell_86 : decode (iC M_L_foretell) 86 = .ok (.imul, 1) := by decide +kernel
theorem d_L_foretell_87 : decode (iC M_L_foretell) 87 = .ok (.iload 8, 2) := by decide +kernel
theorem d_L_foretell_89 : decode (iC M_L_foretell) 89 = .ok (.iadd, 1) := by decide +kernel
theorem d_L_foretell_90 : decode (iC M_L_foretell) 90 = .ok (.istore 11, 2) := by decide +kernel
theorem d_L_foretell_92 : decode (iC M_L_foretell) 92 = .ok (.iload 6, 2) := by decide +kernel
theorem d_L_foretell_94 : decode (iC M_L_foretell) 94 = .ok (.ifCond .ne 35, 3) := by decide +kernel
theorem d_L_foretell_97 : decode (iC M_L_foretell) 97 = .ok (.iload 7, 2) := by decide +kernel
theorem d_L_foretell_99 : decode (iC M_L_foretell) 99 = .ok (.ifCond .ne 30, 3) := by decide +kernel
theorem d_L_foretell_102 : decode (iC M_L_foretell) 102 = .ok (.iload 5, 2) := by decide +kernel
theorem d_L_foretell_104 : decode (iC M_L_foretell) 104 = .ok (.ifCond .ne 25, 3) := by decide +kernel
theorem d_L_foretell_107 : decode (iC M_L_foretell) 107 = .ok (.aload_n 1, 1) := by decide +kernel
theorem d_L_foretell_108 : decode (iC M_L_foretell) 108 = .ok (.getfield 9, 3) := by decide +kernel
theorem d_L_foretell_111 : decode (iC M_L_foretell) 111 = .ok (.iload 11, 2) := by decide +kernel
theorem d_L_foretell_113 : decode (iC M_L_foretell) 113 = .ok (.aload_n 0, 1) := by decide +kernel
theorem d_L_foretell_114 : decode (iC M_L_foretell) 114 = .ok (.getfield 9, 3) := by decide +kernel
theorem d_L_foretell_117 : decode (iC M_L_foretell) 117 = .ok (.iload 11, 2) := by decide +kernel
theorem d_L_foretell_119 : decode (iC M_L_foretell) 119 = .ok (.aload_n 0, 1) := by decide +kernel
theorem d_L_foretell_120 : decode (iC M_L_foretell) 120 = .ok (.getfield 15, 3) := by decide +kernel
theorem d_L_foretell_123 : decode (iC M_L_foretell) 123 = .ok (.invokestatic 25, 3) := by decide +kernel
theorem d_L_foretell_126 : decode (iC M_L_foretell) 126 = .ok (.goto 26, 3) := by decide +kernel
theorem d_L_foretell_129 : decode (iC M_L_foretell) 129 = .ok (.aload_n 0, 1) := by decide +kernel
theorem d_L_foretell_130 : decode (iC M_L_foretell) 130 = .ok (.aload_n 1, 1) := by decide +kernel
theorem d_L_foretell_131 : decode (iC M_L_foretell) 131 = .ok (.iload 11, 2) := by decide +kernel
theorem d_L_foretell_133 : decode (iC M_L_foretell) 133 = .ok (.iconst 2, 1) := by decide +kernel
theorem d_L_foretell_134 : decode (iC M_L_foretell) 134 = .ok (.iload 8, 2) := by decide +kernel
theorem d_L_foretell_136 : decode (iC M_L_foretell) 136 = .ok (.imul, 1) := by decide +kernel
theorem d_L_foretell_137 : decode (iC M_L_foretell) 137 = .ok (.iload 6, 2) := by decide +kernel
theorem d_L_foretell_139 : decode (iC M_L_foretell) 139 = .ok (.iadd, 1) := by decide +kernel
theorem d_L_foretell_140 : decode (iC M_L_foretell) 140 = .ok (.iconst 2, 1) := by decide +kernel
theorem d_L_foretell_141 : decode (iC M_L_foretell) 141 = .ok (.iload 10, 2) := by decide +kernel
theorem d_L_foretell_143 : decode (iC M_L_foretell) 143 = .ok (.imul, 1) := by decide +kernel
theorem d_L_foretell_144 : decode (iC M_L_foretell) 144 = .ok (.iload 7, 2) := by decide +kernel
theorem d_L_foretell_146 : decode (iC M_L_foretell) 146 = .ok (.iadd, 1) := by decide +kernel
theorem d_L_foretell_147 : decode (iC M_L_foretell) 147 = .ok (.iload 5, 2) := by decide +kernel
theorem d_L_foretell_149 : decode (iC M_L_foretell) 149 = .ok (.invokevirtual 31, 3) := by decide +kernel
theorem d_L_foretell_152 : decode (iC M_L_foretell) 152 = .ok (.iinc 10 1, 3) := by decide +kernel
theorem d_L_foretell_155 : decode (iC M_L_foretell) 155 = .ok (.goto (-87), 3) := by decide +kernel
theorem d_L_foretell_158 : decode (iC M_L_foretell) 158 = .ok (.return_, 1) := by decide +kernel
theorem d_L_foretellLine_0 : decode (iC M_L_foretellLine) 0 = .ok (.aload_n 0, 1) := by decide +kernel
theorem d_L_foretellLine_1 : decode (iC M_L_foretellLine) 1 = .ok (.getfield 19, 3) := by decide +kernel
theorem d_L_foretellLine_4 : decode (iC M_L_foretellLine) 4 = .ok (.iload 4, 2) := by decide +kernel
theorem d_L_foretellLine_6 : decode (iC M_L_foretellLine) 6 = .ok (.iconst 1, 1) := by decide +kernel
theorem d_L_foretellLine_7 : decode (iC M_L_foretellLine) 7 = .ok (.ishr, 1) := by decide +kernel
theorem d_L_foretellLine_8 : decode (iC M_L_foretellLine) 8 = .ok (.iconst 0, 1) := by decide +kernel
theorem d_L_foretellLine_9 : decode (iC M_L_foretellLine) 9 = .ok (.aload_n 0, 1) := by decide +kernel
theorem d_L_foretellLine_10 : decode (iC M_L_foretellLine) 10 = .ok (.getfield 22, 3) := by decide +kernel
theorem d_L_foretellLine_13 : decode (iC M_L_foretellLine) 13 = .ok (.iconst 1, 1) := by decide +kernel
theorem d_L_foretellLine_14 : decode (iC M_L_foretellLine) 14 = .ok (.isub, 1) := by decide +kernel
theorem d_L_foretellLine_15 : decode (iC M_L_foretellLine) 15 = .ok (.invokestatic 35, 3) := by decide +kernel
theorem d_L_foretellLine_18 : decode (iC M_L_foretellLine) 18 = .ok (.imul, 1) := by decide +kernel
theorem d_L_foretellLine_19 : decode (iC M_L_foretellLine) 19 = .ok (.istore 6, 2) := by decide +kernel
theorem d_L_foretellLine_21 : decode (iC M_L_foretellLine) 21 = .ok (.aload_n 0, 1) := by decide +kernel
theorem d_L_foretellLine_22 : decode (iC M_L_foretellLine) 22 = .ok (.getfield 19, 3) := by decide +kernel
theorem d_L_foretellLine_25 : decode (iC M_L_foretellLine) 25 = .ok (.iload 4, 2) := by decide +kernel
theorem d_L_foretellLine_27 : decode (iC M_L_foretellLine) 27 = .ok (.iconst 1, 1) := by decide +kernel
theorem d_L_foretellLine_28 : decode (iC M_L_foretellLine) 28 = .ok (.iadd, 1) := by decide +kernel
theorem d_L_foretellLine_29 : decode (iC M_L_foretellLine) 29 = .ok (.iconst 1, 1) := by decide +kernel
theorem d_L_foretellLine_30 : decode (iC M_L_foretellLine) 30 = .ok (.ishr, 1) := by decide +kernel
theorem d_L_foretellLine_31 : decode (iC M_L_foretellLine) 31 = .ok (.iconst 0, 1) := by decide +kernel
theorem d_L_foretellLine_32 : decode (iC M_L_foretellLine) 32 = .ok (.aload_n 0, 1) := by decide +kernel
theorem d_L_foretellLine_33 : decode (iC M_L_foretellLine) 33 = .ok (.getfield 22, 3) := by decide +kernel
theorem d_L_foretellLine_36 : decode (iC M_L_foretellLine) 36 = .ok (.iconst 1, 1) := by decide +kernel
theorem d_L_foretellLine_37 : decode (iC M_L_foretellLine) 37 = .ok (.isub, 1) := by decide +kernel
theorem d_L_foretellLine_38 : decode (iC M_L_foretellLine) 38 = .ok (.invokestatic 35, 3) := by decide +kernel
theorem d_L_foretellLine_41 : decode (iC M_L_foretellLine) 41 = .ok (.imul, 1) := by decide +kernel
theorem d_L_foretellLine_42 : decode (iC M_L_foretellLine) 42 = .ok (.istore 7, 2) := by decide +kernel
theorem d_L_foretellLine_44 : decode (iC M_L_foretellLine) 44 = .ok (.iconst 0, 1) := by decide +kernel
theorem d_L_foretellLine_45 : decode (iC M_L_foretellLine) 45 = .ok (.istore 8, 2) := by decide +kernel
theorem d_L_foretellLine_47 : decode (iC M_L_foretellLine) 47 = .ok (.iload 8, 2) := by decide +kernel
theorem d_L_foretellLine_49 : decode (iC M_L_foretellLine) 49 = .ok (.aload_n 0, 1) := by decide +kernel
theorem d_L_foretellLine_50 : decode (iC M_L_foretellLine) 50 = .ok (.getfield 15, 3) := by decide +kernel
theorem d_L_foretellLine_53 : decode (iC M_L_foretellLine) 53 = .ok (.if_icmp .ge 135, 3) := by decide +kernel
theorem d_L_foretellLine_56 : decode (iC M_L_foretellLine) 56 = .ok (.iload_n 3, 1) := by decide +kernel
theorem d_L_foretellLine_57 : decode (iC M_L_foretellLine) 57 = .ok (.iconst 1, 1) := by decide +kernel
theorem d_L_foretellLine_58 : decode (iC M_L_foretellLine) 58 = .ok (.ishr, 1) := by decide +kernel
theorem d_L_foretellLine_59 : decode (iC M_L_foretellLine) 59 = .ok (.iload 8, 2) := by decide +kernel
theorem d_L_foretellLine_61 : decode (iC M_L_foretellLine) 61 = .ok (.iadd, 1) := by decide +kernel
theorem d_L_foretellLine_62 : decode (iC M_L_foretellLine) 62 = .ok (.iconst 0, 1) := by decide +kernel
theorem d_L_foretellLine_63 : decode (iC M_L_foretellLine) 63 = .ok (.aload_n 0, 1) := by decide +kernel
theorem d_L_foretellLine_64 : decode (iC M_L_foretellLine) 64 = .ok (.getfield 19, 3) := by decide +kernel
theorem d_L_foretellLine_67 : decode (iC M_L_foretellLine) 67 = .ok (.iconst 1, 1) := by decide +kernel
theorem d_L_foretellLine_68 : decode (iC M_L_foretellLine) 68 = .ok (.isub, 1) := by decide +kernel
theorem d_L_foretellLine_69 : decode (iC M_L_foretellLine) 69 = .ok (.invokestatic 35, 3) := by decide +kernel
theorem d_L_foretellLine_72 : decode (iC M_L_foretellLine) 72 = .ok (.istore 9, 2) := by decide +kernel
theorem d_L_foretellLine_74 : decode (iC M_L_foretellLine) 74 = .ok (.iload_n 3, 1) := by decide +kernel
theorem d_L_foretellLine_75 : decode (iC M_L_foretellLine) 75 = .ok (.iconst 1, 1) := by decide +kernel
theorem d_L_foretellLine_76 : decode (iC M_L_foretellLine) 76 = .ok (.iadd, 1) := by decide +kernel
theorem d_L_foretellLine_77 : decode (iC M_L_foretellLine) 77 = .ok (.iconst 1, 1) := by decide +kernel
theorem d_L_foretellLine_78 : decode (iC M_L_foretellLine) 78 = .ok (.ishr, 1) := by decide +kernel
theorem d_L_foretellLine_79 : decode (iC M_L_foretellLine) 79 = .ok (.iload 8, 2) := by decide +kernel
theorem d_L_foretellLine_81 : decode (iC M_L_foretellLine) 81 = .ok (.iadd, 1) := by decide +kernel
theorem d_L_foretellLine_82 : decode (iC M_L_foretellLine) 82 = .ok (.iconst 0, 1) := by decide +kernel
theorem d_L_foretellLine_83 : decode (iC M_L_foretellLine) 83 = .ok (.aload_n 0, 1) := by decide +kernel
theorem d_L_foretellLine_84 : decode (iC M_L_foretellLine) 84 = .ok (.getfield 19, 3) := by decide +kernel
theorem d_L_foretellLine_87 : decode (iC M_L_foretellLine) 87 = .ok (.iconst 1, 1) := by decide +kernel
theorem d_L_foretellLine_88 : decode (iC M_L_foretellLine) 88 = .ok (.isub, 1) := by decide +kernel
theorem d_L_foretellLine_89 : decode (iC M_L_foretellLine) 89 = .ok (.invokestatic 35, 3) := by decide +kernel
theorem d_L_foretellLine_92 : decode (iC M_L_foretellLine) 92 = .ok (.istore 10, 2) := by decide +kernel
theorem d_L_foretellLine_94 : decode (iC M_L_foretellLine) 94 = .ok (.aload_n 1, 1) := by decide +kernel
theorem d_L_foretellLine_95 : decode (iC M_L_foretellLine) 95 = .ok (.getfield 9, 3) := by decide +kernel
theorem d_L_foretellLine_98 : decode (iC M_L_foretellLine) 98 = .ok (.iload 6, 2) := by decide +kernel
theorem d_L_foretellLine_100 : decode (iC M_L_foretellLine) 100 = .ok (.iload 9, 2) := by decide +kernel
theorem d_L_foretellLine_102 : decode (iC M_L_foretellLine) 102 = .ok (.iadd, 1) := by decide +kernel
theorem d_L_foretellLine_103 : decode (iC M_L_foretellLine) 103 = .ok (.iaload, 1) := by decide +kernel
theorem d_L_foretellLine_104 : decode (iC M_L_foretellLine) 104 = .ok (.aload_n 1, 1) := by decide +kernel
theorem d_L_foretellLine_105 : decode (iC M_L_foretellLine) 105 = .ok (.getfield 9, 3) := by decide +kernel
theorem d_L_foretellLine_108 : decode (iC M_L_foretellLine) 108 = .ok (.iload 6, 2) := by decide +kernel
theorem d_L_foretellLine_110 : decode (iC M_L_foretellLine) 110 = .ok (.iload 10, 2) := by decide +kernel
theorem d_L_foretellLine_112 : decode (iC M_L_foretellLine) 112 = .ok (.iadd, 1) := by decide +kernel
theorem d_L_foretellLine_113 : decode (iC M_L_foretellLine) 113 = .ok (.iaload, 1) := by decide +kernel
theorem d_L_foretellLine_114 : decode (iC M_L_foretellLine) 114 = .ok (.iadd, 1) := by decide +kernel
theorem d_L_foretellLine_115 : decode (iC M_L_foretellLine) 115 = .ok (.aload_n 1, 1) := by decide +kernel
theorem d_L_foretellLine_116 : decode (iC M_L_foretellLine) 116 = .ok (.getfield 9, 3) := by decide +kernel
theorem d_L_foretellLine_119 : decode (iC M_L_foretellLine) 119 = .ok (.iload 7, 2) := by decide +kernel
theorem d_L_foretellLine_121 : decode (iC M_L_foretellLine) 121 = .ok (.iload 9, 2) := by decide +kernel
theorem d_L_foretellLine_123 : decode (iC M_L_foretellLine) 123 = .ok (.iadd, 1) := by decide +kernel
theorem d_L_foretellLine_124 : decode (iC M_L_foretellLine) 124 = .ok (.iaload, 1) := by decide +kernel
theorem d_L_foretellLine_125 : decode (iC M_L_foretellLine) 125 = .ok (.iadd, 1) := by decide +kernel
theorem d_L_foretellLine_126 : decode (iC M_L_foretellLine) 126 = .ok (.aload_n 1, 1) := by decide +kernel
theorem d_L_foretellLine_127 : decode (iC M_L_foretellLine) 127 = .ok (.getfield 9, 3) := by decide +kernel
theorem d_L_foretellLine_130 : decode (iC M_L_foretellLine) 130 = .ok (.iload 7, 2) := by decide +kernel
theorem d_L_foretellLine_132 : decode (iC M_L_foretellLine) 132 = .ok (.iload 10, 2) := by decide +kernel
theorem d_L_foretellLine_134 : decode (iC M_L_foretellLine) 134 = .ok (.iadd, 1) := by decide +kernel
theorem d_L_foretellLine_135 : decode (iC M_L_foretellLine) 135 = .ok (.iaload, 1) := by decide +kernel
theorem d_L_foretellLine_136 : decode (iC M_L_foretellLine) 136 = .ok (.iadd, 1) := by decide +kernel
theorem d_L_foretellLine_137 : decode (iC M_L_foretellLine) 137 = .ok (.istore 11, 2) := by decide +kernel
theorem d_L_foretellLine_139 : decode (iC M_L_foretellLine) 139 = .ok (.iload 11, 2) := by decide +kernel
theorem d_L_foretellLine_141 : decode (iC M_L_foretellLine) 141 = .ok (.iconst 2, 1) := by decide +kernel
theorem d_L_foretellLine_142 : decode (iC M_L_foretellLine) 142 = .ok (.iadd, 1) := by decide +kernel
theorem d_L_foretellLine_143 : decode (iC M_L_foretellLine) 143 = .ok (.iconst 2, 1) := by decide +kernel
theorem d_L_foretellLine_144 : decode (iC M_L_foretellLine) 144 = .ok (.ishr, 1) := by decide +kernel
theorem d_L_foretellLine_145 : decode (iC M_L_foretellLine) 145 = .ok (.istore 12, 2) := by decide +kernel
theorem d_L_foretellLine_147 : decode (iC M_L_foretellLine) 147 = .ok (.aload_n 0, 1) := by decide +kernel
theorem d_L_foretellLine_148 : decode (iC M_L_foretellLine) 148 = .ok (.getfield 9, 3) := by decide +kernel
theorem d_L_foretellLine_151 : decode (iC M_L_foretellLine) 151 = .ok (.iload_n 2, 1) := by decide +kernel
theorem d_L_foretellLine_152 : decode (iC M_L_foretellLine) 152 = .ok (.iload 8, 2) := by decide +kernel
theorem d_L_foretellLine_154 : decode (iC M_L_foretellLine) 154 = .ok (.iadd, 1) := by decide +kernel
theorem d_L_foretellLine_155 : decode (iC M_L_foretellLine) 155 = .ok (.iload 5, 2) := by decide +kernel
theorem d_L_foretellLine_157 : decode (iC M_L_foretellLine) 157 = .ok (.ifCond .eq 22, 3) := by decide +kernel
theorem d_L_foretellLine_160 : decode (iC M_L_foretellLine) 160 = .ok (.aload_n 0, 1) := by decide +kernel
theorem d_L_foretellLine_161 : decode (iC M_L_foretellLine) 161 = .ok (.getfield 9, 3) := by decide +kernel
theorem d_L_foretellLine_164 : decode (iC M_L_foretellLine) 164 = .ok (.iload_n 2, 1) := by decide +kernel
theorem d_L_foretellLine_165 : decode (iC M_L_foretellLine) 165 = .ok (.iload 8, 2) := by decide +kernel
theorem d_L_foretellLine_167 : decode (iC M_L_foretellLine) 167 = .ok (.iadd, 1) := by decide +kernel
theorem d_L_foretellLine_168 : decode (iC M_L_foretellLine) 168 = .ok (.iaload, 1) := by decide +kernel
theorem d_L_foretellLine_169 : decode (iC M_L_foretellLine) 169 = .ok (.iload 12, 2) := by decide +kernel
theorem d_L_foretellLine_171 : decode (iC M_L_foretellLine) 171 = .ok (.iadd, 1) := by decide +kernel
theorem d_L_foretellLine_172 : decode (iC M_L_foretellLine) 172 = .ok (.iconst 1, 1) := by decide +kernel
theorem d_L_foretellLine_173 : decode (iC M_L_foretellLine) 173 = .ok (.iadd, 1) := by decide +kernel
theorem d_L_foretellLine_174 : decode (iC M_L_foretellLine) 174 = .ok (.iconst 1, 1) := by decide +kernel
theorem d_L_foretellLine_175 : decode (iC M_L_foretellLine) 175 = .ok (.ishr, 1) := by decide +kernel
theorem d_L_foretellLine_176 : decode (iC M_L_foretellLine) 176 = .ok (.goto 5, 3) := by decide +kernel
theorem d_L_foretellLine_179 : decode (iC M_L_foretellLine) 179 = .ok (.iload 12, 2) := by decide +kernel
theorem d_L_foretellLine_181 : decode (iC M_L_foretellLine) 181 = .ok (.iastore, 1) := by decide +kernel
theorem d_L_foretellLine_182 : decode (iC M_L_foretellLine) 182 = .ok (.iinc 8 1, 3) := by decide +kernel
theorem d_L_foretellLine_185 : decode (iC M_L_foretellLine) 185 = .ok (.goto (-138), 3) := by decide +kernel
theorem d_L_foretellLine_188 : decode (iC M_L_foretellLine) 188 = .ok (.return_, 1) := by decide +kernel
theorem d_L_draw_0 : decode (iC M_L_draw) 0 = .ok (.iconst 0, 1) := by decide +kernel
theorem d_L_draw_1 : decode (iC M_L_draw) 1 = .ok (.istore 5, 2) := by decide +kernel
theorem d_L_draw_3 : decode (iC M_L_draw) 3 = .ok (.iload 5, 2) := by decide +kernel
theorem d_L_draw_5 : decode (iC M_L_draw) 5 = .ok (.bipush 8, 2) := by decide +kernel
theorem d_L_draw_7 : decode (iC M_L_draw) 7 = .ok (.if_icmp .ge 89, 3) := by decide +kernel
theorem d_L_draw_10 : decode (iC M_L_draw) 10 = .ok (.iload_n 3, 1) := by decide +kernel
theorem d_L_draw_11 : decode (iC M_L_draw) 11 = .ok (.iload 5, 2) := by decide +kernel
theorem d_L_draw_13 : decode (iC M_L_draw) 13 = .ok (.iadd, 1) := by decide +kernel
theorem d_L_draw_14 : decode (iC M_L_draw) 14 = .ok (.aload_n 0, 1) := by decide +kernel
theorem d_L_draw_15 : decode (iC M_L_draw) 15 = .ok (.getfield 19, 3) := by decide +kernel
theorem d_L_draw_18 : decode (iC M_L_draw) 18 = .ok (.imul, 1) := by decide +kernel
theorem d_L_draw_19 : decode (iC M_L_draw) 19 = .ok (.iload_n 2, 1) := by decide +kernel
theorem d_L_draw_20 : decode (iC M_L_draw) 20 = .ok (.iadd, 1) := by decide +kernel
theorem d_L_draw_21 : decode (iC M_L_draw) 21 = .ok (.istore 6, 2) := by decide +kernel
theorem d_L_draw_23 : decode (iC M_L_draw) 23 = .ok (.iconst 0, 1) := by decide +kernel
theorem d_L_draw_24 : decode (iC M_L_draw) 24 = .ok (.istore 7, 2) := by decide +kernel
theorem d_L_draw_26 : decode (iC M_L_draw) 26 = .ok (.iload 7, 2) := by decide +kernel
theorem d_L_draw_28 : decode (iC M_L_draw) 28 = .ok (.bipush 8, 2) := by decide +kernel
theorem d_L_draw_30 : decode (iC M_L_draw) 30 = .ok (.if_icmp .ge 60, 3) := by decide +kernel
theorem d_L_draw_33 : decode (iC M_L_draw) 33 = .ok (.iload 4, 2) := by decide +kernel
theorem d_L_draw_35 : decode (iC M_L_draw) 35 = .ok (.ifCond .eq 7, 3) := by decide +kernel
theorem d_L_draw_38 : decode (iC M_L_draw) 38 = .ok (.iconst 0, 1) := by decide +kernel
theorem d_L_draw_39 : decode (iC M_L_draw) 39 = .ok (.goto 13, 3) := by decide +kernel
theorem d_L_draw_42 : decode (iC M_L_draw) 42 = .ok (.aload_n 0, 1) := by decide +kernel
theorem d_L_draw_43 : decode (iC M_L_draw) 43 = .ok (.getfield 9, 3) := by decide +kernel
theorem d_L_draw_46 : decode (iC M_L_draw) 46 = .ok (.iload 6, 2) := by decide +kernel
theorem d_L_draw_48 : decode (iC M_L_draw) 48 = .ok (.iload 7, 2) := by decide +kernel
theorem d_L_draw_50 : decode (iC M_L_draw) 50 = .ok (.iadd, 1) := by decide +kernel
theorem d_L_draw_51 : decode (iC M_L_draw) 51 = .ok (.iaload, 1) := by decide +kernel
theorem d_L_draw_52 : decode (iC M_L_draw) 52 = .ok (.istore 8, 2) := by decide +kernel
theorem d_L_draw_54 : decode (iC M_L_draw) 54 = .ok (.aload_n 0, 1) := by decide +kernel
theorem d_L_draw_55 : decode (iC M_L_draw) 55 = .ok (.getfield 9, 3) := by decide +kernel
theorem d_L_draw_58 : decode (iC M_L_draw) 58 = .ok (.iload 6, 2) := by decide +kernel
theorem d_L_draw_60 : decode (iC M_L_draw) 60 = .ok (.iload 7, 2) := by decide +kernel
theorem d_L_draw_62 : decode (iC M_L_draw) 62 = .ok (.iadd, 1) := by decide +kernel
theorem d_L_draw_63 : decode (iC M_L_draw) 63 = .ok (.iload 8, 2) := by decide +kernel
theorem d_L_draw_65 : decode (iC M_L_draw) 65 = .ok (.aload_n 1, 1) := by decide +kernel
theorem d_L_draw_66 : decode (iC M_L_draw) 66 = .ok (.bipush 8, 2) := by decide +kernel
theorem d_L_draw_68 : decode (iC M_L_draw) 68 = .ok (.iload 5, 2) := by decide +kernel
theorem d_L_draw_70 : decode (iC M_L_draw) 70 = .ok (.imul, 1) := by decide +kernel
theorem d_L_draw_71 : decode (iC M_L_draw) 71 = .ok (.iload 7, 2) := by decide +kernel
theorem d_L_draw_73 : decode (iC M_L_draw) 73 = .ok (.iadd, 1) := by decide +kernel
theorem d_L_draw_74 : decode (iC M_L_draw) 74 = .ok (.iaload, 1) := by decide +kernel
theorem d_L_draw_75 : decode (iC M_L_draw) 75 = .ok (.iadd, 1) := by decide +kernel
theorem d_L_draw_76 : decode (iC M_L_draw) 76 = .ok (.iconst 0, 1) := by decide +kernel
theorem d_L_draw_77 : decode (iC M_L_draw) 77 = .ok (.sipush 255, 3) := by decide +kernel
theorem d_L_draw_80 : decode (iC M_L_draw) 80 = .ok (.invokestatic 35, 3) := by decide +kernel
theorem d_L_draw_83 : decode (iC M_L_draw) 83 = .ok (.iastore, 1) := by decide +kernel
theorem d_L_draw_84 : decode (iC M_L_draw) 84 = .ok (.iinc 7 1, 3) := by decide +kernel
theorem d_L_draw_87 : decode (iC M_L_draw) 87 = .ok (.goto (-61), 3) := by decide +kernel
theorem d_L_draw_90 : decode (iC M_L_draw) 90 = .ok (.iinc 5 1, 3) := by decide +kernel
theorem d_L_draw_93 : decode (iC M_L_draw) 93 = .ok (.goto (-90), 3) := by decide +kernel
theorem d_L_draw_96 : decode (iC M_L_draw) 96 = .ok (.return_, 1) := by decide +kernel
theorem d_P_copyFrom_0 : decode (iC M_P_copyFrom) 0 = .ok (.iconst 0, 1) := by decide +kernel
theorem d_P_copyFrom_1 : decode (iC M_P_copyFrom) 1 = .ok (.istore_n 2, 1) := by decide +kernel
theorem d_P_copyFrom_2 : decode (iC M_P_copyFrom) 2 = .ok (.iload_n 2, 1) := by decide +kernel
theorem d_P_copyFrom_3 : decode (iC M_P_copyFrom) 3 = .ok (.aload_n 0, 1) := by decide +kernel
theorem d_P_copyFrom_4 : decode (iC M_P_copyFrom) 4 = .ok (.getfield 12, 3) := by decide +kernel
theorem d_P_copyFrom_7 : decode (iC M_P_copyFrom) 7 = .ok (.arraylength, 1) := by decide +kernel
theorem d_P_copyFrom_8 : decode (iC M_P_copyFrom) 8 = .ok (.if_icmp .ge 24, 3) := by decide +kernel
theorem d_P_copyFrom_11 : decode (iC M_P_copyFrom) 11 = .ok (.aload_n 0, 1) := by decide +kernel
theorem d_P_copyFrom_12 : decode (iC M_P_copyFrom) 12 = .ok (.getfield 12, 3) := by decide +kernel
theorem d_P_copyFrom_15 : decode (iC M_P_copyFrom) 15 = .ok (.iload_n 2, 1) := by decide +kernel
theorem d_P_copyFrom_16 : decode (iC M_P_copyFrom) 16 = .ok (.aaload, 1) := by decide +kernel
theorem d_P_copyFrom_17 : decode (iC M_P_copyFrom) 17 = .ok (.aload_n 1, 1) := by decide +kernel
theorem d_P_copyFrom_18 : decode (iC M_P_copyFrom) 18 = .ok (.getfield 12, 3) := by decide +kernel
theorem d_P_copyFrom_21 : decode (iC M_P_copyFrom) 21 = .ok (.iload_n 2, 1) := by decide +kernel
theorem d_P_copyFrom_22 : decode (iC M_P_copyFrom) 22 = .ok (.aaload, 1) := by decide +kernel
theorem d_P_copyFrom_23 : decode (iC M_P_copyFrom) 23 = .ok (.invokevirtual 26, 3) := by decide +kernel
theorem d_P_copyFrom_26 : decode (iC M_P_copyFrom) 26 = .ok (.iinc 2 1, 3) := by decide +kernel
theorem d_P_copyFrom_29 : decode (iC M_P_copyFrom) 29 = .ok (.goto (-27), 3) := by decide +kernel
theorem d_P_copyFrom_32 : decode (iC M_P_copyFrom) 32 = .ok (.aload_n 1, 1) := by decide +kernel
theorem d_P_copyFrom_33 : decode (iC M_P_copyFrom) 33 = .ok (.getfield 18, 3) := by decide +kernel
theorem d_P_copyFrom_36 : decode (iC M_P_copyFrom) 36 = .ok (.iconst 0, 1) := by decide +kernel
theorem d_P_copyFrom_37 : decode (iC M_P_copyFrom) 37 = .ok (.aload_n 0, 1) := by decide +kernel
theorem d_P_copyFrom_38 : decode (iC M_P_copyFrom) 38 = .ok (.getfield 18, 3) := by decide +kernel
theorem d_P_copyFrom_41 : decode (iC M_P_copyFrom) 41 = .ok (.iconst 0, 1) := by decide +kernel
theorem d_P_copyFrom_42 : decode (iC M_P_copyFrom) 42 = .ok (.aload_n 0, 1) := by decide +kernel
theorem d_P_copyFrom_43 : decode (iC M_P_copyFrom) 43 = .ok (.getfield 18, 3) := by decide +kernel
theorem d_P_copyFrom_46 : decode (iC M_P_copyFrom) 46 = .ok (.arraylength, 1) := by decide +kernel
theorem d_P_copyFrom_47 : decode (iC M_P_copyFrom) 47 = .ok (.invokestatic 30, 3) := by decide +kernel
theorem d_P_copyFrom_50 : decode (iC M_P_copyFrom) 50 = .ok (.return_, 1) := by decide +kernel
theorem d_L_copyFrom_0 : decode (iC M_L_copyFrom) 0 = .ok (.aload_n 1, 1) := by decide +kernel
theorem d_L_copyFrom_1 : decode (iC M_L_copyFrom) 1 = .ok (.getfield 9, 3) := by decide +kernel
theorem d_L_copyFrom_4 : decode (iC M_L_copyFrom) 4 = .ok (.iconst 0, 1) := by decide +kernel
theorem d_L_copyFrom_5 : decode (iC M_L_copyFrom) 5 = .ok (.aload_n 0, 1) := by decide +kernel
theorem d_L_copyFrom_6 : decode (iC M_L_copyFrom) 6 = .ok (.getfield 9, 3) := by decide +kernel
theorem d_L_copyFrom_9 : decode (iC M_L_copyFrom) 9 = .ok (.iconst 0, 1) := by decide +kernel
theorem d_L_copyFrom_10 : decode (iC M_L_copyFrom) 10 = .ok (.aload_n 0, 1) := by decide +kernel
theorem d_L_copyFrom_11 : decode (iC M_L_copyFrom) 11 = .ok (.getfield 19, 3) := by decide +kernel
theorem d_L_copyFrom_14 : decode (iC M_L_copyFrom) 14 = .ok (.aload_n 0, 1) := by decide +kernel
theorem d_L_copyFrom_15 : decode (iC M_L_copyFrom) 15 = .ok (.getfield 22, 3) := by decide +kernel
theorem d_L_copyFrom_18 : decode (iC M_L_copyFrom) 18 = .ok (.imul, 1) := by decide +kernel
theorem d_L_copyFrom_19 : decode (iC M_L_copyFrom) 19 = .ok (.invokestatic 25, 3) := by decide +kernel
theorem d_L_copyFrom_22 : decode (iC M_L_copyFrom) 22 = .ok (.return_, 1) := by decide +kernel
theorem d_L_dotOrNone_0 : decode (iC M_L_dotOrNone) 0 = .ok (.iload_n 1, 1) := by decide +kernel
theorem d_L_dotOrNone_1 : decode (iC M_L_dotOrNone) 1 = .ok (.ifCond .lt 23, 3) := by decide +kernel
theorem d_L_dotOrNone_4 : decode (iC M_L_dotOrNone) 4 = .ok (.iload_n 1, 1) := by decide +kernel
theorem d_L_dotOrNone_5 : decode (iC M_L_dotOrNone) 5 = .ok (.aload_n 0, 1) := by decide +kernel
theorem d_L_dotOrNone_6 : decode (iC M_L_dotOrNone) 6 = .ok (.getfield 19, 3) := by decide +kernel
theorem d_L_dotOrNone_9 : decode (iC M_L_dotOrNone) 9 = .ok (.if_icmp .ge 15, 3) := by decide +kernel
theorem d_L_dotOrNone_12 : decode (iC M_L_dotOrNone) 12 = .ok (.iload_n 2, 1) := by decide +kernel
theorem d_L_dotOrNone_13 : decode (iC M_L_dotOrNone) 13 = .ok (.ifCond .lt 11, 3) := by decide +kernel
theorem d_L_dotOrNone_16 : decode (iC M_L_dotOrNone) 16 = .ok (.iload_n 2, 1) := by decide +kernel
theorem d_L_dotOrNone_17 : decode (iC M_L_dotOrNone) 17 = .ok (.aload_n 0, 1) := by decide +kernel
theorem d_L_dotOrNone_18 : decode (iC M_L_dotOrNone) 18 = .ok (.getfield 22, 3) := by decide +kernel
theorem d_L_dotOrNone_21 : decode (iC M_L_dotOrNone) 21 = .ok (.if_icmp .lt 5, 3) := by decide +kernel
theorem d_L_dotOrNone_24 : decode (iC M_L_dotOrNone) 24 = .ok (.iconst (-1), 1) := by decide +kernel
theorem d_L_dotOrNone_25 : decode (iC M_L_dotOrNone) 25 = .ok (.ireturn, 1) := by decide +kernel
theorem d_L_dotOrNone_26 : decode (iC M_L_dotOrNone) 26 = .ok (.aload_n 0, 1) := by decide +kernel
theorem d_L_dotOrNone_27 : decode (iC M_L_dotOrNone) 27 = .ok (.getfield 9, 3) := by decide +kernel
theorem d_L_dotOrNone_30 : decode (iC M_L_dotOrNone) 30 = .ok (.iload_n 2, 1) := by decide +kernel
theorem d_L_dotOrNone_31 : decode (iC M_L_dotOrNone) 31 = .ok (.aload_n 0, 1) := by decide +kernel
theorem d_L_dotOrNone_32 : decode (iC M_L_dotOrNone) 32 = .ok (.getfield 19, 3) := by decide +kernel
theorem d_L_dotOrNone_35 : decode (iC M_L_dotOrNone) 35 = .ok (.imul, 1) := by decide +kernel
theorem d_L_dotOrNone_36 : decode (iC M_L_dotOrNone) 36 = .ok (.iload_n 1, 1) := by decide +kernel
theorem d_L_dotOrNone_37 : decode (iC M_L_dotOrNone) 37 = .ok (.iadd, 1) := by decide +kernel
theorem d_L_dotOrNone_38 : decode (iC M_L_dotOrNone) 38 = .ok (.iaload, 1) := by decide +kernel
theorem d_L_dotOrNone_39 : decode (iC M_L_dotOrNone) 39 = .ok (.ireturn, 1) := by decide +kernel
theorem d_L_numberedTotal_0 : decode (iC M_L_numberedTotal) 0 = .ok (.iconst 0, 1) := by decide +kernel
theorem d_L_numberedTotal_1 : decode (iC M_L_numberedTotal) 1 = .ok (.istore_n 1, 1) := by decide +kernel
theorem d_L_numberedTotal_2 : decode (iC M_L_numberedTotal) 2 = .ok (.iconst 0, 1) := by decide +kernel
theorem d_L_numberedTotal_3 : decode (iC M_L_numberedTotal) 3 = .ok (.istore_n 2, 1) := by decide +kernel
theorem d_L_numberedTotal_4 : decode (iC M_L_numberedTotal) 4 = .ok (.iload_n 2, 1) := by decide +kernel
theorem d_L_numberedTotal_5 : decode (iC M_L_numberedTotal) 5 = .ok (.aload_n 0, 1) := by decide +kernel
theorem d_L_numberedTotal_6 : decode (iC M_L_numberedTotal) 6 = .ok (.getfield 19, 3) := by decide +kernel
theorem d_L_numberedTotal_9 : decode (iC M_L_numberedTotal) 9 = .ok (.aload_n 0, 1) := by decide +kernel
theorem d_L_numberedTotal_10 : decode (iC M_L_numberedTotal) 10 = .ok (.getfield 22, 3) := by decide +kernel
theorem d_L_numberedTotal_13 : decode (iC M_L_numberedTotal) 13 = .ok (.imul, 1) := by decide +kernel
theorem d_L_numberedTotal_14 : decode (iC M_L_numberedTotal) 14 = .ok (.if_icmp .ge 22, 3) := by decide +kernel
theorem d_L_numberedTotal_17 : decode (iC M_L_numberedTotal) 17 = .ok (.iload_n 1, 1) := by decide +kernel
theorem d_L_numberedTotal_18 : decode (iC M_L_numberedTotal) 18 = .ok (.aload_n 0, 1) := by decide +kernel
theorem d_L_numberedTotal_19 : decode (iC M_L_numberedTotal) 19 = .ok (.getfield 9, 3) := by decide +kernel
theorem d_L_numberedTotal_22 : decode (iC M_L_numberedTotal) 22 = .ok (.iload_n 2, 1) := by decide +kernel
theorem d_L_numberedTotal_23 : decode (iC M_L_numberedTotal) 23 = .ok (.iaload, 1) := by decide +kernel
theorem d_L_numberedTotal_24 : decode (iC M_L_numberedTotal) 24 = .ok (.iload_n 2, 1) := by decide +kernel
theorem d_L_numberedTotal_25 : decode (iC M_L_numberedTotal) 25 = .ok (.iconst 1, 1) := by decide +kernel
theorem d_L_numberedTotal_26 : decode (iC M_L_numberedTotal) 26 = .ok (.iadd, 1) := by decide +kernel
theorem d_L_numberedTotal_27 : decode (iC M_L_numberedTotal) 27 = .ok (.imul, 1) := by decide +kernel
theorem d_L_numberedTotal_28 : decode (iC M_L_numberedTotal) 28 = .ok (.iadd, 1) := by decide +kernel
theorem d_L_numberedTotal_29 : decode (iC M_L_numberedTotal) 29 = .ok (.istore_n 1, 1) := by decide +kernel
theorem d_L_numberedTotal_30 : decode (iC M_L_numberedTotal) 30 = .ok (.iinc 2 1, 3) := by decide +kernel
theorem d_L_numberedTotal_33 : decode (iC M_L_numberedTotal) 33 = .ok (.goto (-29), 3) := by decide +kernel
theorem d_L_numberedTotal_36 : decode (iC M_L_numberedTotal) 36 = .ok (.iload_n 1, 1) := by decide +kernel
theorem d_L_numberedTotal_37 : decode (iC M_L_numberedTotal) 37 = .ok (.ireturn, 1) := by decide +kernel
