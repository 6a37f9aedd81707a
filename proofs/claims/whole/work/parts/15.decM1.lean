theorem d_M_thrown_0 : decode (iC M_M_thrown) 0 = .ok (.aload_n 0, 1) := by decide +kernel
theorem d_M_thrown_1 : decode (iC M_M_thrown) 1 = .ok (.getfield 1, 3) := by decide +kernel
theorem d_M_thrown_4 : decode (iC M_M_thrown) 4 = .ok (.ireturn, 1) := by decide +kernel
theorem d_M_init_0 : decode (iC M_M_init) 0 = .ok (.aload_n 0, 1) := by decide +kernel
theorem d_M_init_1 : decode (iC M_M_init) 1 = .ok (.invokespecial 101, 3) := by decide +kernel
theorem d_M_init_4 : decode (iC M_M_init) 4 = .ok (.aload_n 0, 1) := by decide +kernel
theorem d_M_init_5 : decode (iC M_M_init) 5 = .ok (.sipush 4000, 3) := by decide +kernel
theorem d_M_init_8 : decode (iC M_M_init) 8 = .ok (.newarray .byte, 2) := by decide +kernel
theorem d_M_init_10 : decode (iC M_M_init) 10 = .ok (.putfield 107, 3) := by decide +kernel
theorem d_M_init_13 : decode (iC M_M_init) 13 = .ok (.aload_n 0, 1) := by decide +kernel
theorem d_M_init_14 : decode (iC M_M_init) 14 = .ok (.sipush 32000, 3) := by decide +kernel
theorem d_M_init_17 : decode (iC M_M_init) 17 = .ok (.newarray .byte, 2) := by decide +kernel
theorem d_M_init_19 : decode (iC M_M_init) 19 = .ok (.putfield 20, 3) := by decide +kernel
theorem d_M_init_22 : decode (iC M_M_init) 22 = .ok (.aload_n 0, 1) := by decide +kernel
theorem d_M_init_23 : decode (iC M_M_init) 23 = .ok (.iconst (-1), 1) := by decide +kernel
theorem d_M_init_24 : decode (iC M_M_init) 24 = .ok (.putfield 7, 3) := by decide +kernel
theorem d_M_init_27 : decode (iC M_M_init) 27 = .ok (.aload_n 0, 1) := by decide +kernel
theorem d_M_init_28 : decode (iC M_M_init) 28 = .ok (.sipush 6144, 3) := by decide +kernel
theorem d_M_init_31 : decode (iC M_M_init) 31 = .ok (.newarray .int, 2) := by decide +kernel
theorem d_M_init_33 : decode (iC M_M_init) 33 = .ok (.putfield 94, 3) := by decide +kernel
theorem d_M_init_36 : decode (iC M_M_init) 36 = .ok (.aload_n 0, 1) := by decide +kernel
theorem d_M_init_37 : decode (iC M_M_init) 37 = .ok (.sipush 6144, 3) := by decide +kernel
theorem d_M_init_40 : decode (iC M_M_init) 40 = .ok (.newarray .int, 2) := by decide +kernel
theorem d_M_init_42 : decode (iC M_M_init) 42 = .ok (.putfield 73, 3) := by decide +kernel
theorem d_M_init_45 : decode (iC M_M_init) 45 = .ok (.aload_n 0, 1) := by decide +kernel
theorem d_M_init_46 : decode (iC M_M_init) 46 = .ok (.sipush 6144, 3) := by decide +kernel
theorem d_M_init_49 : decode (iC M_M_init) 49 = .ok (.newarray .int, 2) := by decide +kernel
theorem d_M_init_51 : decode (iC M_M_init) 51 = .ok (.putfield 76, 3) := by decide +kernel
theorem d_M_init_54 : decode (iC M_M_init) 54 = .ok (.aload_n 0, 1) := by decide +kernel
theorem d_M_init_55 : decode (iC M_M_init) 55 = .ok (.ldc 110, 2) := by decide +kernel
theorem d_M_init_57 : decode (iC M_M_init) 57 = .ok (.newarray .byte, 2) := by decide +kernel
theorem d_M_init_59 : decode (iC M_M_init) 59 = .ok (.putfield 44, 3) := by decide +kernel
theorem d_M_init_62 : decode (iC M_M_init) 62 = .ok (.aload_n 0, 1) := by decide +kernel
theorem d_M_init_63 : decode (iC M_M_init) 63 = .ok (.bipush 80, 2) := by decide +kernel
theorem d_M_init_65 : decode (iC M_M_init) 65 = .ok (.newarray .int, 2) := by decide +kernel
theorem d_M_init_67 : decode (iC M_M_init) 67 = .ok (.putfield 47, 3) := by decide +kernel
theorem d_M_init_70 : decode (iC M_M_init) 70 = .ok (.aload_n 0, 1) := by decide +kernel
theorem d_M_init_71 : decode (iC M_M_init) 71 = .ok (.iconst 4, 1) := by decide +kernel
theorem d_M_init_72 : decode (iC M_M_init) 72 = .ok (.newarray .int, 2) := by decide +kernel
theorem d_M_init_74 : decode (iC M_M_init) 74 = .ok (.putfield 64, 3) := by decide +kernel
theorem d_M_init_77 : decode (iC M_M_init) 77 = .ok (.aload_n 0, 1) := by decide +kernel
theorem d_M_init_78 : decode (iC M_M_init) 78 = .ok (.iconst 4, 1) := by decide +kernel
theorem d_M_init_79 : decode (iC M_M_init) 79 = .ok (.newarray .int, 2) := by decide +kernel
theorem d_M_init_81 : decode (iC M_M_init) 81 = .ok (.putfield 111, 3) := by decide +kernel
theorem d_M_init_84 : decode (iC M_M_init) 84 = .ok (.aload_n 0, 1) := by decide +kernel
theorem d_M_init_85 : decode (iC M_M_init) 85 = .ok (.iconst 3, 1) := by decide +kernel
theorem d_M_init_86 : decode (iC M_M_init) 86 = .ok (.newarray .int, 2) := by decide +kernel
theorem d_M_init_88 : decode (iC M_M_init) 88 = .ok (.putfield 114, 3) := by decide +kernel
theorem d_M_init_91 : decode (iC M_M_init) 91 = .ok (.aload_n 0, 1) := by decide +kernel
theorem d_M_init_92 : decode (iC M_M_init) 92 = .ok (.bipush 64, 2) := by decide +kernel
theorem d_M_init_94 : decode (iC M_M_init) 94 = .ok (.newarray .int, 2) := by decide +kernel
theorem d_M_init_96 : decode (iC M_M_init) 96 = .ok (.putfield 117, 3) := by decide +kernel
theorem d_M_init_99 : decode (iC M_M_init) 99 = .ok (.aload_n 0, 1) := by decide +kernel
theorem d_M_init_100 : decode (iC M_M_init) 100 = .ok (.bipush 64, 2) := by decide +kernel
theorem d_M_init_102 : decode (iC M_M_init) 102 = .ok (.newarray .int, 2) := by decide +kernel
theorem d_M_init_104 : decode (iC M_M_init) 104 = .ok (.putfield 120, 3) := by decide +kernel
theorem d_M_init_107 : decode (iC M_M_init) 107 = .ok (.aload_n 0, 1) := by decide +kernel
theorem d_M_init_108 : decode (iC M_M_init) 108 = .ok (.bipush 64, 2) := by decide +kernel
theorem d_M_init_110 : decode (iC M_M_init) 110 = .ok (.newarray .int, 2) := by decide +kernel
theorem d_M_init_112 : decode (iC M_M_init) 112 = .ok (.putfield 123, 3) := by decide +kernel
theorem d_M_init_115 : decode (iC M_M_init) 115 = .ok (.aload_n 0, 1) := by decide +kernel
theorem d_M_init_116 : decode (iC M_M_init) 116 = .ok (.iconst 5, 1) := by decide +kernel
theorem d_M_init_117 : decode (iC M_M_init) 117 = .ok (.newarray .int, 2) := by decide +kernel
theorem d_M_init_119 : decode (iC M_M_init) 119 = .ok (.putfield 126, 3) := by decide +kernel
theorem d_M_init_122 : decode (iC M_M_init) 122 = .ok (.iconst 0, 1) := by decide +kernel
theorem d_M_init_123 : decode (iC M_M_init) 123 = .ok (.istore_n 1, 1) := by decide +kernel
theorem d_M_init_124 : decode (iC M_M_init) 124 = .ok (.iconst 0, 1) := by decide +kernel
theorem d_M_init_125 : decode (iC M_M_init) 125 = .ok (.istore_n 2, 1) := by decide +kernel
theorem d_M_init_126 : decode (iC M_M_init) 126 = .ok (.iload_n 2, 1) := by decide +kernel
theorem d_M_init_127 : decode (iC M_M_init) 127 = .ok (.bipush 15, 2) := by decide +kernel
theorem d_M_init_129 : decode (iC M_M_init) 129 = .ok (.if_icmp .ge 78, 3) := by decide +kernel
theorem d_M_init_132 : decode (iC M_M_init) 132 = .ok (.iconst 0, 1) := by decide +kernel
theorem d_M_init_133 : decode (iC M_M_init) 133 = .ok (.istore_n 3, 1) := by decide +kernel
theorem d_M_init_134 : decode (iC M_M_init) 134 = .ok (.iload_n 3, 1) := by decide +kernel
theorem d_M_init_135 : decode (iC M_M_init) 135 = .ok (.iload_n 2, 1) := by decide +kernel
theorem d_M_init_136 : decode (iC M_M_init) 136 = .ok (.if_icmp .gt 65, 3) := by decide +kernel
theorem d_M_init_139 : decode (iC M_M_init) 139 = .ok (.iload_n 2, 1) := by decide +kernel
theorem d_M_init_140 : decode (iC M_M_init) 140 = .ok (.iconst 2, 1) := by decide +kernel
theorem d_M_init_141 : decode (iC M_M_init) 141 = .ok (.irem, 1) := by decide +kernel
theorem d_M_init_142 : decode (iC M_M_init) 142 = .ok (.iconst 1, 1) := by decide +kernel
theorem d_M_init_143 : decode (iC M_M_init) 143 = .ok (.if_icmp .ne 7, 3) := by decide +kernel
theorem d_M_init_146 : decode (iC M_M_init) 146 = .ok (.iload_n 3, 1) := by decide +kernel
theorem d_M_init_147 : decode (iC M_M_init) 147 = .ok (.goto 6, 3) := by decide +kernel
theorem d_M_init_150 : decode (iC M_M_init) 150 = .ok (.iload_n 2, 1) := by decide +kernel
theorem d_M_init_151 : decode (iC M_M_init) 151 = .ok (.iload_n 3, 1) := by decide +kernel
theorem d_M_init_152 : decode (iC M_M_init) 152 = .ok (.isub, 1) := by decide +kernel
theorem d_M_init_153 : decode (iC M_M_init) 153 = .ok (.istore 4, 2) := by decide +kernel
theorem d_M_init_155 : decode (iC M_M_init) 155 = .ok (.iload_n 2, 1) := by decide +kernel
theorem d_M_init_156 : decode (iC M_M_init) 156 = .ok (.iload 4, 2) := by decide +kernel
theorem d_M_init_158 : decode (iC M_M_init) 158 = .ok (.isub, 1) := by decide +kernel
theorem d_M_init_159 : decode (iC M_M_init) 159 = .ok (.istore 5, 2) := by decide +kernel
theorem d_M_init_161 : decode (iC M_M_init) 161 = .ok (.iload 5, 2) := by decide +kernel
theorem d_M_init_163 : decode (iC M_M_init) 163 = .ok (.bipush 7, 2) := by decide +kernel
theorem d_M_init_165 : decode (iC M_M_init) 165 = .ok (.if_icmp .gt 30, 3) := by decide +kernel
theorem d_M_init_168 : decode (iC M_M_init) 168 = .ok (.iload 4, 2) := by decide +kernel
theorem d_M_init_170 : decode (iC M_M_init) 170 = .ok (.bipush 7, 2) := by decide +kernel
theorem d_M_init_172 : decode (iC M_M_init) 172 = .ok (.if_icmp .le 6, 3) := by decide +kernel
theorem d_M_init_175 : decode (iC M_M_init) 175 = .ok (.goto 20, 3) := by decide +kernel
theorem d_M_init_178 : decode (iC M_M_init) 178 = .ok (.aload_n 0, 1) := by decide +kernel
theorem d_M_init_179 : decode (iC M_M_init) 179 = .ok (.getfield 117, 3) := by decide +kernel
theorem d_M_init_182 : decode (iC M_M_init) 182 = .ok (.iload_n 1, 1) := by decide +kernel
theorem d_M_init_183 : decode (iC M_M_init) 183 = .ok (.bipush 8, 2) := by decide +kernel
theorem d_M_init_185 : decode (iC M_M_init) 185 = .ok (.iload 4, 2) := by decide +kernel
theorem d_M_init_187 : decode (iC M_M_init) 187 = .ok (.imul, 1) := by decide +kernel
theorem d_M_init_188 : decode (iC M_M_init) 188 = .ok (.iload 5, 2) := by decide +kernel
theorem d_M_init_190 : decode (iC M_M_init) 190 = .ok (.iadd, 1) := by decide +kernel
theorem d_M_init_191 : decode (iC M_M_init) 191 = .ok (.iastore, 1) := by decide +kernel
theorem d_M_init_192 : decode (iC M_M_init) 192 = .ok (.iinc 1 1, 3) := by decide +kernel
theorem d_M_init_195 : decode (iC M_M_init) 195 = .ok (.iinc 3 1, 3) := by decide +kernel
theorem d_M_init_198 : decode (iC M_M_init) 198 = .ok (.goto (-64), 3) := by decide +kernel
theorem d_M_init_201 : decode (iC M_M_init) 201 = .ok (.iinc 2 1, 3) := by decide +kernel
theorem d_M_init_204 : decode (iC M_M_init) 204 = .ok (.goto (-78), 3) := by decide +kernel
theorem d_M_init_207 : decode (iC M_M_init) 207 = .ok (.return_, 1) := by decide +kernel
theorem d_M_feed_0 : decode (iC M_M_feed) 0 = .ok (.aload_n 0, 1) := by decide +kernel
theorem d_M_feed_1 : decode (iC M_M_feed) 1 = .ok (.iconst 0, 1) := by decide +kernel
theorem d_M_feed_2 : decode (iC M_M_feed) 2 = .ok (.putfield 1, 3) := by decide +kernel
theorem d_M_feed_5 : decode (iC M_M_feed) 5 = .ok (.aload_n 0, 1) := by decide +kernel
theorem d_M_feed_6 : decode (iC M_M_feed) 6 = .ok (.invokevirtual 258, 3) := by decide +kernel
theorem d_M_feed_9 : decode (iC M_M_feed) 9 = .ok (.istore 6, 2) := by decide +kernel
theorem d_M_feed_11 : decode (iC M_M_feed) 11 = .ok (.iload 6, 2) := by decide +kernel
theorem d_M_feed_13 : decode (iC M_M_feed) 13 = .ok (.bipush 20, 2) := by decide +kernel
theorem d_M_feed_15 : decode (iC M_M_feed) 15 = .ok (.iadd, 1) := by decide +kernel
theorem d_M_feed_16 : decode (iC M_M_feed) 16 = .ok (.sipush 4000, 3) := by decide +kernel
theorem d_M_feed_19 : decode (iC M_M_feed) 19 = .ok (.if_icmp .le 5, 3) := by decide +kernel
theorem d_M_feed_22 : decode (iC M_M_feed) 22 = .ok (.iconst (-1), 1) := by decide +kernel
theorem d_M_feed_23 : decode (iC M_M_feed) 23 = .ok (.ireturn, 1) := by decide +kernel
theorem d_M_feed_24 : decode (iC M_M_feed) 24 = .ok (.aload_n 0, 1) := by decide +kernel
theorem d_M_feed_25 : decode (iC M_M_feed) 25 = .ok (.getfield 126, 3) := by decide +kernel
theorem d_M_feed_28 : decode (iC M_M_feed) 28 = .ok (.iconst 0, 1) := by decide +kernel
theorem d_M_feed_29 : decode (iC M_M_feed) 29 = .ok (.iload_n 1, 1) := by decide +kernel
theorem d_M_feed_30 : decode (iC M_M_feed) 30 = .ok (.iastore, 1) := by decide +kernel
theorem d_M_feed_31 : decode (iC M_M_feed) 31 = .ok (.aload_n 0, 1) := by decide +kernel
theorem d_M_feed_32 : decode (iC M_M_feed) 32 = .ok (.getfield 126, 3) := by decide +kernel
theorem d_M_feed_35 : decode (iC M_M_feed) 35 = .ok (.iconst 1, 1) := by decide +kernel
theorem d_M_feed_36 : decode (iC M_M_feed) 36 = .ok (.iload_n 2, 1) := by decide +kernel
theorem d_M_feed_37 : decode (iC M_M_feed) 37 = .ok (.iastore, 1) := by decide +kernel
theorem d_M_feed_38 : decode (iC M_M_feed) 38 = .ok (.aload_n 0, 1) := by decide +kernel
theorem d_M_feed_39 : decode (iC M_M_feed) 39 = .ok (.getfield 126, 3) := by decide +kernel
theorem d_M_feed_42 : decode (iC M_M_feed) 42 = .ok (.iconst 2, 1) := by decide +kernel
theorem d_M_feed_43 : decode (iC M_M_feed) 43 = .ok (.iload_n 3, 1) := by decide +kernel
theorem d_M_feed_44 : decode (iC M_M_feed) 44 = .ok (.iastore, 1) := by decide +kernel
theorem d_M_feed_45 : decode (iC M_M_feed) 45 = .ok (.aload_n 0, 1) := by decide +kernel
theorem d_M_feed_46 : decode (iC M_M_feed) 46 = .ok (.getfield 126, 3) := by decide +kernel
theorem d_M_feed_49 : decode (iC M_M_feed) 49 = .ok (.iconst 3, 1) := by decide +kernel
theorem d_M_feed_50 : decode (iC M_M_feed) 50 = .ok (.iload 4, 2) := by decide +kernel
theorem d_M_feed_52 : decode (iC M_M_feed) 52 = .ok (.iastore, 1) := by decide +kernel
theorem d_M_feed_53 : decode (iC M_M_feed) 53 = .ok (.aload_n 0, 1) := by decide +kernel
theorem d_M_feed_54 : decode (iC M_M_feed) 54 = .ok (.getfield 126, 3) := by decide +kernel
theorem d_M_feed_57 : decode (iC M_M_feed) 57 = .ok (.iconst 4, 1) := by decide +kernel
theorem d_M_feed_58 : decode (iC M_M_feed) 58 = .ok (.iload 5, 2) := by decide +kernel
theorem d_M_feed_60 : decode (iC M_M_feed) 60 = .ok (.iastore, 1) := by decide +kernel
theorem d_M_feed_61 : decode (iC M_M_feed) 61 = .ok (.iconst 0, 1) := by decide +kernel
theorem d_M_feed_62 : decode (iC M_M_feed) 62 = .ok (.istore 7, 2) := by decide +kernel
theorem d_M_feed_64 : decode (iC M_M_feed) 64 = .ok (.iload 7, 2) := by decide +kernel
theorem d_M_feed_66 : decode (iC M_M_feed) 66 = .ok (.bipush 20, 2) := by decide +kernel
theorem d_M_feed_68 : decode (iC M_M_feed) 68 = .ok (.if_icmp .ge 40, 3) := by decide +kernel
theorem d_M_feed_71 : decode (iC M_M_feed) 71 = .ok (.aload_n 0, 1) := by decide +kernel
theorem d_M_feed_72 : decode (iC M_M_feed) 72 = .ok (.getfield 107, 3) := by decide +kernel
theorem d_M_feed_75 : decode (iC M_M_feed) 75 = .ok (.iload 6, 2) := by decide +kernel
theorem d_M_feed_77 : decode (iC M_M_feed) 77 = .ok (.iload 7, 2) := by decide +kernel
theorem d_M_feed_79 : decode (iC M_M_feed) 79 = .ok (.iadd, 1) := by decide +kernel
theorem d_M_feed_80 : decode (iC M_M_feed) 80 = .ok (.aload_n 0, 1) := by decide +kernel
theorem d_M_feed_81 : decode (iC M_M_feed) 81 = .ok (.getfield 126, 3) := by decide +kernel
theorem d_M_feed_84 : decode (iC M_M_feed) 84 = .ok (.iload 7, 2) := by decide +kernel
theorem d_M_feed_86 : decode (iC M_M_feed) 86 = .ok (.iconst 4, 1) := by decide +kernel
theorem d_M_feed_87 : decode (iC M_M_feed) 87 = .ok (.idiv, 1) := by decide +kernel
theorem d_M_feed_88 : decode (iC M_M_feed) 88 = .ok (.iaload, 1) := by decide +kernel
theorem d_M_feed_89 : decode (iC M_M_feed) 89 = .ok (.bipush 24, 2) := by decide +kernel
theorem d_M_feed_91 : decode (iC M_M_feed) 91 = .ok (.bipush 8, 2) := by decide +kernel
theorem d_M_feed_93 : decode (iC M_M_feed) 93 = .ok (.iload 7, 2) := by decide +kernel
theorem d_M_feed_95 : decode (iC M_M_feed) 95 = .ok (.iconst 4, 1) := by decide +kernel
theorem d_M_feed_96 : decode (iC M_M_feed) 96 = .ok (.irem, 1) := by decide +kernel
theorem d_M_feed_97 : decode (iC M_M_feed) 97 = .ok (.imul, 1) := by decide +kernel
theorem d_M_feed_98 : decode (iC M_M_feed) 98 = .ok (.isub, 1) := by decide +kernel
theorem d_M_feed_99 : decode (iC M_M_feed) 99 = .ok (.ishr, 1) := by decide +kernel
theorem d_M_feed_100 : decode (iC M_M_feed) 100 = .ok (.i2b, 1) := by decide +kernel
theorem d_M_feed_101 : decode (iC M_M_feed) 101 = .ok (.bastore, 1) := by decide +kernel
theorem d_M_feed_102 : decode (iC M_M_feed) 102 = .ok (.iinc 7 1, 3) := by decide +kernel
theorem d_M_feed_105 : decode (iC M_M_feed) 105 = .ok (.goto (-41), 3) := by decide +kernel
theorem d_M_feed_108 : decode (iC M_M_feed) 108 = .ok (.aload_n 0, 1) := by decide +kernel
theorem d_M_feed_109 : decode (iC M_M_feed) 109 = .ok (.bipush 8, 2) := by decide +kernel
theorem d_M_feed_111 : decode (iC M_M_feed) 111 = .ok (.iload 6, 2) := by decide +kernel
theorem d_M_feed_113 : decode (iC M_M_feed) 113 = .ok (.bipush 20, 2) := by decide +kernel
theorem d_M_feed_115 : decode (iC M_M_feed) 115 = .ok (.iadd, 1) := by decide +kernel
theorem d_M_feed_116 : decode (iC M_M_feed) 116 = .ok (.imul, 1) := by decide +kernel
theorem d_M_feed_117 : decode (iC M_M_feed) 117 = .ok (.putfield 255, 3) := by decide +kernel
theorem d_M_feed_120 : decode (iC M_M_feed) 120 = .ok (.iload 6, 2) := by decide +kernel
theorem d_M_feed_122 : decode (iC M_M_feed) 122 = .ok (.bipush 20, 2) := by decide +kernel
theorem d_M_feed_124 : decode (iC M_M_feed) 124 = .ok (.iadd, 1) := by decide +kernel
theorem d_M_feed_125 : decode (iC M_M_feed) 125 = .ok (.ireturn, 1) := by decide +kernel
theorem d_M_taped_0 : decode (iC M_M_taped) 0 = .ok (.aload_n 0, 1) := by decide +kernel
theorem d_M_taped_1 : decode (iC M_M_taped) 1 = .ok (.getfield 255, 3) := by decide +kernel
theorem d_M_taped_4 : decode (iC M_M_taped) 4 = .ok (.bipush 7, 2) := by decide +kernel
theorem d_M_taped_6 : decode (iC M_M_taped) 6 = .ok (.iadd, 1) := by decide +kernel
theorem d_M_taped_7 : decode (iC M_M_taped) 7 = .ok (.bipush 8, 2) := by decide +kernel
theorem d_M_taped_9 : decode (iC M_M_taped) 9 = .ok (.idiv, 1) := by decide +kernel
theorem d_M_taped_10 : decode (iC M_M_taped) 10 = .ok (.ireturn, 1) := by decide +kernel
theorem d_M_end_0 : decode (iC M_M_end) 0 = .ok (.aload_n 0, 1) := by decide +kernel
theorem d_M_end_1 : decode (iC M_M_end) 1 = .ok (.iconst 0, 1) := by decide +kernel
theorem d_M_end_2 : decode (iC M_M_end) 2 = .ok (.putfield 1, 3) := by decide +kernel
theorem d_M_end_5 : decode (iC M_M_end) 5 = .ok (.iload_n 1, 1) := by decide +kernel
theorem d_M_end_6 : decode (iC M_M_end) 6 = .ok (.ifCond .lt 11, 3) := by decide +kernel
theorem d_M_end_9 : decode (iC M_M_end) 9 = .ok (.iload_n 1, 1) := by decide +kernel
theorem d_M_end_10 : decode (iC M_M_end) 10 = .ok (.aload_n 0, 1) := by decide +kernel
theorem d_M_end_11 : decode (iC M_M_end) 11 = .ok (.invokevirtual 258, 3) := by decide +kernel
theorem d_M_end_14 : decode (iC M_M_end) 14 = .ok (.if_icmp .le 5, 3) := by decide +kernel
theorem d_M_end_17 : decode (iC M_M_end) 17 = .ok (.iconst 0, 1) := by decide +kernel
theorem d_M_end_18 : decode (iC M_M_end) 18 = .ok (.ireturn, 1) := by decide +kernel
theorem d_M_end_19 : decode (iC M_M_end) 19 = .ok (.aload_n 0, 1) := by decide +kernel
theorem d_M_end_20 : decode (iC M_M_end) 20 = .ok (.bipush 8, 2) := by decide +kernel
theorem d_M_end_22 : decode (iC M_M_end) 22 = .ok (.iload_n 1, 1) := by decide +kernel
theorem d_M_end_23 : decode (iC M_M_end) 23 = .ok (.imul, 1) := by decide +kernel
theorem d_M_end_24 : decode (iC M_M_end) 24 = .ok (.putfield 255, 3) := by decide +kernel
theorem d_M_end_27 : decode (iC M_M_end) 27 = .ok (.iconst 1, 1) := by decide +kernel
theorem d_M_end_28 : decode (iC M_M_end) 28 = .ok (.ireturn, 1) := by decide +kernel
theorem d_M_bits_0 : decode (iC M_M_bits) 0 = .ok (.aload_n 0, 1) := by decide +kernel
theorem d_M_bits_1 : decode (iC M_M_bits) 1 = .ok (.iconst 0, 1) := by decide +kernel
theorem d_M_bits_2 : decode (iC M_M_bits) 2 = .ok (.putfield 1, 3) := by decide +kernel
theorem d_M_bits_5 : decode (iC M_M_bits) 5 = .ok (.iload_n 2, 1) := by decide +kernel
theorem d_M_bits_6 : decode (iC M_M_bits) 6 = .ok (.iconst 1, 1) := by decide +kernel
theorem d_M_bits_7 : decode (iC M_M_bits) 7 = .ok (.if_icmp .lt 21, 3) := by decide +kernel
theorem d_M_bits_10 : decode (iC M_M_bits) 10 = .ok (.iload_n 2, 1) := by decide +kernel
theorem d_M_bits_11 : decode (iC M_M_bits) 11 = .ok (.bipush 32, 2) := by decide +kernel
theorem d_M_bits_13 : decode (iC M_M_bits) 13 = .ok (.if_icmp .gt 15, 3) := by decide +kernel
theorem d_M_bits_16 : decode (iC M_M_bits) 16 = .ok (.aload_n 0, 1) := by decide +kernel
theorem d_M_bits_17 : decode (iC M_M_bits) 17 = .ok (.getfield 255, 3) := by decide +kernel
theorem d_M_bits_20 : decode (iC M_M_bits) 20 = .ok (.iload_n 2, 1) := by decide +kernel
theorem d_M_bits_21 : decode (iC M_M_bits) 21 = .ok (.iadd, 1) := by decide +kernel
theorem d_M_bits_22 : decode (iC M_M_bits) 22 = .ok (.sipush 32000, 3) := by decide +kernel
theorem d_M_bits_25 : decode (iC M_M_bits) 25 = .ok (.if_icmp .le 5, 3) := by decide +kernel
theorem d_M_bits_28 : decode (iC M_M_bits) 28 = .ok (.iconst (-1), 1) := by decide +kernel
theorem d_M_bits_29 : decode (iC M_M_bits) 29 = .ok (.ireturn, 1) := by decide +kernel
theorem d_M_bits_30 : decode (iC M_M_bits) 30 = .ok (.iload_n 2, 1) := by decide +kernel
theorem d_M_bits_31 : decode (iC M_M_bits) 31 = .ok (.iconst 1, 1) := by decide +kernel
theorem d_M_bits_32 : decode (iC M_M_bits) 32 = .ok (.isub, 1) := by decide +kernel
theorem d_M_bits_33 : decode (iC M_M_bits) 33 = .ok (.istore_n 3, 1) := by decide +kernel
theorem d_M_bits_34 : decode (iC M_M_bits) 34 = .ok (.iload_n 3, 1) := by decide +kernel
theorem d_M_bits_35 : decode (iC M_M_bits) 35 = .ok (.ifCond .lt 73, 3) := by decide +kernel
theorem d_M_bits_38 : decode (iC M_M_bits) 38 = .ok (.aload_n 0, 1) := by decide +kernel
theorem d_M_bits_39 : decode (iC M_M_bits) 39 = .ok (.getfield 255, 3) := by decide +kernel
theorem d_M_bits_42 : decode (iC M_M_bits) 42 = .ok (.bipush 8, 2) := by decide +kernel
theorem d_M_bits_44 : decode (iC M_M_bits) 44 = .ok (.idiv, 1) := by decide +kernel
theorem d_M_bits_45 : decode (iC M_M_bits) 45 = .ok (.istore 4, 2) := by decide +kernel
theorem d_M_bits_47 : decode (iC M_M_bits) 47 = .ok (.aload_n 0, 1) := by decide +kernel
theorem d_M_bits_48 : decode (iC M_M_bits) 48 = .ok (.getfield 255, 3) := by decide +kernel
theorem d_M_bits_51 : decode (iC M_M_bits) 51 = .ok (.bipush 8, 2) := by decide +kernel
theorem d_M_bits_53 : decode (iC M_M_bits) 53 = .ok (.irem, 1) := by decide +kernel
theorem d_M_bits_54 : decode (iC M_M_bits) 54 = .ok (.ifCond .ne 11, 3) := by decide +kernel
theorem d_M_bits_57 : decode (iC M_M_bits) 57 = .ok (.aload_n 0, 1) := by decide +kernel
theorem d_M_bits_58 : decode (iC M_M_bits) 58 = .ok (.getfield 107, 3) := by decide +kernel
theorem d_M_bits_61 : decode (iC M_M_bits) 61 = .ok (.iload 4, 2) := by decide +kernel
theorem d_M_bits_63 : decode (iC M_M_bits) 63 = .ok (.iconst 0, 1) := by decide +kernel
theorem d_M_bits_64 : decode (iC M_M_bits) 64 = .ok (.bastore, 1) := by decide +kernel
theorem d_M_bits_65 : decode (iC M_M_bits) 65 = .ok (.aload_n 0, 1) := by decide +kernel
theorem d_M_bits_66 : decode (iC M_M_bits) 66 = .ok (.getfield 107, 3) := by decide +kernel
theorem d_M_bits_69 : decode (iC M_M_bits) 69 = .ok (.iload 4, 2) := by decide +kernel
theorem d_M_bits_71 : decode (iC M_M_bits) 71 = .ok (.dup2, 1) := by decide +kernel
theorem d_M_bits_72 : decode (iC M_M_bits) 72 = .ok (.baload, 1) := by decide +kernel
theorem d_M_bits_73 : decode (iC M_M_bits) 73 = .ok (.iload_n 1, 1) := by decide +kernel
theorem d_M_bits_74 : decode (iC M_M_bits) 74 = .ok (.iload_n 3, 1) := by decide +kernel
theorem d_M_bits_75 : decode (iC M_M_bits) 75 = .ok (.ishr, 1) := by decide +kernel
theorem d_M_bits_76 : decode (iC M_M_bits) 76 = .ok (.iconst 1, 1) := by decide +kernel
theorem d_M_bits_77 : decode (iC M_M_bits) 77 = .ok (.iand, 1) := by decide +kernel
theorem d_M_bits_78 : decode (iC M_M_bits) 78 = .ok (.bipush 7, 2) := by decide +kernel
theorem d_M_bits_80 : decode (iC M_M_bits) 80 = .ok (.aload_n 0, 1) := by decide +kernel
theorem d_M_bits_81 : decode (iC M_M_bits) 81 = .ok (.getfield 255, 3) := by decide +kernel
theorem d_M_bits_84 : decode (iC M_M_bits) 84 = .ok (.bipush 8, 2) := by decide +kernel
theorem d_M_bits_86 : decode (iC M_M_bits) 86 = .ok (.irem, 1) := by decide +kernel
theorem d_M_bits_87 : decode (iC M_M_bits) 87 = .ok (.isub, 1) := by decide +kernel
theorem d_M_bits_88 : decode (iC M_M_bits) 88 = .ok (.ishl, 1) := by decide +kernel
theorem d_M_bits_89 : decode (iC M_M_bits) 89 = .ok (.ior, 1) := by decide +kernel
theorem d_M_bits_90 : decode (iC M_M_bits) 90 = .ok (.i2b, 1) := by decide +kernel
theorem d_M_bits_91 : decode (iC M_M_bits) 91 = .ok (.bastore, 1) := by decide +kernel
theorem d_M_bits_92 : decode (iC M_M_bits) 92 = .ok (.aload_n 0, 1) := by decide +kernel
theorem d_M_bits_93 : decode (iC M_M_bits) 93 = .ok (.dup, 1) := by decide +kernel
theorem d_M_bits_94 : decode (iC M_M_bits) 94 = .ok (.getfield 255, 3) := by decide +kernel
theorem d_M_bits_97 : decode (iC M_M_bits) 97 = .ok (.iconst 1, 1) := by decide +kernel
theorem d_M_bits_98 : decode (iC M_M_bits) 98 = .ok (.iadd, 1) := by decide +kernel
theorem d_M_bits_99 : decode (iC M_M_bits) 99 = .ok (.putfield 255, 3) := by decide +kernel
theorem d_M_bits_102 : decode (iC M_M_bits) 102 = .ok (.iinc 3 (-1), 3) := by decide +kernel
theorem d_M_bits_105 : decode (iC M_M_bits) 105 = .ok (.goto (-71), 3) := by decide +kernel
theorem d_M_bits_108 : decode (iC M_M_bits) 108 = .ok (.aload_n 0, 1) := by decide +kernel
theorem d_M_bits_109 : decode (iC M_M_bits) 109 = .ok (.getfield 255, 3) := by decide +kernel
theorem d_M_bits_112 : decode (iC M_M_bits) 112 = .ok (.ireturn, 1) := by decide +kernel
theorem d_M_read_0 : decode (iC M_M_read) 0 = .ok (.aload_n 0, 1) := by decide +kernel
theorem d_M_read_1 : decode (iC M_M_read) 1 = .ok (.iconst 0, 1) := by decide +kernel
theorem d_M_read_2 : decode (iC M_M_read) 2 = .ok (.putfield 1, 3) := by decide +kernel
theorem d_M_read_5 : decode (iC M_M_read) 5 = .ok (.aload_n 0, 1) := by decide +kernel
theorem d_M_read_6 : decode (iC M_M_read) 6 = .ok (.invokevirtual 258, 3) := by decide +kernel
theorem d_M_read_9 : decode (iC M_M_read) 9 = .ok (.istore_n 1, 1) := by decide +kernel
theorem d_M_read_10 : decode (iC M_M_read) 10 = .ok (.iconst 0, 1) := by decide +kernel
theorem d_M_read_11 : decode (iC M_M_read) 11 = .ok (.istore_n 2, 1) := by decide +kernel
theorem d_M_read_12 : decode (iC M_M_read) 12 = .ok (.iload_n 2, 1) := by decide +kernel
theorem d_M_read_13 : decode (iC M_M_read) 13 = .ok (.bipush 8, 2) := by decide +kernel
theorem d_M_read_15 : decode (iC M_M_read) 15 = .ok (.iload_n 1, 1) := by decide +kernel
theorem d_M_read_16 : decode (iC M_M_read) 16 = .ok (.imul, 1) := by decide +kernel
theorem d_M_read_17 : decode (iC M_M_read) 17 = .ok (.if_icmp .ge 35, 3) := by decide +kernel
theorem d_M_read_20 : decode (iC M_M_read) 20 = .ok (.aload_n 0, 1) := by decide +kernel
theorem d_M_read_21 : decode (iC M_M_read) 21 = .ok (.getfield 20, 3) := by decide +kernel
theorem d_M_read_24 : decode (iC M_M_read) 24 = .ok (.iload_n 2, 1) := by decide +kernel
theorem d_M_read_25 : decode (iC M_M_read) 25 = .ok (.aload_n 0, 1) := by decide +kernel
theorem d_M_read_26 : decode (iC M_M_read) 26 = .ok (.getfield 107, 3) := by decide +kernel
theorem d_M_read_29 : decode (iC M_M_read) 29 = .ok (.iload_n 2, 1) := by decide +kernel
theorem d_M_read_30 : decode (iC M_M_read) 30 = .ok (.bipush 8, 2) := by decide +kernel
theorem d_M_read_32 : decode (iC M_M_read) 32 = .ok (.idiv, 1) := by decide +kernel
theorem d_M_read_33 : decode (iC M_M_read) 33 = .ok (.baload, 1) := by decide +kernel
theorem d_M_read_34 : decode (iC M_M_read) 34 = .ok (.bipush 7, 2) := by decide +kernel
theorem d_M_read_36 : decode (iC M_M_read) 36 = .ok (.iload_n 2, 1) := by decide +kernel
theorem d_M_read_37 : decode (iC M_M_read) 37 = .ok (.bipush 8, 2) := by decide +kernel
theorem d_M_read_39 : decode (iC M_M_read) 39 = .ok (.irem, 1) := by decide +kernel
theorem d_M_read_40 : decode (iC M_M_read) 40 = .ok (.isub, 1) := by decide +kernel
theorem d_M_read_41 : decode (iC M_M_read) 41 = .ok (.ishr, 1) := by decide +kernel
theorem d_M_read_42 : decode (iC M_M_read) 42 = .ok (.iconst 1, 1) := by decide +kernel
theorem d_M_read_43 : decode (iC M_M_read) 43 = .ok (.iand, 1) := by decide +kernel
theorem d_M_read_44 : decode (iC M_M_read) 44 = .ok (.i2b, 1) := by decide +kernel
theorem d_M_read_45 : decode (iC M_M_read) 45 = .ok (.bastore, 1) := by decide +kernel
theorem d_M_read_46 : decode (iC M_M_read) 46 = .ok (.iinc 2 1, 3) := by decide +kernel
theorem d_M_read_49 : decode (iC M_M_read) 49 = .ok (.goto (-37), 3) := by decide +kernel
theorem d_M_read_52 : decode (iC M_M_read) 52 = .ok (.aload_n 0, 1) := by decide +kernel
theorem d_M_read_53 : decode (iC M_M_read) 53 = .ok (.iconst 0, 1) := by decide +kernel
theorem d_M_read_54 : decode (iC M_M_read) 54 = .ok (.putfield 255, 3) := by decide +kernel
theorem d_M_read_57 : decode (iC M_M_read) 57 = .ok (.aload_n 0, 1) := by decide +kernel
theorem d_M_read_58 : decode (iC M_M_read) 58 = .ok (.iconst 0, 1) := by decide +kernel
theorem d_M_read_59 : decode (iC M_M_read) 59 = .ok (.putfield 10, 3) := by decide +kernel
theorem d_M_read_62 : decode (iC M_M_read) 62 = .ok (.aload_n 0, 1) := by decide +kernel
theorem d_M_read_63 : decode (iC M_M_read) 63 = .ok (.bipush 8, 2) := by decide +kernel
theorem d_M_read_65 : decode (iC M_M_read) 65 = .ok (.iload_n 1, 1) := by decide +kernel
theorem d_M_read_66 : decode (iC M_M_read) 66 = .ok (.imul, 1) := by decide +kernel
theorem d_M_read_67 : decode (iC M_M_read) 67 = .ok (.putfield 13, 3) := by decide +kernel
theorem d_M_read_70 : decode (iC M_M_read) 70 = .ok (.aload_n 0, 1) := by decide +kernel
theorem d_M_read_71 : decode (iC M_M_read) 71 = .ok (.iconst (-1), 1) := by decide +kernel
theorem d_M_read_72 : decode (iC M_M_read) 72 = .ok (.putfield 7, 3) := by decide +kernel
theorem d_M_read_75 : decode (iC M_M_read) 75 = .ok (.aload_n 0, 1) := by decide +kernel
theorem d_M_read_76 : decode (iC M_M_read) 76 = .ok (.iconst 0, 1) := by decide +kernel
theorem d_M_read_77 : decode (iC M_M_read) 77 = .ok (.putfield 212, 3) := by decide +kernel
theorem d_M_read_80 : decode (iC M_M_read) 80 = .ok (.aload_n 0, 1) := by decide +kernel
theorem d_M_read_81 : decode (iC M_M_read) 81 = .ok (.iconst 0, 1) := by decide +kernel
theorem d_M_read_82 : decode (iC M_M_read) 82 = .ok (.putfield 215, 3) := by decide +kernel
theorem d_M_read_85 : decode (iC M_M_read) 85 = .ok (.aload_n 0, 1) := by decide +kernel
theorem d_M_read_86 : decode (iC M_M_read) 86 = .ok (.iconst 0, 1) := by decide +kernel
theorem d_M_read_87 : decode (iC M_M_read) 87 = .ok (.putfield 244, 3) := by decide +kernel
theorem d_M_read_90 : decode (iC M_M_read) 90 = .ok (.aload_n 0, 1) := by decide +kernel
theorem d_M_read_91 : decode (iC M_M_read) 91 = .ok (.iconst 0, 1) := by decide +kernel
theorem d_M_read_92 : decode (iC M_M_read) 92 = .ok (.putfield 247, 3) := by decide +kernel
theorem d_M_read_95 : decode (iC M_M_read) 95 = .ok (.aload_n 0, 1) := by decide +kernel
theorem d_M_read_96 : decode (iC M_M_read) 96 = .ok (.iconst 0, 1) := by decide +kernel
theorem d_M_read_97 : decode (iC M_M_read) 97 = .ok (.putfield 41, 3) := by decide +kernel
theorem d_M_read_100 : decode (iC M_M_read) 100 = .ok (.aload_n 0, 1) := by decide +kernel
theorem d_M_read_101 : decode (iC M_M_read) 101 = .ok (.iconst 0, 1) := by decide +kernel
theorem d_M_read_102 : decode (iC M_M_read) 102 = .ok (.putfield 222, 3) := by decide +kernel
theorem d_M_read_105 : decode (iC M_M_read) 105 = .ok (.aload_n 0, 1) := by decide +kernel
theorem d_M_read_106 : decode (iC M_M_read) 106 = .ok (.iconst 0, 1) := by decide +kernel
theorem d_M_read_107 : decode (iC M_M_read) 107 = .ok (.putfield 181, 3) := by decide +kernel
theorem d_M_read_110 : decode (iC M_M_read) 110 = .ok (.aload_n 0, 1) := by decide +kernel
theorem d_M_read_111 : decode (iC M_M_read) 111 = .ok (.iconst 0, 1) := by decide +kernel
theorem d_M_read_112 : decode (iC M_M_read) 112 = .ok (.putfield 196, 3) := by decide +kernel
theorem d_M_read_115 : decode (iC M_M_read) 115 = .ok (.aload_n 0, 1) := by decide +kernel
theorem d_M_read_116 : decode (iC M_M_read) 116 = .ok (.iconst 0, 1) := by decide +kernel
theorem d_M_read_117 : decode (iC M_M_read) 117 = .ok (.putfield 157, 3) := by decide +kernel
theorem d_M_read_120 : decode (iC M_M_read) 120 = .ok (.aload_n 0, 1) := by decide +kernel
theorem d_M_read_121 : decode (iC M_M_read) 121 = .ok (.iconst 0, 1) := by decide +kernel
theorem d_M_read_122 : decode (iC M_M_read) 122 = .ok (.putfield 151, 3) := by decide +kernel
theorem d_M_read_125 : decode (iC M_M_read) 125 = .ok (.aload_n 0, 1) := by decide +kernel
theorem d_M_read_126 : decode (iC M_M_read) 126 = .ok (.invokevirtual 261, 3) := by decide +kernel
theorem d_M_read_129 : decode (iC M_M_read) 129 = .ok (.aload_n 0, 1) := by decide +kernel
theorem d_M_read_130 : decode (iC M_M_read) 130 = .ok (.getfield 41, 3) := by decide +kernel
theorem d_M_read_133 : decode (iC M_M_read) 133 = .ok (.ireturn, 1) := by decide +kernel
theorem d_M_stream_0 : decode (iC M_M_stream) 0 = .ok (.aload_n 0, 1) := by decide +kernel
theorem d_M_stream_1 : decode (iC M_M_stream) 1 = .ok (.sipush 21074, 3) := by decide +kernel
theorem d_M_stream_4 : decode (iC M_M_stream) 4 = .ok (.sipush 21074, 3) := by decide +kernel
theorem d_M_stream_7 : decode (iC M_M_stream) 7 = .ok (.bipush 16, 2) := by decide +kernel
theorem d_M_stream_9 : decode (iC M_M_stream) 9 = .ok (.invokevirtual 241, 3) := by decide +kernel
theorem d_M_stream_12 : decode (iC M_M_stream) 12 = .ok (.istore_n 1, 1) := by decide +kernel
theorem d_M_stream_13 : decode (iC M_M_stream) 13 = .ok (.aload_n 0, 1) := by decide +kernel
theorem d_M_stream_14 : decode (iC M_M_stream) 14 = .ok (.getfield 7, 3) := by decide +kernel
theorem d_M_stream_17 : decode (iC M_M_stream) 17 = .ok (.ifCond .lt 4, 3) := by decide +kernel
theorem d_M_stream_20 : decode (iC M_M_stream) 20 = .ok (.return_, 1) := by decide +kernel
theorem d_M_stream_21 : decode (iC M_M_stream) 21 = .ok (.iconst 1, 1) := by decide +kernel
theorem d_M_stream_22 : decode (iC M_M_stream) 22 = .ok (.aload_n 0, 1) := by decide +kernel
theorem d_M_stream_23 : decode (iC M_M_stream) 23 = .ok (.iconst 2, 1) := by decide +kernel
theorem d_M_stream_24 : decode (iC M_M_stream) 24 = .ok (.invokevirtual 28, 3) := by decide +kernel
theorem d_M_stream_27 : decode (iC M_M_stream) 27 = .ok (.iadd, 1) := by decide +kernel
theorem d_M_stream_28 : decode (iC M_M_stream) 28 = .ok (.istore_n 2, 1) := by decide +kernel
theorem d_M_stream_29 : decode (iC M_M_stream) 29 = .ok (.iconst 1, 1) := by decide +kernel
theorem d_M_stream_30 : decode (iC M_M_stream) 30 = .ok (.aload_n 0, 1) := by decide +kernel
theorem d_M_stream_31 : decode (iC M_M_stream) 31 = .ok (.iconst 2, 1) := by decide +kernel
theorem d_M_stream_32 : decode (iC M_M_stream) 32 = .ok (.invokevirtual 28, 3) := by decide +kernel
theorem d_M_stream_35 : decode (iC M_M_stream) 35 = .ok (.iadd, 1) := by decide +kernel
theorem d_M_stream_36 : decode (iC M_M_stream) 36 = .ok (.istore_n 3, 1) := by decide +kernel
theorem d_M_stream_37 : decode (iC M_M_stream) 37 = .ok (.aload_n 0, 1) := by decide +kernel
theorem d_M_stream_38 : decode (iC M_M_stream) 38 = .ok (.getfield 7, 3) := by decide +kernel
theorem d_M_stream_41 : decode (iC M_M_stream) 41 = .ok (.ifCond .lt 4, 3) := by decide +kernel
theorem d_M_stream_44 : decode (iC M_M_stream) 44 = .ok (.return_, 1) := by decide +kernel
theorem d_M_stream_45 : decode (iC M_M_stream) 45 = .ok (.aload_n 0, 1) := by decide +kernel
theorem d_M_stream_46 : decode (iC M_M_stream) 46 = .ok (.iload_n 2, 1) := by decide +kernel
theorem d_M_stream_47 : decode (iC M_M_stream) 47 = .ok (.putfield 35, 3) := by decide +kernel
theorem d_M_stream_50 : decode (iC M_M_stream) 50 = .ok (.aload_n 0, 1) := by decide +kernel
theorem d_M_stream_51 : decode (iC M_M_stream) 51 = .ok (.iload_n 3, 1) := by decide +kernel
theorem d_M_stream_52 : decode (iC M_M_stream) 52 = .ok (.putfield 38, 3) := by decide +kernel
theorem d_M_stream_55 : decode (iC M_M_stream) 55 = .ok (.aload_n 0, 1) := by decide +kernel
theorem d_M_stream_56 : decode (iC M_M_stream) 56 = .ok (.bipush 16, 2) := by decide +kernel
theorem d_M_stream_58 : decode (iC M_M_stream) 58 = .ok (.iload_n 2, 1) := by decide +kernel
theorem d_M_stream_59 : decode (iC M_M_stream) 59 = .ok (.imul, 1) := by decide +kernel
theorem d_M_stream_60 : decode (iC M_M_stream) 60 = .ok (.putfield 244, 3) := by decide +kernel
theorem d_M_stream_63 : decode (iC M_M_stream) 63 = .ok (.aload_n 0, 1) := by decide +kernel
theorem d_M_stream_64 : decode (iC M_M_stream) 64 = .ok (.bipush 16, 2) := by decide +kernel
theorem d_M_stream_66 : decode (iC M_M_stream) 66 = .ok (.iload_n 3, 1) := by decide +kernel
theorem d_M_stream_67 : decode (iC M_M_stream) 67 = .ok (.imul, 1) := by decide +kernel
theorem d_M_stream_68 : decode (iC M_M_stream) 68 = .ok (.putfield 247, 3) := by decide +kernel
theorem d_M_stream_71 : decode (iC M_M_stream) 71 = .ok (.aload_n 0, 1) := by decide +kernel
theorem d_M_stream_72 : decode (iC M_M_stream) 72 = .ok (.invokevirtual 209, 3) := by decide +kernel
theorem d_M_stream_75 : decode (iC M_M_stream) 75 = .ok (.iconst 0, 1) := by decide +kernel
theorem d_M_stream_76 : decode (iC M_M_stream) 76 = .ok (.istore 4, 2) := by decide +kernel
theorem d_M_stream_78 : decode (iC M_M_stream) 78 = .ok (.aload_n 0, 1) := by decide +kernel
theorem d_M_stream_79 : decode (iC M_M_stream) 79 = .ok (.getfield 7, 3) := by decide +kernel
theorem d_M_stream_82 : decode (iC M_M_stream) 82 = .ok (.ifCond .ge 51, 3) := by decide +kernel
theorem d_M_stream_85 : decode (iC M_M_stream) 85 = .ok (.aload_n 0, 1) := by decide +kernel
theorem d_M_stream_86 : decode (iC M_M_stream) 86 = .ok (.sipush 256, 3) := by decide +kernel
theorem d_M_stream_89 : decode (iC M_M_stream) 89 = .ok (.sipush 439, 3) := by decide +kernel
theorem d_M_stream_92 : decode (iC M_M_stream) 92 = .ok (.bipush 32, 2) := by decide +kernel
theorem d_M_stream_94 : decode (iC M_M_stream) 94 = .ok (.invokevirtual 241, 3) := by decide +kernel
theorem d_M_stream_97 : decode (iC M_M_stream) 97 = .ok (.istore 5, 2) := by decide +kernel
theorem d_M_stream_99 : decode (iC M_M_stream) 99 = .ok (.aload_n 0, 1) := by decide +kernel
theorem d_M_stream_100 : decode (iC M_M_stream) 100 = .ok (.getfield 7, 3) := by decide +kernel
theorem d_M_stream_103 : decode (iC M_M_stream) 103 = .ok (.ifCond .ge 30, 3) := by decide +kernel
theorem d_M_stream_106 : decode (iC M_M_stream) 106 = .ok (.iload 5, 2) := by decide +kernel
theorem d_M_stream_108 : decode (iC M_M_stream) 108 = .ok (.ifCond .ne 6, 3) := by decide +kernel
theorem d_M_stream_111 : decode (iC M_M_stream) 111 = .ok (.goto 22, 3) := by decide +kernel
theorem d_M_stream_114 : decode (iC M_M_stream) 114 = .ok (.aload_n 0, 1) := by decide +kernel
theorem d_M_stream_115 : decode (iC M_M_stream) 115 = .ok (.invokevirtual 250, 3) := by decide +kernel
theorem d_M_stream_118 : decode (iC M_M_stream) 118 = .ok (.ifCond .eq 9, 3) := by decide +kernel
theorem d_M_stream_121 : decode (iC M_M_stream) 121 = .ok (.aload_n 0, 1) := by decide +kernel
theorem d_M_stream_122 : decode (iC M_M_stream) 122 = .ok (.iload 4, 2) := by decide +kernel
theorem d_M_stream_124 : decode (iC M_M_stream) 124 = .ok (.invokevirtual 252, 3) := by decide +kernel
theorem d_M_stream_127 : decode (iC M_M_stream) 127 = .ok (.iinc 4 1, 3) := by decide +kernel
theorem d_M_stream_130 : decode (iC M_M_stream) 130 = .ok (.goto (-52), 3) := by decide +kernel
theorem d_M_stream_133 : decode (iC M_M_stream) 133 = .ok (.aload_n 0, 1) := by decide +kernel
theorem d_M_stream_134 : decode (iC M_M_stream) 134 = .ok (.getfield 212, 3) := by decide +kernel
theorem d_M_stream_137 : decode (iC M_M_stream) 137 = .ok (.ifCond .eq 27, 3) := by decide +kernel
theorem d_M_stream_140 : decode (iC M_M_stream) 140 = .ok (.aload_n 0, 1) := by decide +kernel
theorem d_M_stream_141 : decode (iC M_M_stream) 141 = .ok (.aload_n 0, 1) := by decide +kernel
theorem d_M_stream_142 : decode (iC M_M_stream) 142 = .ok (.getfield 73, 3) := by decide +kernel
theorem d_M_stream_145 : decode (iC M_M_stream) 145 = .ok (.aload_n 0, 1) := by decide +kernel
theorem d_M_stream_146 : decode (iC M_M_stream) 146 = .ok (.getfield 229, 3) := by decide +kernel
theorem d_M_stream_149 : decode (iC M_M_stream) 149 = .ok (.aload_n 0, 1) := by decide +kernel
theorem d_M_stream_150 : decode (iC M_M_stream) 150 = .ok (.getfield 232, 3) := by decide +kernel
theorem d_M_stream_153 : decode (iC M_M_stream) 153 = .ok (.aload_n 0, 1) := by decide +kernel
theorem d_M_stream_154 : decode (iC M_M_stream) 154 = .ok (.getfield 235, 3) := by decide +kernel
theorem d_M_stream_157 : decode (iC M_M_stream) 157 = .ok (.aload_n 0, 1) := by decide +kernel
theorem d_M_stream_158 : decode (iC M_M_stream) 158 = .ok (.getfield 238, 3) := by decide +kernel
theorem d_M_stream_161 : decode (iC M_M_stream) 161 = .ok (.invokevirtual 225, 3) := by decide +kernel
theorem d_M_stream_164 : decode (iC M_M_stream) 164 = .ok (.return_, 1) := by decide +kernel
theorem d_M_isFirst_0 : decode (iC M_M_isFirst) 0 = .ok (.iconst 1, 1) := by decide +kernel
theorem d_M_isFirst_1 : decode (iC M_M_isFirst) 1 = .ok (.istore 4, 2) := by decide +kernel
theorem d_M_isFirst_3 : decode (iC M_M_isFirst) 3 = .ok (.iconst 1, 1) := by decide +kernel
theorem d_M_isFirst_4 : decode (iC M_M_isFirst) 4 = .ok (.istore 5, 2) := by decide +kernel
theorem d_M_isFirst_6 : decode (iC M_M_isFirst) 6 = .ok (.iload_n 3, 1) := by decide +kernel
theorem d_M_isFirst_7 : decode (iC M_M_isFirst) 7 = .ok (.iconst 1, 1) := by decide +kernel
theorem d_M_isFirst_8 : decode (iC M_M_isFirst) 8 = .ok (.isub, 1) := by decide +kernel
theorem d_M_isFirst_9 : decode (iC M_M_isFirst) 9 = .ok (.istore 6, 2) := by decide +kernel
theorem d_M_isFirst_11 : decode (iC M_M_isFirst) 11 = .ok (.iload 6, 2) := by decide +kernel
theorem d_M_isFirst_13 : decode (iC M_M_isFirst) 13 = .ok (.ifCond .lt 99, 3) := by decide +kernel
theorem d_M_isFirst_16 : decode (iC M_M_isFirst) 16 = .ok (.aload_n 0, 1) := by decide +kernel
theorem d_M_isFirst_17 : decode (iC M_M_isFirst) 17 = .ok (.getfield 7, 3) := by decide +kernel
theorem d_M_isFirst_20 : decode (iC M_M_isFirst) 20 = .ok (.ifCond .ge 92, 3) := by decide +kernel
theorem d_M_isFirst_23 : decode (iC M_M_isFirst) 23 = .ok (.aload_n 0, 1) := by decide +kernel
theorem d_M_isFirst_24 : decode (iC M_M_isFirst) 24 = .ok (.invokevirtual 24, 3) := by decide +kernel
theorem d_M_isFirst_27 : decode (iC M_M_isFirst) 27 = .ok (.istore 7, 2) := by decide +kernel
theorem d_M_isFirst_29 : decode (iC M_M_isFirst) 29 = .ok (.aload_n 0, 1) := by decide +kernel
theorem d_M_isFirst_30 : decode (iC M_M_isFirst) 30 = .ok (.getfield 7, 3) := by decide +kernel
theorem d_M_isFirst_33 : decode (iC M_M_isFirst) 33 = .ok (.ifCond .lt 5, 3) := by decide +kernel
theorem d_M_isFirst_36 : decode (iC M_M_isFirst) 36 = .ok (.iconst 0, 1) := by decide +kernel
theorem d_M_isFirst_37 : decode (iC M_M_isFirst) 37 = .ok (.ireturn, 1) := by decide +kernel
theorem d_M_isFirst_38 : decode (iC M_M_isFirst) 38 = .ok (.iload 4, 2) := by decide +kernel
theorem d_M_isFirst_40 : decode (iC M_M_isFirst) 40 = .ok (.ifCond .eq 18, 3) := by decide +kernel
theorem d_M_isFirst_43 : decode (iC M_M_isFirst) 43 = .ok (.iload_n 1, 1) := by decide +kernel
theorem d_M_isFirst_44 : decode (iC M_M_isFirst) 44 = .ok (.iload 6, 2) := by decide +kernel
theorem d_M_isFirst_46 : decode (iC M_M_isFirst) 46 = .ok (.ishr, 1) := by decide +kernel
theorem d_M_isFirst_47 : decode (iC M_M_isFirst) 47 = .ok (.iconst 1, 1) := by decide +kernel
theorem d_M_isFirst_48 : decode (iC M_M_isFirst) 48 = .ok (.iand, 1) := by decide +kernel
theorem d_M_isFirst_49 : decode (iC M_M_isFirst) 49 = .ok (.iload 7, 2) := by decide +kernel
theorem d_M_isFirst_51 : decode (iC M_M_isFirst) 51 = .ok (.if_icmp .ne 7, 3) := by decide +kernel
theorem d_M_isFirst_54 : decode (iC M_M_isFirst) 54 = .ok (.iconst 1, 1) := by decide +kernel
theorem d_M_isFirst_55 : decode (iC M_M_isFirst) 55 = .ok (.goto 4, 3) := by decide +kernel
theorem d_M_isFirst_58 : decode (iC M_M_isFirst) 58 = .ok (.iconst 0, 1) := by decide +kernel
theorem d_M_isFirst_59 : decode (iC M_M_isFirst) 59 = .ok (.istore 4, 2) := by decide +kernel
theorem d_M_isFirst_61 : decode (iC M_M_isFirst) 61 = .ok (.iload 5, 2) := by decide +kernel
theorem d_M_isFirst_63 : decode (iC M_M_isFirst) 63 = .ok (.ifCond .eq 18, 3) := by decide +kernel
theorem d_M_isFirst_66 : decode (iC M_M_isFirst) 66 = .ok (.iload_n 2, 1) := by decide +kernel
theorem d_M_isFirst_67 : decode (iC M_M_isFirst) 67 = .ok (.iload 6, 2) := by decide +kernel
theorem d_M_isFirst_69 : decode (iC M_M_isFirst) 69 = .ok (.ishr, 1) := by decide +kernel
theorem d_M_isFirst_70 : decode (iC M_M_isFirst) 70 = .ok (.iconst 1, 1) := by decide +kernel
theorem d_M_isFirst_71 : decode (iC M_M_isFirst) 71 = .ok (.iand, 1) := by decide +kernel
theorem d_M_isFirst_72 : decode (iC M_M_isFirst) 72 = .ok (.iload 7, 2) := by decide +kernel
theorem d_M_isFirst_74 : decode (iC M_M_isFirst) 74 = .ok (.if_icmp .ne 7, 3) := by decide +kernel
theorem d_M_isFirst_77 : decode (iC M_M_isFirst) 77 = .ok (.iconst 1, 1) := by decide +kernel
theorem d_M_isFirst_78 : decode (iC M_M_isFirst) 78 = .ok (.goto 4, 3) := by decide +kernel
theorem d_M_isFirst_81 : decode (iC M_M_isFirst) 81 = .ok (.iconst 0, 1) := by decide +kernel
theorem d_M_isFirst_82 : decode (iC M_M_isFirst) 82 = .ok (.istore 5, 2) := by decide +kernel
theorem d_M_isFirst_84 : decode (iC M_M_isFirst) 84 = .ok (.iload 4, 2) := by decide +kernel
theorem d_M_isFirst_86 : decode (iC M_M_isFirst) 86 = .ok (.ifCond .ne 20, 3) := by decide +kernel
theorem d_M_isFirst_89 : decode (iC M_M_isFirst) 89 = .ok (.iload 5, 2) := by decide +kernel
theorem d_M_isFirst_91 : decode (iC M_M_isFirst) 91 = .ok (.ifCond .ne 15, 3) := by decide +kernel
theorem d_M_isFirst_94 : decode (iC M_M_isFirst) 94 = .ok (.aload_n 0, 1) := by decide +kernel
theorem d_M_isFirst_95 : decode (iC M_M_isFirst) 95 = .ok (.aload_n 0, 1) := by decide +kernel
theorem d_M_isFirst_96 : decode (iC M_M_isFirst) 96 = .ok (.getfield 10, 3) := by decide +kernel
theorem d_M_isFirst_99 : decode (iC M_M_isFirst) 99 = .ok (.iconst 1, 1) := by decide +kernel
theorem d_M_isFirst_100 : decode (iC M_M_isFirst) 100 = .ok (.isub, 1) := by decide +kernel
theorem d_M_isFirst_101 : decode (iC M_M_isFirst) 101 = .ok (.invokevirtual 16, 3) := by decide +kernel
theorem d_M_isFirst_104 : decode (iC M_M_isFirst) 104 = .ok (.istore 8, 2) := by decide +kernel
theorem d_M_isFirst_106 : decode (iC M_M_isFirst) 106 = .ok (.iinc 6 (-1), 3) := by decide +kernel
theorem d_M_isFirst_109 : decode (iC M_M_isFirst) 109 = .ok (.goto (-98), 3) := by decide +kernel
theorem d_M_isFirst_112 : decode (iC M_M_isFirst) 112 = .ok (.iload 4, 2) := by decide +kernel
theorem d_M_isFirst_114 : decode (iC M_M_isFirst) 114 = .ok (.ireturn, 1) := by decide +kernel
theorem d_M_bit_0 : decode (iC M_M_bit) 0 = .ok (.aload_n 0, 1) := by decide +kernel
theorem d_M_bit_1 : decode (iC M_M_bit) 1 = .ok (.getfield 7, 3) := by decide +kernel
theorem d_M_bit_4 : decode (iC M_M_bit) 4 = .ok (.ifCond .lt 5, 3) := by decide +kernel
theorem d_M_bit_7 : decode (iC M_M_bit) 7 = .ok (.iconst 0, 1) := by decide +kernel
theorem d_M_bit_8 : decode (iC M_M_bit) 8 = .ok (.ireturn, 1) := by decide +kernel
theorem d_M_bit_9 : decode (iC M_M_bit) 9 = .ok (.aload_n 0, 1) := by decide +kernel
theorem d_M_bit_10 : decode (iC M_M_bit) 10 = .ok (.getfield 10, 3) := by decide +kernel
theorem d_M_bit_13 : decode (iC M_M_bit) 13 = .ok (.aload_n 0, 1) := by decide +kernel
theorem d_M_bit_14 : decode (iC M_M_bit) 14 = .ok (.getfield 13, 3) := by decide +kernel
theorem d_M_bit_17 : decode (iC M_M_bit) 17 = .ok (.if_icmp .ne 14, 3) := by decide +kernel
theorem d_M_bit_20 : decode (iC M_M_bit) 20 = .ok (.aload_n 0, 1) := by decide +kernel
theorem d_M_bit_21 : decode (iC M_M_bit) 21 = .ok (.aload_n 0, 1) := by decide +kernel
theorem d_M_bit_22 : decode (iC M_M_bit) 22 = .ok (.getfield 13, 3) := by decide +kernel
theorem d_M_bit_25 : decode (iC M_M_bit) 25 = .ok (.invokevirtual 16, 3) := by decide +kernel
theorem d_M_bit_28 : decode (iC M_M_bit) 28 = .ok (.istore_n 1, 1) := by decide +kernel
theorem d_M_bit_29 : decode (iC M_M_bit) 29 = .ok (.iconst 0, 1) := by decide +kernel
theorem d_M_bit_30 : decode (iC M_M_bit) 30 = .ok (.ireturn, 1) := by decide +kernel
theorem d_M_bit_31 : decode (iC M_M_bit) 31 = .ok (.aload_n 0, 1) := by decide +kernel
theorem d_M_bit_32 : decode (iC M_M_bit) 32 = .ok (.dup, 1) := by decide +kernel
theorem d_M_bit_33 : decode (iC M_M_bit) 33 = .ok (.getfield 10, 3) := by decide +kernel
theorem d_M_bit_36 : decode (iC M_M_bit) 36 = .ok (.iconst 1, 1) := by decide +kernel
theorem d_M_bit_37 : decode (iC M_M_bit) 37 = .ok (.iadd, 1) := by decide +kernel
theorem d_M_bit_38 : decode (iC M_M_bit) 38 = .ok (.putfield 10, 3) := by decide +kernel
theorem d_M_bit_41 : decode (iC M_M_bit) 41 = .ok (.aload_n 0, 1) := by decide +kernel
theorem d_M_bit_42 : decode (iC M_M_bit) 42 = .ok (.getfield 20, 3) := by decide +kernel
theorem d_M_bit_45 : decode (iC M_M_bit) 45 = .ok (.aload_n 0, 1) := by decide +kernel
theorem d_M_bit_46 : decode (iC M_M_bit) 46 = .ok (.getfield 10, 3) := by decide +kernel
theorem d_M_bit_49 : decode (iC M_M_bit) 49 = .ok (.iconst 1, 1) := by decide +kernel
theorem d_M_bit_50 : decode (iC M_M_bit) 50 = .ok (.isub, 1) := by decide +kernel
theorem d_M_bit_51 : decode (iC M_M_bit) 51 = .ok (.baload, 1) := by decide +kernel
theorem d_M_bit_52 : decode (iC M_M_bit) 52 = .ok (.ireturn, 1) := by decide +kernel
theorem d_M_isWrong_0 : decode (iC M_M_isWrong) 0 = .ok (.aload_n 0, 1) := by decide +kernel
theorem d_M_isWrong_1 : decode (iC M_M_isWrong) 1 = .ok (.getfield 7, 3) := by decide +kernel
theorem d_M_isWrong_4 : decode (iC M_M_isWrong) 4 = .ok (.ifCond .ge 8, 3) := by decide +kernel
theorem d_M_isWrong_7 : decode (iC M_M_isWrong) 7 = .ok (.aload_n 0, 1) := by decide +kernel
theorem d_M_isWrong_8 : decode (iC M_M_isWrong) 8 = .ok (.iload_n 1, 1) := by decide +kernel
theorem d_M_isWrong_9 : decode (iC M_M_isWrong) 9 = .ok (.putfield 7, 3) := by decide +kernel
theorem d_M_isWrong_12 : decode (iC M_M_isWrong) 12 = .ok (.iconst 1, 1) := by decide +kernel
theorem d_M_isWrong_13 : decode (iC M_M_isWrong) 13 = .ok (.ireturn, 1) := by decide +kernel
theorem d_M_number_0 : decode (iC M_M_number) 0 = .ok (.iconst 0, 1) := by decide +kernel
theorem d_M_number_1 : decode (iC M_M_number) 1 = .ok (.istore_n 2, 1) := by decide +kernel
theorem d_M_number_2 : decode (iC M_M_number) 2 = .ok (.iconst 0, 1) := by decide +kernel
theorem d_M_number_3 : decode (iC M_M_number) 3 = .ok (.istore_n 3, 1) := by decide +kernel
theorem d_M_number_4 : decode (iC M_M_number) 4 = .ok (.iload_n 3, 1) := by decide +kernel
theorem d_M_number_5 : decode (iC M_M_number) 5 = .ok (.iload_n 1, 1) := by decide +kernel
theorem d_M_number_6 : decode (iC M_M_number) 6 = .ok (.if_icmp .ge 18, 3) := by decide +kernel
theorem d_M_number_9 : decode (iC M_M_number) 9 = .ok (.iconst 2, 1) := by decide +kernel
theorem d_M_number_10 : decode (iC M_M_number) 10 = .ok (.iload_n 2, 1) := by decide +kernel
theorem d_M_number_11 : decode (iC M_M_number) 11 = .ok (.imul, 1) := by decide +kernel
theorem d_M_number_12 : decode (iC M_M_number) 12 = .ok (.aload_n 0, 1) := by decide +kernel
theorem d_M_number_13 : decode (iC M_M_number) 13 = .ok (.invokevirtual 24, 3) := by decide +kernel
theorem d_M_number_16 : decode (iC M_M_number) 16 = .ok (.iadd, 1) := by decide +kernel
theorem d_M_number_17 : decode (iC M_M_number) 17 = .ok (.istore_n 2, 1) := by decide +kernel
theorem d_M_number_18 : decode (iC M_M_number) 18 = .ok (.iinc 3 1, 3) := by decide +kernel
theorem d_M_number_21 : decode (iC M_M_number) 21 = .ok (.goto (-17), 3) := by decide +kernel
theorem d_M_number_24 : decode (iC M_M_number) 24 = .ok (.iload_n 2, 1) := by decide +kernel
theorem d_M_number_25 : decode (iC M_M_number) 25 = .ok (.ireturn, 1) := by decide +kernel
theorem d_M_align_0 : decode (iC M_M_align) 0 = .ok (.aload_n 0, 1) := by decide +kernel
theorem d_M_align_1 : decode (iC M_M_align) 1 = .ok (.getfield 7, 3) := by decide +kernel
theorem d_M_align_4 : decode (iC M_M_align) 4 = .ok (.ifCond .ge 35, 3) := by decide +kernel
theorem d_M_align_7 : decode (iC M_M_align) 7 = .ok (.aload_n 0, 1) := by decide +kernel
theorem d_M_align_8 : decode (iC M_M_align) 8 = .ok (.getfield 10, 3) := by decide +kernel
theorem d_M_align_11 : decode (iC M_M_align) 11 = .ok (.bipush 8, 2) := by decide +kernel
theorem d_M_align_13 : decode (iC M_M_align) 13 = .ok (.irem, 1) := by decide +kernel
theorem d_M_align_14 : decode (iC M_M_align) 14 = .ok (.ifCond .eq 25, 3) := by decide +kernel
theorem d_M_align_17 : decode (iC M_M_align) 17 = .ok (.aload_n 0, 1) := by decide +kernel
theorem d_M_align_18 : decode (iC M_M_align) 18 = .ok (.invokevirtual 24, 3) := by decide +kernel
theorem d_M_align_21 : decode (iC M_M_align) 21 = .ok (.iconst 1, 1) := by decide +kernel
theorem d_M_align_22 : decode (iC M_M_align) 22 = .ok (.if_icmp .ne (-22), 3) := by decide +kernel
theorem d_M_align_25 : decode (iC M_M_align) 25 = .ok (.aload_n 0, 1) := by decide +kernel
theorem d_M_align_26 : decode (iC M_M_align) 26 = .ok (.aload_n 0, 1) := by decide +kernel
theorem d_M_align_27 : decode (iC M_M_align) 27 = .ok (.getfield 10, 3) := by decide +kernel
theorem d_M_align_30 : decode (iC M_M_align) 30 = .ok (.iconst 1, 1) := by decide +kernel
theorem d_M_align_31 : decode (iC M_M_align) 31 = .ok (.isub, 1) := by decide +kernel
theorem d_M_align_32 : decode (iC M_M_align) 32 = .ok (.invokevirtual 16, 3) := by decide +kernel
theorem d_M_align_35 : decode (iC M_M_align) 35 = .ok (.istore_n 1, 1) := by decide +kernel
theorem d_M_align_36 : decode (iC M_M_align) 36 = .ok (.goto (-36), 3) := by decide +kernel
theorem d_M_align_39 : decode (iC M_M_align) 39 = .ok (.return_, 1) := by decide +kernel
theorem d_M_picture_0 : decode (iC M_M_picture) 0 = .ok (.aload_n 0, 1) := by decide +kernel
theorem d_M_picture_1 : decode (iC M_M_picture) 1 = .ok (.getfield 10, 3) := by decide +kernel
theorem d_M_picture_4 : decode (iC M_M_picture) 4 = .ok (.istore_n 1, 1) := by decide +kernel
theorem d_M_picture_5 : decode (iC M_M_picture) 5 = .ok (.aload_n 0, 1) := by decide +kernel
theorem d_M_picture_6 : decode (iC M_M_picture) 6 = .ok (.aload_n 0, 1) := by decide +kernel
theorem d_M_picture_7 : decode (iC M_M_picture) 7 = .ok (.iconst 2, 1) := by decide +kernel
theorem d_M_picture_8 : decode (iC M_M_picture) 8 = .ok (.invokevirtual 167, 3) := by decide +kernel
theorem d_M_picture_11 : decode (iC M_M_picture) 11 = .ok (.putfield 70, 3) := by decide +kernel
theorem d_M_picture_14 : decode (iC M_M_picture) 14 = .ok (.aload_n 0, 1) := by decide +kernel
theorem d_M_picture_15 : decode (iC M_M_picture) 15 = .ok (.getfield 7, 3) := by decide +kernel
theorem d_M_picture_18 : decode (iC M_M_picture) 18 = .ok (.ifCond .lt 5, 3) := by decide +kernel
theorem d_M_picture_21 : decode (iC M_M_picture) 21 = .ok (.iconst 0, 1) := by decide +kernel
theorem d_M_picture_22 : decode (iC M_M_picture) 22 = .ok (.ireturn, 1) := by decide +kernel
theorem d_M_picture_23 : decode (iC M_M_picture) 23 = .ok (.aload_n 0, 1) := by decide +kernel
theorem d_M_picture_24 : decode (iC M_M_picture) 24 = .ok (.getfield 70, 3) := by decide +kernel
theorem d_M_picture_27 : decode (iC M_M_picture) 27 = .ok (.iconst 2, 1) := by decide +kernel
theorem d_M_picture_28 : decode (iC M_M_picture) 28 = .ok (.if_icmp .ne 10, 3) := by decide +kernel
theorem d_M_picture_31 : decode (iC M_M_picture) 31 = .ok (.aload_n 0, 1) := by decide +kernel
theorem d_M_picture_32 : decode (iC M_M_picture) 32 = .ok (.getfield 212, 3) := by decide +kernel
theorem d_M_picture_35 : decode (iC M_M_picture) 35 = .ok (.ifCond .eq 18, 3) := by decide +kernel
theorem d_M_picture_38 : decode (iC M_M_picture) 38 = .ok (.aload_n 0, 1) := by decide +kernel
theorem d_M_picture_39 : decode (iC M_M_picture) 39 = .ok (.getfield 70, 3) := by decide +kernel
theorem d_M_picture_42 : decode (iC M_M_picture) 42 = .ok (.iconst 3, 1) := by decide +kernel
theorem d_M_picture_43 : decode (iC M_M_picture) 43 = .ok (.if_icmp .ne 20, 3) := by decide +kernel
theorem d_M_picture_46 : decode (iC M_M_picture) 46 = .ok (.aload_n 0, 1) := by decide +kernel
theorem d_M_picture_47 : decode (iC M_M_picture) 47 = .ok (.getfield 215, 3) := by decide +kernel
theorem d_M_picture_50 : decode (iC M_M_picture) 50 = .ok (.ifCond .ne 13, 3) := by decide +kernel
theorem d_M_picture_53 : decode (iC M_M_picture) 53 = .ok (.aload_n 0, 1) := by decide +kernel
theorem d_M_picture_54 : decode (iC M_M_picture) 54 = .ok (.iload_n 1, 1) := by decide +kernel
theorem d_M_picture_55 : decode (iC M_M_picture) 55 = .ok (.invokevirtual 16, 3) := by decide +kernel
theorem d_M_picture_58 : decode (iC M_M_picture) 58 = .ok (.ifCond .eq 5, 3) := by decide +kernel
theorem d_M_picture_61 : decode (iC M_M_picture) 61 = .ok (.iconst 0, 1) := by decide +kernel
theorem d_M_picture_62 : decode (iC M_M_picture) 62 = .ok (.ireturn, 1) := by decide +kernel
theorem d_M_picture_63 : decode (iC M_M_picture) 63 = .ok (.aload_n 0, 1) := by decide +kernel
theorem d_M_picture_64 : decode (iC M_M_picture) 64 = .ok (.aload_n 0, 1) := by decide +kernel
theorem d_M_picture_65 : decode (iC M_M_picture) 65 = .ok (.iconst 5, 1) := by decide +kernel
theorem d_M_picture_66 : decode (iC M_M_picture) 66 = .ok (.invokevirtual 167, 3) := by decide +kernel
theorem d_M_picture_69 : decode (iC M_M_picture) 69 = .ok (.putfield 135, 3) := by decide +kernel
theorem d_M_picture_72 : decode (iC M_M_picture) 72 = .ok (.aload_n 0, 1) := by decide +kernel
theorem d_M_picture_73 : decode (iC M_M_picture) 73 = .ok (.aload_n 0, 1) := by decide +kernel
theorem d_M_picture_74 : decode (iC M_M_picture) 74 = .ok (.getfield 70, 3) := by decide +kernel
theorem d_M_picture_77 : decode (iC M_M_picture) 77 = .ok (.iconst 1, 1) := by decide +kernel
theorem d_M_picture_78 : decode (iC M_M_picture) 78 = .ok (.if_icmp .ne 7, 3) := by decide +kernel
theorem d_M_picture_81 : decode (iC M_M_picture) 81 = .ok (.iconst 0, 1) := by decide +kernel
theorem d_M_picture_82 : decode (iC M_M_picture) 82 = .ok (.goto 8, 3) := by decide +kernel
theorem d_M_picture_85 : decode (iC M_M_picture) 85 = .ok (.aload_n 0, 1) := by decide +kernel
theorem d_M_picture_86 : decode (iC M_M_picture) 86 = .ok (.iconst 3, 1) := by decide +kernel
theorem d_M_picture_87 : decode (iC M_M_picture) 87 = .ok (.invokevirtual 167, 3) := by decide +kernel
theorem d_M_picture_90 : decode (iC M_M_picture) 90 = .ok (.putfield 164, 3) := by decide +kernel
theorem d_M_picture_93 : decode (iC M_M_picture) 93 = .ok (.aload_n 0, 1) := by decide +kernel
theorem d_M_picture_94 : decode (iC M_M_picture) 94 = .ok (.iconst 0, 1) := by decide +kernel
theorem d_M_picture_95 : decode (iC M_M_picture) 95 = .ok (.putfield 184, 3) := by decide +kernel
theorem d_M_picture_98 : decode (iC M_M_picture) 98 = .ok (.aload_n 0, 1) := by decide +kernel
theorem d_M_picture_99 : decode (iC M_M_picture) 99 = .ok (.iconst 0, 1) := by decide +kernel
theorem d_M_picture_100 : decode (iC M_M_picture) 100 = .ok (.putfield 199, 3) := by decide +kernel
theorem d_M_picture_103 : decode (iC M_M_picture) 103 = .ok (.aload_n 0, 1) := by decide +kernel
theorem d_M_picture_104 : decode (iC M_M_picture) 104 = .ok (.getfield 7, 3) := by decide +kernel
theorem d_M_picture_107 : decode (iC M_M_picture) 107 = .ok (.ifCond .ge 14, 3) := by decide +kernel
theorem d_M_picture_110 : decode (iC M_M_picture) 110 = .ok (.aload_n 0, 1) := by decide +kernel
theorem d_M_picture_111 : decode (iC M_M_picture) 111 = .ok (.invokevirtual 218, 3) := by decide +kernel
theorem d_M_picture_114 : decode (iC M_M_picture) 114 = .ok (.ifCond .eq 7, 3) := by decide +kernel
theorem d_M_picture_117 : decode (iC M_M_picture) 117 = .ok (.iconst 1, 1) := by decide +kernel
theorem d_M_picture_118 : decode (iC M_M_picture) 118 = .ok (.goto 4, 3) := by decide +kernel
theorem d_M_picture_121 : decode (iC M_M_picture) 121 = .ok (.iconst 0, 1) := by decide +kernel
theorem d_M_picture_122 : decode (iC M_M_picture) 122 = .ok (.ireturn, 1) := by decide +kernel
theorem d_M_numberAbove_0 : decode (iC M_M_numberAbove) 0 = .ok (.aload_n 0, 1) := by decide +kernel
theorem d_M_numberAbove_1 : decode (iC M_M_numberAbove) 1 = .ok (.iload_n 1, 1) := by decide +kernel
theorem d_M_numberAbove_2 : decode (iC M_M_numberAbove) 2 = .ok (.invokevirtual 28, 3) := by decide +kernel
theorem d_M_numberAbove_5 : decode (iC M_M_numberAbove) 5 = .ok (.istore_n 2, 1) := by decide +kernel
theorem d_M_numberAbove_6 : decode (iC M_M_numberAbove) 6 = .ok (.aload_n 0, 1) := by decide +kernel
theorem d_M_numberAbove_7 : decode (iC M_M_numberAbove) 7 = .ok (.getfield 7, 3) := by decide +kernel
theorem d_M_numberAbove_10 : decode (iC M_M_numberAbove) 10 = .ok (.ifCond .ge 18, 3) := by decide +kernel
theorem d_M_numberAbove_13 : decode (iC M_M_numberAbove) 13 = .ok (.iload_n 2, 1) := by decide +kernel
theorem d_M_numberAbove_14 : decode (iC M_M_numberAbove) 14 = .ok (.ifCond .ne 14, 3) := by decide +kernel
theorem d_M_numberAbove_17 : decode (iC M_M_numberAbove) 17 = .ok (.aload_n 0, 1) := by decide +kernel
theorem d_M_numberAbove_18 : decode (iC M_M_numberAbove) 18 = .ok (.aload_n 0, 1) := by decide +kernel
theorem d_M_numberAbove_19 : decode (iC M_M_numberAbove) 19 = .ok (.getfield 10, 3) := by decide +kernel
theorem d_M_numberAbove_22 : decode (iC M_M_numberAbove) 22 = .ok (.iconst 1, 1) := by decide +kernel
theorem d_M_numberAbove_23 : decode (iC M_M_numberAbove) 23 = .ok (.isub, 1) := by decide +kernel
theorem d_M_numberAbove_24 : decode (iC M_M_numberAbove) 24 = .ok (.invokevirtual 16, 3) := by decide +kernel
theorem d_M_numberAbove_27 : decode (iC M_M_numberAbove) 27 = .ok (.istore_n 3, 1) := by decide +kernel
theorem d_M_numberAbove_28 : decode (iC M_M_numberAbove) 28 = .ok (.iload_n 2, 1) := by decide +kernel
theorem d_M_numberAbove_29 : decode (iC M_M_numberAbove) 29 = .ok (.ireturn, 1) := by decide +kernel
theorem d_M_allSquares_0 : decode (iC M_M_allSquares) 0 = .ok (.iconst 0, 1) := by decide +kernel
theorem d_M_allSquares_1 : decode (iC M_M_allSquares) 1 = .ok (.istore_n 1, 1) := by decide +kernel
theorem d_M_allSquares_2 : decode (iC M_M_allSquares) 2 = .ok (.iload_n 1, 1) := by decide +kernel
theorem d_M_allSquares_3 : decode (iC M_M_allSquares) 3 = .ok (.aload_n 0, 1) := by decide +kernel
theorem d_M_allSquares_4 : decode (iC M_M_allSquares) 4 = .ok (.getfield 35, 3) := by decide +kernel
theorem d_M_allSquares_7 : decode (iC M_M_allSquares) 7 = .ok (.aload_n 0, 1) := by decide +kernel
theorem d_M_allSquares_8 : decode (iC M_M_allSquares) 8 = .ok (.getfield 38, 3) := by decide +kernel
theorem d_M_allSquares_11 : decode (iC M_M_allSquares) 11 = .ok (.imul, 1) := by decide +kernel
theorem d_M_allSquares_12 : decode (iC M_M_allSquares) 12 = .ok (.if_icmp .ge 89, 3) := by decide +kernel
theorem d_M_allSquares_15 : decode (iC M_M_allSquares) 15 = .ok (.aload_n 0, 1) := by decide +kernel
theorem d_M_allSquares_16 : decode (iC M_M_allSquares) 16 = .ok (.getfield 70, 3) := by decide +kernel
theorem d_M_allSquares_19 : decode (iC M_M_allSquares) 19 = .ok (.iconst 1, 1) := by decide +kernel
theorem d_M_allSquares_20 : decode (iC M_M_allSquares) 20 = .ok (.if_icmp .le 52, 3) := by decide +kernel
theorem d_M_allSquares_23 : decode (iC M_M_allSquares) 23 = .ok (.aload_n 0, 1) := by decide +kernel
theorem d_M_allSquares_24 : decode (iC M_M_allSquares) 24 = .ok (.getfield 10, 3) := by decide +kernel
theorem d_M_allSquares_27 : decode (iC M_M_allSquares) 27 = .ok (.istore_n 2, 1) := by decide +kernel
theorem d_M_allSquares_28 : decode (iC M_M_allSquares) 28 = .ok (.aload_n 0, 1) := by decide +kernel
theorem d_M_allSquares_29 : decode (iC M_M_allSquares) 29 = .ok (.invokevirtual 32, 3) := by decide +kernel
theorem d_M_allSquares_32 : decode (iC M_M_allSquares) 32 = .ok (.istore_n 3, 1) := by decide +kernel
theorem d_M_allSquares_33 : decode (iC M_M_allSquares) 33 = .ok (.aload_n 0, 1) := by decide +kernel
theorem d_M_allSquares_34 : decode (iC M_M_allSquares) 34 = .ok (.getfield 7, 3) := by decide +kernel
theorem d_M_allSquares_37 : decode (iC M_M_allSquares) 37 = .ok (.ifCond .ge 13, 3) := by decide +kernel
theorem d_M_allSquares_40 : decode (iC M_M_allSquares) 40 = .ok (.aload_n 0, 1) := by decide +kernel
theorem d_M_allSquares_41 : decode (iC M_M_allSquares) 41 = .ok (.iload_n 1, 1) := by decide +kernel
theorem d_M_allSquares_42 : decode (iC M_M_allSquares) 42 = .ok (.iload_n 3, 1) := by decide +kernel
theorem d_M_allSquares_43 : decode (iC M_M_allSquares) 43 = .ok (.iload_n 2, 1) := by decide +kernel
theorem d_M_allSquares_44 : decode (iC M_M_allSquares) 44 = .ok (.invokevirtual 202, 3) := by decide +kernel
theorem d_M_allSquares_47 : decode (iC M_M_allSquares) 47 = .ok (.ifCond .ne 5, 3) := by decide +kernel
theorem d_M_allSquares_50 : decode (iC M_M_allSquares) 50 = .ok (.iconst 0, 1) := by decide +kernel
theorem d_M_allSquares_51 : decode (iC M_M_allSquares) 51 = .ok (.ireturn, 1) := by decide +kernel
theorem d_M_allSquares_52 : decode (iC M_M_allSquares) 52 = .ok (.iload_n 1, 1) := by decide +kernel
theorem d_M_allSquares_53 : decode (iC M_M_allSquares) 53 = .ok (.iload_n 3, 1) := by decide +kernel
theorem d_M_allSquares_54 : decode (iC M_M_allSquares) 54 = .ok (.iadd, 1) := by decide +kernel
theorem d_M_allSquares_55 : decode (iC M_M_allSquares) 55 = .ok (.istore_n 1, 1) := by decide +kernel
theorem d_M_allSquares_56 : decode (iC M_M_allSquares) 56 = .ok (.iload_n 1, 1) := by decide +kernel
theorem d_M_allSquares_57 : decode (iC M_M_allSquares) 57 = .ok (.aload_n 0, 1) := by decide +kernel
theorem d_M_allSquares_58 : decode (iC M_M_allSquares) 58 = .ok (.getfield 35, 3) := by decide +kernel
theorem d_M_allSquares_61 : decode (iC M_M_allSquares) 61 = .ok (.aload_n 0, 1) := by decide +kernel
theorem d_M_allSquares_62 : decode (iC M_M_allSquares) 62 = .ok (.getfield 38, 3) := by decide +kernel
theorem d_M_allSquares_65 : decode (iC M_M_allSquares) 65 = .ok (.imul, 1) := by decide +kernel
theorem d_M_allSquares_66 : decode (iC M_M_allSquares) 66 = .ok (.if_icmp .ne 6, 3) := by decide +kernel
theorem d_M_allSquares_69 : decode (iC M_M_allSquares) 69 = .ok (.goto 32, 3) := by decide +kernel
theorem d_M_allSquares_72 : decode (iC M_M_allSquares) 72 = .ok (.iload_n 1, 1) := by decide +kernel
theorem d_M_allSquares_73 : decode (iC M_M_allSquares) 73 = .ok (.aload_n 0, 1) := by decide +kernel
theorem d_M_allSquares_74 : decode (iC M_M_allSquares) 74 = .ok (.getfield 35, 3) := by decide +kernel
theorem d_M_allSquares_77 : decode (iC M_M_allSquares) 77 = .ok (.irem, 1) := by decide +kernel
theorem d_M_allSquares_78 : decode (iC M_M_allSquares) 78 = .ok (.ifCond .ne 7, 3) := by decide +kernel
theorem d_M_allSquares_81 : decode (iC M_M_allSquares) 81 = .ok (.aload_n 0, 1) := by decide +kernel
theorem d_M_allSquares_82 : decode (iC M_M_allSquares) 82 = .ok (.invokevirtual 193, 3) := by decide +kernel
theorem d_M_allSquares_85 : decode (iC M_M_allSquares) 85 = .ok (.aload_n 0, 1) := by decide +kernel
theorem d_M_allSquares_86 : decode (iC M_M_allSquares) 86 = .ok (.iload_n 1, 1) := by decide +kernel
theorem d_M_allSquares_87 : decode (iC M_M_allSquares) 87 = .ok (.invokevirtual 206, 3) := by decide +kernel
theorem d_M_allSquares_90 : decode (iC M_M_allSquares) 90 = .ok (.ifCond .ne 5, 3) := by decide +kernel
theorem d_M_allSquares_93 : decode (iC M_M_allSquares) 93 = .ok (.iconst 0, 1) := by decide +kernel
theorem d_M_allSquares_94 : decode (iC M_M_allSquares) 94 = .ok (.ireturn, 1) := by decide +kernel
theorem d_M_allSquares_95 : decode (iC M_M_allSquares) 95 = .ok (.iinc 1 1, 3) := by decide +kernel
theorem d_M_allSquares_98 : decode (iC M_M_allSquares) 98 = .ok (.goto (-96), 3) := by decide +kernel
theorem d_M_allSquares_101 : decode (iC M_M_allSquares) 101 = .ok (.aload_n 0, 1) := by decide +kernel
theorem d_M_allSquares_102 : decode (iC M_M_allSquares) 102 = .ok (.invokevirtual 209, 3) := by decide +kernel
theorem d_M_allSquares_105 : decode (iC M_M_allSquares) 105 = .ok (.aload_n 0, 1) := by decide +kernel
theorem d_M_allSquares_106 : decode (iC M_M_allSquares) 106 = .ok (.getfield 7, 3) := by decide +kernel
theorem d_M_allSquares_109 : decode (iC M_M_allSquares) 109 = .ok (.ifCond .ge 7, 3) := by decide +kernel
theorem d_M_allSquares_112 : decode (iC M_M_allSquares) 112 = .ok (.iconst 1, 1) := by decide +kernel
theorem d_M_allSquares_113 : decode (iC M_M_allSquares) 113 = .ok (.goto 4, 3) := by decide +kernel
theorem d_M_allSquares_116 : decode (iC M_M_allSquares) 116 = .ok (.iconst 0, 1) := by decide +kernel
theorem d_M_allSquares_117 : decode (iC M_M_allSquares) 117 = .ok (.ireturn, 1) := by decide +kernel
theorem d_M_readU_0 : decode (iC M_M_readU) 0 = .ok (.iconst 0, 1) := by decide +kernel
theorem d_M_readU_1 : decode (iC M_M_readU) 1 = .ok (.istore_n 1, 1) := by decide +kernel
theorem d_M_readU_2 : decode (iC M_M_readU) 2 = .ok (.aload_n 0, 1) := by decide +kernel
theorem d_M_readU_3 : decode (iC M_M_readU) 3 = .ok (.getfield 7, 3) := by decide +kernel
theorem d_M_readU_6 : decode (iC M_M_readU) 6 = .ok (.ifCond .ge 42, 3) := by decide +kernel
theorem d_M_readU_9 : decode (iC M_M_readU) 9 = .ok (.aload_n 0, 1) := by decide +kernel
theorem d_M_readU_10 : decode (iC M_M_readU) 10 = .ok (.invokevirtual 24, 3) := by decide +kernel
theorem d_M_readU_13 : decode (iC M_M_readU) 13 = .ok (.ifCond .ne 35, 3) := by decide +kernel
theorem d_M_readU_16 : decode (iC M_M_readU) 16 = .ok (.aload_n 0, 1) := by decide +kernel
theorem d_M_readU_17 : decode (iC M_M_readU) 17 = .ok (.getfield 7, 3) := by decide +kernel
theorem d_M_readU_20 : decode (iC M_M_readU) 20 = .ok (.ifCond .lt 5, 3) := by decide +kernel
theorem d_M_readU_23 : decode (iC M_M_readU) 23 = .ok (.iconst 0, 1) := by decide +kernel
theorem d_M_readU_24 : decode (iC M_M_readU) 24 = .ok (.ireturn, 1) := by decide +kernel
theorem d_M_readU_25 : decode (iC M_M_readU) 25 = .ok (.iinc 1 1, 3) := by decide +kernel
theorem d_M_readU_28 : decode (iC M_M_readU) 28 = .ok (.iload_n 1, 1) := by decide +kernel
theorem d_M_readU_29 : decode (iC M_M_readU) 29 = .ok (.bipush 21, 2) := by decide +kernel
theorem d_M_readU_31 : decode (iC M_M_readU) 31 = .ok (.if_icmp .ne (-29), 3) := by decide +kernel
theorem d_M_readU_34 : decode (iC M_M_readU) 34 = .ok (.aload_n 0, 1) := by decide +kernel
theorem d_M_readU_35 : decode (iC M_M_readU) 35 = .ok (.aload_n 0, 1) := by decide +kernel
theorem d_M_readU_36 : decode (iC M_M_readU) 36 = .ok (.getfield 10, 3) := by decide +kernel
theorem d_M_readU_39 : decode (iC M_M_readU) 39 = .ok (.iconst 1, 1) := by decide +kernel
theorem d_M_readU_40 : decode (iC M_M_readU) 40 = .ok (.isub, 1) := by decide +kernel
theorem d_M_readU_41 : decode (iC M_M_readU) 41 = .ok (.invokevirtual 16, 3) := by decide +kernel
theorem d_M_readU_44 : decode (iC M_M_readU) 44 = .ok (.istore_n 2, 1) := by decide +kernel
theorem d_M_readU_45 : decode (iC M_M_readU) 45 = .ok (.goto (-43), 3) := by decide +kernel
theorem d_M_readU_48 : decode (iC M_M_readU) 48 = .ok (.aload_n 0, 1) := by decide +kernel
theorem d_M_readU_49 : decode (iC M_M_readU) 49 = .ok (.getfield 7, 3) := by decide +kernel
theorem d_M_readU_52 : decode (iC M_M_readU) 52 = .ok (.ifCond .lt 5, 3) := by decide +kernel
theorem d_M_readU_55 : decode (iC M_M_readU) 55 = .ok (.iconst 0, 1) := by decide +kernel
theorem d_M_readU_56 : decode (iC M_M_readU) 56 = .ok (.ireturn, 1) := by decide +kernel
theorem d_M_readU_57 : decode (iC M_M_readU) 57 = .ok (.iconst 1, 1) := by decide +kernel
theorem d_M_readU_58 : decode (iC M_M_readU) 58 = .ok (.iload_n 1, 1) := by decide +kernel
theorem d_M_readU_59 : decode (iC M_M_readU) 59 = .ok (.ishl, 1) := by decide +kernel
theorem d_M_readU_60 : decode (iC M_M_readU) 60 = .ok (.iconst 1, 1) := by decide +kernel
theorem d_M_readU_61 : decode (iC M_M_readU) 61 = .ok (.isub, 1) := by decide +kernel
theorem d_M_readU_62 : decode (iC M_M_readU) 62 = .ok (.aload_n 0, 1) := by decide +kernel
theorem d_M_readU_63 : decode (iC M_M_readU) 63 = .ok (.iload_n 1, 1) := by decide +kernel
theorem d_M_readU_64 : decode (iC M_M_readU) 64 = .ok (.invokevirtual 28, 3) := by decide +kernel
theorem d_M_readU_67 : decode (iC M_M_readU) 67 = .ok (.iadd, 1) := by decide +kernel
theorem d_M_readU_68 : decode (iC M_M_readU) 68 = .ok (.ireturn, 1) := by decide +kernel
theorem d_M_passes_0 : decode (iC M_M_passes) 0 = .ok (.iload_n 2, 1) := by decide +kernel
theorem d_M_passes_1 : decode (iC M_M_passes) 1 = .ok (.aload_n 0, 1) := by decide +kernel
theorem d_M_passes_2 : decode (iC M_M_passes) 2 = .ok (.getfield 35, 3) := by decide +kernel
theorem d_M_passes_5 : decode (iC M_M_passes) 5 = .ok (.aload_n 0, 1) := by decide +kernel
theorem d_M_passes_6 : decode (iC M_M_passes) 6 = .ok (.getfield 38, 3) := by decide +kernel
theorem d_M_passes_9 : decode (iC M_M_passes) 9 = .ok (.imul, 1) := by decide +kernel
theorem d_M_passes_10 : decode (iC M_M_passes) 10 = .ok (.iload_n 1, 1) := by decide +kernel
theorem d_M_passes_11 : decode (iC M_M_passes) 11 = .ok (.isub, 1) := by decide +kernel
theorem d_M_passes_12 : decode (iC M_M_passes) 12 = .ok (.if_icmp .le 17, 3) := by decide +kernel
theorem d_M_passes_15 : decode (iC M_M_passes) 15 = .ok (.aload_n 0, 1) := by decide +kernel
theorem d_M_passes_16 : decode (iC M_M_passes) 16 = .ok (.iload_n 3, 1) := by decide +kernel
theorem d_M_passes_17 : decode (iC M_M_passes) 17 = .ok (.invokevirtual 16, 3) := by decide +kernel
theorem d_M_passes_20 : decode (iC M_M_passes) 20 = .ok (.ifCond .ne 7, 3) := by decide +kernel
theorem d_M_passes_23 : decode (iC M_M_passes) 23 = .ok (.iconst 1, 1) := by decide +kernel
theorem d_M_passes_24 : decode (iC M_M_passes) 24 = .ok (.goto 4, 3) := by decide +kernel
theorem d_M_passes_27 : decode (iC M_M_passes) 27 = .ok (.iconst 0, 1) := by decide +kernel
theorem d_M_passes_28 : decode (iC M_M_passes) 28 = .ok (.ireturn, 1) := by decide +kernel
theorem d_M_passes_29 : decode (iC M_M_passes) 29 = .ok (.iload_n 1, 1) := by decide +kernel
theorem d_M_passes_30 : decode (iC M_M_passes) 30 = .ok (.istore 4, 2) := by decide +kernel
theorem d_M_passes_32 : decode (iC M_M_passes) 32 = .ok (.aload_n 0, 1) := by decide +kernel
theorem d_M_passes_33 : decode (iC M_M_passes) 33 = .ok (.getfield 70, 3) := by decide +kernel
theorem d_M_passes_36 : decode (iC M_M_passes) 36 = .ok (.iconst 3, 1) := by decide +kernel
theorem d_M_passes_37 : decode (iC M_M_passes) 37 = .ok (.if_icmp .ne 50, 3) := by decide +kernel
theorem d_M_passes_40 : decode (iC M_M_passes) 40 = .ok (.iload 4, 2) := by decide +kernel
theorem d_M_passes_42 : decode (iC M_M_passes) 42 = .ok (.iload_n 1, 1) := by decide +kernel
theorem d_M_passes_43 : decode (iC M_M_passes) 43 = .ok (.iload_n 2, 1) := by decide +kernel
theorem d_M_passes_44 : decode (iC M_M_passes) 44 = .ok (.iadd, 1) := by decide +kernel
theorem d_M_passes_45 : decode (iC M_M_passes) 45 = .ok (.if_icmp .ge 42, 3) := by decide +kernel
theorem d_M_passes_48 : decode (iC M_M_passes) 48 = .ok (.iload 4, 2) := by decide +kernel
theorem d_M_passes_50 : decode (iC M_M_passes) 50 = .ok (.aload_n 0, 1) := by decide +kernel
theorem d_M_passes_51 : decode (iC M_M_passes) 51 = .ok (.getfield 35, 3) := by decide +kernel
theorem d_M_passes_54 : decode (iC M_M_passes) 54 = .ok (.irem, 1) := by decide +kernel
theorem d_M_passes_55 : decode (iC M_M_passes) 55 = .ok (.ifCond .eq 16, 3) := by decide +kernel
theorem d_M_passes_58 : decode (iC M_M_passes) 58 = .ok (.iload 4, 2) := by decide +kernel
theorem d_M_passes_60 : decode (iC M_M_passes) 60 = .ok (.iload_n 1, 1) := by decide +kernel
theorem d_M_passes_61 : decode (iC M_M_passes) 61 = .ok (.if_icmp .ne 20, 3) := by decide +kernel
theorem d_M_passes_64 : decode (iC M_M_passes) 64 = .ok (.aload_n 0, 1) := by decide +kernel
theorem d_M_passes_65 : decode (iC M_M_passes) 65 = .ok (.getfield 132, 3) := by decide +kernel
theorem d_M_passes_68 : decode (iC M_M_passes) 68 = .ok (.ifCond .eq 13, 3) := by decide +kernel
theorem d_M_passes_71 : decode (iC M_M_passes) 71 = .ok (.aload_n 0, 1) := by decide +kernel
theorem d_M_passes_72 : decode (iC M_M_passes) 72 = .ok (.iload_n 3, 1) := by decide +kernel
theorem d_M_passes_73 : decode (iC M_M_passes) 73 = .ok (.invokevirtual 16, 3) := by decide +kernel
theorem d_M_passes_76 : decode (iC M_M_passes) 76 = .ok (.ifCond .eq 5, 3) := by decide +kernel
theorem d_M_passes_79 : decode (iC M_M_passes) 79 = .ok (.iconst 0, 1) := by decide +kernel
theorem d_M_passes_80 : decode (iC M_M_passes) 80 = .ok (.ireturn, 1) := by decide +kernel
theorem d_M_passes_81 : decode (iC M_M_passes) 81 = .ok (.iinc 4 1, 3) := by decide +kernel
theorem d_M_passes_84 : decode (iC M_M_passes) 84 = .ok (.goto (-52), 3) := by decide +kernel
theorem d_M_passes_87 : decode (iC M_M_passes) 87 = .ok (.iload_n 1, 1) := by decide +kernel
theorem d_M_passes_88 : decode (iC M_M_passes) 88 = .ok (.istore 4, 2) := by decide +kernel
theorem d_M_passes_90 : decode (iC M_M_passes) 90 = .ok (.iload 4, 2) := by decide +kernel
theorem d_M_passes_92 : decode (iC M_M_passes) 92 = .ok (.iload_n 1, 1) := by decide +kernel
theorem d_M_passes_93 : decode (iC M_M_passes) 93 = .ok (.iload_n 2, 1) := by decide +kernel
theorem d_M_passes_94 : decode (iC M_M_passes) 94 = .ok (.iadd, 1) := by decide +kernel
theorem d_M_passes_95 : decode (iC M_M_passes) 95 = .ok (.if_icmp .ge 103, 3) := by decide +kernel
theorem d_M_passes_98 : decode (iC M_M_passes) 98 = .ok (.iload 4, 2) := by decide +kernel
theorem d_M_passes_100 : decode (iC M_M_passes) 100 = .ok (.aload_n 0, 1) := by decide +kernel
theorem d_M_passes_101 : decode (iC M_M_passes) 101 = .ok (.getfield 35, 3) := by decide +kernel
theorem d_M_passes_104 : decode (iC M_M_passes) 104 = .ok (.irem, 1) := by decide +kernel
theorem d_M_passes_105 : decode (iC M_M_passes) 105 = .ok (.ifCond .ne 7, 3) := by decide +kernel
theorem d_M_passes_108 : decode (iC M_M_passes) 108 = .ok (.aload_n 0, 1) := by decide +kernel
theorem d_M_passes_109 : decode (iC M_M_passes) 109 = .ok (.invokevirtual 193, 3) := by decide +kernel
theorem d_M_passes_112 : decode (iC M_M_passes) 112 = .ok (.aload_n 0, 1) := by decide +kernel
theorem d_M_passes_113 : decode (iC M_M_passes) 113 = .ok (.getfield 70, 3) := by decide +kernel
theorem d_M_passes_116 : decode (iC M_M_passes) 116 = .ok (.iconst 2, 1) := by decide +kernel
theorem d_M_passes_117 : decode (iC M_M_passes) 117 = .ok (.if_icmp .ne 40, 3) := by decide +kernel
theorem d_M_passes_120 : decode (iC M_M_passes) 120 = .ok (.iconst 0, 1) := by decide +kernel
theorem d_M_passes_121 : decode (iC M_M_passes) 121 = .ok (.istore 5, 2) := by decide +kernel
theorem d_M_passes_123 : decode (iC M_M_passes) 123 = .ok (.iload 5, 2) := by decide +kernel
theorem d_M_passes_125 : decode (iC M_M_passes) 125 = .ok (.iconst 4, 1) := by decide +kernel
theorem d_M_passes_126 : decode (iC M_M_passes) 126 = .ok (.if_icmp .ge 17, 3) := by decide +kernel
theorem d_M_passes_129 : decode (iC M_M_passes) 129 = .ok (.aload_n 0, 1) := by decide +kernel
theorem d_M_passes_130 : decode (iC M_M_passes) 130 = .ok (.getfield 64, 3) := by decide +kernel
theorem d_M_passes_133 : decode (iC M_M_passes) 133 = .ok (.iload 5, 2) := by decide +kernel
theorem d_M_passes_135 : decode (iC M_M_passes) 135 = .ok (.iconst 0, 1) := by decide +kernel
theorem d_M_passes_136 : decode (iC M_M_passes) 136 = .ok (.iastore, 1) := by decide +kernel
theorem d_M_passes_137 : decode (iC M_M_passes) 137 = .ok (.iinc 5 1, 3) := by decide +kernel
theorem d_M_passes_140 : decode (iC M_M_passes) 140 = .ok (.goto (-17), 3) := by decide +kernel
theorem d_M_passes_143 : decode (iC M_M_passes) 143 = .ok (.aload_n 0, 1) := by decide +kernel
theorem d_M_passes_144 : decode (iC M_M_passes) 144 = .ok (.iconst 1, 1) := by decide +kernel
theorem d_M_passes_145 : decode (iC M_M_passes) 145 = .ok (.putfield 79, 3) := by decide +kernel
theorem d_M_passes_148 : decode (iC M_M_passes) 148 = .ok (.aload_n 0, 1) := by decide +kernel
theorem d_M_passes_149 : decode (iC M_M_passes) 149 = .ok (.iconst 0, 1) := by decide +kernel
theorem d_M_passes_150 : decode (iC M_M_passes) 150 = .ok (.putfield 83, 3) := by decide +kernel
theorem d_M_passes_153 : decode (iC M_M_passes) 153 = .ok (.aload_n 0, 1) := by decide +kernel
theorem d_M_passes_154 : decode (iC M_M_passes) 154 = .ok (.invokevirtual 190, 3) := by decide +kernel
theorem d_M_passes_157 : decode (iC M_M_passes) 157 = .ok (.aload_n 0, 1) := by decide +kernel
theorem d_M_passes_158 : decode (iC M_M_passes) 158 = .ok (.iconst 0, 1) := by decide +kernel
theorem d_M_passes_159 : decode (iC M_M_passes) 159 = .ok (.putfield 132, 3) := by decide +kernel
theorem d_M_passes_162 : decode (iC M_M_passes) 162 = .ok (.aload_n 0, 1) := by decide +kernel
theorem d_M_passes_163 : decode (iC M_M_passes) 163 = .ok (.iload 4, 2) := by decide +kernel
theorem d_M_passes_165 : decode (iC M_M_passes) 165 = .ok (.invokevirtual 173, 3) := by decide +kernel
theorem d_M_passes_168 : decode (iC M_M_passes) 168 = .ok (.aload_n 0, 1) := by decide +kernel
theorem d_M_passes_169 : decode (iC M_M_passes) 169 = .ok (.invokevirtual 187, 3) := by decide +kernel
theorem d_M_passes_172 : decode (iC M_M_passes) 172 = .ok (.aload_n 0, 1) := by decide +kernel
theorem d_M_passes_173 : decode (iC M_M_passes) 173 = .ok (.dup, 1) := by decide +kernel
theorem d_M_passes_174 : decode (iC M_M_passes) 174 = .ok (.getfield 196, 3) := by decide +kernel
theorem d_M_passes_177 : decode (iC M_M_passes) 177 = .ok (.iconst 1, 1) := by decide +kernel
theorem d_M_passes_178 : decode (iC M_M_passes) 178 = .ok (.iadd, 1) := by decide +kernel
theorem d_M_passes_179 : decode (iC M_M_passes) 179 = .ok (.putfield 196, 3) := by decide +kernel
theorem d_M_passes_182 : decode (iC M_M_passes) 182 = .ok (.aload_n 0, 1) := by decide +kernel
theorem d_M_passes_183 : decode (iC M_M_passes) 183 = .ok (.dup, 1) := by decide +kernel
theorem d_M_passes_184 : decode (iC M_M_passes) 184 = .ok (.getfield 199, 3) := by decide +kernel
theorem d_M_passes_187 : decode (iC M_M_passes) 187 = .ok (.iconst 1, 1) := by decide +kernel
theorem d_M_passes_188 : decode (iC M_M_passes) 188 = .ok (.iadd, 1) := by decide +kernel
theorem d_M_passes_189 : decode (iC M_M_passes) 189 = .ok (.putfield 199, 3) := by decide +kernel
theorem d_M_passes_192 : decode (iC M_M_passes) 192 = .ok (.iinc 4 1, 3) := by decide +kernel
theorem d_M_passes_195 : decode (iC M_M_passes) 195 = .ok (.goto (-105), 3) := by decide +kernel
theorem d_M_passes_198 : decode (iC M_M_passes) 198 = .ok (.iconst 1, 1) := by decide +kernel
theorem d_M_passes_199 : decode (iC M_M_passes) 199 = .ok (.ireturn, 1) := by decide +kernel
theorem d_M_begins_0 : decode (iC M_M_begins) 0 = .ok (.aload_n 0, 1) := by decide +kernel
theorem d_M_begins_1 : decode (iC M_M_begins) 1 = .ok (.invokevirtual 187, 3) := by decide +kernel
theorem d_M_begins_4 : decode (iC M_M_begins) 4 = .ok (.aload_n 0, 1) := by decide +kernel
theorem d_M_begins_5 : decode (iC M_M_begins) 5 = .ok (.invokevirtual 190, 3) := by decide +kernel
theorem d_M_begins_8 : decode (iC M_M_begins) 8 = .ok (.return_, 1) := by decide +kernel
theorem d_M_resetDcs_0 : decode (iC M_M_resetDcs) 0 = .ok (.iconst 0, 1) := by decide +kernel
theorem d_M_resetDcs_1 : decode (iC M_M_resetDcs) 1 = .ok (.istore_n 1, 1) := by decide +kernel
theorem d_M_resetDcs_2 : decode (iC M_M_resetDcs) 2 = .ok (.iload_n 1, 1) := by decide +kernel
theorem d_M_resetDcs_3 : decode (iC M_M_resetDcs) 3 = .ok (.iconst 3, 1) := by decide +kernel
theorem d_M_resetDcs_4 : decode (iC M_M_resetDcs) 4 = .ok (.if_icmp .ge 18, 3) := by decide +kernel
theorem d_M_resetDcs_7 : decode (iC M_M_resetDcs) 7 = .ok (.aload_n 0, 1) := by decide +kernel
theorem d_M_resetDcs_8 : decode (iC M_M_resetDcs) 8 = .ok (.getfield 114, 3) := by decide +kernel
theorem d_M_resetDcs_11 : decode (iC M_M_resetDcs) 11 = .ok (.iload_n 1, 1) := by decide +kernel
theorem d_M_resetDcs_12 : decode (iC M_M_resetDcs) 12 = .ok (.sipush 128, 3) := by decide +kernel
theorem d_M_resetDcs_15 : decode (iC M_M_resetDcs) 15 = .ok (.iastore, 1) := by decide +kernel
theorem d_M_resetDcs_16 : decode (iC M_M_resetDcs) 16 = .ok (.iinc 1 1, 3) := by decide +kernel
theorem d_M_resetDcs_19 : decode (iC M_M_resetDcs) 19 = .ok (.goto (-17), 3) := by decide +kernel
theorem d_M_resetDcs_22 : decode (iC M_M_resetDcs) 22 = .ok (.return_, 1) := by decide +kernel
theorem d_M_resetVectors_0 : decode (iC M_M_resetVectors) 0 = .ok (.iconst 0, 1) := by decide +kernel
theorem d_M_resetVectors_1 : decode (iC M_M_resetVectors) 1 = .ok (.istore_n 1, 1) := by decide +kernel
theorem d_M_resetVectors_2 : decode (iC M_M_resetVectors) 2 = .ok (.iload_n 1, 1) := by decide +kernel
theorem d_M_resetVectors_3 : decode (iC M_M_resetVectors) 3 = .ok (.iconst 4, 1) := by decide +kernel
theorem d_M_resetVectors_4 : decode (iC M_M_resetVectors) 4 = .ok (.if_icmp .ge 16, 3) := by decide +kernel
theorem d_M_resetVectors_7 : decode (iC M_M_resetVectors) 7 = .ok (.aload_n 0, 1) := by decide +kernel
theorem d_M_resetVectors_8 : decode (iC M_M_resetVectors) 8 = .ok (.getfield 111, 3) := by decide +kernel
theorem d_M_resetVectors_11 : decode (iC M_M_resetVectors) 11 = .ok (.iload_n 1, 1) := by decide +kernel
theorem d_M_resetVectors_12 : decode (iC M_M_resetVectors) 12 = .ok (.iconst 0, 1) := by decide +kernel
theorem d_M_resetVectors_13 : decode (iC M_M_resetVectors) 13 = .ok (.iastore, 1) := by decide +kernel
theorem d_M_resetVectors_14 : decode (iC M_M_resetVectors) 14 = .ok (.iinc 1 1, 3) := by decide +kernel
theorem d_M_resetVectors_17 : decode (iC M_M_resetVectors) 17 = .ok (.goto (-15), 3) := by decide +kernel
theorem d_M_resetVectors_20 : decode (iC M_M_resetVectors) 20 = .ok (.return_, 1) := by decide +kernel
theorem d_M_foretells_0 : decode (iC M_M_foretells) 0 = .ok (.iconst 0, 1) := by decide +kernel
theorem d_M_foretells_1 : decode (iC M_M_foretells) 1 = .ok (.istore_n 2, 1) := by decide +kernel
theorem d_M_foretells_2 : decode (iC M_M_foretells) 2 = .ok (.iload_n 2, 1) := by decide +kernel
theorem d_M_foretells_3 : decode (iC M_M_foretells) 3 = .ok (.iconst 3, 1) := by decide +kernel
theorem d_M_foretells_4 : decode (iC M_M_foretells) 4 = .ok (.if_icmp .ge 114, 3) := by decide +kernel
theorem d_M_foretells_7 : decode (iC M_M_foretells) 7 = .ok (.iload_n 2, 1) := by decide +kernel
theorem d_M_foretells_8 : decode (iC M_M_foretells) 8 = .ok (.ifCond .ne 8, 3) := by decide +kernel
theorem d_M_foretells_11 : decode (iC M_M_foretells) 11 = .ok (.bipush 16, 2) := by decide +kernel
theorem d_M_foretells_13 : decode (iC M_M_foretells) 13 = .ok (.goto 5, 3) := by decide +kernel
theorem d_M_foretells_16 : decode (iC M_M_foretells) 16 = .ok (.bipush 8, 2) := by decide +kernel
theorem d_M_foretells_18 : decode (iC M_M_foretells) 18 = .ok (.istore_n 3, 1) := by decide +kernel
theorem d_M_foretells_19 : decode (iC M_M_foretells) 19 = .ok (.iload_n 3, 1) := by decide +kernel
theorem d_M_foretells_20 : decode (iC M_M_foretells) 20 = .ok (.iload_n 1, 1) := by decide +kernel
theorem d_M_foretells_21 : decode (iC M_M_foretells) 21 = .ok (.aload_n 0, 1) := by decide +kernel
theorem d_M_foretells_22 : decode (iC M_M_foretells) 22 = .ok (.getfield 35, 3) := by decide +kernel
theorem d_M_foretells_25 : decode (iC M_M_foretells) 25 = .ok (.idiv, 1) := by decide +kernel
theorem d_M_foretells_26 : decode (iC M_M_foretells) 26 = .ok (.imul, 1) := by decide +kernel
theorem d_M_foretells_27 : decode (iC M_M_foretells) 27 = .ok (.istore 4, 2) := by decide +kernel
theorem d_M_foretells_29 : decode (iC M_M_foretells) 29 = .ok (.iload 4, 2) := by decide +kernel
theorem d_M_foretells_31 : decode (iC M_M_foretells) 31 = .ok (.iload_n 3, 1) := by decide +kernel
theorem d_M_foretells_32 : decode (iC M_M_foretells) 32 = .ok (.iload_n 1, 1) := by decide +kernel
theorem d_M_foretells_33 : decode (iC M_M_foretells) 33 = .ok (.aload_n 0, 1) := by decide +kernel
theorem d_M_foretells_34 : decode (iC M_M_foretells) 34 = .ok (.getfield 35, 3) := by decide +kernel
theorem d_M_foretells_37 : decode (iC M_M_foretells) 37 = .ok (.idiv, 1) := by decide +kernel
theorem d_M_foretells_38 : decode (iC M_M_foretells) 38 = .ok (.iconst 1, 1) := by decide +kernel
theorem d_M_foretells_39 : decode (iC M_M_foretells) 39 = .ok (.iadd, 1) := by decide +kernel
theorem d_M_foretells_40 : decode (iC M_M_foretells) 40 = .ok (.imul, 1) := by decide +kernel
theorem d_M_foretells_41 : decode (iC M_M_foretells) 41 = .ok (.if_icmp .ge 71, 3) := by decide +kernel
theorem d_M_foretells_44 : decode (iC M_M_foretells) 44 = .ok (.iload_n 3, 1) := by decide +kernel
theorem d_M_foretells_45 : decode (iC M_M_foretells) 45 = .ok (.iload_n 1, 1) := by decide +kernel
theorem d_M_foretells_46 : decode (iC M_M_foretells) 46 = .ok (.aload_n 0, 1) := by decide +kernel
theorem d_M_foretells_47 : decode (iC M_M_foretells) 47 = .ok (.getfield 35, 3) := by decide +kernel
theorem d_M_foretells_50 : decode (iC M_M_foretells) 50 = .ok (.irem, 1) := by decide +kernel
theorem d_M_foretells_51 : decode (iC M_M_foretells) 51 = .ok (.imul, 1) := by decide +kernel
theorem d_M_foretells_52 : decode (iC M_M_foretells) 52 = .ok (.istore 5, 2) := by decide +kernel
theorem d_M_foretells_54 : decode (iC M_M_foretells) 54 = .ok (.iload 5, 2) := by decide +kernel
theorem d_M_foretells_56 : decode (iC M_M_foretells) 56 = .ok (.iload_n 3, 1) := by decide +kernel
theorem d_M_foretells_57 : decode (iC M_M_foretells) 57 = .ok (.iload_n 1, 1) := by decide +kernel
theorem d_M_foretells_58 : decode (iC M_M_foretells) 58 = .ok (.aload_n 0, 1) := by decide +kernel
theorem d_M_foretells_59 : decode (iC M_M_foretells) 59 = .ok (.getfield 35, 3) := by decide +kernel
theorem d_M_foretells_62 : decode (iC M_M_foretells) 62 = .ok (.irem, 1) := by decide +kernel
theorem d_M_foretells_63 : decode (iC M_M_foretells) 63 = .ok (.iconst 1, 1) := by decide +kernel
theorem d_M_foretells_64 : decode (iC M_M_foretells) 64 = .ok (.iadd, 1) := by decide +kernel
theorem d_M_foretells_65 : decode (iC M_M_foretells) 65 = .ok (.imul, 1) := by decide +kernel
theorem d_M_foretells_66 : decode (iC M_M_foretells) 66 = .ok (.if_icmp .ge 40, 3) := by decide +kernel
theorem d_M_foretells_69 : decode (iC M_M_foretells) 69 = .ok (.aload_n 0, 1) := by decide +kernel
theorem d_M_foretells_70 : decode (iC M_M_foretells) 70 = .ok (.getfield 94, 3) := by decide +kernel
theorem d_M_foretells_73 : decode (iC M_M_foretells) 73 = .ok (.aload_n 0, 1) := by decide +kernel
theorem d_M_foretells_74 : decode (iC M_M_foretells) 74 = .ok (.iload_n 2, 1) := by decide +kernel
theorem d_M_foretells_75 : decode (iC M_M_foretells) 75 = .ok (.invokevirtual 57, 3) := by decide +kernel
theorem d_M_foretells_78 : decode (iC M_M_foretells) 78 = .ok (.aload_n 0, 1) := by decide +kernel
theorem d_M_foretells_79 : decode (iC M_M_foretells) 79 = .ok (.iload_n 2, 1) := by decide +kernel
theorem d_M_foretells_80 : decode (iC M_M_foretells) 80 = .ok (.invokevirtual 51, 3) := by decide +kernel
theorem d_M_foretells_83 : decode (iC M_M_foretells) 83 = .ok (.iload 4, 2) := by decide +kernel
theorem d_M_foretells_85 : decode (iC M_M_foretells) 85 = .ok (.imul, 1) := by decide +kernel
theorem d_M_foretells_86 : decode (iC M_M_foretells) 86 = .ok (.iadd, 1) := by decide +kernel
theorem d_M_foretells_87 : decode (iC M_M_foretells) 87 = .ok (.iload 5, 2) := by decide +kernel
theorem d_M_foretells_89 : decode (iC M_M_foretells) 89 = .ok (.iadd, 1) := by decide +kernel
theorem d_M_foretells_90 : decode (iC M_M_foretells) 90 = .ok (.aload_n 0, 1) := by decide +kernel
theorem d_M_foretells_91 : decode (iC M_M_foretells) 91 = .ok (.iload_n 2, 1) := by decide +kernel
theorem d_M_foretells_92 : decode (iC M_M_foretells) 92 = .ok (.iload 5, 2) := by decide +kernel
theorem d_M_foretells_94 : decode (iC M_M_foretells) 94 = .ok (.iload 4, 2) := by decide +kernel
theorem d_M_foretells_96 : decode (iC M_M_foretells) 96 = .ok (.invokevirtual 97, 3) := by decide +kernel
theorem d_M_foretells_99 : decode (iC M_M_foretells) 99 = .ok (.iastore, 1) := by decide +kernel
theorem d_M_foretells_100 : decode (iC M_M_foretells) 100 = .ok (.iinc 5 1, 3) := by decide +kernel
theorem d_M_foretells_103 : decode (iC M_M_foretells) 103 = .ok (.goto (-49), 3) := by decide +kernel
theorem d_M_foretells_106 : decode (iC M_M_foretells) 106 = .ok (.iinc 4 1, 3) := by decide +kernel
theorem d_M_foretells_109 : decode (iC M_M_foretells) 109 = .ok (.goto (-80), 3) := by decide +kernel
theorem d_M_foretells_112 : decode (iC M_M_foretells) 112 = .ok (.iinc 2 1, 3) := by decide +kernel
theorem d_M_foretells_115 : decode (iC M_M_foretells) 115 = .ok (.goto (-113), 3) := by decide +kernel
theorem d_M_foretells_118 : decode (iC M_M_foretells) 118 = .ok (.return_, 1) := by decide +kernel
theorem d_M_planeAt_0 : decode (iC M_M_planeAt) 0 = .ok (.iload_n 1, 1) := by decide +kernel
theorem d_M_planeAt_1 : decode (iC M_M_planeAt) 1 = .ok (.ifCond .ne 7, 3) := by decide +kernel
theorem d_M_planeAt_4 : decode (iC M_M_planeAt) 4 = .ok (.iconst 0, 1) := by decide +kernel
theorem d_M_planeAt_5 : decode (iC M_M_planeAt) 5 = .ok (.goto 33, 3) := by decide +kernel
theorem d_M_planeAt_8 : decode (iC M_M_planeAt) 8 = .ok (.sipush 256, 3) := by decide +kernel
theorem d_M_planeAt_11 : decode (iC M_M_planeAt) 11 = .ok (.aload_n 0, 1) := by decide +kernel
theorem d_M_planeAt_12 : decode (iC M_M_planeAt) 12 = .ok (.getfield 35, 3) := by decide +kernel
theorem d_M_planeAt_15 : decode (iC M_M_planeAt) 15 = .ok (.imul, 1) := by decide +kernel
theorem d_M_planeAt_16 : decode (iC M_M_planeAt) 16 = .ok (.aload_n 0, 1) := by decide +kernel
theorem d_M_planeAt_17 : decode (iC M_M_planeAt) 17 = .ok (.getfield 38, 3) := by decide +kernel
theorem d_M_planeAt_20 : decode (iC M_M_planeAt) 20 = .ok (.imul, 1) := by decide +kernel
theorem d_M_planeAt_21 : decode (iC M_M_planeAt) 21 = .ok (.iload_n 1, 1) := by decide +kernel
theorem d_M_planeAt_22 : decode (iC M_M_planeAt) 22 = .ok (.iconst 1, 1) := by decide +kernel
theorem d_M_planeAt_23 : decode (iC M_M_planeAt) 23 = .ok (.isub, 1) := by decide +kernel
theorem d_M_planeAt_24 : decode (iC M_M_planeAt) 24 = .ok (.bipush 64, 2) := by decide +kernel
theorem d_M_planeAt_26 : decode (iC M_M_planeAt) 26 = .ok (.imul, 1) := by decide +kernel
theorem d_M_planeAt_27 : decode (iC M_M_planeAt) 27 = .ok (.aload_n 0, 1) := by decide +kernel
theorem d_M_planeAt_28 : decode (iC M_M_planeAt) 28 = .ok (.getfield 35, 3) := by decide +kernel
theorem d_M_planeAt_31 : decode (iC M_M_planeAt) 31 = .ok (.imul, 1) := by decide +kernel
theorem d_M_planeAt_32 : decode (iC M_M_planeAt) 32 = .ok (.aload_n 0, 1) := by decide +kernel
theorem d_M_planeAt_33 : decode (iC M_M_planeAt) 33 = .ok (.getfield 38, 3) := by decide +kernel
theorem d_M_planeAt_36 : decode (iC M_M_planeAt) 36 = .ok (.imul, 1) := by decide +kernel
theorem d_M_planeAt_37 : decode (iC M_M_planeAt) 37 = .ok (.iadd, 1) := by decide +kernel
theorem d_M_planeAt_38 : decode (iC M_M_planeAt) 38 = .ok (.ireturn, 1) := by decide +kernel
theorem d_M_planeWidth_0 : decode (iC M_M_planeWidth) 0 = .ok (.iload_n 1, 1) := by decide +kernel
theorem d_M_planeWidth_1 : decode (iC M_M_planeWidth) 1 = .ok (.ifCond .ne 13, 3) := by decide +kernel
theorem d_M_planeWidth_4 : decode (iC M_M_planeWidth) 4 = .ok (.bipush 16, 2) := by decide +kernel
theorem d_M_planeWidth_6 : decode (iC M_M_planeWidth) 6 = .ok (.aload_n 0, 1) := by decide +kernel
theorem d_M_planeWidth_7 : decode (iC M_M_planeWidth) 7 = .ok (.getfield 35, 3) := by decide +kernel
theorem d_M_planeWidth_10 : decode (iC M_M_planeWidth) 10 = .ok (.imul, 1) := by decide +kernel
theorem d_M_planeWidth_11 : decode (iC M_M_planeWidth) 11 = .ok (.goto 10, 3) := by decide +kernel
theorem d_M_planeWidth_14 : decode (iC M_M_planeWidth) 14 = .ok (.bipush 8, 2) := by decide +kernel
theorem d_M_planeWidth_16 : decode (iC M_M_planeWidth) 16 = .ok (.aload_n 0, 1) := by decide +kernel
theorem d_M_planeWidth_17 : decode (iC M_M_planeWidth) 17 = .ok (.getfield 35, 3) := by decide +kernel
theorem d_M_planeWidth_20 : decode (iC M_M_planeWidth) 20 = .ok (.imul, 1) := by decide +kernel
theorem d_M_planeWidth_21 : decode (iC M_M_planeWidth) 21 = .ok (.ireturn, 1) := by decide +kernel
