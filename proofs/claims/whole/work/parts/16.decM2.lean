theorem d_M_foretoldDot_0 : decode (iC M_M_foretoldDot) 0 = .ok (.aload_n 0, 1) := by decide +kernel
theorem d_M_foretoldDot_1 : decode (iC M_M_foretoldDot) 1 = .ok (.getfield 79, 3) := by decide +kernel
theorem d_M_foretoldDot_4 : decode (iC M_M_foretoldDot) 4 = .ok (.ifCond .eq 40, 3) := by decide +kernel
theorem d_M_foretoldDot_7 : decode (iC M_M_foretoldDot) 7 = .ok (.aload_n 0, 1) := by decide +kernel
theorem d_M_foretoldDot_8 : decode (iC M_M_foretoldDot) 8 = .ok (.getfield 83, 3) := by decide +kernel
theorem d_M_foretoldDot_11 : decode (iC M_M_foretoldDot) 11 = .ok (.ifCond .eq 33, 3) := by decide +kernel
theorem d_M_foretoldDot_14 : decode (iC M_M_foretoldDot) 14 = .ok (.aload_n 0, 1) := by decide +kernel
theorem d_M_foretoldDot_15 : decode (iC M_M_foretoldDot) 15 = .ok (.aload_n 0, 1) := by decide +kernel
theorem d_M_foretoldDot_16 : decode (iC M_M_foretoldDot) 16 = .ok (.invokevirtual 86, 3) := by decide +kernel
theorem d_M_foretoldDot_19 : decode (iC M_M_foretoldDot) 19 = .ok (.iload_n 1, 1) := by decide +kernel
theorem d_M_foretoldDot_20 : decode (iC M_M_foretoldDot) 20 = .ok (.iload_n 2, 1) := by decide +kernel
theorem d_M_foretoldDot_21 : decode (iC M_M_foretoldDot) 21 = .ok (.iload_n 3, 1) := by decide +kernel
theorem d_M_foretoldDot_22 : decode (iC M_M_foretoldDot) 22 = .ok (.iconst 0, 1) := by decide +kernel
theorem d_M_foretoldDot_23 : decode (iC M_M_foretoldDot) 23 = .ok (.invokevirtual 90, 3) := by decide +kernel
theorem d_M_foretoldDot_26 : decode (iC M_M_foretoldDot) 26 = .ok (.aload_n 0, 1) := by decide +kernel
theorem d_M_foretoldDot_27 : decode (iC M_M_foretoldDot) 27 = .ok (.aload_n 0, 1) := by decide +kernel
theorem d_M_foretoldDot_28 : decode (iC M_M_foretoldDot) 28 = .ok (.getfield 73, 3) := by decide +kernel
theorem d_M_foretoldDot_31 : decode (iC M_M_foretoldDot) 31 = .ok (.iload_n 1, 1) := by decide +kernel
theorem d_M_foretoldDot_32 : decode (iC M_M_foretoldDot) 32 = .ok (.iload_n 2, 1) := by decide +kernel
theorem d_M_foretoldDot_33 : decode (iC M_M_foretoldDot) 33 = .ok (.iload_n 3, 1) := by decide +kernel
theorem d_M_foretoldDot_34 : decode (iC M_M_foretoldDot) 34 = .ok (.iconst 1, 1) := by decide +kernel
theorem d_M_foretoldDot_35 : decode (iC M_M_foretoldDot) 35 = .ok (.invokevirtual 90, 3) := by decide +kernel
theorem d_M_foretoldDot_38 : decode (iC M_M_foretoldDot) 38 = .ok (.iadd, 1) := by decide +kernel
theorem d_M_foretoldDot_39 : decode (iC M_M_foretoldDot) 39 = .ok (.iconst 1, 1) := by decide +kernel
theorem d_M_foretoldDot_40 : decode (iC M_M_foretoldDot) 40 = .ok (.iadd, 1) := by decide +kernel
theorem d_M_foretoldDot_41 : decode (iC M_M_foretoldDot) 41 = .ok (.iconst 1, 1) := by decide +kernel
theorem d_M_foretoldDot_42 : decode (iC M_M_foretoldDot) 42 = .ok (.ishr, 1) := by decide +kernel
theorem d_M_foretoldDot_43 : decode (iC M_M_foretoldDot) 43 = .ok (.ireturn, 1) := by decide +kernel
theorem d_M_foretoldDot_44 : decode (iC M_M_foretoldDot) 44 = .ok (.aload_n 0, 1) := by decide +kernel
theorem d_M_foretoldDot_45 : decode (iC M_M_foretoldDot) 45 = .ok (.getfield 79, 3) := by decide +kernel
theorem d_M_foretoldDot_48 : decode (iC M_M_foretoldDot) 48 = .ok (.ifCond .eq 18, 3) := by decide +kernel
theorem d_M_foretoldDot_51 : decode (iC M_M_foretoldDot) 51 = .ok (.aload_n 0, 1) := by decide +kernel
theorem d_M_foretoldDot_52 : decode (iC M_M_foretoldDot) 52 = .ok (.aload_n 0, 1) := by decide +kernel
theorem d_M_foretoldDot_53 : decode (iC M_M_foretoldDot) 53 = .ok (.invokevirtual 86, 3) := by decide +kernel
theorem d_M_foretoldDot_56 : decode (iC M_M_foretoldDot) 56 = .ok (.iload_n 1, 1) := by decide +kernel
theorem d_M_foretoldDot_57 : decode (iC M_M_foretoldDot) 57 = .ok (.iload_n 2, 1) := by decide +kernel
theorem d_M_foretoldDot_58 : decode (iC M_M_foretoldDot) 58 = .ok (.iload_n 3, 1) := by decide +kernel
theorem d_M_foretoldDot_59 : decode (iC M_M_foretoldDot) 59 = .ok (.iconst 0, 1) := by decide +kernel
theorem d_M_foretoldDot_60 : decode (iC M_M_foretoldDot) 60 = .ok (.invokevirtual 90, 3) := by decide +kernel
theorem d_M_foretoldDot_63 : decode (iC M_M_foretoldDot) 63 = .ok (.goto 15, 3) := by decide +kernel
theorem d_M_foretoldDot_66 : decode (iC M_M_foretoldDot) 66 = .ok (.aload_n 0, 1) := by decide +kernel
theorem d_M_foretoldDot_67 : decode (iC M_M_foretoldDot) 67 = .ok (.aload_n 0, 1) := by decide +kernel
theorem d_M_foretoldDot_68 : decode (iC M_M_foretoldDot) 68 = .ok (.getfield 73, 3) := by decide +kernel
theorem d_M_foretoldDot_71 : decode (iC M_M_foretoldDot) 71 = .ok (.iload_n 1, 1) := by decide +kernel
theorem d_M_foretoldDot_72 : decode (iC M_M_foretoldDot) 72 = .ok (.iload_n 2, 1) := by decide +kernel
theorem d_M_foretoldDot_73 : decode (iC M_M_foretoldDot) 73 = .ok (.iload_n 3, 1) := by decide +kernel
theorem d_M_foretoldDot_74 : decode (iC M_M_foretoldDot) 74 = .ok (.iconst 1, 1) := by decide +kernel
theorem d_M_foretoldDot_75 : decode (iC M_M_foretoldDot) 75 = .ok (.invokevirtual 90, 3) := by decide +kernel
theorem d_M_foretoldDot_78 : decode (iC M_M_foretoldDot) 78 = .ok (.ireturn, 1) := by decide +kernel
theorem d_M_forward_0 : decode (iC M_M_forward) 0 = .ok (.aload_n 0, 1) := by decide +kernel
theorem d_M_forward_1 : decode (iC M_M_forward) 1 = .ok (.getfield 70, 3) := by decide +kernel
theorem d_M_forward_4 : decode (iC M_M_forward) 4 = .ok (.iconst 2, 1) := by decide +kernel
theorem d_M_forward_5 : decode (iC M_M_forward) 5 = .ok (.if_icmp .ne 10, 3) := by decide +kernel
theorem d_M_forward_8 : decode (iC M_M_forward) 8 = .ok (.aload_n 0, 1) := by decide +kernel
theorem d_M_forward_9 : decode (iC M_M_forward) 9 = .ok (.getfield 73, 3) := by decide +kernel
theorem d_M_forward_12 : decode (iC M_M_forward) 12 = .ok (.goto 7, 3) := by decide +kernel
theorem d_M_forward_15 : decode (iC M_M_forward) 15 = .ok (.aload_n 0, 1) := by decide +kernel
theorem d_M_forward_16 : decode (iC M_M_forward) 16 = .ok (.getfield 76, 3) := by decide +kernel
theorem d_M_forward_19 : decode (iC M_M_forward) 19 = .ok (.areturn, 1) := by decide +kernel
theorem d_M_moved_0 : decode (iC M_M_moved) 0 = .ok (.aload_n 0, 1) := by decide +kernel
theorem d_M_moved_1 : decode (iC M_M_moved) 1 = .ok (.getfield 64, 3) := by decide +kernel
theorem d_M_moved_4 : decode (iC M_M_moved) 4 = .ok (.iconst 2, 1) := by decide +kernel
theorem d_M_moved_5 : decode (iC M_M_moved) 5 = .ok (.iload 5, 2) := by decide +kernel
theorem d_M_moved_7 : decode (iC M_M_moved) 7 = .ok (.imul, 1) := by decide +kernel
theorem d_M_moved_8 : decode (iC M_M_moved) 8 = .ok (.iaload, 1) := by decide +kernel
theorem d_M_moved_9 : decode (iC M_M_moved) 9 = .ok (.istore 6, 2) := by decide +kernel
theorem d_M_moved_11 : decode (iC M_M_moved) 11 = .ok (.aload_n 0, 1) := by decide +kernel
theorem d_M_moved_12 : decode (iC M_M_moved) 12 = .ok (.getfield 64, 3) := by decide +kernel
theorem d_M_moved_15 : decode (iC M_M_moved) 15 = .ok (.iconst 2, 1) := by decide +kernel
theorem d_M_moved_16 : decode (iC M_M_moved) 16 = .ok (.iload 5, 2) := by decide +kernel
theorem d_M_moved_18 : decode (iC M_M_moved) 18 = .ok (.imul, 1) := by decide +kernel
theorem d_M_moved_19 : decode (iC M_M_moved) 19 = .ok (.iconst 1, 1) := by decide +kernel
theorem d_M_moved_20 : decode (iC M_M_moved) 20 = .ok (.iadd, 1) := by decide +kernel
theorem d_M_moved_21 : decode (iC M_M_moved) 21 = .ok (.iaload, 1) := by decide +kernel
theorem d_M_moved_22 : decode (iC M_M_moved) 22 = .ok (.istore 7, 2) := by decide +kernel
theorem d_M_moved_24 : decode (iC M_M_moved) 24 = .ok (.iload_n 2, 1) := by decide +kernel
theorem d_M_moved_25 : decode (iC M_M_moved) 25 = .ok (.ifCond .le 15, 3) := by decide +kernel
theorem d_M_moved_28 : decode (iC M_M_moved) 28 = .ok (.iload 6, 2) := by decide +kernel
theorem d_M_moved_30 : decode (iC M_M_moved) 30 = .ok (.iconst 2, 1) := by decide +kernel
theorem d_M_moved_31 : decode (iC M_M_moved) 31 = .ok (.idiv, 1) := by decide +kernel
theorem d_M_moved_32 : decode (iC M_M_moved) 32 = .ok (.istore 6, 2) := by decide +kernel
theorem d_M_moved_34 : decode (iC M_M_moved) 34 = .ok (.iload 7, 2) := by decide +kernel
theorem d_M_moved_36 : decode (iC M_M_moved) 36 = .ok (.iconst 2, 1) := by decide +kernel
theorem d_M_moved_37 : decode (iC M_M_moved) 37 = .ok (.idiv, 1) := by decide +kernel
theorem d_M_moved_38 : decode (iC M_M_moved) 38 = .ok (.istore 7, 2) := by decide +kernel
theorem d_M_moved_40 : decode (iC M_M_moved) 40 = .ok (.aload_n 0, 1) := by decide +kernel
theorem d_M_moved_41 : decode (iC M_M_moved) 41 = .ok (.aload_n 1, 1) := by decide +kernel
theorem d_M_moved_42 : decode (iC M_M_moved) 42 = .ok (.iload_n 2, 1) := by decide +kernel
theorem d_M_moved_43 : decode (iC M_M_moved) 43 = .ok (.iconst 2, 1) := by decide +kernel
theorem d_M_moved_44 : decode (iC M_M_moved) 44 = .ok (.iload_n 3, 1) := by decide +kernel
theorem d_M_moved_45 : decode (iC M_M_moved) 45 = .ok (.imul, 1) := by decide +kernel
theorem d_M_moved_46 : decode (iC M_M_moved) 46 = .ok (.iload 6, 2) := by decide +kernel
theorem d_M_moved_48 : decode (iC M_M_moved) 48 = .ok (.iadd, 1) := by decide +kernel
theorem d_M_moved_49 : decode (iC M_M_moved) 49 = .ok (.iconst 2, 1) := by decide +kernel
theorem d_M_moved_50 : decode (iC M_M_moved) 50 = .ok (.iload 4, 2) := by decide +kernel
theorem d_M_moved_52 : decode (iC M_M_moved) 52 = .ok (.imul, 1) := by decide +kernel
theorem d_M_moved_53 : decode (iC M_M_moved) 53 = .ok (.iload 7, 2) := by decide +kernel
theorem d_M_moved_55 : decode (iC M_M_moved) 55 = .ok (.iadd, 1) := by decide +kernel
theorem d_M_moved_56 : decode (iC M_M_moved) 56 = .ok (.invokevirtual 67, 3) := by decide +kernel
theorem d_M_moved_59 : decode (iC M_M_moved) 59 = .ok (.ireturn, 1) := by decide +kernel
theorem d_M_between_0 : decode (iC M_M_between) 0 = .ok (.iload_n 3, 1) := by decide +kernel
theorem d_M_between_1 : decode (iC M_M_between) 1 = .ok (.iconst 1, 1) := by decide +kernel
theorem d_M_between_2 : decode (iC M_M_between) 2 = .ok (.ishr, 1) := by decide +kernel
theorem d_M_between_3 : decode (iC M_M_between) 3 = .ok (.istore 5, 2) := by decide +kernel
theorem d_M_between_5 : decode (iC M_M_between) 5 = .ok (.iload 4, 2) := by decide +kernel
theorem d_M_between_7 : decode (iC M_M_between) 7 = .ok (.iconst 1, 1) := by decide +kernel
theorem d_M_between_8 : decode (iC M_M_between) 8 = .ok (.ishr, 1) := by decide +kernel
theorem d_M_between_9 : decode (iC M_M_between) 9 = .ok (.istore 6, 2) := by decide +kernel
theorem d_M_between_11 : decode (iC M_M_between) 11 = .ok (.aload_n 0, 1) := by decide +kernel
theorem d_M_between_12 : decode (iC M_M_between) 12 = .ok (.aload_n 1, 1) := by decide +kernel
theorem d_M_between_13 : decode (iC M_M_between) 13 = .ok (.iload_n 2, 1) := by decide +kernel
theorem d_M_between_14 : decode (iC M_M_between) 14 = .ok (.iload 5, 2) := by decide +kernel
theorem d_M_between_16 : decode (iC M_M_between) 16 = .ok (.iload 6, 2) := by decide +kernel
theorem d_M_between_18 : decode (iC M_M_between) 18 = .ok (.invokevirtual 60, 3) := by decide +kernel
theorem d_M_between_21 : decode (iC M_M_between) 21 = .ok (.istore 7, 2) := by decide +kernel
theorem d_M_between_23 : decode (iC M_M_between) 23 = .ok (.iload_n 3, 1) := by decide +kernel
theorem d_M_between_24 : decode (iC M_M_between) 24 = .ok (.iconst 2, 1) := by decide +kernel
theorem d_M_between_25 : decode (iC M_M_between) 25 = .ok (.irem, 1) := by decide +kernel
theorem d_M_between_26 : decode (iC M_M_between) 26 = .ok (.ifCond .ne 13, 3) := by decide +kernel
theorem d_M_between_29 : decode (iC M_M_between) 29 = .ok (.iload 4, 2) := by decide +kernel
theorem d_M_between_31 : decode (iC M_M_between) 31 = .ok (.iconst 2, 1) := by decide +kernel
theorem d_M_between_32 : decode (iC M_M_between) 32 = .ok (.irem, 1) := by decide +kernel
theorem d_M_between_33 : decode (iC M_M_between) 33 = .ok (.ifCond .ne 6, 3) := by decide +kernel
theorem d_M_between_36 : decode (iC M_M_between) 36 = .ok (.iload 7, 2) := by decide +kernel
theorem d_M_between_38 : decode (iC M_M_between) 38 = .ok (.ireturn, 1) := by decide +kernel
theorem d_M_between_39 : decode (iC M_M_between) 39 = .ok (.iload 4, 2) := by decide +kernel
theorem d_M_between_41 : decode (iC M_M_between) 41 = .ok (.iconst 2, 1) := by decide +kernel
theorem d_M_between_42 : decode (iC M_M_between) 42 = .ok (.irem, 1) := by decide +kernel
theorem d_M_between_43 : decode (iC M_M_between) 43 = .ok (.ifCond .ne 23, 3) := by decide +kernel
theorem d_M_between_46 : decode (iC M_M_between) 46 = .ok (.iload 7, 2) := by decide +kernel
theorem d_M_between_48 : decode (iC M_M_between) 48 = .ok (.aload_n 0, 1) := by decide +kernel
theorem d_M_between_49 : decode (iC M_M_between) 49 = .ok (.aload_n 1, 1) := by decide +kernel
theorem d_M_between_50 : decode (iC M_M_between) 50 = .ok (.iload_n 2, 1) := by decide +kernel
theorem d_M_between_51 : decode (iC M_M_between) 51 = .ok (.iload 5, 2) := by decide +kernel
theorem d_M_between_53 : decode (iC M_M_between) 53 = .ok (.iconst 1, 1) := by decide +kernel
theorem d_M_between_54 : decode (iC M_M_between) 54 = .ok (.iadd, 1) := by decide +kernel
theorem d_M_between_55 : decode (iC M_M_between) 55 = .ok (.iload 6, 2) := by decide +kernel
theorem d_M_between_57 : decode (iC M_M_between) 57 = .ok (.invokevirtual 60, 3) := by decide +kernel
theorem d_M_between_60 : decode (iC M_M_between) 60 = .ok (.iadd, 1) := by decide +kernel
theorem d_M_between_61 : decode (iC M_M_between) 61 = .ok (.iconst 1, 1) := by decide +kernel
theorem d_M_between_62 : decode (iC M_M_between) 62 = .ok (.iadd, 1) := by decide +kernel
theorem d_M_between_63 : decode (iC M_M_between) 63 = .ok (.iconst 1, 1) := by decide +kernel
theorem d_M_between_64 : decode (iC M_M_between) 64 = .ok (.ishr, 1) := by decide +kernel
theorem d_M_between_65 : decode (iC M_M_between) 65 = .ok (.ireturn, 1) := by decide +kernel
theorem d_M_between_66 : decode (iC M_M_between) 66 = .ok (.iload_n 3, 1) := by decide +kernel
theorem d_M_between_67 : decode (iC M_M_between) 67 = .ok (.iconst 2, 1) := by decide +kernel
theorem d_M_between_68 : decode (iC M_M_between) 68 = .ok (.irem, 1) := by decide +kernel
theorem d_M_between_69 : decode (iC M_M_between) 69 = .ok (.ifCond .ne 23, 3) := by decide +kernel
theorem d_M_between_72 : decode (iC M_M_between) 72 = .ok (.iload 7, 2) := by decide +kernel
theorem d_M_between_74 : decode (iC M_M_between) 74 = .ok (.aload_n 0, 1) := by decide +kernel
theorem d_M_between_75 : decode (iC M_M_between) 75 = .ok (.aload_n 1, 1) := by decide +kernel
theorem d_M_between_76 : decode (iC M_M_between) 76 = .ok (.iload_n 2, 1) := by decide +kernel
theorem d_M_between_77 : decode (iC M_M_between) 77 = .ok (.iload 5, 2) := by decide +kernel
theorem d_M_between_79 : decode (iC M_M_between) 79 = .ok (.iload 6, 2) := by decide +kernel
theorem d_M_between_81 : decode (iC M_M_between) 81 = .ok (.iconst 1, 1) := by decide +kernel
theorem d_M_between_82 : decode (iC M_M_between) 82 = .ok (.iadd, 1) := by decide +kernel
theorem d_M_between_83 : decode (iC M_M_between) 83 = .ok (.invokevirtual 60, 3) := by decide +kernel
theorem d_M_between_86 : decode (iC M_M_between) 86 = .ok (.iadd, 1) := by decide +kernel
theorem d_M_between_87 : decode (iC M_M_between) 87 = .ok (.iconst 1, 1) := by decide +kernel
theorem d_M_between_88 : decode (iC M_M_between) 88 = .ok (.iadd, 1) := by decide +kernel
theorem d_M_between_89 : decode (iC M_M_between) 89 = .ok (.iconst 1, 1) := by decide +kernel
theorem d_M_between_90 : decode (iC M_M_between) 90 = .ok (.ishr, 1) := by decide +kernel
theorem d_M_between_91 : decode (iC M_M_between) 91 = .ok (.ireturn, 1) := by decide +kernel
theorem d_M_between_92 : decode (iC M_M_between) 92 = .ok (.iload 7, 2) := by decide +kernel
theorem d_M_between_94 : decode (iC M_M_between) 94 = .ok (.aload_n 0, 1) := by decide +kernel
theorem d_M_between_95 : decode (iC M_M_between) 95 = .ok (.aload_n 1, 1) := by decide +kernel
theorem d_M_between_96 : decode (iC M_M_between) 96 = .ok (.iload_n 2, 1) := by decide +kernel
theorem d_M_between_97 : decode (iC M_M_between) 97 = .ok (.iload 5, 2) := by decide +kernel
theorem d_M_between_99 : decode (iC M_M_between) 99 = .ok (.iconst 1, 1) := by decide +kernel
theorem d_M_between_100 : decode (iC M_M_between) 100 = .ok (.iadd, 1) := by decide +kernel
theorem d_M_between_101 : decode (iC M_M_between) 101 = .ok (.iload 6, 2) := by decide +kernel
theorem d_M_between_103 : decode (iC M_M_between) 103 = .ok (.invokevirtual 60, 3) := by decide +kernel
theorem d_M_between_106 : decode (iC M_M_between) 106 = .ok (.iadd, 1) := by decide +kernel
theorem d_M_between_107 : decode (iC M_M_between) 107 = .ok (.aload_n 0, 1) := by decide +kernel
theorem d_M_between_108 : decode (iC M_M_between) 108 = .ok (.aload_n 1, 1) := by decide +kernel
theorem d_M_between_109 : decode (iC M_M_between) 109 = .ok (.iload_n 2, 1) := by decide +kernel
theorem d_M_between_110 : decode (iC M_M_between) 110 = .ok (.iload 5, 2) := by decide +kernel
theorem d_M_between_112 : decode (iC M_M_between) 112 = .ok (.iload 6, 2) := by decide +kernel
theorem d_M_between_114 : decode (iC M_M_between) 114 = .ok (.iconst 1, 1) := by decide +kernel
theorem d_M_between_115 : decode (iC M_M_between) 115 = .ok (.iadd, 1) := by decide +kernel
theorem d_M_between_116 : decode (iC M_M_between) 116 = .ok (.invokevirtual 60, 3) := by decide +kernel
theorem d_M_between_119 : decode (iC M_M_between) 119 = .ok (.iadd, 1) := by decide +kernel
theorem d_M_between_120 : decode (iC M_M_between) 120 = .ok (.aload_n 0, 1) := by decide +kernel
theorem d_M_between_121 : decode (iC M_M_between) 121 = .ok (.aload_n 1, 1) := by decide +kernel
theorem d_M_between_122 : decode (iC M_M_between) 122 = .ok (.iload_n 2, 1) := by decide +kernel
theorem d_M_between_123 : decode (iC M_M_between) 123 = .ok (.iload 5, 2) := by decide +kernel
theorem d_M_between_125 : decode (iC M_M_between) 125 = .ok (.iconst 1, 1) := by decide +kernel
theorem d_M_between_126 : decode (iC M_M_between) 126 = .ok (.iadd, 1) := by decide +kernel
theorem d_M_between_127 : decode (iC M_M_between) 127 = .ok (.iload 6, 2) := by decide +kernel
theorem d_M_between_129 : decode (iC M_M_between) 129 = .ok (.iconst 1, 1) := by decide +kernel
theorem d_M_between_130 : decode (iC M_M_between) 130 = .ok (.iadd, 1) := by decide +kernel
theorem d_M_between_131 : decode (iC M_M_between) 131 = .ok (.invokevirtual 60, 3) := by decide +kernel
theorem d_M_between_134 : decode (iC M_M_between) 134 = .ok (.iadd, 1) := by decide +kernel
theorem d_M_between_135 : decode (iC M_M_between) 135 = .ok (.iconst 2, 1) := by decide +kernel
theorem d_M_between_136 : decode (iC M_M_between) 136 = .ok (.iadd, 1) := by decide +kernel
theorem d_M_between_137 : decode (iC M_M_between) 137 = .ok (.iconst 2, 1) := by decide +kernel
theorem d_M_between_138 : decode (iC M_M_between) 138 = .ok (.ishr, 1) := by decide +kernel
theorem d_M_between_139 : decode (iC M_M_between) 139 = .ok (.ireturn, 1) := by decide +kernel
theorem d_M_dotOf_0 : decode (iC M_M_dotOf) 0 = .ok (.aload_n 0, 1) := by decide +kernel
theorem d_M_dotOf_1 : decode (iC M_M_dotOf) 1 = .ok (.iload_n 2, 1) := by decide +kernel
theorem d_M_dotOf_2 : decode (iC M_M_dotOf) 2 = .ok (.invokevirtual 51, 3) := by decide +kernel
theorem d_M_dotOf_5 : decode (iC M_M_dotOf) 5 = .ok (.istore 5, 2) := by decide +kernel
theorem d_M_dotOf_7 : decode (iC M_M_dotOf) 7 = .ok (.aload_n 0, 1) := by decide +kernel
theorem d_M_dotOf_8 : decode (iC M_M_dotOf) 8 = .ok (.iload_n 2, 1) := by decide +kernel
theorem d_M_dotOf_9 : decode (iC M_M_dotOf) 9 = .ok (.invokevirtual 54, 3) := by decide +kernel
theorem d_M_dotOf_12 : decode (iC M_M_dotOf) 12 = .ok (.istore 6, 2) := by decide +kernel
theorem d_M_dotOf_14 : decode (iC M_M_dotOf) 14 = .ok (.iload_n 3, 1) := by decide +kernel
theorem d_M_dotOf_15 : decode (iC M_M_dotOf) 15 = .ok (.ifCond .ge 7, 3) := by decide +kernel
theorem d_M_dotOf_18 : decode (iC M_M_dotOf) 18 = .ok (.iconst 0, 1) := by decide +kernel
theorem d_M_dotOf_19 : decode (iC M_M_dotOf) 19 = .ok (.goto 17, 3) := by decide +kernel
theorem d_M_dotOf_22 : decode (iC M_M_dotOf) 22 = .ok (.iload_n 3, 1) := by decide +kernel
theorem d_M_dotOf_23 : decode (iC M_M_dotOf) 23 = .ok (.iload 5, 2) := by decide +kernel
theorem d_M_dotOf_25 : decode (iC M_M_dotOf) 25 = .ok (.if_icmp .lt 10, 3) := by decide +kernel
theorem d_M_dotOf_28 : decode (iC M_M_dotOf) 28 = .ok (.iload 5, 2) := by decide +kernel
theorem d_M_dotOf_30 : decode (iC M_M_dotOf) 30 = .ok (.iconst 1, 1) := by decide +kernel
theorem d_M_dotOf_31 : decode (iC M_M_dotOf) 31 = .ok (.isub, 1) := by decide +kernel
theorem d_M_dotOf_32 : decode (iC M_M_dotOf) 32 = .ok (.goto 4, 3) := by decide +kernel
theorem d_M_dotOf_35 : decode (iC M_M_dotOf) 35 = .ok (.iload_n 3, 1) := by decide +kernel
theorem d_M_dotOf_36 : decode (iC M_M_dotOf) 36 = .ok (.istore 7, 2) := by decide +kernel
theorem d_M_dotOf_38 : decode (iC M_M_dotOf) 38 = .ok (.iload 4, 2) := by decide +kernel
theorem d_M_dotOf_40 : decode (iC M_M_dotOf) 40 = .ok (.ifCond .ge 7, 3) := by decide +kernel
theorem d_M_dotOf_43 : decode (iC M_M_dotOf) 43 = .ok (.iconst 0, 1) := by decide +kernel
theorem d_M_dotOf_44 : decode (iC M_M_dotOf) 44 = .ok (.goto 19, 3) := by decide +kernel
theorem d_M_dotOf_47 : decode (iC M_M_dotOf) 47 = .ok (.iload 4, 2) := by decide +kernel
theorem d_M_dotOf_49 : decode (iC M_M_dotOf) 49 = .ok (.iload 6, 2) := by decide +kernel
theorem d_M_dotOf_51 : decode (iC M_M_dotOf) 51 = .ok (.if_icmp .lt 10, 3) := by decide +kernel
theorem d_M_dotOf_54 : decode (iC M_M_dotOf) 54 = .ok (.iload 6, 2) := by decide +kernel
theorem d_M_dotOf_56 : decode (iC M_M_dotOf) 56 = .ok (.iconst 1, 1) := by decide +kernel
theorem d_M_dotOf_57 : decode (iC M_M_dotOf) 57 = .ok (.isub, 1) := by decide +kernel
theorem d_M_dotOf_58 : decode (iC M_M_dotOf) 58 = .ok (.goto 5, 3) := by decide +kernel
theorem d_M_dotOf_61 : decode (iC M_M_dotOf) 61 = .ok (.iload 4, 2) := by decide +kernel
theorem d_M_dotOf_63 : decode (iC M_M_dotOf) 63 = .ok (.istore 8, 2) := by decide +kernel
theorem d_M_dotOf_65 : decode (iC M_M_dotOf) 65 = .ok (.aload_n 1, 1) := by decide +kernel
theorem d_M_dotOf_66 : decode (iC M_M_dotOf) 66 = .ok (.aload_n 0, 1) := by decide +kernel
theorem d_M_dotOf_67 : decode (iC M_M_dotOf) 67 = .ok (.iload_n 2, 1) := by decide +kernel
theorem d_M_dotOf_68 : decode (iC M_M_dotOf) 68 = .ok (.invokevirtual 57, 3) := by decide +kernel
theorem d_M_dotOf_71 : decode (iC M_M_dotOf) 71 = .ok (.iload 5, 2) := by decide +kernel
theorem d_M_dotOf_73 : decode (iC M_M_dotOf) 73 = .ok (.iload 8, 2) := by decide +kernel
theorem d_M_dotOf_75 : decode (iC M_M_dotOf) 75 = .ok (.imul, 1) := by decide +kernel
theorem d_M_dotOf_76 : decode (iC M_M_dotOf) 76 = .ok (.iadd, 1) := by decide +kernel
theorem d_M_dotOf_77 : decode (iC M_M_dotOf) 77 = .ok (.iload 7, 2) := by decide +kernel
theorem d_M_dotOf_79 : decode (iC M_M_dotOf) 79 = .ok (.iadd, 1) := by decide +kernel
theorem d_M_dotOf_80 : decode (iC M_M_dotOf) 80 = .ok (.iaload, 1) := by decide +kernel
theorem d_M_dotOf_81 : decode (iC M_M_dotOf) 81 = .ok (.ireturn, 1) := by decide +kernel
theorem d_M_planeHeight_0 : decode (iC M_M_planeHeight) 0 = .ok (.iload_n 1, 1) := by decide +kernel
theorem d_M_planeHeight_1 : decode (iC M_M_planeHeight) 1 = .ok (.ifCond .ne 13, 3) := by decide +kernel
theorem d_M_planeHeight_4 : decode (iC M_M_planeHeight) 4 = .ok (.bipush 16, 2) := by decide +kernel
theorem d_M_planeHeight_6 : decode (iC M_M_planeHeight) 6 = .ok (.aload_n 0, 1) := by decide +kernel
theorem d_M_planeHeight_7 : decode (iC M_M_planeHeight) 7 = .ok (.getfield 38, 3) := by decide +kernel
theorem d_M_planeHeight_10 : decode (iC M_M_planeHeight) 10 = .ok (.imul, 1) := by decide +kernel
theorem d_M_planeHeight_11 : decode (iC M_M_planeHeight) 11 = .ok (.goto 10, 3) := by decide +kernel
theorem d_M_planeHeight_14 : decode (iC M_M_planeHeight) 14 = .ok (.bipush 8, 2) := by decide +kernel
theorem d_M_planeHeight_16 : decode (iC M_M_planeHeight) 16 = .ok (.aload_n 0, 1) := by decide +kernel
theorem d_M_planeHeight_17 : decode (iC M_M_planeHeight) 17 = .ok (.getfield 38, 3) := by decide +kernel
theorem d_M_planeHeight_20 : decode (iC M_M_planeHeight) 20 = .ok (.imul, 1) := by decide +kernel
theorem d_M_planeHeight_21 : decode (iC M_M_planeHeight) 21 = .ok (.ireturn, 1) := by decide +kernel
theorem d_M_square_0 : decode (iC M_M_square) 0 = .ok (.aload_n 0, 1) := by decide +kernel
theorem d_M_square_1 : decode (iC M_M_square) 1 = .ok (.aload_n 0, 1) := by decide +kernel
theorem d_M_square_2 : decode (iC M_M_square) 2 = .ok (.getfield 70, 3) := by decide +kernel
theorem d_M_square_5 : decode (iC M_M_square) 5 = .ok (.iconst 1, 1) := by decide +kernel
theorem d_M_square_6 : decode (iC M_M_square) 6 = .ok (.if_icmp .eq 11, 3) := by decide +kernel
theorem d_M_square_9 : decode (iC M_M_square) 9 = .ok (.aload_n 0, 1) := by decide +kernel
theorem d_M_square_10 : decode (iC M_M_square) 10 = .ok (.invokevirtual 24, 3) := by decide +kernel
theorem d_M_square_13 : decode (iC M_M_square) 13 = .ok (.iconst 1, 1) := by decide +kernel
theorem d_M_square_14 : decode (iC M_M_square) 14 = .ok (.if_icmp .ne 7, 3) := by decide +kernel
theorem d_M_square_17 : decode (iC M_M_square) 17 = .ok (.iconst 1, 1) := by decide +kernel
theorem d_M_square_18 : decode (iC M_M_square) 18 = .ok (.goto 4, 3) := by decide +kernel
theorem d_M_square_21 : decode (iC M_M_square) 21 = .ok (.iconst 0, 1) := by decide +kernel
theorem d_M_square_22 : decode (iC M_M_square) 22 = .ok (.putfield 132, 3) := by decide +kernel
theorem d_M_square_25 : decode (iC M_M_square) 25 = .ok (.aload_n 0, 1) := by decide +kernel
theorem d_M_square_26 : decode (iC M_M_square) 26 = .ok (.iconst 0, 1) := by decide +kernel
theorem d_M_square_27 : decode (iC M_M_square) 27 = .ok (.putfield 79, 3) := by decide +kernel
theorem d_M_square_30 : decode (iC M_M_square) 30 = .ok (.aload_n 0, 1) := by decide +kernel
theorem d_M_square_31 : decode (iC M_M_square) 31 = .ok (.iconst 0, 1) := by decide +kernel
theorem d_M_square_32 : decode (iC M_M_square) 32 = .ok (.putfield 83, 3) := by decide +kernel
theorem d_M_square_35 : decode (iC M_M_square) 35 = .ok (.iconst 0, 1) := by decide +kernel
theorem d_M_square_36 : decode (iC M_M_square) 36 = .ok (.istore_n 2, 1) := by decide +kernel
theorem d_M_square_37 : decode (iC M_M_square) 37 = .ok (.aload_n 0, 1) := by decide +kernel
theorem d_M_square_38 : decode (iC M_M_square) 38 = .ok (.getfield 132, 3) := by decide +kernel
theorem d_M_square_41 : decode (iC M_M_square) 41 = .ok (.ifCond .ne 33, 3) := by decide +kernel
theorem d_M_square_44 : decode (iC M_M_square) 44 = .ok (.aload_n 0, 1) := by decide +kernel
theorem d_M_square_45 : decode (iC M_M_square) 45 = .ok (.getfield 70, 3) := by decide +kernel
theorem d_M_square_48 : decode (iC M_M_square) 48 = .ok (.iconst 2, 1) := by decide +kernel
theorem d_M_square_49 : decode (iC M_M_square) 49 = .ok (.if_icmp .ne 25, 3) := by decide +kernel
theorem d_M_square_52 : decode (iC M_M_square) 52 = .ok (.aload_n 0, 1) := by decide +kernel
theorem d_M_square_53 : decode (iC M_M_square) 53 = .ok (.invokevirtual 24, 3) := by decide +kernel
theorem d_M_square_56 : decode (iC M_M_square) 56 = .ok (.iconst 1, 1) := by decide +kernel
theorem d_M_square_57 : decode (iC M_M_square) 57 = .ok (.if_icmp .ne 7, 3) := by decide +kernel
theorem d_M_square_60 : decode (iC M_M_square) 60 = .ok (.iconst 1, 1) := by decide +kernel
theorem d_M_square_61 : decode (iC M_M_square) 61 = .ok (.goto 4, 3) := by decide +kernel
theorem d_M_square_64 : decode (iC M_M_square) 64 = .ok (.iconst 0, 1) := by decide +kernel
theorem d_M_square_65 : decode (iC M_M_square) 65 = .ok (.istore_n 2, 1) := by decide +kernel
theorem d_M_square_66 : decode (iC M_M_square) 66 = .ok (.aload_n 0, 1) := by decide +kernel
theorem d_M_square_67 : decode (iC M_M_square) 67 = .ok (.iconst 1, 1) := by decide +kernel
theorem d_M_square_68 : decode (iC M_M_square) 68 = .ok (.putfield 79, 3) := by decide +kernel
theorem d_M_square_71 : decode (iC M_M_square) 71 = .ok (.goto 80, 3) := by decide +kernel
theorem d_M_square_74 : decode (iC M_M_square) 74 = .ok (.aload_n 0, 1) := by decide +kernel
theorem d_M_square_75 : decode (iC M_M_square) 75 = .ok (.getfield 132, 3) := by decide +kernel
theorem d_M_square_78 : decode (iC M_M_square) 78 = .ok (.ifCond .ne 73, 3) := by decide +kernel
theorem d_M_square_81 : decode (iC M_M_square) 81 = .ok (.aload_n 0, 1) := by decide +kernel
theorem d_M_square_82 : decode (iC M_M_square) 82 = .ok (.aload_n 0, 1) := by decide +kernel
theorem d_M_square_83 : decode (iC M_M_square) 83 = .ok (.invokevirtual 24, 3) := by decide +kernel
theorem d_M_square_86 : decode (iC M_M_square) 86 = .ok (.iconst 1, 1) := by decide +kernel
theorem d_M_square_87 : decode (iC M_M_square) 87 = .ok (.if_icmp .ne 7, 3) := by decide +kernel
theorem d_M_square_90 : decode (iC M_M_square) 90 = .ok (.iconst 1, 1) := by decide +kernel
theorem d_M_square_91 : decode (iC M_M_square) 91 = .ok (.goto 4, 3) := by decide +kernel
theorem d_M_square_94 : decode (iC M_M_square) 94 = .ok (.iconst 0, 1) := by decide +kernel
theorem d_M_square_95 : decode (iC M_M_square) 95 = .ok (.putfield 79, 3) := by decide +kernel
theorem d_M_square_98 : decode (iC M_M_square) 98 = .ok (.aload_n 0, 1) := by decide +kernel
theorem d_M_square_99 : decode (iC M_M_square) 99 = .ok (.aload_n 0, 1) := by decide +kernel
theorem d_M_square_100 : decode (iC M_M_square) 100 = .ok (.invokevirtual 24, 3) := by decide +kernel
theorem d_M_square_103 : decode (iC M_M_square) 103 = .ok (.iconst 1, 1) := by decide +kernel
theorem d_M_square_104 : decode (iC M_M_square) 104 = .ok (.if_icmp .ne 7, 3) := by decide +kernel
theorem d_M_square_107 : decode (iC M_M_square) 107 = .ok (.iconst 1, 1) := by decide +kernel
theorem d_M_square_108 : decode (iC M_M_square) 108 = .ok (.goto 4, 3) := by decide +kernel
theorem d_M_square_111 : decode (iC M_M_square) 111 = .ok (.iconst 0, 1) := by decide +kernel
theorem d_M_square_112 : decode (iC M_M_square) 112 = .ok (.putfield 83, 3) := by decide +kernel
theorem d_M_square_115 : decode (iC M_M_square) 115 = .ok (.aload_n 0, 1) := by decide +kernel
theorem d_M_square_116 : decode (iC M_M_square) 116 = .ok (.getfield 7, 3) := by decide +kernel
theorem d_M_square_119 : decode (iC M_M_square) 119 = .ok (.ifCond .ge 32, 3) := by decide +kernel
theorem d_M_square_122 : decode (iC M_M_square) 122 = .ok (.aload_n 0, 1) := by decide +kernel
theorem d_M_square_123 : decode (iC M_M_square) 123 = .ok (.getfield 79, 3) := by decide +kernel
theorem d_M_square_126 : decode (iC M_M_square) 126 = .ok (.ifCond .ne 25, 3) := by decide +kernel
theorem d_M_square_129 : decode (iC M_M_square) 129 = .ok (.aload_n 0, 1) := by decide +kernel
theorem d_M_square_130 : decode (iC M_M_square) 130 = .ok (.getfield 83, 3) := by decide +kernel
theorem d_M_square_133 : decode (iC M_M_square) 133 = .ok (.ifCond .ne 18, 3) := by decide +kernel
theorem d_M_square_136 : decode (iC M_M_square) 136 = .ok (.aload_n 0, 1) := by decide +kernel
theorem d_M_square_137 : decode (iC M_M_square) 137 = .ok (.aload_n 0, 1) := by decide +kernel
theorem d_M_square_138 : decode (iC M_M_square) 138 = .ok (.getfield 10, 3) := by decide +kernel
theorem d_M_square_141 : decode (iC M_M_square) 141 = .ok (.iconst 1, 1) := by decide +kernel
theorem d_M_square_142 : decode (iC M_M_square) 142 = .ok (.isub, 1) := by decide +kernel
theorem d_M_square_143 : decode (iC M_M_square) 143 = .ok (.invokevirtual 16, 3) := by decide +kernel
theorem d_M_square_146 : decode (iC M_M_square) 146 = .ok (.ifCond .eq 5, 3) := by decide +kernel
theorem d_M_square_149 : decode (iC M_M_square) 149 = .ok (.iconst 0, 1) := by decide +kernel
theorem d_M_square_150 : decode (iC M_M_square) 150 = .ok (.ireturn, 1) := by decide +kernel
theorem d_M_square_151 : decode (iC M_M_square) 151 = .ok (.aload_n 0, 1) := by decide +kernel
theorem d_M_square_152 : decode (iC M_M_square) 152 = .ok (.getfield 132, 3) := by decide +kernel
theorem d_M_square_155 : decode (iC M_M_square) 155 = .ok (.ifCond .ne 11, 3) := by decide +kernel
theorem d_M_square_158 : decode (iC M_M_square) 158 = .ok (.aload_n 0, 1) := by decide +kernel
theorem d_M_square_159 : decode (iC M_M_square) 159 = .ok (.invokevirtual 24, 3) := by decide +kernel
theorem d_M_square_162 : decode (iC M_M_square) 162 = .ok (.iconst 1, 1) := by decide +kernel
theorem d_M_square_163 : decode (iC M_M_square) 163 = .ok (.if_icmp .ne 7, 3) := by decide +kernel
theorem d_M_square_166 : decode (iC M_M_square) 166 = .ok (.iconst 1, 1) := by decide +kernel
theorem d_M_square_167 : decode (iC M_M_square) 167 = .ok (.goto 4, 3) := by decide +kernel
theorem d_M_square_170 : decode (iC M_M_square) 170 = .ok (.iconst 0, 1) := by decide +kernel
theorem d_M_square_171 : decode (iC M_M_square) 171 = .ok (.istore_n 3, 1) := by decide +kernel
theorem d_M_square_172 : decode (iC M_M_square) 172 = .ok (.iload_n 3, 1) := by decide +kernel
theorem d_M_square_173 : decode (iC M_M_square) 173 = .ok (.ifCond .eq 20, 3) := by decide +kernel
theorem d_M_square_176 : decode (iC M_M_square) 176 = .ok (.aload_n 0, 1) := by decide +kernel
theorem d_M_square_177 : decode (iC M_M_square) 177 = .ok (.invokevirtual 24, 3) := by decide +kernel
theorem d_M_square_180 : decode (iC M_M_square) 180 = .ok (.iconst 1, 1) := by decide +kernel
theorem d_M_square_181 : decode (iC M_M_square) 181 = .ok (.if_icmp .ne 12, 3) := by decide +kernel
theorem d_M_square_184 : decode (iC M_M_square) 184 = .ok (.aload_n 0, 1) := by decide +kernel
theorem d_M_square_185 : decode (iC M_M_square) 185 = .ok (.aload_n 0, 1) := by decide +kernel
theorem d_M_square_186 : decode (iC M_M_square) 186 = .ok (.iconst 5, 1) := by decide +kernel
theorem d_M_square_187 : decode (iC M_M_square) 187 = .ok (.invokevirtual 167, 3) := by decide +kernel
theorem d_M_square_190 : decode (iC M_M_square) 190 = .ok (.putfield 135, 3) := by decide +kernel
theorem d_M_square_193 : decode (iC M_M_square) 193 = .ok (.aload_n 0, 1) := by decide +kernel
theorem d_M_square_194 : decode (iC M_M_square) 194 = .ok (.getfield 7, 3) := by decide +kernel
theorem d_M_square_197 : decode (iC M_M_square) 197 = .ok (.ifCond .lt 5, 3) := by decide +kernel
theorem d_M_square_200 : decode (iC M_M_square) 200 = .ok (.iconst 0, 1) := by decide +kernel
theorem d_M_square_201 : decode (iC M_M_square) 201 = .ok (.ireturn, 1) := by decide +kernel
theorem d_M_square_202 : decode (iC M_M_square) 202 = .ok (.iconst 0, 1) := by decide +kernel
theorem d_M_square_203 : decode (iC M_M_square) 203 = .ok (.istore 4, 2) := by decide +kernel
theorem d_M_square_205 : decode (iC M_M_square) 205 = .ok (.iload 4, 2) := by decide +kernel
theorem d_M_square_207 : decode (iC M_M_square) 207 = .ok (.iconst 4, 1) := by decide +kernel
theorem d_M_square_208 : decode (iC M_M_square) 208 = .ok (.if_icmp .ge 17, 3) := by decide +kernel
theorem d_M_square_211 : decode (iC M_M_square) 211 = .ok (.aload_n 0, 1) := by decide +kernel
theorem d_M_square_212 : decode (iC M_M_square) 212 = .ok (.getfield 64, 3) := by decide +kernel
theorem d_M_square_215 : decode (iC M_M_square) 215 = .ok (.iload 4, 2) := by decide +kernel
theorem d_M_square_217 : decode (iC M_M_square) 217 = .ok (.iconst 0, 1) := by decide +kernel
theorem d_M_square_218 : decode (iC M_M_square) 218 = .ok (.iastore, 1) := by decide +kernel
theorem d_M_square_219 : decode (iC M_M_square) 219 = .ok (.iinc 4 1, 3) := by decide +kernel
theorem d_M_square_222 : decode (iC M_M_square) 222 = .ok (.goto (-17), 3) := by decide +kernel
theorem d_M_square_225 : decode (iC M_M_square) 225 = .ok (.aload_n 0, 1) := by decide +kernel
theorem d_M_square_226 : decode (iC M_M_square) 226 = .ok (.getfield 70, 3) := by decide +kernel
theorem d_M_square_229 : decode (iC M_M_square) 229 = .ok (.iconst 2, 1) := by decide +kernel
theorem d_M_square_230 : decode (iC M_M_square) 230 = .ok (.if_icmp .ne 10, 3) := by decide +kernel
theorem d_M_square_233 : decode (iC M_M_square) 233 = .ok (.iload_n 2, 1) := by decide +kernel
theorem d_M_square_234 : decode (iC M_M_square) 234 = .ok (.ifCond .eq 23, 3) := by decide +kernel
theorem d_M_square_237 : decode (iC M_M_square) 237 = .ok (.goto 10, 3) := by decide +kernel
theorem d_M_square_240 : decode (iC M_M_square) 240 = .ok (.aload_n 0, 1) := by decide +kernel
theorem d_M_square_241 : decode (iC M_M_square) 241 = .ok (.getfield 79, 3) := by decide +kernel
theorem d_M_square_244 : decode (iC M_M_square) 244 = .ok (.ifCond .eq 13, 3) := by decide +kernel
theorem d_M_square_247 : decode (iC M_M_square) 247 = .ok (.aload_n 0, 1) := by decide +kernel
theorem d_M_square_248 : decode (iC M_M_square) 248 = .ok (.iconst 0, 1) := by decide +kernel
theorem d_M_square_249 : decode (iC M_M_square) 249 = .ok (.invokevirtual 170, 3) := by decide +kernel
theorem d_M_square_252 : decode (iC M_M_square) 252 = .ok (.ifCond .ne 5, 3) := by decide +kernel
theorem d_M_square_255 : decode (iC M_M_square) 255 = .ok (.iconst 0, 1) := by decide +kernel
theorem d_M_square_256 : decode (iC M_M_square) 256 = .ok (.ireturn, 1) := by decide +kernel
theorem d_M_square_257 : decode (iC M_M_square) 257 = .ok (.aload_n 0, 1) := by decide +kernel
theorem d_M_square_258 : decode (iC M_M_square) 258 = .ok (.getfield 83, 3) := by decide +kernel
theorem d_M_square_261 : decode (iC M_M_square) 261 = .ok (.ifCond .eq 13, 3) := by decide +kernel
theorem d_M_square_264 : decode (iC M_M_square) 264 = .ok (.aload_n 0, 1) := by decide +kernel
theorem d_M_square_265 : decode (iC M_M_square) 265 = .ok (.iconst 1, 1) := by decide +kernel
theorem d_M_square_266 : decode (iC M_M_square) 266 = .ok (.invokevirtual 170, 3) := by decide +kernel
theorem d_M_square_269 : decode (iC M_M_square) 269 = .ok (.ifCond .ne 5, 3) := by decide +kernel
theorem d_M_square_272 : decode (iC M_M_square) 272 = .ok (.iconst 0, 1) := by decide +kernel
theorem d_M_square_273 : decode (iC M_M_square) 273 = .ok (.ireturn, 1) := by decide +kernel
theorem d_M_square_274 : decode (iC M_M_square) 274 = .ok (.aload_n 0, 1) := by decide +kernel
theorem d_M_square_275 : decode (iC M_M_square) 275 = .ok (.getfield 132, 3) := by decide +kernel
theorem d_M_square_278 : decode (iC M_M_square) 278 = .ok (.ifCond .eq 8, 3) := by decide +kernel
theorem d_M_square_281 : decode (iC M_M_square) 281 = .ok (.bipush 63, 2) := by decide +kernel
theorem d_M_square_283 : decode (iC M_M_square) 283 = .ok (.goto 17, 3) := by decide +kernel
theorem d_M_square_286 : decode (iC M_M_square) 286 = .ok (.iload_n 3, 1) := by decide +kernel
theorem d_M_square_287 : decode (iC M_M_square) 287 = .ok (.ifCond .eq 12, 3) := by decide +kernel
theorem d_M_square_290 : decode (iC M_M_square) 290 = .ok (.aload_n 0, 1) := by decide +kernel
theorem d_M_square_291 : decode (iC M_M_square) 291 = .ok (.bipush 6, 2) := by decide +kernel
theorem d_M_square_293 : decode (iC M_M_square) 293 = .ok (.invokevirtual 28, 3) := by decide +kernel
theorem d_M_square_296 : decode (iC M_M_square) 296 = .ok (.goto 4, 3) := by decide +kernel
theorem d_M_square_299 : decode (iC M_M_square) 299 = .ok (.iconst 0, 1) := by decide +kernel
theorem d_M_square_300 : decode (iC M_M_square) 300 = .ok (.istore 4, 2) := by decide +kernel
theorem d_M_square_302 : decode (iC M_M_square) 302 = .ok (.aload_n 0, 1) := by decide +kernel
theorem d_M_square_303 : decode (iC M_M_square) 303 = .ok (.getfield 7, 3) := by decide +kernel
theorem d_M_square_306 : decode (iC M_M_square) 306 = .ok (.ifCond .lt 5, 3) := by decide +kernel
theorem d_M_square_309 : decode (iC M_M_square) 309 = .ok (.iconst 0, 1) := by decide +kernel
theorem d_M_square_310 : decode (iC M_M_square) 310 = .ok (.ireturn, 1) := by decide +kernel
theorem d_M_square_311 : decode (iC M_M_square) 311 = .ok (.aload_n 0, 1) := by decide +kernel
theorem d_M_square_312 : decode (iC M_M_square) 312 = .ok (.getfield 132, 3) := by decide +kernel
theorem d_M_square_315 : decode (iC M_M_square) 315 = .ok (.ifCond .ne 8, 3) := by decide +kernel
theorem d_M_square_318 : decode (iC M_M_square) 318 = .ok (.aload_n 0, 1) := by decide +kernel
theorem d_M_square_319 : decode (iC M_M_square) 319 = .ok (.iload_n 1, 1) := by decide +kernel
theorem d_M_square_320 : decode (iC M_M_square) 320 = .ok (.invokevirtual 173, 3) := by decide +kernel
theorem d_M_square_323 : decode (iC M_M_square) 323 = .ok (.aload_n 0, 1) := by decide +kernel
theorem d_M_square_324 : decode (iC M_M_square) 324 = .ok (.iload_n 1, 1) := by decide +kernel
theorem d_M_square_325 : decode (iC M_M_square) 325 = .ok (.iload 4, 2) := by decide +kernel
theorem d_M_square_327 : decode (iC M_M_square) 327 = .ok (.invokevirtual 177, 3) := by decide +kernel
theorem d_M_square_330 : decode (iC M_M_square) 330 = .ok (.ifCond .ne 5, 3) := by decide +kernel
theorem d_M_square_333 : decode (iC M_M_square) 333 = .ok (.iconst 0, 1) := by decide +kernel
theorem d_M_square_334 : decode (iC M_M_square) 334 = .ok (.ireturn, 1) := by decide +kernel
theorem d_M_square_335 : decode (iC M_M_square) 335 = .ok (.aload_n 0, 1) := by decide +kernel
theorem d_M_square_336 : decode (iC M_M_square) 336 = .ok (.dup, 1) := by decide +kernel
theorem d_M_square_337 : decode (iC M_M_square) 337 = .ok (.getfield 181, 3) := by decide +kernel
theorem d_M_square_340 : decode (iC M_M_square) 340 = .ok (.iconst 1, 1) := by decide +kernel
theorem d_M_square_341 : decode (iC M_M_square) 341 = .ok (.iadd, 1) := by decide +kernel
theorem d_M_square_342 : decode (iC M_M_square) 342 = .ok (.putfield 181, 3) := by decide +kernel
theorem d_M_square_345 : decode (iC M_M_square) 345 = .ok (.aload_n 0, 1) := by decide +kernel
theorem d_M_square_346 : decode (iC M_M_square) 346 = .ok (.dup, 1) := by decide +kernel
theorem d_M_square_347 : decode (iC M_M_square) 347 = .ok (.getfield 184, 3) := by decide +kernel
theorem d_M_square_350 : decode (iC M_M_square) 350 = .ok (.aload_n 0, 1) := by decide +kernel
theorem d_M_square_351 : decode (iC M_M_square) 351 = .ok (.getfield 132, 3) := by decide +kernel
theorem d_M_square_354 : decode (iC M_M_square) 354 = .ok (.ifCond .eq 7, 3) := by decide +kernel
theorem d_M_square_357 : decode (iC M_M_square) 357 = .ok (.iconst 1, 1) := by decide +kernel
theorem d_M_square_358 : decode (iC M_M_square) 358 = .ok (.goto 4, 3) := by decide +kernel
theorem d_M_square_361 : decode (iC M_M_square) 361 = .ok (.iconst 0, 1) := by decide +kernel
theorem d_M_square_362 : decode (iC M_M_square) 362 = .ok (.iadd, 1) := by decide +kernel
theorem d_M_square_363 : decode (iC M_M_square) 363 = .ok (.putfield 184, 3) := by decide +kernel
theorem d_M_square_366 : decode (iC M_M_square) 366 = .ok (.aload_n 0, 1) := by decide +kernel
theorem d_M_square_367 : decode (iC M_M_square) 367 = .ok (.getfield 132, 3) := by decide +kernel
theorem d_M_square_370 : decode (iC M_M_square) 370 = .ok (.ifCond .ne 7, 3) := by decide +kernel
theorem d_M_square_373 : decode (iC M_M_square) 373 = .ok (.aload_n 0, 1) := by decide +kernel
theorem d_M_square_374 : decode (iC M_M_square) 374 = .ok (.invokevirtual 187, 3) := by decide +kernel
theorem d_M_square_377 : decode (iC M_M_square) 377 = .ok (.aload_n 0, 1) := by decide +kernel
theorem d_M_square_378 : decode (iC M_M_square) 378 = .ok (.getfield 132, 3) := by decide +kernel
theorem d_M_square_381 : decode (iC M_M_square) 381 = .ok (.ifCond .ne 15, 3) := by decide +kernel
theorem d_M_square_384 : decode (iC M_M_square) 384 = .ok (.aload_n 0, 1) := by decide +kernel
theorem d_M_square_385 : decode (iC M_M_square) 385 = .ok (.getfield 70, 3) := by decide +kernel
theorem d_M_square_388 : decode (iC M_M_square) 388 = .ok (.iconst 2, 1) := by decide +kernel
theorem d_M_square_389 : decode (iC M_M_square) 389 = .ok (.if_icmp .ne 11, 3) := by decide +kernel
theorem d_M_square_392 : decode (iC M_M_square) 392 = .ok (.iload_n 2, 1) := by decide +kernel
theorem d_M_square_393 : decode (iC M_M_square) 393 = .ok (.ifCond .ne 7, 3) := by decide +kernel
theorem d_M_square_396 : decode (iC M_M_square) 396 = .ok (.aload_n 0, 1) := by decide +kernel
theorem d_M_square_397 : decode (iC M_M_square) 397 = .ok (.invokevirtual 190, 3) := by decide +kernel
theorem d_M_square_400 : decode (iC M_M_square) 400 = .ok (.iconst 1, 1) := by decide +kernel
theorem d_M_square_401 : decode (iC M_M_square) 401 = .ok (.ireturn, 1) := by decide +kernel
theorem d_M_vector_0 : decode (iC M_M_vector) 0 = .ok (.bipush 16, 2) := by decide +kernel
theorem d_M_vector_2 : decode (iC M_M_vector) 2 = .ok (.aload_n 0, 1) := by decide +kernel
theorem d_M_vector_3 : decode (iC M_M_vector) 3 = .ok (.getfield 164, 3) := by decide +kernel
theorem d_M_vector_6 : decode (iC M_M_vector) 6 = .ok (.ishl, 1) := by decide +kernel
theorem d_M_vector_7 : decode (iC M_M_vector) 7 = .ok (.istore_n 2, 1) := by decide +kernel
theorem d_M_vector_8 : decode (iC M_M_vector) 8 = .ok (.iconst 2, 1) := by decide +kernel
theorem d_M_vector_9 : decode (iC M_M_vector) 9 = .ok (.iload_n 1, 1) := by decide +kernel
theorem d_M_vector_10 : decode (iC M_M_vector) 10 = .ok (.imul, 1) := by decide +kernel
theorem d_M_vector_11 : decode (iC M_M_vector) 11 = .ok (.istore_n 3, 1) := by decide +kernel
theorem d_M_vector_12 : decode (iC M_M_vector) 12 = .ok (.iload_n 3, 1) := by decide +kernel
theorem d_M_vector_13 : decode (iC M_M_vector) 13 = .ok (.iconst 2, 1) := by decide +kernel
theorem d_M_vector_14 : decode (iC M_M_vector) 14 = .ok (.iload_n 1, 1) := by decide +kernel
theorem d_M_vector_15 : decode (iC M_M_vector) 15 = .ok (.imul, 1) := by decide +kernel
theorem d_M_vector_16 : decode (iC M_M_vector) 16 = .ok (.iconst 2, 1) := by decide +kernel
theorem d_M_vector_17 : decode (iC M_M_vector) 17 = .ok (.iadd, 1) := by decide +kernel
theorem d_M_vector_18 : decode (iC M_M_vector) 18 = .ok (.if_icmp .ge 118, 3) := by decide +kernel
theorem d_M_vector_21 : decode (iC M_M_vector) 21 = .ok (.aload_n 0, 1) := by decide +kernel
theorem d_M_vector_22 : decode (iC M_M_vector) 22 = .ok (.getfield 10, 3) := by decide +kernel
theorem d_M_vector_25 : decode (iC M_M_vector) 25 = .ok (.istore 4, 2) := by decide +kernel
theorem d_M_vector_27 : decode (iC M_M_vector) 27 = .ok (.aload_n 0, 1) := by decide +kernel
theorem d_M_vector_28 : decode (iC M_M_vector) 28 = .ok (.invokevirtual 145, 3) := by decide +kernel
theorem d_M_vector_31 : decode (iC M_M_vector) 31 = .ok (.istore 5, 2) := by decide +kernel
theorem d_M_vector_33 : decode (iC M_M_vector) 33 = .ok (.aload_n 0, 1) := by decide +kernel
theorem d_M_vector_34 : decode (iC M_M_vector) 34 = .ok (.getfield 7, 3) := by decide +kernel
theorem d_M_vector_37 : decode (iC M_M_vector) 37 = .ok (.ifCond .ge 29, 3) := by decide +kernel
theorem d_M_vector_40 : decode (iC M_M_vector) 40 = .ok (.iload 5, 2) := by decide +kernel
theorem d_M_vector_42 : decode (iC M_M_vector) 42 = .ok (.iload_n 2, 1) := by decide +kernel
theorem d_M_vector_43 : decode (iC M_M_vector) 43 = .ok (.ineg, 1) := by decide +kernel
theorem d_M_vector_44 : decode (iC M_M_vector) 44 = .ok (.iconst 2, 1) := by decide +kernel
theorem d_M_vector_45 : decode (iC M_M_vector) 45 = .ok (.idiv, 1) := by decide +kernel
theorem d_M_vector_46 : decode (iC M_M_vector) 46 = .ok (.if_icmp .lt 11, 3) := by decide +kernel
theorem d_M_vector_49 : decode (iC M_M_vector) 49 = .ok (.iload 5, 2) := by decide +kernel
theorem d_M_vector_51 : decode (iC M_M_vector) 51 = .ok (.iload_n 2, 1) := by decide +kernel
theorem d_M_vector_52 : decode (iC M_M_vector) 52 = .ok (.iconst 2, 1) := by decide +kernel
theorem d_M_vector_53 : decode (iC M_M_vector) 53 = .ok (.idiv, 1) := by decide +kernel
theorem d_M_vector_54 : decode (iC M_M_vector) 54 = .ok (.if_icmp .lt 14, 3) := by decide +kernel
theorem d_M_vector_57 : decode (iC M_M_vector) 57 = .ok (.aload_n 0, 1) := by decide +kernel
theorem d_M_vector_58 : decode (iC M_M_vector) 58 = .ok (.iload 4, 2) := by decide +kernel
theorem d_M_vector_60 : decode (iC M_M_vector) 60 = .ok (.invokevirtual 16, 3) := by decide +kernel
theorem d_M_vector_63 : decode (iC M_M_vector) 63 = .ok (.ifCond .eq 5, 3) := by decide +kernel
theorem d_M_vector_66 : decode (iC M_M_vector) 66 = .ok (.iconst 0, 1) := by decide +kernel
theorem d_M_vector_67 : decode (iC M_M_vector) 67 = .ok (.ireturn, 1) := by decide +kernel
theorem d_M_vector_68 : decode (iC M_M_vector) 68 = .ok (.aload_n 0, 1) := by decide +kernel
theorem d_M_vector_69 : decode (iC M_M_vector) 69 = .ok (.getfield 111, 3) := by decide +kernel
theorem d_M_vector_72 : decode (iC M_M_vector) 72 = .ok (.iload_n 3, 1) := by decide +kernel
theorem d_M_vector_73 : decode (iC M_M_vector) 73 = .ok (.iaload, 1) := by decide +kernel
theorem d_M_vector_74 : decode (iC M_M_vector) 74 = .ok (.iload 5, 2) := by decide +kernel
theorem d_M_vector_76 : decode (iC M_M_vector) 76 = .ok (.iadd, 1) := by decide +kernel
theorem d_M_vector_77 : decode (iC M_M_vector) 77 = .ok (.istore 6, 2) := by decide +kernel
theorem d_M_vector_79 : decode (iC M_M_vector) 79 = .ok (.iload 6, 2) := by decide +kernel
theorem d_M_vector_81 : decode (iC M_M_vector) 81 = .ok (.iload_n 2, 1) := by decide +kernel
theorem d_M_vector_82 : decode (iC M_M_vector) 82 = .ok (.ineg, 1) := by decide +kernel
theorem d_M_vector_83 : decode (iC M_M_vector) 83 = .ok (.iconst 2, 1) := by decide +kernel
theorem d_M_vector_84 : decode (iC M_M_vector) 84 = .ok (.idiv, 1) := by decide +kernel
theorem d_M_vector_85 : decode (iC M_M_vector) 85 = .ok (.if_icmp .ge 10, 3) := by decide +kernel
theorem d_M_vector_88 : decode (iC M_M_vector) 88 = .ok (.iload 6, 2) := by decide +kernel
theorem d_M_vector_90 : decode (iC M_M_vector) 90 = .ok (.iload_n 2, 1) := by decide +kernel
theorem d_M_vector_91 : decode (iC M_M_vector) 91 = .ok (.iadd, 1) := by decide +kernel
theorem d_M_vector_92 : decode (iC M_M_vector) 92 = .ok (.goto 20, 3) := by decide +kernel
theorem d_M_vector_95 : decode (iC M_M_vector) 95 = .ok (.iload 6, 2) := by decide +kernel
theorem d_M_vector_97 : decode (iC M_M_vector) 97 = .ok (.iload_n 2, 1) := by decide +kernel
theorem d_M_vector_98 : decode (iC M_M_vector) 98 = .ok (.iconst 2, 1) := by decide +kernel
theorem d_M_vector_99 : decode (iC M_M_vector) 99 = .ok (.idiv, 1) := by decide +kernel
theorem d_M_vector_100 : decode (iC M_M_vector) 100 = .ok (.if_icmp .lt 10, 3) := by decide +kernel
theorem d_M_vector_103 : decode (iC M_M_vector) 103 = .ok (.iload 6, 2) := by decide +kernel
theorem d_M_vector_105 : decode (iC M_M_vector) 105 = .ok (.iload_n 2, 1) := by decide +kernel
theorem d_M_vector_106 : decode (iC M_M_vector) 106 = .ok (.isub, 1) := by decide +kernel
theorem d_M_vector_107 : decode (iC M_M_vector) 107 = .ok (.goto 5, 3) := by decide +kernel
theorem d_M_vector_110 : decode (iC M_M_vector) 110 = .ok (.iload 6, 2) := by decide +kernel
theorem d_M_vector_112 : decode (iC M_M_vector) 112 = .ok (.istore 6, 2) := by decide +kernel
theorem d_M_vector_114 : decode (iC M_M_vector) 114 = .ok (.aload_n 0, 1) := by decide +kernel
theorem d_M_vector_115 : decode (iC M_M_vector) 115 = .ok (.getfield 111, 3) := by decide +kernel
theorem d_M_vector_118 : decode (iC M_M_vector) 118 = .ok (.iload_n 3, 1) := by decide +kernel
theorem d_M_vector_119 : decode (iC M_M_vector) 119 = .ok (.iload 6, 2) := by decide +kernel
theorem d_M_vector_121 : decode (iC M_M_vector) 121 = .ok (.iastore, 1) := by decide +kernel
theorem d_M_vector_122 : decode (iC M_M_vector) 122 = .ok (.aload_n 0, 1) := by decide +kernel
theorem d_M_vector_123 : decode (iC M_M_vector) 123 = .ok (.getfield 64, 3) := by decide +kernel
theorem d_M_vector_126 : decode (iC M_M_vector) 126 = .ok (.iload_n 3, 1) := by decide +kernel
theorem d_M_vector_127 : decode (iC M_M_vector) 127 = .ok (.iload 6, 2) := by decide +kernel
theorem d_M_vector_129 : decode (iC M_M_vector) 129 = .ok (.iastore, 1) := by decide +kernel
theorem d_M_vector_130 : decode (iC M_M_vector) 130 = .ok (.iinc 3 1, 3) := by decide +kernel
theorem d_M_vector_133 : decode (iC M_M_vector) 133 = .ok (.goto (-121), 3) := by decide +kernel
theorem d_M_vector_136 : decode (iC M_M_vector) 136 = .ok (.iconst 1, 1) := by decide +kernel
theorem d_M_vector_137 : decode (iC M_M_vector) 137 = .ok (.ireturn, 1) := by decide +kernel
theorem d_M_readS_0 : decode (iC M_M_readS) 0 = .ok (.aload_n 0, 1) := by decide +kernel
theorem d_M_readS_1 : decode (iC M_M_readS) 1 = .ok (.invokevirtual 32, 3) := by decide +kernel
theorem d_M_readS_4 : decode (iC M_M_readS) 4 = .ok (.istore_n 1, 1) := by decide +kernel
theorem d_M_readS_5 : decode (iC M_M_readS) 5 = .ok (.iload_n 1, 1) := by decide +kernel
theorem d_M_readS_6 : decode (iC M_M_readS) 6 = .ok (.iconst 2, 1) := by decide +kernel
theorem d_M_readS_7 : decode (iC M_M_readS) 7 = .ok (.irem, 1) := by decide +kernel
theorem d_M_readS_8 : decode (iC M_M_readS) 8 = .ok (.iconst 1, 1) := by decide +kernel
theorem d_M_readS_9 : decode (iC M_M_readS) 9 = .ok (.if_icmp .ne 11, 3) := by decide +kernel
theorem d_M_readS_12 : decode (iC M_M_readS) 12 = .ok (.iload_n 1, 1) := by decide +kernel
theorem d_M_readS_13 : decode (iC M_M_readS) 13 = .ok (.iconst 1, 1) := by decide +kernel
theorem d_M_readS_14 : decode (iC M_M_readS) 14 = .ok (.iadd, 1) := by decide +kernel
theorem d_M_readS_15 : decode (iC M_M_readS) 15 = .ok (.iconst 2, 1) := by decide +kernel
theorem d_M_readS_16 : decode (iC M_M_readS) 16 = .ok (.idiv, 1) := by decide +kernel
theorem d_M_readS_17 : decode (iC M_M_readS) 17 = .ok (.goto 7, 3) := by decide +kernel
theorem d_M_readS_20 : decode (iC M_M_readS) 20 = .ok (.iload_n 1, 1) := by decide +kernel
theorem d_M_readS_21 : decode (iC M_M_readS) 21 = .ok (.iconst 2, 1) := by decide +kernel
theorem d_M_readS_22 : decode (iC M_M_readS) 22 = .ok (.idiv, 1) := by decide +kernel
theorem d_M_readS_23 : decode (iC M_M_readS) 23 = .ok (.ineg, 1) := by decide +kernel
theorem d_M_readS_24 : decode (iC M_M_readS) 24 = .ok (.ireturn, 1) := by decide +kernel
theorem d_M_allBlocks_0 : decode (iC M_M_allBlocks) 0 = .ok (.bipush 16, 2) := by decide +kernel
theorem d_M_allBlocks_2 : decode (iC M_M_allBlocks) 2 = .ok (.iload_n 1, 1) := by decide +kernel
theorem d_M_allBlocks_3 : decode (iC M_M_allBlocks) 3 = .ok (.aload_n 0, 1) := by decide +kernel
theorem d_M_allBlocks_4 : decode (iC M_M_allBlocks) 4 = .ok (.getfield 35, 3) := by decide +kernel
theorem d_M_allBlocks_7 : decode (iC M_M_allBlocks) 7 = .ok (.irem, 1) := by decide +kernel
theorem d_M_allBlocks_8 : decode (iC M_M_allBlocks) 8 = .ok (.imul, 1) := by decide +kernel
theorem d_M_allBlocks_9 : decode (iC M_M_allBlocks) 9 = .ok (.istore_n 3, 1) := by decide +kernel
theorem d_M_allBlocks_10 : decode (iC M_M_allBlocks) 10 = .ok (.bipush 16, 2) := by decide +kernel
theorem d_M_allBlocks_12 : decode (iC M_M_allBlocks) 12 = .ok (.iload_n 1, 1) := by decide +kernel
theorem d_M_allBlocks_13 : decode (iC M_M_allBlocks) 13 = .ok (.aload_n 0, 1) := by decide +kernel
theorem d_M_allBlocks_14 : decode (iC M_M_allBlocks) 14 = .ok (.getfield 35, 3) := by decide +kernel
theorem d_M_allBlocks_17 : decode (iC M_M_allBlocks) 17 = .ok (.idiv, 1) := by decide +kernel
theorem d_M_allBlocks_18 : decode (iC M_M_allBlocks) 18 = .ok (.imul, 1) := by decide +kernel
theorem d_M_allBlocks_19 : decode (iC M_M_allBlocks) 19 = .ok (.istore 4, 2) := by decide +kernel
theorem d_M_allBlocks_21 : decode (iC M_M_allBlocks) 21 = .ok (.iconst 0, 1) := by decide +kernel
theorem d_M_allBlocks_22 : decode (iC M_M_allBlocks) 22 = .ok (.istore 5, 2) := by decide +kernel
theorem d_M_allBlocks_24 : decode (iC M_M_allBlocks) 24 = .ok (.iload 5, 2) := by decide +kernel
theorem d_M_allBlocks_26 : decode (iC M_M_allBlocks) 26 = .ok (.bipush 6, 2) := by decide +kernel
theorem d_M_allBlocks_28 : decode (iC M_M_allBlocks) 28 = .ok (.if_icmp .ge 110, 3) := by decide +kernel
theorem d_M_allBlocks_31 : decode (iC M_M_allBlocks) 31 = .ok (.iload_n 2, 1) := by decide +kernel
theorem d_M_allBlocks_32 : decode (iC M_M_allBlocks) 32 = .ok (.iconst 5, 1) := by decide +kernel
theorem d_M_allBlocks_33 : decode (iC M_M_allBlocks) 33 = .ok (.iload 5, 2) := by decide +kernel
theorem d_M_allBlocks_35 : decode (iC M_M_allBlocks) 35 = .ok (.isub, 1) := by decide +kernel
theorem d_M_allBlocks_36 : decode (iC M_M_allBlocks) 36 = .ok (.ishr, 1) := by decide +kernel
theorem d_M_allBlocks_37 : decode (iC M_M_allBlocks) 37 = .ok (.iconst 1, 1) := by decide +kernel
theorem d_M_allBlocks_38 : decode (iC M_M_allBlocks) 38 = .ok (.iand, 1) := by decide +kernel
theorem d_M_allBlocks_39 : decode (iC M_M_allBlocks) 39 = .ok (.ifCond .ne 6, 3) := by decide +kernel
theorem d_M_allBlocks_42 : decode (iC M_M_allBlocks) 42 = .ok (.goto 90, 3) := by decide +kernel
theorem d_M_allBlocks_45 : decode (iC M_M_allBlocks) 45 = .ok (.iload 5, 2) := by decide +kernel
theorem d_M_allBlocks_47 : decode (iC M_M_allBlocks) 47 = .ok (.iconst 4, 1) := by decide +kernel
theorem d_M_allBlocks_48 : decode (iC M_M_allBlocks) 48 = .ok (.if_icmp .ge 7, 3) := by decide +kernel
theorem d_M_allBlocks_51 : decode (iC M_M_allBlocks) 51 = .ok (.iconst 0, 1) := by decide +kernel
theorem d_M_allBlocks_52 : decode (iC M_M_allBlocks) 52 = .ok (.goto 7, 3) := by decide +kernel
theorem d_M_allBlocks_55 : decode (iC M_M_allBlocks) 55 = .ok (.iload 5, 2) := by decide +kernel
theorem d_M_allBlocks_57 : decode (iC M_M_allBlocks) 57 = .ok (.iconst 3, 1) := by decide +kernel
theorem d_M_allBlocks_58 : decode (iC M_M_allBlocks) 58 = .ok (.isub, 1) := by decide +kernel
theorem d_M_allBlocks_59 : decode (iC M_M_allBlocks) 59 = .ok (.istore 6, 2) := by decide +kernel
theorem d_M_allBlocks_61 : decode (iC M_M_allBlocks) 61 = .ok (.aload_n 0, 1) := by decide +kernel
theorem d_M_allBlocks_62 : decode (iC M_M_allBlocks) 62 = .ok (.iload 6, 2) := by decide +kernel
theorem d_M_allBlocks_64 : decode (iC M_M_allBlocks) 64 = .ok (.invokevirtual 154, 3) := by decide +kernel
theorem d_M_allBlocks_67 : decode (iC M_M_allBlocks) 67 = .ok (.ifCond .ne 5, 3) := by decide +kernel
theorem d_M_allBlocks_70 : decode (iC M_M_allBlocks) 70 = .ok (.iconst 0, 1) := by decide +kernel
theorem d_M_allBlocks_71 : decode (iC M_M_allBlocks) 71 = .ok (.ireturn, 1) := by decide +kernel
theorem d_M_allBlocks_72 : decode (iC M_M_allBlocks) 72 = .ok (.aload_n 0, 1) := by decide +kernel
theorem d_M_allBlocks_73 : decode (iC M_M_allBlocks) 73 = .ok (.dup, 1) := by decide +kernel
theorem d_M_allBlocks_74 : decode (iC M_M_allBlocks) 74 = .ok (.getfield 157, 3) := by decide +kernel
theorem d_M_allBlocks_77 : decode (iC M_M_allBlocks) 77 = .ok (.iconst 1, 1) := by decide +kernel
theorem d_M_allBlocks_78 : decode (iC M_M_allBlocks) 78 = .ok (.iadd, 1) := by decide +kernel
theorem d_M_allBlocks_79 : decode (iC M_M_allBlocks) 79 = .ok (.putfield 157, 3) := by decide +kernel
theorem d_M_allBlocks_82 : decode (iC M_M_allBlocks) 82 = .ok (.aload_n 0, 1) := by decide +kernel
theorem d_M_allBlocks_83 : decode (iC M_M_allBlocks) 83 = .ok (.iload 6, 2) := by decide +kernel
theorem d_M_allBlocks_85 : decode (iC M_M_allBlocks) 85 = .ok (.iload 5, 2) := by decide +kernel
theorem d_M_allBlocks_87 : decode (iC M_M_allBlocks) 87 = .ok (.iconst 4, 1) := by decide +kernel
theorem d_M_allBlocks_88 : decode (iC M_M_allBlocks) 88 = .ok (.if_icmp .ge 15, 3) := by decide +kernel
theorem d_M_allBlocks_91 : decode (iC M_M_allBlocks) 91 = .ok (.iload_n 3, 1) := by decide +kernel
theorem d_M_allBlocks_92 : decode (iC M_M_allBlocks) 92 = .ok (.bipush 8, 2) := by decide +kernel
theorem d_M_allBlocks_94 : decode (iC M_M_allBlocks) 94 = .ok (.iload 5, 2) := by decide +kernel
theorem d_M_allBlocks_96 : decode (iC M_M_allBlocks) 96 = .ok (.iconst 2, 1) := by decide +kernel
theorem d_M_allBlocks_97 : decode (iC M_M_allBlocks) 97 = .ok (.irem, 1) := by decide +kernel
theorem d_M_allBlocks_98 : decode (iC M_M_allBlocks) 98 = .ok (.imul, 1) := by decide +kernel
theorem d_M_allBlocks_99 : decode (iC M_M_allBlocks) 99 = .ok (.iadd, 1) := by decide +kernel
theorem d_M_allBlocks_100 : decode (iC M_M_allBlocks) 100 = .ok (.goto 6, 3) := by decide +kernel
theorem d_M_allBlocks_103 : decode (iC M_M_allBlocks) 103 = .ok (.iload_n 3, 1) := by decide +kernel
theorem d_M_allBlocks_104 : decode (iC M_M_allBlocks) 104 = .ok (.iconst 2, 1) := by decide +kernel
theorem d_M_allBlocks_105 : decode (iC M_M_allBlocks) 105 = .ok (.idiv, 1) := by decide +kernel
theorem d_M_allBlocks_106 : decode (iC M_M_allBlocks) 106 = .ok (.iload 5, 2) := by decide +kernel
theorem d_M_allBlocks_108 : decode (iC M_M_allBlocks) 108 = .ok (.iconst 4, 1) := by decide +kernel
theorem d_M_allBlocks_109 : decode (iC M_M_allBlocks) 109 = .ok (.if_icmp .ge 16, 3) := by decide +kernel
theorem d_M_allBlocks_112 : decode (iC M_M_allBlocks) 112 = .ok (.iload 4, 2) := by decide +kernel
theorem d_M_allBlocks_114 : decode (iC M_M_allBlocks) 114 = .ok (.bipush 8, 2) := by decide +kernel
theorem d_M_allBlocks_116 : decode (iC M_M_allBlocks) 116 = .ok (.iload 5, 2) := by decide +kernel
theorem d_M_allBlocks_118 : decode (iC M_M_allBlocks) 118 = .ok (.iconst 2, 1) := by decide +kernel
theorem d_M_allBlocks_119 : decode (iC M_M_allBlocks) 119 = .ok (.idiv, 1) := by decide +kernel
theorem d_M_allBlocks_120 : decode (iC M_M_allBlocks) 120 = .ok (.imul, 1) := by decide +kernel
theorem d_M_allBlocks_121 : decode (iC M_M_allBlocks) 121 = .ok (.iadd, 1) := by decide +kernel
theorem d_M_allBlocks_122 : decode (iC M_M_allBlocks) 122 = .ok (.goto 7, 3) := by decide +kernel
theorem d_M_allBlocks_125 : decode (iC M_M_allBlocks) 125 = .ok (.iload 4, 2) := by decide +kernel
theorem d_M_allBlocks_127 : decode (iC M_M_allBlocks) 127 = .ok (.iconst 2, 1) := by decide +kernel
theorem d_M_allBlocks_128 : decode (iC M_M_allBlocks) 128 = .ok (.idiv, 1) := by decide +kernel
theorem d_M_allBlocks_129 : decode (iC M_M_allBlocks) 129 = .ok (.invokevirtual 160, 3) := by decide +kernel
theorem d_M_allBlocks_132 : decode (iC M_M_allBlocks) 132 = .ok (.iinc 5 1, 3) := by decide +kernel
theorem d_M_allBlocks_135 : decode (iC M_M_allBlocks) 135 = .ok (.goto (-111), 3) := by decide +kernel
theorem d_M_allBlocks_138 : decode (iC M_M_allBlocks) 138 = .ok (.iconst 1, 1) := by decide +kernel
theorem d_M_allBlocks_139 : decode (iC M_M_allBlocks) 139 = .ok (.ireturn, 1) := by decide +kernel
theorem d_M_block_0 : decode (iC M_M_block) 0 = .ok (.iconst 0, 1) := by decide +kernel
theorem d_M_block_1 : decode (iC M_M_block) 1 = .ok (.istore_n 2, 1) := by decide +kernel
theorem d_M_block_2 : decode (iC M_M_block) 2 = .ok (.iload_n 2, 1) := by decide +kernel
theorem d_M_block_3 : decode (iC M_M_block) 3 = .ok (.bipush 64, 2) := by decide +kernel
theorem d_M_block_5 : decode (iC M_M_block) 5 = .ok (.if_icmp .ge 16, 3) := by decide +kernel
theorem d_M_block_8 : decode (iC M_M_block) 8 = .ok (.aload_n 0, 1) := by decide +kernel
theorem d_M_block_9 : decode (iC M_M_block) 9 = .ok (.getfield 120, 3) := by decide +kernel
theorem d_M_block_12 : decode (iC M_M_block) 12 = .ok (.iload_n 2, 1) := by decide +kernel
theorem d_M_block_13 : decode (iC M_M_block) 13 = .ok (.iconst 0, 1) := by decide +kernel
theorem d_M_block_14 : decode (iC M_M_block) 14 = .ok (.iastore, 1) := by decide +kernel
theorem d_M_block_15 : decode (iC M_M_block) 15 = .ok (.iinc 2 1, 3) := by decide +kernel
theorem d_M_block_18 : decode (iC M_M_block) 18 = .ok (.goto (-16), 3) := by decide +kernel
theorem d_M_block_21 : decode (iC M_M_block) 21 = .ok (.iconst 0, 1) := by decide +kernel
theorem d_M_block_22 : decode (iC M_M_block) 22 = .ok (.istore_n 2, 1) := by decide +kernel
theorem d_M_block_23 : decode (iC M_M_block) 23 = .ok (.aload_n 0, 1) := by decide +kernel
theorem d_M_block_24 : decode (iC M_M_block) 24 = .ok (.getfield 132, 3) := by decide +kernel
theorem d_M_block_27 : decode (iC M_M_block) 27 = .ok (.ifCond .eq 72, 3) := by decide +kernel
theorem d_M_block_30 : decode (iC M_M_block) 30 = .ok (.aload_n 0, 1) := by decide +kernel
theorem d_M_block_31 : decode (iC M_M_block) 31 = .ok (.getfield 10, 3) := by decide +kernel
theorem d_M_block_34 : decode (iC M_M_block) 34 = .ok (.istore_n 3, 1) := by decide +kernel
theorem d_M_block_35 : decode (iC M_M_block) 35 = .ok (.aload_n 0, 1) := by decide +kernel
theorem d_M_block_36 : decode (iC M_M_block) 36 = .ok (.getfield 114, 3) := by decide +kernel
theorem d_M_block_39 : decode (iC M_M_block) 39 = .ok (.iload_n 1, 1) := by decide +kernel
theorem d_M_block_40 : decode (iC M_M_block) 40 = .ok (.iaload, 1) := by decide +kernel
theorem d_M_block_41 : decode (iC M_M_block) 41 = .ok (.aload_n 0, 1) := by decide +kernel
theorem d_M_block_42 : decode (iC M_M_block) 42 = .ok (.invokevirtual 145, 3) := by decide +kernel
theorem d_M_block_45 : decode (iC M_M_block) 45 = .ok (.iadd, 1) := by decide +kernel
theorem d_M_block_46 : decode (iC M_M_block) 46 = .ok (.istore 4, 2) := by decide +kernel
theorem d_M_block_48 : decode (iC M_M_block) 48 = .ok (.aload_n 0, 1) := by decide +kernel
theorem d_M_block_49 : decode (iC M_M_block) 49 = .ok (.getfield 7, 3) := by decide +kernel
theorem d_M_block_52 : decode (iC M_M_block) 52 = .ok (.ifCond .ge 24, 3) := by decide +kernel
theorem d_M_block_55 : decode (iC M_M_block) 55 = .ok (.iload 4, 2) := by decide +kernel
theorem d_M_block_57 : decode (iC M_M_block) 57 = .ok (.ifCond .lt 11, 3) := by decide +kernel
theorem d_M_block_60 : decode (iC M_M_block) 60 = .ok (.iload 4, 2) := by decide +kernel
theorem d_M_block_62 : decode (iC M_M_block) 62 = .ok (.sipush 255, 3) := by decide +kernel
theorem d_M_block_65 : decode (iC M_M_block) 65 = .ok (.if_icmp .le 13, 3) := by decide +kernel
theorem d_M_block_68 : decode (iC M_M_block) 68 = .ok (.aload_n 0, 1) := by decide +kernel
theorem d_M_block_69 : decode (iC M_M_block) 69 = .ok (.iload_n 3, 1) := by decide +kernel
theorem d_M_block_70 : decode (iC M_M_block) 70 = .ok (.invokevirtual 16, 3) := by decide +kernel
theorem d_M_block_73 : decode (iC M_M_block) 73 = .ok (.ifCond .eq 5, 3) := by decide +kernel
theorem d_M_block_76 : decode (iC M_M_block) 76 = .ok (.iconst 0, 1) := by decide +kernel
theorem d_M_block_77 : decode (iC M_M_block) 77 = .ok (.ireturn, 1) := by decide +kernel
theorem d_M_block_78 : decode (iC M_M_block) 78 = .ok (.aload_n 0, 1) := by decide +kernel
theorem d_M_block_79 : decode (iC M_M_block) 79 = .ok (.getfield 114, 3) := by decide +kernel
theorem d_M_block_82 : decode (iC M_M_block) 82 = .ok (.iload_n 1, 1) := by decide +kernel
theorem d_M_block_83 : decode (iC M_M_block) 83 = .ok (.iload 4, 2) := by decide +kernel
theorem d_M_block_85 : decode (iC M_M_block) 85 = .ok (.iastore, 1) := by decide +kernel
theorem d_M_block_86 : decode (iC M_M_block) 86 = .ok (.aload_n 0, 1) := by decide +kernel
theorem d_M_block_87 : decode (iC M_M_block) 87 = .ok (.getfield 120, 3) := by decide +kernel
theorem d_M_block_90 : decode (iC M_M_block) 90 = .ok (.iconst 0, 1) := by decide +kernel
theorem d_M_block_91 : decode (iC M_M_block) 91 = .ok (.bipush 8, 2) := by decide +kernel
theorem d_M_block_93 : decode (iC M_M_block) 93 = .ok (.iload 4, 2) := by decide +kernel
theorem d_M_block_95 : decode (iC M_M_block) 95 = .ok (.imul, 1) := by decide +kernel
theorem d_M_block_96 : decode (iC M_M_block) 96 = .ok (.iastore, 1) := by decide +kernel
theorem d_M_block_97 : decode (iC M_M_block) 97 = .ok (.iconst 1, 1) := by decide +kernel
theorem d_M_block_98 : decode (iC M_M_block) 98 = .ok (.istore_n 2, 1) := by decide +kernel
theorem d_M_block_99 : decode (iC M_M_block) 99 = .ok (.aload_n 0, 1) := by decide +kernel
theorem d_M_block_100 : decode (iC M_M_block) 100 = .ok (.getfield 10, 3) := by decide +kernel
theorem d_M_block_103 : decode (iC M_M_block) 103 = .ok (.istore_n 3, 1) := by decide +kernel
theorem d_M_block_104 : decode (iC M_M_block) 104 = .ok (.aload_n 0, 1) := by decide +kernel
theorem d_M_block_105 : decode (iC M_M_block) 105 = .ok (.invokevirtual 32, 3) := by decide +kernel
theorem d_M_block_108 : decode (iC M_M_block) 108 = .ok (.istore 4, 2) := by decide +kernel
theorem d_M_block_110 : decode (iC M_M_block) 110 = .ok (.aload_n 0, 1) := by decide +kernel
theorem d_M_block_111 : decode (iC M_M_block) 111 = .ok (.getfield 7, 3) := by decide +kernel
theorem d_M_block_114 : decode (iC M_M_block) 114 = .ok (.ifCond .lt 5, 3) := by decide +kernel
theorem d_M_block_117 : decode (iC M_M_block) 117 = .ok (.iconst 0, 1) := by decide +kernel
theorem d_M_block_118 : decode (iC M_M_block) 118 = .ok (.ireturn, 1) := by decide +kernel
theorem d_M_block_119 : decode (iC M_M_block) 119 = .ok (.iload 4, 2) := by decide +kernel
theorem d_M_block_121 : decode (iC M_M_block) 121 = .ok (.ifCond .ne 5, 3) := by decide +kernel
theorem d_M_block_124 : decode (iC M_M_block) 124 = .ok (.iconst 1, 1) := by decide +kernel
theorem d_M_block_125 : decode (iC M_M_block) 125 = .ok (.ireturn, 1) := by decide +kernel
theorem d_M_block_126 : decode (iC M_M_block) 126 = .ok (.iload_n 2, 1) := by decide +kernel
theorem d_M_block_127 : decode (iC M_M_block) 127 = .ok (.iload 4, 2) := by decide +kernel
theorem d_M_block_129 : decode (iC M_M_block) 129 = .ok (.iconst 1, 1) := by decide +kernel
theorem d_M_block_130 : decode (iC M_M_block) 130 = .ok (.isub, 1) := by decide +kernel
theorem d_M_block_131 : decode (iC M_M_block) 131 = .ok (.iadd, 1) := by decide +kernel
theorem d_M_block_132 : decode (iC M_M_block) 132 = .ok (.istore_n 2, 1) := by decide +kernel
theorem d_M_block_133 : decode (iC M_M_block) 133 = .ok (.iload_n 2, 1) := by decide +kernel
theorem d_M_block_134 : decode (iC M_M_block) 134 = .ok (.bipush 63, 2) := by decide +kernel
theorem d_M_block_136 : decode (iC M_M_block) 136 = .ok (.if_icmp .le 13, 3) := by decide +kernel
theorem d_M_block_139 : decode (iC M_M_block) 139 = .ok (.aload_n 0, 1) := by decide +kernel
theorem d_M_block_140 : decode (iC M_M_block) 140 = .ok (.iload_n 3, 1) := by decide +kernel
theorem d_M_block_141 : decode (iC M_M_block) 141 = .ok (.invokevirtual 16, 3) := by decide +kernel
theorem d_M_block_144 : decode (iC M_M_block) 144 = .ok (.ifCond .eq 5, 3) := by decide +kernel
theorem d_M_block_147 : decode (iC M_M_block) 147 = .ok (.iconst 0, 1) := by decide +kernel
theorem d_M_block_148 : decode (iC M_M_block) 148 = .ok (.ireturn, 1) := by decide +kernel
theorem d_M_block_149 : decode (iC M_M_block) 149 = .ok (.aload_n 0, 1) := by decide +kernel
theorem d_M_block_150 : decode (iC M_M_block) 150 = .ok (.getfield 10, 3) := by decide +kernel
theorem d_M_block_153 : decode (iC M_M_block) 153 = .ok (.istore_n 3, 1) := by decide +kernel
theorem d_M_block_154 : decode (iC M_M_block) 154 = .ok (.aload_n 0, 1) := by decide +kernel
theorem d_M_block_155 : decode (iC M_M_block) 155 = .ok (.invokevirtual 145, 3) := by decide +kernel
theorem d_M_block_158 : decode (iC M_M_block) 158 = .ok (.istore 5, 2) := by decide +kernel
theorem d_M_block_160 : decode (iC M_M_block) 160 = .ok (.aload_n 0, 1) := by decide +kernel
theorem d_M_block_161 : decode (iC M_M_block) 161 = .ok (.getfield 7, 3) := by decide +kernel
theorem d_M_block_164 : decode (iC M_M_block) 164 = .ok (.ifCond .ge 32, 3) := by decide +kernel
theorem d_M_block_167 : decode (iC M_M_block) 167 = .ok (.iload 5, 2) := by decide +kernel
theorem d_M_block_169 : decode (iC M_M_block) 169 = .ok (.ifCond .eq 19, 3) := by decide +kernel
theorem d_M_block_172 : decode (iC M_M_block) 172 = .ok (.iload 5, 2) := by decide +kernel
theorem d_M_block_174 : decode (iC M_M_block) 174 = .ok (.sipush 2047, 3) := by decide +kernel
theorem d_M_block_177 : decode (iC M_M_block) 177 = .ok (.if_icmp .gt 11, 3) := by decide +kernel
theorem d_M_block_180 : decode (iC M_M_block) 180 = .ok (.iload 5, 2) := by decide +kernel
theorem d_M_block_182 : decode (iC M_M_block) 182 = .ok (.sipush (-2047), 3) := by decide +kernel
theorem d_M_block_185 : decode (iC M_M_block) 185 = .ok (.if_icmp .ge 13, 3) := by decide +kernel
theorem d_M_block_188 : decode (iC M_M_block) 188 = .ok (.aload_n 0, 1) := by decide +kernel
theorem d_M_block_189 : decode (iC M_M_block) 189 = .ok (.iload_n 3, 1) := by decide +kernel
theorem d_M_block_190 : decode (iC M_M_block) 190 = .ok (.invokevirtual 16, 3) := by decide +kernel
theorem d_M_block_193 : decode (iC M_M_block) 193 = .ok (.ifCond .eq 5, 3) := by decide +kernel
theorem d_M_block_196 : decode (iC M_M_block) 196 = .ok (.iconst 0, 1) := by decide +kernel
theorem d_M_block_197 : decode (iC M_M_block) 197 = .ok (.ireturn, 1) := by decide +kernel
theorem d_M_block_198 : decode (iC M_M_block) 198 = .ok (.aload_n 0, 1) := by decide +kernel
theorem d_M_block_199 : decode (iC M_M_block) 199 = .ok (.getfield 120, 3) := by decide +kernel
theorem d_M_block_202 : decode (iC M_M_block) 202 = .ok (.aload_n 0, 1) := by decide +kernel
theorem d_M_block_203 : decode (iC M_M_block) 203 = .ok (.getfield 117, 3) := by decide +kernel
theorem d_M_block_206 : decode (iC M_M_block) 206 = .ok (.iload_n 2, 1) := by decide +kernel
theorem d_M_block_207 : decode (iC M_M_block) 207 = .ok (.iaload, 1) := by decide +kernel
theorem d_M_block_208 : decode (iC M_M_block) 208 = .ok (.aload_n 0, 1) := by decide +kernel
theorem d_M_block_209 : decode (iC M_M_block) 209 = .ok (.aload_n 0, 1) := by decide +kernel
theorem d_M_block_210 : decode (iC M_M_block) 210 = .ok (.getfield 117, 3) := by decide +kernel
theorem d_M_block_213 : decode (iC M_M_block) 213 = .ok (.iload_n 2, 1) := by decide +kernel
theorem d_M_block_214 : decode (iC M_M_block) 214 = .ok (.iaload, 1) := by decide +kernel
theorem d_M_block_215 : decode (iC M_M_block) 215 = .ok (.iload 5, 2) := by decide +kernel
theorem d_M_block_217 : decode (iC M_M_block) 217 = .ok (.invokevirtual 148, 3) := by decide +kernel
theorem d_M_block_220 : decode (iC M_M_block) 220 = .ok (.iastore, 1) := by decide +kernel
theorem d_M_block_221 : decode (iC M_M_block) 221 = .ok (.aload_n 0, 1) := by decide +kernel
theorem d_M_block_222 : decode (iC M_M_block) 222 = .ok (.dup, 1) := by decide +kernel
theorem d_M_block_223 : decode (iC M_M_block) 223 = .ok (.getfield 151, 3) := by decide +kernel
theorem d_M_block_226 : decode (iC M_M_block) 226 = .ok (.iconst 1, 1) := by decide +kernel
theorem d_M_block_227 : decode (iC M_M_block) 227 = .ok (.iadd, 1) := by decide +kernel
theorem d_M_block_228 : decode (iC M_M_block) 228 = .ok (.putfield 151, 3) := by decide +kernel
theorem d_M_block_231 : decode (iC M_M_block) 231 = .ok (.iinc 2 1, 3) := by decide +kernel
theorem d_M_block_234 : decode (iC M_M_block) 234 = .ok (.goto (-135), 3) := by decide +kernel
theorem d_M_factor_0 : decode (iC M_M_factor) 0 = .ok (.iload_n 2, 1) := by decide +kernel
theorem d_M_factor_1 : decode (iC M_M_factor) 1 = .ok (.ifCond .ne 5, 3) := by decide +kernel
theorem d_M_factor_4 : decode (iC M_M_factor) 4 = .ok (.iconst 0, 1) := by decide +kernel
theorem d_M_factor_5 : decode (iC M_M_factor) 5 = .ok (.ireturn, 1) := by decide +kernel
theorem d_M_factor_6 : decode (iC M_M_factor) 6 = .ok (.bipush 8, 2) := by decide +kernel
theorem d_M_factor_8 : decode (iC M_M_factor) 8 = .ok (.iconst 2, 1) := by decide +kernel
theorem d_M_factor_9 : decode (iC M_M_factor) 9 = .ok (.iload_n 1, 1) := by decide +kernel
theorem d_M_factor_10 : decode (iC M_M_factor) 10 = .ok (.bipush 8, 2) := by decide +kernel
theorem d_M_factor_12 : decode (iC M_M_factor) 12 = .ok (.idiv, 1) := by decide +kernel
theorem d_M_factor_13 : decode (iC M_M_factor) 13 = .ok (.iload_n 1, 1) := by decide +kernel
theorem d_M_factor_14 : decode (iC M_M_factor) 14 = .ok (.bipush 8, 2) := by decide +kernel
theorem d_M_factor_16 : decode (iC M_M_factor) 16 = .ok (.irem, 1) := by decide +kernel
theorem d_M_factor_17 : decode (iC M_M_factor) 17 = .ok (.iadd, 1) := by decide +kernel
theorem d_M_factor_18 : decode (iC M_M_factor) 18 = .ok (.imul, 1) := by decide +kernel
theorem d_M_factor_19 : decode (iC M_M_factor) 19 = .ok (.iadd, 1) := by decide +kernel
theorem d_M_factor_20 : decode (iC M_M_factor) 20 = .ok (.istore_n 3, 1) := by decide +kernel
theorem d_M_factor_21 : decode (iC M_M_factor) 21 = .ok (.aload_n 0, 1) := by decide +kernel
theorem d_M_factor_22 : decode (iC M_M_factor) 22 = .ok (.getfield 132, 3) := by decide +kernel
theorem d_M_factor_25 : decode (iC M_M_factor) 25 = .ok (.ifCond .eq 28, 3) := by decide +kernel
theorem d_M_factor_28 : decode (iC M_M_factor) 28 = .ok (.iload_n 2, 1) := by decide +kernel
theorem d_M_factor_29 : decode (iC M_M_factor) 29 = .ok (.iload_n 3, 1) := by decide +kernel
theorem d_M_factor_30 : decode (iC M_M_factor) 30 = .ok (.bipush 38, 2) := by decide +kernel
theorem d_M_factor_32 : decode (iC M_M_factor) 32 = .ok (.if_icmp .le 8, 3) := by decide +kernel
theorem d_M_factor_35 : decode (iC M_M_factor) 35 = .ok (.bipush 38, 2) := by decide +kernel
theorem d_M_factor_37 : decode (iC M_M_factor) 37 = .ok (.goto 4, 3) := by decide +kernel
theorem d_M_factor_40 : decode (iC M_M_factor) 40 = .ok (.iload_n 3, 1) := by decide +kernel
theorem d_M_factor_41 : decode (iC M_M_factor) 41 = .ok (.imul, 1) := by decide +kernel
theorem d_M_factor_42 : decode (iC M_M_factor) 42 = .ok (.aload_n 0, 1) := by decide +kernel
theorem d_M_factor_43 : decode (iC M_M_factor) 43 = .ok (.getfield 135, 3) := by decide +kernel
theorem d_M_factor_46 : decode (iC M_M_factor) 46 = .ok (.imul, 1) := by decide +kernel
theorem d_M_factor_47 : decode (iC M_M_factor) 47 = .ok (.bipush 8, 2) := by decide +kernel
theorem d_M_factor_49 : decode (iC M_M_factor) 49 = .ok (.idiv, 1) := by decide +kernel
theorem d_M_factor_50 : decode (iC M_M_factor) 50 = .ok (.goto 25, 3) := by decide +kernel
theorem d_M_factor_53 : decode (iC M_M_factor) 53 = .ok (.iload_n 2, 1) := by decide +kernel
theorem d_M_factor_54 : decode (iC M_M_factor) 54 = .ok (.ifCond .le 11, 3) := by decide +kernel
theorem d_M_factor_57 : decode (iC M_M_factor) 57 = .ok (.iconst 2, 1) := by decide +kernel
theorem d_M_factor_58 : decode (iC M_M_factor) 58 = .ok (.iload_n 2, 1) := by decide +kernel
theorem d_M_factor_59 : decode (iC M_M_factor) 59 = .ok (.imul, 1) := by decide +kernel
theorem d_M_factor_60 : decode (iC M_M_factor) 60 = .ok (.iconst 1, 1) := by decide +kernel
theorem d_M_factor_61 : decode (iC M_M_factor) 61 = .ok (.iadd, 1) := by decide +kernel
theorem d_M_factor_62 : decode (iC M_M_factor) 62 = .ok (.goto 8, 3) := by decide +kernel
theorem d_M_factor_65 : decode (iC M_M_factor) 65 = .ok (.iconst 2, 1) := by decide +kernel
theorem d_M_factor_66 : decode (iC M_M_factor) 66 = .ok (.iload_n 2, 1) := by decide +kernel
theorem d_M_factor_67 : decode (iC M_M_factor) 67 = .ok (.imul, 1) := by decide +kernel
theorem d_M_factor_68 : decode (iC M_M_factor) 68 = .ok (.iconst 1, 1) := by decide +kernel
theorem d_M_factor_69 : decode (iC M_M_factor) 69 = .ok (.isub, 1) := by decide +kernel
theorem d_M_factor_70 : decode (iC M_M_factor) 70 = .ok (.aload_n 0, 1) := by decide +kernel
theorem d_M_factor_71 : decode (iC M_M_factor) 71 = .ok (.getfield 135, 3) := by decide +kernel
theorem d_M_factor_74 : decode (iC M_M_factor) 74 = .ok (.imul, 1) := by decide +kernel
theorem d_M_factor_75 : decode (iC M_M_factor) 75 = .ok (.istore 4, 2) := by decide +kernel
theorem d_M_factor_77 : decode (iC M_M_factor) 77 = .ok (.iload 4, 2) := by decide +kernel
theorem d_M_factor_79 : decode (iC M_M_factor) 79 = .ok (.sipush (-2048), 3) := by decide +kernel
theorem d_M_factor_82 : decode (iC M_M_factor) 82 = .ok (.sipush 2047, 3) := by decide +kernel
theorem d_M_factor_85 : decode (iC M_M_factor) 85 = .ok (.invokestatic 138, 3) := by decide +kernel
theorem d_M_factor_88 : decode (iC M_M_factor) 88 = .ok (.ireturn, 1) := by decide +kernel
theorem d_M_held_0 : decode (iC M_M_held) 0 = .ok (.iload_n 0, 1) := by decide +kernel
theorem d_M_held_1 : decode (iC M_M_held) 1 = .ok (.iload_n 1, 1) := by decide +kernel
theorem d_M_held_2 : decode (iC M_M_held) 2 = .ok (.if_icmp .ge 7, 3) := by decide +kernel
theorem d_M_held_5 : decode (iC M_M_held) 5 = .ok (.iload_n 1, 1) := by decide +kernel
theorem d_M_held_6 : decode (iC M_M_held) 6 = .ok (.goto 13, 3) := by decide +kernel
theorem d_M_held_9 : decode (iC M_M_held) 9 = .ok (.iload_n 0, 1) := by decide +kernel
theorem d_M_held_10 : decode (iC M_M_held) 10 = .ok (.iload_n 2, 1) := by decide +kernel
theorem d_M_held_11 : decode (iC M_M_held) 11 = .ok (.if_icmp .le 7, 3) := by decide +kernel
theorem d_M_held_14 : decode (iC M_M_held) 14 = .ok (.iload_n 2, 1) := by decide +kernel
theorem d_M_held_15 : decode (iC M_M_held) 15 = .ok (.goto 4, 3) := by decide +kernel
theorem d_M_held_18 : decode (iC M_M_held) 18 = .ok (.iload_n 0, 1) := by decide +kernel
theorem d_M_held_19 : decode (iC M_M_held) 19 = .ok (.ireturn, 1) := by decide +kernel
theorem d_M_sums_0 : decode (iC M_M_sums) 0 = .ok (.iconst 0, 1) := by decide +kernel
theorem d_M_sums_1 : decode (iC M_M_sums) 1 = .ok (.istore 4, 2) := by decide +kernel
theorem d_M_sums_3 : decode (iC M_M_sums) 3 = .ok (.iconst 0, 1) := by decide +kernel
theorem d_M_sums_4 : decode (iC M_M_sums) 4 = .ok (.istore 5, 2) := by decide +kernel
theorem d_M_sums_6 : decode (iC M_M_sums) 6 = .ok (.iload 5, 2) := by decide +kernel
theorem d_M_sums_8 : decode (iC M_M_sums) 8 = .ok (.bipush 64, 2) := by decide +kernel
theorem d_M_sums_10 : decode (iC M_M_sums) 10 = .ok (.if_icmp .ge 21, 3) := by decide +kernel
theorem d_M_sums_13 : decode (iC M_M_sums) 13 = .ok (.iload 4, 2) := by decide +kernel
theorem d_M_sums_15 : decode (iC M_M_sums) 15 = .ok (.aload_n 0, 1) := by decide +kernel
theorem d_M_sums_16 : decode (iC M_M_sums) 16 = .ok (.getfield 120, 3) := by decide +kernel
theorem d_M_sums_19 : decode (iC M_M_sums) 19 = .ok (.iload 5, 2) := by decide +kernel
theorem d_M_sums_21 : decode (iC M_M_sums) 21 = .ok (.iaload, 1) := by decide +kernel
theorem d_M_sums_22 : decode (iC M_M_sums) 22 = .ok (.iadd, 1) := by decide +kernel
theorem d_M_sums_23 : decode (iC M_M_sums) 23 = .ok (.istore 4, 2) := by decide +kernel
theorem d_M_sums_25 : decode (iC M_M_sums) 25 = .ok (.iinc 5 1, 3) := by decide +kernel
theorem d_M_sums_28 : decode (iC M_M_sums) 28 = .ok (.goto (-22), 3) := by decide +kernel
theorem d_M_sums_31 : decode (iC M_M_sums) 31 = .ok (.iload 4, 2) := by decide +kernel
theorem d_M_sums_33 : decode (iC M_M_sums) 33 = .ok (.iconst 2, 1) := by decide +kernel
theorem d_M_sums_34 : decode (iC M_M_sums) 34 = .ok (.irem, 1) := by decide +kernel
theorem d_M_sums_35 : decode (iC M_M_sums) 35 = .ok (.ifCond .ne 14, 3) := by decide +kernel
theorem d_M_sums_38 : decode (iC M_M_sums) 38 = .ok (.aload_n 0, 1) := by decide +kernel
theorem d_M_sums_39 : decode (iC M_M_sums) 39 = .ok (.getfield 120, 3) := by decide +kernel
theorem d_M_sums_42 : decode (iC M_M_sums) 42 = .ok (.bipush 63, 2) := by decide +kernel
theorem d_M_sums_44 : decode (iC M_M_sums) 44 = .ok (.dup2, 1) := by decide +kernel
theorem d_M_sums_45 : decode (iC M_M_sums) 45 = .ok (.iaload, 1) := by decide +kernel
theorem d_M_sums_46 : decode (iC M_M_sums) 46 = .ok (.iconst 1, 1) := by decide +kernel
theorem d_M_sums_47 : decode (iC M_M_sums) 47 = .ok (.ixor, 1) := by decide +kernel
theorem d_M_sums_48 : decode (iC M_M_sums) 48 = .ok (.iastore, 1) := by decide +kernel
theorem d_M_sums_49 : decode (iC M_M_sums) 49 = .ok (.iconst 0, 1) := by decide +kernel
theorem d_M_sums_50 : decode (iC M_M_sums) 50 = .ok (.istore 5, 2) := by decide +kernel
theorem d_M_sums_52 : decode (iC M_M_sums) 52 = .ok (.iload 5, 2) := by decide +kernel
theorem d_M_sums_54 : decode (iC M_M_sums) 54 = .ok (.bipush 8, 2) := by decide +kernel
theorem d_M_sums_56 : decode (iC M_M_sums) 56 = .ok (.if_icmp .ge 90, 3) := by decide +kernel
theorem d_M_sums_59 : decode (iC M_M_sums) 59 = .ok (.iconst 0, 1) := by decide +kernel
theorem d_M_sums_60 : decode (iC M_M_sums) 60 = .ok (.istore 6, 2) := by decide +kernel
theorem d_M_sums_62 : decode (iC M_M_sums) 62 = .ok (.iload 6, 2) := by decide +kernel
theorem d_M_sums_64 : decode (iC M_M_sums) 64 = .ok (.bipush 8, 2) := by decide +kernel
theorem d_M_sums_66 : decode (iC M_M_sums) 66 = .ok (.if_icmp .ge 74, 3) := by decide +kernel
theorem d_M_sums_69 : decode (iC M_M_sums) 69 = .ok (.sipush 1024, 3) := by decide +kernel
theorem d_M_sums_72 : decode (iC M_M_sums) 72 = .ok (.istore 7, 2) := by decide +kernel
theorem d_M_sums_74 : decode (iC M_M_sums) 74 = .ok (.iconst 0, 1) := by decide +kernel
theorem d_M_sums_75 : decode (iC M_M_sums) 75 = .ok (.istore 8, 2) := by decide +kernel
theorem d_M_sums_77 : decode (iC M_M_sums) 77 = .ok (.iload 8, 2) := by decide +kernel
theorem d_M_sums_79 : decode (iC M_M_sums) 79 = .ok (.bipush 8, 2) := by decide +kernel
theorem d_M_sums_81 : decode (iC M_M_sums) 81 = .ok (.if_icmp .ge 35, 3) := by decide +kernel
theorem d_M_sums_84 : decode (iC M_M_sums) 84 = .ok (.iload 7, 2) := by decide +kernel
theorem d_M_sums_86 : decode (iC M_M_sums) 86 = .ok (.aload_n 0, 1) := by decide +kernel
theorem d_M_sums_87 : decode (iC M_M_sums) 87 = .ok (.getfield 120, 3) := by decide +kernel
theorem d_M_sums_90 : decode (iC M_M_sums) 90 = .ok (.bipush 8, 2) := by decide +kernel
theorem d_M_sums_92 : decode (iC M_M_sums) 92 = .ok (.iload 5, 2) := by decide +kernel
theorem d_M_sums_94 : decode (iC M_M_sums) 94 = .ok (.imul, 1) := by decide +kernel
theorem d_M_sums_95 : decode (iC M_M_sums) 95 = .ok (.iload 8, 2) := by decide +kernel
theorem d_M_sums_97 : decode (iC M_M_sums) 97 = .ok (.iadd, 1) := by decide +kernel
theorem d_M_sums_98 : decode (iC M_M_sums) 98 = .ok (.iaload, 1) := by decide +kernel
theorem d_M_sums_99 : decode (iC M_M_sums) 99 = .ok (.iload 8, 2) := by decide +kernel
theorem d_M_sums_101 : decode (iC M_M_sums) 101 = .ok (.iload 6, 2) := by decide +kernel
theorem d_M_sums_103 : decode (iC M_M_sums) 103 = .ok (.invokestatic 141, 3) := by decide +kernel
theorem d_M_sums_106 : decode (iC M_M_sums) 106 = .ok (.imul, 1) := by decide +kernel
theorem d_M_sums_107 : decode (iC M_M_sums) 107 = .ok (.iadd, 1) := by decide +kernel
theorem d_M_sums_108 : decode (iC M_M_sums) 108 = .ok (.istore 7, 2) := by decide +kernel
theorem d_M_sums_110 : decode (iC M_M_sums) 110 = .ok (.iinc 8 1, 3) := by decide +kernel
theorem d_M_sums_113 : decode (iC M_M_sums) 113 = .ok (.goto (-36), 3) := by decide +kernel
theorem d_M_sums_116 : decode (iC M_M_sums) 116 = .ok (.aload_n 0, 1) := by decide +kernel
theorem d_M_sums_117 : decode (iC M_M_sums) 117 = .ok (.getfield 123, 3) := by decide +kernel
theorem d_M_sums_120 : decode (iC M_M_sums) 120 = .ok (.bipush 8, 2) := by decide +kernel
theorem d_M_sums_122 : decode (iC M_M_sums) 122 = .ok (.iload 5, 2) := by decide +kernel
theorem d_M_sums_124 : decode (iC M_M_sums) 124 = .ok (.imul, 1) := by decide +kernel
theorem d_M_sums_125 : decode (iC M_M_sums) 125 = .ok (.iload 6, 2) := by decide +kernel
theorem d_M_sums_127 : decode (iC M_M_sums) 127 = .ok (.iadd, 1) := by decide +kernel
theorem d_M_sums_128 : decode (iC M_M_sums) 128 = .ok (.iload 7, 2) := by decide +kernel
theorem d_M_sums_130 : decode (iC M_M_sums) 130 = .ok (.bipush 11, 2) := by decide +kernel
theorem d_M_sums_132 : decode (iC M_M_sums) 132 = .ok (.ishr, 1) := by decide +kernel
theorem d_M_sums_133 : decode (iC M_M_sums) 133 = .ok (.iastore, 1) := by decide +kernel
theorem d_M_sums_134 : decode (iC M_M_sums) 134 = .ok (.iinc 6 1, 3) := by decide +kernel
theorem d_M_sums_137 : decode (iC M_M_sums) 137 = .ok (.goto (-75), 3) := by decide +kernel
theorem d_M_sums_140 : decode (iC M_M_sums) 140 = .ok (.iinc 5 1, 3) := by decide +kernel
theorem d_M_sums_143 : decode (iC M_M_sums) 143 = .ok (.goto (-91), 3) := by decide +kernel
theorem d_M_sums_146 : decode (iC M_M_sums) 146 = .ok (.iconst 0, 1) := by decide +kernel
theorem d_M_sums_147 : decode (iC M_M_sums) 147 = .ok (.istore 5, 2) := by decide +kernel
theorem d_M_sums_149 : decode (iC M_M_sums) 149 = .ok (.iload 5, 2) := by decide +kernel
theorem d_M_sums_151 : decode (iC M_M_sums) 151 = .ok (.bipush 8, 2) := by decide +kernel
theorem d_M_sums_153 : decode (iC M_M_sums) 153 = .ok (.if_icmp .ge 133, 3) := by decide +kernel
theorem d_M_sums_156 : decode (iC M_M_sums) 156 = .ok (.iconst 0, 1) := by decide +kernel
theorem d_M_sums_157 : decode (iC M_M_sums) 157 = .ok (.istore 6, 2) := by decide +kernel
theorem d_M_sums_159 : decode (iC M_M_sums) 159 = .ok (.iload 6, 2) := by decide +kernel
theorem d_M_sums_161 : decode (iC M_M_sums) 161 = .ok (.bipush 8, 2) := by decide +kernel
theorem d_M_sums_163 : decode (iC M_M_sums) 163 = .ok (.if_icmp .ge 117, 3) := by decide +kernel
theorem d_M_sums_166 : decode (iC M_M_sums) 166 = .ok (.sipush 16384, 3) := by decide +kernel
theorem d_M_sums_169 : decode (iC M_M_sums) 169 = .ok (.istore 7, 2) := by decide +kernel
theorem d_M_sums_171 : decode (iC M_M_sums) 171 = .ok (.iconst 0, 1) := by decide +kernel
theorem d_M_sums_172 : decode (iC M_M_sums) 172 = .ok (.istore 8, 2) := by decide +kernel
theorem d_M_sums_174 : decode (iC M_M_sums) 174 = .ok (.iload 8, 2) := by decide +kernel
theorem d_M_sums_176 : decode (iC M_M_sums) 176 = .ok (.bipush 8, 2) := by decide +kernel
theorem d_M_sums_178 : decode (iC M_M_sums) 178 = .ok (.if_icmp .ge 35, 3) := by decide +kernel
theorem d_M_sums_181 : decode (iC M_M_sums) 181 = .ok (.iload 7, 2) := by decide +kernel
theorem d_M_sums_183 : decode (iC M_M_sums) 183 = .ok (.aload_n 0, 1) := by decide +kernel
theorem d_M_sums_184 : decode (iC M_M_sums) 184 = .ok (.getfield 123, 3) := by decide +kernel
theorem d_M_sums_187 : decode (iC M_M_sums) 187 = .ok (.bipush 8, 2) := by decide +kernel
theorem d_M_sums_189 : decode (iC M_M_sums) 189 = .ok (.iload 8, 2) := by decide +kernel
theorem d_M_sums_191 : decode (iC M_M_sums) 191 = .ok (.imul, 1) := by decide +kernel
theorem d_M_sums_192 : decode (iC M_M_sums) 192 = .ok (.iload 6, 2) := by decide +kernel
theorem d_M_sums_194 : decode (iC M_M_sums) 194 = .ok (.iadd, 1) := by decide +kernel
theorem d_M_sums_195 : decode (iC M_M_sums) 195 = .ok (.iaload, 1) := by decide +kernel
theorem d_M_sums_196 : decode (iC M_M_sums) 196 = .ok (.iload 8, 2) := by decide +kernel
theorem d_M_sums_198 : decode (iC M_M_sums) 198 = .ok (.iload 5, 2) := by decide +kernel
theorem d_M_sums_200 : decode (iC M_M_sums) 200 = .ok (.invokestatic 141, 3) := by decide +kernel
theorem d_M_sums_203 : decode (iC M_M_sums) 203 = .ok (.imul, 1) := by decide +kernel
theorem d_M_sums_204 : decode (iC M_M_sums) 204 = .ok (.iadd, 1) := by decide +kernel
theorem d_M_sums_205 : decode (iC M_M_sums) 205 = .ok (.istore 7, 2) := by decide +kernel
theorem d_M_sums_207 : decode (iC M_M_sums) 207 = .ok (.iinc 8 1, 3) := by decide +kernel
theorem d_M_sums_210 : decode (iC M_M_sums) 210 = .ok (.goto (-36), 3) := by decide +kernel
theorem d_M_sums_213 : decode (iC M_M_sums) 213 = .ok (.aload_n 0, 1) := by decide +kernel
theorem d_M_sums_214 : decode (iC M_M_sums) 214 = .ok (.iload_n 1, 1) := by decide +kernel
theorem d_M_sums_215 : decode (iC M_M_sums) 215 = .ok (.invokevirtual 57, 3) := by decide +kernel
theorem d_M_sums_218 : decode (iC M_M_sums) 218 = .ok (.aload_n 0, 1) := by decide +kernel
theorem d_M_sums_219 : decode (iC M_M_sums) 219 = .ok (.iload_n 1, 1) := by decide +kernel
theorem d_M_sums_220 : decode (iC M_M_sums) 220 = .ok (.invokevirtual 51, 3) := by decide +kernel
theorem d_M_sums_223 : decode (iC M_M_sums) 223 = .ok (.iload_n 3, 1) := by decide +kernel
theorem d_M_sums_224 : decode (iC M_M_sums) 224 = .ok (.iload 5, 2) := by decide +kernel
theorem d_M_sums_226 : decode (iC M_M_sums) 226 = .ok (.iadd, 1) := by decide +kernel
theorem d_M_sums_227 : decode (iC M_M_sums) 227 = .ok (.imul, 1) := by decide +kernel
theorem d_M_sums_228 : decode (iC M_M_sums) 228 = .ok (.iadd, 1) := by decide +kernel
theorem d_M_sums_229 : decode (iC M_M_sums) 229 = .ok (.iload_n 2, 1) := by decide +kernel
theorem d_M_sums_230 : decode (iC M_M_sums) 230 = .ok (.iadd, 1) := by decide +kernel
theorem d_M_sums_231 : decode (iC M_M_sums) 231 = .ok (.iload 6, 2) := by decide +kernel
theorem d_M_sums_233 : decode (iC M_M_sums) 233 = .ok (.iadd, 1) := by decide +kernel
theorem d_M_sums_234 : decode (iC M_M_sums) 234 = .ok (.istore 8, 2) := by decide +kernel
theorem d_M_sums_236 : decode (iC M_M_sums) 236 = .ok (.aload_n 0, 1) := by decide +kernel
theorem d_M_sums_237 : decode (iC M_M_sums) 237 = .ok (.getfield 94, 3) := by decide +kernel
theorem d_M_sums_240 : decode (iC M_M_sums) 240 = .ok (.iload 8, 2) := by decide +kernel
theorem d_M_sums_242 : decode (iC M_M_sums) 242 = .ok (.aload_n 0, 1) := by decide +kernel
theorem d_M_sums_243 : decode (iC M_M_sums) 243 = .ok (.getfield 132, 3) := by decide +kernel
theorem d_M_sums_246 : decode (iC M_M_sums) 246 = .ok (.ifCond .eq 7, 3) := by decide +kernel
theorem d_M_sums_249 : decode (iC M_M_sums) 249 = .ok (.iconst 0, 1) := by decide +kernel
theorem d_M_sums_250 : decode (iC M_M_sums) 250 = .ok (.goto 10, 3) := by decide +kernel
theorem d_M_sums_253 : decode (iC M_M_sums) 253 = .ok (.aload_n 0, 1) := by decide +kernel
theorem d_M_sums_254 : decode (iC M_M_sums) 254 = .ok (.getfield 94, 3) := by decide +kernel
theorem d_M_sums_257 : decode (iC M_M_sums) 257 = .ok (.iload 8, 2) := by decide +kernel
theorem d_M_sums_259 : decode (iC M_M_sums) 259 = .ok (.iaload, 1) := by decide +kernel
theorem d_M_sums_260 : decode (iC M_M_sums) 260 = .ok (.iload 7, 2) := by decide +kernel
theorem d_M_sums_262 : decode (iC M_M_sums) 262 = .ok (.bipush 15, 2) := by decide +kernel
theorem d_M_sums_264 : decode (iC M_M_sums) 264 = .ok (.ishr, 1) := by decide +kernel
theorem d_M_sums_265 : decode (iC M_M_sums) 265 = .ok (.iadd, 1) := by decide +kernel
theorem d_M_sums_266 : decode (iC M_M_sums) 266 = .ok (.iconst 0, 1) := by decide +kernel
theorem d_M_sums_267 : decode (iC M_M_sums) 267 = .ok (.sipush 255, 3) := by decide +kernel
theorem d_M_sums_270 : decode (iC M_M_sums) 270 = .ok (.invokestatic 138, 3) := by decide +kernel
theorem d_M_sums_273 : decode (iC M_M_sums) 273 = .ok (.iastore, 1) := by decide +kernel
theorem d_M_sums_274 : decode (iC M_M_sums) 274 = .ok (.iinc 6 1, 3) := by decide +kernel
theorem d_M_sums_277 : decode (iC M_M_sums) 277 = .ok (.goto (-118), 3) := by decide +kernel
theorem d_M_sums_280 : decode (iC M_M_sums) 280 = .ok (.iinc 5 1, 3) := by decide +kernel
theorem d_M_sums_283 : decode (iC M_M_sums) 283 = .ok (.goto (-134), 3) := by decide +kernel
theorem d_M_sums_286 : decode (iC M_M_sums) 286 = .ok (.return_, 1) := by decide +kernel
theorem d_M_wave_0 : decode (iC M_M_wave) 0 = .ok (.iload_n 1, 1) := by decide +kernel
theorem d_M_wave_1 : decode (iC M_M_wave) 1 = .ok (.iconst 4, 1) := by decide +kernel
theorem d_M_wave_2 : decode (iC M_M_wave) 2 = .ok (.if_icmp .ge 13, 3) := by decide +kernel
theorem d_M_wave_5 : decode (iC M_M_wave) 5 = .ok (.getstatic 129, 3) := by decide +kernel
theorem d_M_wave_8 : decode (iC M_M_wave) 8 = .ok (.iconst 4, 1) := by decide +kernel
theorem d_M_wave_9 : decode (iC M_M_wave) 9 = .ok (.iload_n 0, 1) := by decide +kernel
theorem d_M_wave_10 : decode (iC M_M_wave) 10 = .ok (.imul, 1) := by decide +kernel
theorem d_M_wave_11 : decode (iC M_M_wave) 11 = .ok (.iload_n 1, 1) := by decide +kernel
theorem d_M_wave_12 : decode (iC M_M_wave) 12 = .ok (.iadd, 1) := by decide +kernel
theorem d_M_wave_13 : decode (iC M_M_wave) 13 = .ok (.iaload, 1) := by decide +kernel
theorem d_M_wave_14 : decode (iC M_M_wave) 14 = .ok (.ireturn, 1) := by decide +kernel
theorem d_M_wave_15 : decode (iC M_M_wave) 15 = .ok (.iload_n 0, 1) := by decide +kernel
theorem d_M_wave_16 : decode (iC M_M_wave) 16 = .ok (.iconst 2, 1) := by decide +kernel
theorem d_M_wave_17 : decode (iC M_M_wave) 17 = .ok (.irem, 1) := by decide +kernel
theorem d_M_wave_18 : decode (iC M_M_wave) 18 = .ok (.iconst 1, 1) := by decide +kernel
theorem d_M_wave_19 : decode (iC M_M_wave) 19 = .ok (.if_icmp .ne 19, 3) := by decide +kernel
theorem d_M_wave_22 : decode (iC M_M_wave) 22 = .ok (.getstatic 129, 3) := by decide +kernel
theorem d_M_wave_25 : decode (iC M_M_wave) 25 = .ok (.iconst 4, 1) := by decide +kernel
theorem d_M_wave_26 : decode (iC M_M_wave) 26 = .ok (.iload_n 0, 1) := by decide +kernel
theorem d_M_wave_27 : decode (iC M_M_wave) 27 = .ok (.imul, 1) := by decide +kernel
theorem d_M_wave_28 : decode (iC M_M_wave) 28 = .ok (.bipush 7, 2) := by decide +kernel
theorem d_M_wave_30 : decode (iC M_M_wave) 30 = .ok (.iadd, 1) := by decide +kernel
theorem d_M_wave_31 : decode (iC M_M_wave) 31 = .ok (.iload_n 1, 1) := by decide +kernel
theorem d_M_wave_32 : decode (iC M_M_wave) 32 = .ok (.isub, 1) := by decide +kernel
theorem d_M_wave_33 : decode (iC M_M_wave) 33 = .ok (.iaload, 1) := by decide +kernel
theorem d_M_wave_34 : decode (iC M_M_wave) 34 = .ok (.ineg, 1) := by decide +kernel
theorem d_M_wave_35 : decode (iC M_M_wave) 35 = .ok (.goto 15, 3) := by decide +kernel
theorem d_M_wave_38 : decode (iC M_M_wave) 38 = .ok (.getstatic 129, 3) := by decide +kernel
theorem d_M_wave_41 : decode (iC M_M_wave) 41 = .ok (.iconst 4, 1) := by decide +kernel
theorem d_M_wave_42 : decode (iC M_M_wave) 42 = .ok (.iload_n 0, 1) := by decide +kernel
theorem d_M_wave_43 : decode (iC M_M_wave) 43 = .ok (.imul, 1) := by decide +kernel
theorem d_M_wave_44 : decode (iC M_M_wave) 44 = .ok (.bipush 7, 2) := by decide +kernel
theorem d_M_wave_46 : decode (iC M_M_wave) 46 = .ok (.iadd, 1) := by decide +kernel
theorem d_M_wave_47 : decode (iC M_M_wave) 47 = .ok (.iload_n 1, 1) := by decide +kernel
theorem d_M_wave_48 : decode (iC M_M_wave) 48 = .ok (.isub, 1) := by decide +kernel
theorem d_M_wave_49 : decode (iC M_M_wave) 49 = .ok (.iaload, 1) := by decide +kernel
theorem d_M_wave_50 : decode (iC M_M_wave) 50 = .ok (.ireturn, 1) := by decide +kernel
theorem d_M_lands_0 : decode (iC M_M_lands) 0 = .ok (.aload_n 0, 1) := by decide +kernel
theorem d_M_lands_1 : decode (iC M_M_lands) 1 = .ok (.dup, 1) := by decide +kernel
theorem d_M_lands_2 : decode (iC M_M_lands) 2 = .ok (.getfield 222, 3) := by decide +kernel
theorem d_M_lands_5 : decode (iC M_M_lands) 5 = .ok (.iconst 1, 1) := by decide +kernel
theorem d_M_lands_6 : decode (iC M_M_lands) 6 = .ok (.iadd, 1) := by decide +kernel
theorem d_M_lands_7 : decode (iC M_M_lands) 7 = .ok (.putfield 222, 3) := by decide +kernel
theorem d_M_lands_10 : decode (iC M_M_lands) 10 = .ok (.aload_n 0, 1) := by decide +kernel
theorem d_M_lands_11 : decode (iC M_M_lands) 11 = .ok (.getfield 70, 3) := by decide +kernel
theorem d_M_lands_14 : decode (iC M_M_lands) 14 = .ok (.iconst 3, 1) := by decide +kernel
theorem d_M_lands_15 : decode (iC M_M_lands) 15 = .ok (.if_icmp .ne 22, 3) := by decide +kernel
theorem d_M_lands_18 : decode (iC M_M_lands) 18 = .ok (.aload_n 0, 1) := by decide +kernel
theorem d_M_lands_19 : decode (iC M_M_lands) 19 = .ok (.aload_n 0, 1) := by decide +kernel
theorem d_M_lands_20 : decode (iC M_M_lands) 20 = .ok (.getfield 94, 3) := by decide +kernel
theorem d_M_lands_23 : decode (iC M_M_lands) 23 = .ok (.iconst 3, 1) := by decide +kernel
theorem d_M_lands_24 : decode (iC M_M_lands) 24 = .ok (.iload_n 1, 1) := by decide +kernel
theorem d_M_lands_25 : decode (iC M_M_lands) 25 = .ok (.aload_n 0, 1) := by decide +kernel
theorem d_M_lands_26 : decode (iC M_M_lands) 26 = .ok (.getfield 184, 3) := by decide +kernel
theorem d_M_lands_29 : decode (iC M_M_lands) 29 = .ok (.aload_n 0, 1) := by decide +kernel
theorem d_M_lands_30 : decode (iC M_M_lands) 30 = .ok (.getfield 199, 3) := by decide +kernel
theorem d_M_lands_33 : decode (iC M_M_lands) 33 = .ok (.invokevirtual 225, 3) := by decide +kernel
theorem d_M_lands_36 : decode (iC M_M_lands) 36 = .ok (.return_, 1) := by decide +kernel
theorem d_M_lands_37 : decode (iC M_M_lands) 37 = .ok (.aload_n 0, 1) := by decide +kernel
theorem d_M_lands_38 : decode (iC M_M_lands) 38 = .ok (.getfield 212, 3) := by decide +kernel
theorem d_M_lands_41 : decode (iC M_M_lands) 41 = .ok (.ifCond .eq 59, 3) := by decide +kernel
theorem d_M_lands_44 : decode (iC M_M_lands) 44 = .ok (.aload_n 0, 1) := by decide +kernel
theorem d_M_lands_45 : decode (iC M_M_lands) 45 = .ok (.aload_n 0, 1) := by decide +kernel
theorem d_M_lands_46 : decode (iC M_M_lands) 46 = .ok (.getfield 73, 3) := by decide +kernel
theorem d_M_lands_49 : decode (iC M_M_lands) 49 = .ok (.aload_n 0, 1) := by decide +kernel
theorem d_M_lands_50 : decode (iC M_M_lands) 50 = .ok (.getfield 229, 3) := by decide +kernel
theorem d_M_lands_53 : decode (iC M_M_lands) 53 = .ok (.aload_n 0, 1) := by decide +kernel
theorem d_M_lands_54 : decode (iC M_M_lands) 54 = .ok (.getfield 232, 3) := by decide +kernel
theorem d_M_lands_57 : decode (iC M_M_lands) 57 = .ok (.aload_n 0, 1) := by decide +kernel
theorem d_M_lands_58 : decode (iC M_M_lands) 58 = .ok (.getfield 235, 3) := by decide +kernel
theorem d_M_lands_61 : decode (iC M_M_lands) 61 = .ok (.aload_n 0, 1) := by decide +kernel
theorem d_M_lands_62 : decode (iC M_M_lands) 62 = .ok (.getfield 238, 3) := by decide +kernel
theorem d_M_lands_65 : decode (iC M_M_lands) 65 = .ok (.invokevirtual 225, 3) := by decide +kernel
theorem d_M_lands_68 : decode (iC M_M_lands) 68 = .ok (.iconst 0, 1) := by decide +kernel
theorem d_M_lands_69 : decode (iC M_M_lands) 69 = .ok (.istore_n 2, 1) := by decide +kernel
theorem d_M_lands_70 : decode (iC M_M_lands) 70 = .ok (.iload_n 2, 1) := by decide +kernel
theorem d_M_lands_71 : decode (iC M_M_lands) 71 = .ok (.sipush 6144, 3) := by decide +kernel
theorem d_M_lands_74 : decode (iC M_M_lands) 74 = .ok (.if_icmp .ge 21, 3) := by decide +kernel
theorem d_M_lands_77 : decode (iC M_M_lands) 77 = .ok (.aload_n 0, 1) := by decide +kernel
theorem d_M_lands_78 : decode (iC M_M_lands) 78 = .ok (.getfield 76, 3) := by decide +kernel
theorem d_M_lands_81 : decode (iC M_M_lands) 81 = .ok (.iload_n 2, 1) := by decide +kernel
theorem d_M_lands_82 : decode (iC M_M_lands) 82 = .ok (.aload_n 0, 1) := by decide +kernel
theorem d_M_lands_83 : decode (iC M_M_lands) 83 = .ok (.getfield 73, 3) := by decide +kernel
theorem d_M_lands_86 : decode (iC M_M_lands) 86 = .ok (.iload_n 2, 1) := by decide +kernel
theorem d_M_lands_87 : decode (iC M_M_lands) 87 = .ok (.iaload, 1) := by decide +kernel
theorem d_M_lands_88 : decode (iC M_M_lands) 88 = .ok (.iastore, 1) := by decide +kernel
theorem d_M_lands_89 : decode (iC M_M_lands) 89 = .ok (.iinc 2 1, 3) := by decide +kernel
theorem d_M_lands_92 : decode (iC M_M_lands) 92 = .ok (.goto (-22), 3) := by decide +kernel
theorem d_M_lands_95 : decode (iC M_M_lands) 95 = .ok (.aload_n 0, 1) := by decide +kernel
theorem d_M_lands_96 : decode (iC M_M_lands) 96 = .ok (.iconst 1, 1) := by decide +kernel
theorem d_M_lands_97 : decode (iC M_M_lands) 97 = .ok (.putfield 215, 3) := by decide +kernel
theorem d_M_lands_100 : decode (iC M_M_lands) 100 = .ok (.iconst 0, 1) := by decide +kernel
theorem d_M_lands_101 : decode (iC M_M_lands) 101 = .ok (.istore_n 2, 1) := by decide +kernel
theorem d_M_lands_102 : decode (iC M_M_lands) 102 = .ok (.iload_n 2, 1) := by decide +kernel
theorem d_M_lands_103 : decode (iC M_M_lands) 103 = .ok (.sipush 6144, 3) := by decide +kernel
theorem d_M_lands_106 : decode (iC M_M_lands) 106 = .ok (.if_icmp .ge 21, 3) := by decide +kernel
theorem d_M_lands_109 : decode (iC M_M_lands) 109 = .ok (.aload_n 0, 1) := by decide +kernel
theorem d_M_lands_110 : decode (iC M_M_lands) 110 = .ok (.getfield 73, 3) := by decide +kernel
theorem d_M_lands_113 : decode (iC M_M_lands) 113 = .ok (.iload_n 2, 1) := by decide +kernel
theorem d_M_lands_114 : decode (iC M_M_lands) 114 = .ok (.aload_n 0, 1) := by decide +kernel
theorem d_M_lands_115 : decode (iC M_M_lands) 115 = .ok (.getfield 94, 3) := by decide +kernel
theorem d_M_lands_118 : decode (iC M_M_lands) 118 = .ok (.iload_n 2, 1) := by decide +kernel
theorem d_M_lands_119 : decode (iC M_M_lands) 119 = .ok (.iaload, 1) := by decide +kernel
theorem d_M_lands_120 : decode (iC M_M_lands) 120 = .ok (.iastore, 1) := by decide +kernel
theorem d_M_lands_121 : decode (iC M_M_lands) 121 = .ok (.iinc 2 1, 3) := by decide +kernel
theorem d_M_lands_124 : decode (iC M_M_lands) 124 = .ok (.goto (-22), 3) := by decide +kernel
theorem d_M_lands_127 : decode (iC M_M_lands) 127 = .ok (.aload_n 0, 1) := by decide +kernel
theorem d_M_lands_128 : decode (iC M_M_lands) 128 = .ok (.iconst 1, 1) := by decide +kernel
theorem d_M_lands_129 : decode (iC M_M_lands) 129 = .ok (.putfield 212, 3) := by decide +kernel
theorem d_M_lands_132 : decode (iC M_M_lands) 132 = .ok (.aload_n 0, 1) := by decide +kernel
theorem d_M_lands_133 : decode (iC M_M_lands) 133 = .ok (.aload_n 0, 1) := by decide +kernel
theorem d_M_lands_134 : decode (iC M_M_lands) 134 = .ok (.getfield 70, 3) := by decide +kernel
theorem d_M_lands_137 : decode (iC M_M_lands) 137 = .ok (.putfield 229, 3) := by decide +kernel
theorem d_M_lands_140 : decode (iC M_M_lands) 140 = .ok (.aload_n 0, 1) := by decide +kernel
theorem d_M_lands_141 : decode (iC M_M_lands) 141 = .ok (.iload_n 1, 1) := by decide +kernel
theorem d_M_lands_142 : decode (iC M_M_lands) 142 = .ok (.putfield 232, 3) := by decide +kernel
theorem d_M_lands_145 : decode (iC M_M_lands) 145 = .ok (.aload_n 0, 1) := by decide +kernel
theorem d_M_lands_146 : decode (iC M_M_lands) 146 = .ok (.aload_n 0, 1) := by decide +kernel
theorem d_M_lands_147 : decode (iC M_M_lands) 147 = .ok (.getfield 184, 3) := by decide +kernel
theorem d_M_lands_150 : decode (iC M_M_lands) 150 = .ok (.putfield 235, 3) := by decide +kernel
theorem d_M_lands_153 : decode (iC M_M_lands) 153 = .ok (.aload_n 0, 1) := by decide +kernel
theorem d_M_lands_154 : decode (iC M_M_lands) 154 = .ok (.aload_n 0, 1) := by decide +kernel
theorem d_M_lands_155 : decode (iC M_M_lands) 155 = .ok (.getfield 199, 3) := by decide +kernel
theorem d_M_lands_158 : decode (iC M_M_lands) 158 = .ok (.putfield 238, 3) := by decide +kernel
theorem d_M_lands_161 : decode (iC M_M_lands) 161 = .ok (.return_, 1) := by decide +kernel
theorem d_M_shows_0 : decode (iC M_M_shows) 0 = .ok (.aload_n 0, 1) := by decide +kernel
theorem d_M_shows_1 : decode (iC M_M_shows) 1 = .ok (.getfield 41, 3) := by decide +kernel
theorem d_M_shows_4 : decode (iC M_M_shows) 4 = .ok (.bipush 20, 2) := by decide +kernel
theorem d_M_shows_6 : decode (iC M_M_shows) 6 = .ok (.if_icmp .ge 107, 3) := by decide +kernel
theorem d_M_shows_9 : decode (iC M_M_shows) 9 = .ok (.iconst 0, 1) := by decide +kernel
theorem d_M_shows_10 : decode (iC M_M_shows) 10 = .ok (.istore 6, 2) := by decide +kernel
theorem d_M_shows_12 : decode (iC M_M_shows) 12 = .ok (.iload 6, 2) := by decide +kernel
theorem d_M_shows_14 : decode (iC M_M_shows) 14 = .ok (.sipush 384, 3) := by decide +kernel
theorem d_M_shows_17 : decode (iC M_M_shows) 17 = .ok (.aload_n 0, 1) := by decide +kernel
theorem d_M_shows_18 : decode (iC M_M_shows) 18 = .ok (.getfield 35, 3) := by decide +kernel
theorem d_M_shows_21 : decode (iC M_M_shows) 21 = .ok (.imul, 1) := by decide +kernel
theorem d_M_shows_22 : decode (iC M_M_shows) 22 = .ok (.aload_n 0, 1) := by decide +kernel
theorem d_M_shows_23 : decode (iC M_M_shows) 23 = .ok (.getfield 38, 3) := by decide +kernel
theorem d_M_shows_26 : decode (iC M_M_shows) 26 = .ok (.imul, 1) := by decide +kernel
theorem d_M_shows_27 : decode (iC M_M_shows) 27 = .ok (.if_icmp .ge 30, 3) := by decide +kernel
theorem d_M_shows_30 : decode (iC M_M_shows) 30 = .ok (.aload_n 0, 1) := by decide +kernel
theorem d_M_shows_31 : decode (iC M_M_shows) 31 = .ok (.getfield 44, 3) := by decide +kernel
theorem d_M_shows_34 : decode (iC M_M_shows) 34 = .ok (.sipush 6144, 3) := by decide +kernel
theorem d_M_shows_37 : decode (iC M_M_shows) 37 = .ok (.aload_n 0, 1) := by decide +kernel
theorem d_M_shows_38 : decode (iC M_M_shows) 38 = .ok (.getfield 41, 3) := by decide +kernel
theorem d_M_shows_41 : decode (iC M_M_shows) 41 = .ok (.imul, 1) := by decide +kernel
theorem d_M_shows_42 : decode (iC M_M_shows) 42 = .ok (.iload 6, 2) := by decide +kernel
theorem d_M_shows_44 : decode (iC M_M_shows) 44 = .ok (.iadd, 1) := by decide +kernel
theorem d_M_shows_45 : decode (iC M_M_shows) 45 = .ok (.aload_n 1, 1) := by decide +kernel
theorem d_M_shows_46 : decode (iC M_M_shows) 46 = .ok (.iload 6, 2) := by decide +kernel
theorem d_M_shows_48 : decode (iC M_M_shows) 48 = .ok (.iaload, 1) := by decide +kernel
theorem d_M_shows_49 : decode (iC M_M_shows) 49 = .ok (.i2b, 1) := by decide +kernel
theorem d_M_shows_50 : decode (iC M_M_shows) 50 = .ok (.bastore, 1) := by decide +kernel
theorem d_M_shows_51 : decode (iC M_M_shows) 51 = .ok (.iinc 6 1, 3) := by decide +kernel
theorem d_M_shows_54 : decode (iC M_M_shows) 54 = .ok (.goto (-42), 3) := by decide +kernel
theorem d_M_shows_57 : decode (iC M_M_shows) 57 = .ok (.aload_n 0, 1) := by decide +kernel
theorem d_M_shows_58 : decode (iC M_M_shows) 58 = .ok (.getfield 47, 3) := by decide +kernel
theorem d_M_shows_61 : decode (iC M_M_shows) 61 = .ok (.iconst 4, 1) := by decide +kernel
theorem d_M_shows_62 : decode (iC M_M_shows) 62 = .ok (.aload_n 0, 1) := by decide +kernel
theorem d_M_shows_63 : decode (iC M_M_shows) 63 = .ok (.getfield 41, 3) := by decide +kernel
theorem d_M_shows_66 : decode (iC M_M_shows) 66 = .ok (.imul, 1) := by decide +kernel
theorem d_M_shows_67 : decode (iC M_M_shows) 67 = .ok (.iload_n 2, 1) := by decide +kernel
theorem d_M_shows_68 : decode (iC M_M_shows) 68 = .ok (.iastore, 1) := by decide +kernel
theorem d_M_shows_69 : decode (iC M_M_shows) 69 = .ok (.aload_n 0, 1) := by decide +kernel
theorem d_M_shows_70 : decode (iC M_M_shows) 70 = .ok (.getfield 47, 3) := by decide +kernel
theorem d_M_shows_73 : decode (iC M_M_shows) 73 = .ok (.iconst 4, 1) := by decide +kernel
theorem d_M_shows_74 : decode (iC M_M_shows) 74 = .ok (.aload_n 0, 1) := by decide +kernel
theorem d_M_shows_75 : decode (iC M_M_shows) 75 = .ok (.getfield 41, 3) := by decide +kernel
theorem d_M_shows_78 : decode (iC M_M_shows) 78 = .ok (.imul, 1) := by decide +kernel
theorem d_M_shows_79 : decode (iC M_M_shows) 79 = .ok (.iconst 1, 1) := by decide +kernel
theorem d_M_shows_80 : decode (iC M_M_shows) 80 = .ok (.iadd, 1) := by decide +kernel
theorem d_M_shows_81 : decode (iC M_M_shows) 81 = .ok (.iload_n 3, 1) := by decide +kernel
theorem d_M_shows_82 : decode (iC M_M_shows) 82 = .ok (.iastore, 1) := by decide +kernel
theorem d_M_shows_83 : decode (iC M_M_shows) 83 = .ok (.aload_n 0, 1) := by decide +kernel
theorem d_M_shows_84 : decode (iC M_M_shows) 84 = .ok (.getfield 47, 3) := by decide +kernel
theorem d_M_shows_87 : decode (iC M_M_shows) 87 = .ok (.iconst 4, 1) := by decide +kernel
theorem d_M_shows_88 : decode (iC M_M_shows) 88 = .ok (.aload_n 0, 1) := by decide +kernel
theorem d_M_shows_89 : decode (iC M_M_shows) 89 = .ok (.getfield 41, 3) := by decide +kernel
theorem d_M_shows_92 : decode (iC M_M_shows) 92 = .ok (.imul, 1) := by decide +kernel
theorem d_M_shows_93 : decode (iC M_M_shows) 93 = .ok (.iconst 2, 1) := by decide +kernel
theorem d_M_shows_94 : decode (iC M_M_shows) 94 = .ok (.iadd, 1) := by decide +kernel
theorem d_M_shows_95 : decode (iC M_M_shows) 95 = .ok (.iload 4, 2) := by decide +kernel
theorem d_M_shows_97 : decode (iC M_M_shows) 97 = .ok (.iastore, 1) := by decide +kernel
theorem d_M_shows_98 : decode (iC M_M_shows) 98 = .ok (.aload_n 0, 1) := by decide +kernel
theorem d_M_shows_99 : decode (iC M_M_shows) 99 = .ok (.getfield 47, 3) := by decide +kernel
theorem d_M_shows_102 : decode (iC M_M_shows) 102 = .ok (.iconst 4, 1) := by decide +kernel
theorem d_M_shows_103 : decode (iC M_M_shows) 103 = .ok (.aload_n 0, 1) := by decide +kernel
theorem d_M_shows_104 : decode (iC M_M_shows) 104 = .ok (.getfield 41, 3) := by decide +kernel
theorem d_M_shows_107 : decode (iC M_M_shows) 107 = .ok (.imul, 1) := by decide +kernel
theorem d_M_shows_108 : decode (iC M_M_shows) 108 = .ok (.iconst 3, 1) := by decide +kernel
theorem d_M_shows_109 : decode (iC M_M_shows) 109 = .ok (.iadd, 1) := by decide +kernel
theorem d_M_shows_110 : decode (iC M_M_shows) 110 = .ok (.iload 5, 2) := by decide +kernel
theorem d_M_shows_112 : decode (iC M_M_shows) 112 = .ok (.iastore, 1) := by decide +kernel
theorem d_M_shows_113 : decode (iC M_M_shows) 113 = .ok (.aload_n 0, 1) := by decide +kernel
theorem d_M_shows_114 : decode (iC M_M_shows) 114 = .ok (.dup, 1) := by decide +kernel
theorem d_M_shows_115 : decode (iC M_M_shows) 115 = .ok (.getfield 41, 3) := by decide +kernel
theorem d_M_shows_118 : decode (iC M_M_shows) 118 = .ok (.iconst 1, 1) := by decide +kernel
theorem d_M_shows_119 : decode (iC M_M_shows) 119 = .ok (.iadd, 1) := by decide +kernel
theorem d_M_shows_120 : decode (iC M_M_shows) 120 = .ok (.putfield 41, 3) := by decide +kernel
theorem d_M_shows_123 : decode (iC M_M_shows) 123 = .ok (.return_, 1) := by decide +kernel
theorem d_M_wrong_0 : decode (iC M_M_wrong) 0 = .ok (.aload_n 0, 1) := by decide +kernel
theorem d_M_wrong_1 : decode (iC M_M_wrong) 1 = .ok (.iconst 0, 1) := by decide +kernel
theorem d_M_wrong_2 : decode (iC M_M_wrong) 2 = .ok (.putfield 1, 3) := by decide +kernel
theorem d_M_wrong_5 : decode (iC M_M_wrong) 5 = .ok (.aload_n 0, 1) := by decide +kernel
theorem d_M_wrong_6 : decode (iC M_M_wrong) 6 = .ok (.getfield 7, 3) := by decide +kernel
theorem d_M_wrong_9 : decode (iC M_M_wrong) 9 = .ok (.ireturn, 1) := by decide +kernel
theorem d_M_look_0 : decode (iC M_M_look) 0 = .ok (.aload_n 0, 1) := by decide +kernel
theorem d_M_look_1 : decode (iC M_M_look) 1 = .ok (.iconst 0, 1) := by decide +kernel
theorem d_M_look_2 : decode (iC M_M_look) 2 = .ok (.putfield 1, 3) := by decide +kernel
theorem d_M_look_5 : decode (iC M_M_look) 5 = .ok (.iload_n 1, 1) := by decide +kernel
theorem d_M_look_6 : decode (iC M_M_look) 6 = .ok (.tableswitch 86 0 7 #[46, 51, 56, 61, 66, 71, 76, 81], 46) := by decide +kernel
theorem d_M_look_52 : decode (iC M_M_look) 52 = .ok (.aload_n 0, 1) := by decide +kernel
theorem d_M_look_53 : decode (iC M_M_look) 53 = .ok (.getfield 244, 3) := by decide +kernel
theorem d_M_look_56 : decode (iC M_M_look) 56 = .ok (.ireturn, 1) := by decide +kernel
theorem d_M_look_57 : decode (iC M_M_look) 57 = .ok (.aload_n 0, 1) := by decide +kernel
theorem d_M_look_58 : decode (iC M_M_look) 58 = .ok (.getfield 247, 3) := by decide +kernel
theorem d_M_look_61 : decode (iC M_M_look) 61 = .ok (.ireturn, 1) := by decide +kernel
theorem d_M_look_62 : decode (iC M_M_look) 62 = .ok (.aload_n 0, 1) := by decide +kernel
theorem d_M_look_63 : decode (iC M_M_look) 63 = .ok (.getfield 41, 3) := by decide +kernel
theorem d_M_look_66 : decode (iC M_M_look) 66 = .ok (.ireturn, 1) := by decide +kernel
theorem d_M_look_67 : decode (iC M_M_look) 67 = .ok (.aload_n 0, 1) := by decide +kernel
theorem d_M_look_68 : decode (iC M_M_look) 68 = .ok (.getfield 222, 3) := by decide +kernel
theorem d_M_look_71 : decode (iC M_M_look) 71 = .ok (.ireturn, 1) := by decide +kernel
theorem d_M_look_72 : decode (iC M_M_look) 72 = .ok (.aload_n 0, 1) := by decide +kernel
theorem d_M_look_73 : decode (iC M_M_look) 73 = .ok (.getfield 181, 3) := by decide +kernel
theorem d_M_look_76 : decode (iC M_M_look) 76 = .ok (.ireturn, 1) := by decide +kernel
theorem d_M_look_77 : decode (iC M_M_look) 77 = .ok (.aload_n 0, 1) := by decide +kernel
theorem d_M_look_78 : decode (iC M_M_look) 78 = .ok (.getfield 196, 3) := by decide +kernel
theorem d_M_look_81 : decode (iC M_M_look) 81 = .ok (.ireturn, 1) := by decide +kernel
theorem d_M_look_82 : decode (iC M_M_look) 82 = .ok (.aload_n 0, 1) := by decide +kernel
theorem d_M_look_83 : decode (iC M_M_look) 83 = .ok (.getfield 157, 3) := by decide +kernel
theorem d_M_look_86 : decode (iC M_M_look) 86 = .ok (.ireturn, 1) := by decide +kernel
theorem d_M_look_87 : decode (iC M_M_look) 87 = .ok (.aload_n 0, 1) := by decide +kernel
theorem d_M_look_88 : decode (iC M_M_look) 88 = .ok (.getfield 151, 3) := by decide +kernel
theorem d_M_look_91 : decode (iC M_M_look) 91 = .ok (.ireturn, 1) := by decide +kernel
theorem d_M_look_92 : decode (iC M_M_look) 92 = .ok (.aload_n 0, 1) := by decide +kernel
theorem d_M_look_93 : decode (iC M_M_look) 93 = .ok (.iconst 1, 1) := by decide +kernel
theorem d_M_look_94 : decode (iC M_M_look) 94 = .ok (.putfield 1, 3) := by decide +kernel
theorem d_M_look_97 : decode (iC M_M_look) 97 = .ok (.iconst 0, 1) := by decide +kernel
theorem d_M_look_98 : decode (iC M_M_look) 98 = .ok (.ireturn, 1) := by decide +kernel
theorem d_M_shown_0 : decode (iC M_M_shown) 0 = .ok (.aload_n 0, 1) := by decide +kernel
theorem d_M_shown_1 : decode (iC M_M_shown) 1 = .ok (.iconst 0, 1) := by decide +kernel
theorem d_M_shown_2 : decode (iC M_M_shown) 2 = .ok (.putfield 1, 3) := by decide +kernel
theorem d_M_shown_5 : decode (iC M_M_shown) 5 = .ok (.aload_n 0, 1) := by decide +kernel
theorem d_M_shown_6 : decode (iC M_M_shown) 6 = .ok (.iload_n 1, 1) := by decide +kernel
theorem d_M_shown_7 : decode (iC M_M_shown) 7 = .ok (.invokevirtual 264, 3) := by decide +kernel
theorem d_M_shown_10 : decode (iC M_M_shown) 10 = .ok (.ifCond .ne 12, 3) := by decide +kernel
theorem d_M_shown_13 : decode (iC M_M_shown) 13 = .ok (.iload_n 2, 1) := by decide +kernel
theorem d_M_shown_14 : decode (iC M_M_shown) 14 = .ok (.ifCond .lt 8, 3) := by decide +kernel
theorem d_M_shown_17 : decode (iC M_M_shown) 17 = .ok (.iload_n 2, 1) := by decide +kernel
theorem d_M_shown_18 : decode (iC M_M_shown) 18 = .ok (.iconst 3, 1) := by decide +kernel
theorem d_M_shown_19 : decode (iC M_M_shown) 19 = .ok (.if_icmp .le 10, 3) := by decide +kernel
theorem d_M_shown_22 : decode (iC M_M_shown) 22 = .ok (.aload_n 0, 1) := by decide +kernel
theorem d_M_shown_23 : decode (iC M_M_shown) 23 = .ok (.iconst 1, 1) := by decide +kernel
theorem d_M_shown_24 : decode (iC M_M_shown) 24 = .ok (.putfield 1, 3) := by decide +kernel
theorem d_M_shown_27 : decode (iC M_M_shown) 27 = .ok (.iconst 0, 1) := by decide +kernel
theorem d_M_shown_28 : decode (iC M_M_shown) 28 = .ok (.ireturn, 1) := by decide +kernel
theorem d_M_shown_29 : decode (iC M_M_shown) 29 = .ok (.aload_n 0, 1) := by decide +kernel
theorem d_M_shown_30 : decode (iC M_M_shown) 30 = .ok (.getfield 47, 3) := by decide +kernel
theorem d_M_shown_33 : decode (iC M_M_shown) 33 = .ok (.iconst 4, 1) := by decide +kernel
theorem d_M_shown_34 : decode (iC M_M_shown) 34 = .ok (.iload_n 1, 1) := by decide +kernel
theorem d_M_shown_35 : decode (iC M_M_shown) 35 = .ok (.imul, 1) := by decide +kernel
theorem d_M_shown_36 : decode (iC M_M_shown) 36 = .ok (.iload_n 2, 1) := by decide +kernel
theorem d_M_shown_37 : decode (iC M_M_shown) 37 = .ok (.iadd, 1) := by decide +kernel
theorem d_M_shown_38 : decode (iC M_M_shown) 38 = .ok (.iaload, 1) := by decide +kernel
theorem d_M_shown_39 : decode (iC M_M_shown) 39 = .ok (.ireturn, 1) := by decide +kernel
theorem d_M_noPicture_0 : decode (iC M_M_noPicture) 0 = .ok (.iload_n 1, 1) := by decide +kernel
theorem d_M_noPicture_1 : decode (iC M_M_noPicture) 1 = .ok (.ifCond .lt 17, 3) := by decide +kernel
theorem d_M_noPicture_4 : decode (iC M_M_noPicture) 4 = .ok (.iload_n 1, 1) := by decide +kernel
theorem d_M_noPicture_5 : decode (iC M_M_noPicture) 5 = .ok (.aload_n 0, 1) := by decide +kernel
theorem d_M_noPicture_6 : decode (iC M_M_noPicture) 6 = .ok (.getfield 41, 3) := by decide +kernel
theorem d_M_noPicture_9 : decode (iC M_M_noPicture) 9 = .ok (.if_icmp .ge 9, 3) := by decide +kernel
theorem d_M_noPicture_12 : decode (iC M_M_noPicture) 12 = .ok (.iload_n 1, 1) := by decide +kernel
theorem d_M_noPicture_13 : decode (iC M_M_noPicture) 13 = .ok (.bipush 20, 2) := by decide +kernel
theorem d_M_noPicture_15 : decode (iC M_M_noPicture) 15 = .ok (.if_icmp .lt 7, 3) := by decide +kernel
theorem d_M_noPicture_18 : decode (iC M_M_noPicture) 18 = .ok (.iconst 1, 1) := by decide +kernel
theorem d_M_noPicture_19 : decode (iC M_M_noPicture) 19 = .ok (.goto 4, 3) := by decide +kernel
theorem d_M_noPicture_22 : decode (iC M_M_noPicture) 22 = .ok (.iconst 0, 1) := by decide +kernel
theorem d_M_noPicture_23 : decode (iC M_M_noPicture) 23 = .ok (.ireturn, 1) := by decide +kernel
theorem d_M_dot_0 : decode (iC M_M_dot) 0 = .ok (.aload_n 0, 1) := by decide +kernel
theorem d_M_dot_1 : decode (iC M_M_dot) 1 = .ok (.iconst 0, 1) := by decide +kernel
theorem d_M_dot_2 : decode (iC M_M_dot) 2 = .ok (.putfield 1, 3) := by decide +kernel
theorem d_M_dot_5 : decode (iC M_M_dot) 5 = .ok (.aload_n 0, 1) := by decide +kernel
theorem d_M_dot_6 : decode (iC M_M_dot) 6 = .ok (.iload_n 1, 1) := by decide +kernel
theorem d_M_dot_7 : decode (iC M_M_dot) 7 = .ok (.iload_n 2, 1) := by decide +kernel
theorem d_M_dot_8 : decode (iC M_M_dot) 8 = .ok (.invokevirtual 267, 3) := by decide +kernel
theorem d_M_dot_11 : decode (iC M_M_dot) 11 = .ok (.ifCond .ne 31, 3) := by decide +kernel
theorem d_M_dot_14 : decode (iC M_M_dot) 14 = .ok (.iload_n 3, 1) := by decide +kernel
theorem d_M_dot_15 : decode (iC M_M_dot) 15 = .ok (.ifCond .lt 27, 3) := by decide +kernel
theorem d_M_dot_18 : decode (iC M_M_dot) 18 = .ok (.iload 4, 2) := by decide +kernel
theorem d_M_dot_20 : decode (iC M_M_dot) 20 = .ok (.ifCond .lt 22, 3) := by decide +kernel
theorem d_M_dot_23 : decode (iC M_M_dot) 23 = .ok (.iload_n 3, 1) := by decide +kernel
theorem d_M_dot_24 : decode (iC M_M_dot) 24 = .ok (.aload_n 0, 1) := by decide +kernel
theorem d_M_dot_25 : decode (iC M_M_dot) 25 = .ok (.iload_n 2, 1) := by decide +kernel
theorem d_M_dot_26 : decode (iC M_M_dot) 26 = .ok (.invokevirtual 51, 3) := by decide +kernel
theorem d_M_dot_29 : decode (iC M_M_dot) 29 = .ok (.if_icmp .ge 13, 3) := by decide +kernel
theorem d_M_dot_32 : decode (iC M_M_dot) 32 = .ok (.iload 4, 2) := by decide +kernel
theorem d_M_dot_34 : decode (iC M_M_dot) 34 = .ok (.aload_n 0, 1) := by decide +kernel
theorem d_M_dot_35 : decode (iC M_M_dot) 35 = .ok (.iload_n 2, 1) := by decide +kernel
theorem d_M_dot_36 : decode (iC M_M_dot) 36 = .ok (.invokevirtual 54, 3) := by decide +kernel
theorem d_M_dot_39 : decode (iC M_M_dot) 39 = .ok (.if_icmp .lt 5, 3) := by decide +kernel
theorem d_M_dot_42 : decode (iC M_M_dot) 42 = .ok (.iconst (-1), 1) := by decide +kernel
theorem d_M_dot_43 : decode (iC M_M_dot) 43 = .ok (.ireturn, 1) := by decide +kernel
theorem d_M_dot_44 : decode (iC M_M_dot) 44 = .ok (.aload_n 0, 1) := by decide +kernel
theorem d_M_dot_45 : decode (iC M_M_dot) 45 = .ok (.getfield 44, 3) := by decide +kernel
theorem d_M_dot_48 : decode (iC M_M_dot) 48 = .ok (.sipush 6144, 3) := by decide +kernel
theorem d_M_dot_51 : decode (iC M_M_dot) 51 = .ok (.iload_n 1, 1) := by decide +kernel
theorem d_M_dot_52 : decode (iC M_M_dot) 52 = .ok (.imul, 1) := by decide +kernel
theorem d_M_dot_53 : decode (iC M_M_dot) 53 = .ok (.aload_n 0, 1) := by decide +kernel
theorem d_M_dot_54 : decode (iC M_M_dot) 54 = .ok (.iload_n 2, 1) := by decide +kernel
theorem d_M_dot_55 : decode (iC M_M_dot) 55 = .ok (.invokevirtual 57, 3) := by decide +kernel
theorem d_M_dot_58 : decode (iC M_M_dot) 58 = .ok (.iadd, 1) := by decide +kernel
theorem d_M_dot_59 : decode (iC M_M_dot) 59 = .ok (.aload_n 0, 1) := by decide +kernel
theorem d_M_dot_60 : decode (iC M_M_dot) 60 = .ok (.iload_n 2, 1) := by decide +kernel
theorem d_M_dot_61 : decode (iC M_M_dot) 61 = .ok (.invokevirtual 51, 3) := by decide +kernel
theorem d_M_dot_64 : decode (iC M_M_dot) 64 = .ok (.iload 4, 2) := by decide +kernel
theorem d_M_dot_66 : decode (iC M_M_dot) 66 = .ok (.imul, 1) := by decide +kernel
theorem d_M_dot_67 : decode (iC M_M_dot) 67 = .ok (.iadd, 1) := by decide +kernel
theorem d_M_dot_68 : decode (iC M_M_dot) 68 = .ok (.iload_n 3, 1) := by decide +kernel
theorem d_M_dot_69 : decode (iC M_M_dot) 69 = .ok (.iadd, 1) := by decide +kernel
theorem d_M_dot_70 : decode (iC M_M_dot) 70 = .ok (.baload, 1) := by decide +kernel
theorem d_M_dot_71 : decode (iC M_M_dot) 71 = .ok (.sipush 255, 3) := by decide +kernel
theorem d_M_dot_74 : decode (iC M_M_dot) 74 = .ok (.iand, 1) := by decide +kernel
theorem d_M_dot_75 : decode (iC M_M_dot) 75 = .ok (.ireturn, 1) := by decide +kernel
theorem d_M_noPlane_0 : decode (iC M_M_noPlane) 0 = .ok (.aload_n 0, 1) := by decide +kernel
theorem d_M_noPlane_1 : decode (iC M_M_noPlane) 1 = .ok (.iload_n 1, 1) := by decide +kernel
theorem d_M_noPlane_2 : decode (iC M_M_noPlane) 2 = .ok (.invokevirtual 264, 3) := by decide +kernel
theorem d_M_noPlane_5 : decode (iC M_M_noPlane) 5 = .ok (.ifCond .ne 12, 3) := by decide +kernel
theorem d_M_noPlane_8 : decode (iC M_M_noPlane) 8 = .ok (.iload_n 2, 1) := by decide +kernel
theorem d_M_noPlane_9 : decode (iC M_M_noPlane) 9 = .ok (.ifCond .lt 8, 3) := by decide +kernel
theorem d_M_noPlane_12 : decode (iC M_M_noPlane) 12 = .ok (.iload_n 2, 1) := by decide +kernel
theorem d_M_noPlane_13 : decode (iC M_M_noPlane) 13 = .ok (.iconst 2, 1) := by decide +kernel
theorem d_M_noPlane_14 : decode (iC M_M_noPlane) 14 = .ok (.if_icmp .le 7, 3) := by decide +kernel
theorem d_M_noPlane_17 : decode (iC M_M_noPlane) 17 = .ok (.iconst 1, 1) := by decide +kernel
theorem d_M_noPlane_18 : decode (iC M_M_noPlane) 18 = .ok (.goto 4, 3) := by decide +kernel
theorem d_M_noPlane_21 : decode (iC M_M_noPlane) 21 = .ok (.iconst 0, 1) := by decide +kernel
theorem d_M_noPlane_22 : decode (iC M_M_noPlane) 22 = .ok (.ireturn, 1) := by decide +kernel
theorem d_M_sum_0 : decode (iC M_M_sum) 0 = .ok (.aload_n 0, 1) := by decide +kernel
theorem d_M_sum_1 : decode (iC M_M_sum) 1 = .ok (.iconst 0, 1) := by decide +kernel
theorem d_M_sum_2 : decode (iC M_M_sum) 2 = .ok (.putfield 1, 3) := by decide +kernel
theorem d_M_sum_5 : decode (iC M_M_sum) 5 = .ok (.aload_n 0, 1) := by decide +kernel
theorem d_M_sum_6 : decode (iC M_M_sum) 6 = .ok (.iload_n 1, 1) := by decide +kernel
theorem d_M_sum_7 : decode (iC M_M_sum) 7 = .ok (.iload_n 2, 1) := by decide +kernel
theorem d_M_sum_8 : decode (iC M_M_sum) 8 = .ok (.invokevirtual 267, 3) := by decide +kernel
theorem d_M_sum_11 : decode (iC M_M_sum) 11 = .ok (.ifCond .eq 5, 3) := by decide +kernel
theorem d_M_sum_14 : decode (iC M_M_sum) 14 = .ok (.iconst (-1), 1) := by decide +kernel
theorem d_M_sum_15 : decode (iC M_M_sum) 15 = .ok (.ireturn, 1) := by decide +kernel
theorem d_M_sum_16 : decode (iC M_M_sum) 16 = .ok (.iconst 0, 1) := by decide +kernel
theorem d_M_sum_17 : decode (iC M_M_sum) 17 = .ok (.istore_n 3, 1) := by decide +kernel
theorem d_M_sum_18 : decode (iC M_M_sum) 18 = .ok (.iconst 0, 1) := by decide +kernel
theorem d_M_sum_19 : decode (iC M_M_sum) 19 = .ok (.istore 4, 2) := by decide +kernel
theorem d_M_sum_21 : decode (iC M_M_sum) 21 = .ok (.iload 4, 2) := by decide +kernel
theorem d_M_sum_23 : decode (iC M_M_sum) 23 = .ok (.aload_n 0, 1) := by decide +kernel
theorem d_M_sum_24 : decode (iC M_M_sum) 24 = .ok (.iload_n 2, 1) := by decide +kernel
theorem d_M_sum_25 : decode (iC M_M_sum) 25 = .ok (.invokevirtual 51, 3) := by decide +kernel
theorem d_M_sum_28 : decode (iC M_M_sum) 28 = .ok (.aload_n 0, 1) := by decide +kernel
theorem d_M_sum_29 : decode (iC M_M_sum) 29 = .ok (.iload_n 2, 1) := by decide +kernel
theorem d_M_sum_30 : decode (iC M_M_sum) 30 = .ok (.invokevirtual 54, 3) := by decide +kernel
theorem d_M_sum_33 : decode (iC M_M_sum) 33 = .ok (.imul, 1) := by decide +kernel
theorem d_M_sum_34 : decode (iC M_M_sum) 34 = .ok (.if_icmp .ge 40, 3) := by decide +kernel
theorem d_M_sum_37 : decode (iC M_M_sum) 37 = .ok (.iload_n 3, 1) := by decide +kernel
theorem d_M_sum_38 : decode (iC M_M_sum) 38 = .ok (.aload_n 0, 1) := by decide +kernel
theorem d_M_sum_39 : decode (iC M_M_sum) 39 = .ok (.getfield 44, 3) := by decide +kernel
theorem d_M_sum_42 : decode (iC M_M_sum) 42 = .ok (.sipush 6144, 3) := by decide +kernel
theorem d_M_sum_45 : decode (iC M_M_sum) 45 = .ok (.iload_n 1, 1) := by decide +kernel
theorem d_M_sum_46 : decode (iC M_M_sum) 46 = .ok (.imul, 1) := by decide +kernel
theorem d_M_sum_47 : decode (iC M_M_sum) 47 = .ok (.aload_n 0, 1) := by decide +kernel
theorem d_M_sum_48 : decode (iC M_M_sum) 48 = .ok (.iload_n 2, 1) := by decide +kernel
theorem d_M_sum_49 : decode (iC M_M_sum) 49 = .ok (.invokevirtual 57, 3) := by decide +kernel
theorem d_M_sum_52 : decode (iC M_M_sum) 52 = .ok (.iadd, 1) := by decide +kernel
theorem d_M_sum_53 : decode (iC M_M_sum) 53 = .ok (.iload 4, 2) := by decide +kernel
theorem d_M_sum_55 : decode (iC M_M_sum) 55 = .ok (.iadd, 1) := by decide +kernel
theorem d_M_sum_56 : decode (iC M_M_sum) 56 = .ok (.baload, 1) := by decide +kernel
theorem d_M_sum_57 : decode (iC M_M_sum) 57 = .ok (.sipush 255, 3) := by decide +kernel
theorem d_M_sum_60 : decode (iC M_M_sum) 60 = .ok (.iand, 1) := by decide +kernel
theorem d_M_sum_61 : decode (iC M_M_sum) 61 = .ok (.iconst 1, 1) := by decide +kernel
theorem d_M_sum_62 : decode (iC M_M_sum) 62 = .ok (.iload 4, 2) := by decide +kernel
theorem d_M_sum_64 : decode (iC M_M_sum) 64 = .ok (.iadd, 1) := by decide +kernel
theorem d_M_sum_65 : decode (iC M_M_sum) 65 = .ok (.imul, 1) := by decide +kernel
theorem d_M_sum_66 : decode (iC M_M_sum) 66 = .ok (.iadd, 1) := by decide +kernel
theorem d_M_sum_67 : decode (iC M_M_sum) 67 = .ok (.istore_n 3, 1) := by decide +kernel
theorem d_M_sum_68 : decode (iC M_M_sum) 68 = .ok (.iinc 4 1, 3) := by decide +kernel
theorem d_M_sum_71 : decode (iC M_M_sum) 71 = .ok (.goto (-50), 3) := by decide +kernel
theorem d_M_sum_74 : decode (iC M_M_sum) 74 = .ok (.iload_n 3, 1) := by decide +kernel
theorem d_M_sum_75 : decode (iC M_M_sum) 75 = .ok (.ireturn, 1) := by decide +kernel
