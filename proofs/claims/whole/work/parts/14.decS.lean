theorem d_S_init_0 : decode (iC M_S_init) 0 = .ok (.aload_n 0, 1) := by decide +kernel
theorem d_S_init_1 : decode (iC M_S_init) 1 = .ok (.invokespecial 3, 3) := by decide +kernel
theorem d_S_init_4 : decode (iC M_S_init) 4 = .ok (.aload_n 0, 1) := by decide +kernel
theorem d_S_init_5 : decode (iC M_S_init) 5 = .ok (.new 9, 3) := by decide +kernel
theorem d_S_init_8 : decode (iC M_S_init) 8 = .ok (.dup, 1) := by decide +kernel
theorem d_S_init_9 : decode (iC M_S_init) 9 = .ok (.invokespecial 11, 3) := by decide +kernel
theorem d_S_init_12 : decode (iC M_S_init) 12 = .ok (.putfield 12, 3) := by decide +kernel
theorem d_S_init_15 : decode (iC M_S_init) 15 = .ok (.aload_n 0, 1) := by decide +kernel
theorem d_S_init_16 : decode (iC M_S_init) 16 = .ok (.iconst 3, 1) := by decide +kernel
theorem d_S_init_17 : decode (iC M_S_init) 17 = .ok (.newarray .int, 2) := by decide +kernel
theorem d_S_init_19 : decode (iC M_S_init) 19 = .ok (.putfield 18, 3) := by decide +kernel
theorem d_S_init_22 : decode (iC M_S_init) 22 = .ok (.aload_n 0, 1) := by decide +kernel
theorem d_S_init_23 : decode (iC M_S_init) 23 = .ok (.iconst 2, 1) := by decide +kernel
theorem d_S_init_24 : decode (iC M_S_init) 24 = .ok (.newarray .int, 2) := by decide +kernel
theorem d_S_init_26 : decode (iC M_S_init) 26 = .ok (.putfield 22, 3) := by decide +kernel
theorem d_S_init_29 : decode (iC M_S_init) 29 = .ok (.aload_n 0, 1) := by decide +kernel
theorem d_S_init_30 : decode (iC M_S_init) 30 = .ok (.iconst 2, 1) := by decide +kernel
theorem d_S_init_31 : decode (iC M_S_init) 31 = .ok (.newarray .int, 2) := by decide +kernel
theorem d_S_init_33 : decode (iC M_S_init) 33 = .ok (.putfield 25, 3) := by decide +kernel
theorem d_S_init_36 : decode (iC M_S_init) 36 = .ok (.aload_n 0, 1) := by decide +kernel
theorem d_S_init_37 : decode (iC M_S_init) 37 = .ok (.aload_n 1, 1) := by decide +kernel
theorem d_S_init_38 : decode (iC M_S_init) 38 = .ok (.putfield 28, 3) := by decide +kernel
theorem d_S_init_41 : decode (iC M_S_init) 41 = .ok (.aload_n 0, 1) := by decide +kernel
theorem d_S_init_42 : decode (iC M_S_init) 42 = .ok (.aload_n 2, 1) := by decide +kernel
theorem d_S_init_43 : decode (iC M_S_init) 43 = .ok (.putfield 32, 3) := by decide +kernel
theorem d_S_init_46 : decode (iC M_S_init) 46 = .ok (.return_, 1) := by decide +kernel
theorem d_S_readSize_0 : decode (iC M_S_readSize) 0 = .ok (.aload_n 0, 1) := by decide +kernel
theorem d_S_readSize_1 : decode (iC M_S_readSize) 1 = .ok (.getfield 28, 3) := by decide +kernel
theorem d_S_readSize_4 : decode (iC M_S_readSize) 4 = .ok (.sipush 21074, 3) := by decide +kernel
theorem d_S_readSize_7 : decode (iC M_S_readSize) 7 = .ok (.bipush 16, 2) := by decide +kernel
theorem d_S_readSize_9 : decode (iC M_S_readSize) 9 = .ok (.invokevirtual 36, 3) := by decide +kernel
theorem d_S_readSize_12 : decode (iC M_S_readSize) 12 = .ok (.aload_n 0, 1) := by decide +kernel
theorem d_S_readSize_13 : decode (iC M_S_readSize) 13 = .ok (.getfield 28, 3) := by decide +kernel
theorem d_S_readSize_16 : decode (iC M_S_readSize) 16 = .ok (.iconst 2, 1) := by decide +kernel
theorem d_S_readSize_17 : decode (iC M_S_readSize) 17 = .ok (.invokevirtual 42, 3) := by decide +kernel
theorem d_S_readSize_20 : decode (iC M_S_readSize) 20 = .ok (.iconst 1, 1) := by decide +kernel
theorem d_S_readSize_21 : decode (iC M_S_readSize) 21 = .ok (.iadd, 1) := by decide +kernel
theorem d_S_readSize_22 : decode (iC M_S_readSize) 22 = .ok (.istore_n 1, 1) := by decide +kernel
theorem d_S_readSize_23 : decode (iC M_S_readSize) 23 = .ok (.aload_n 0, 1) := by decide +kernel
theorem d_S_readSize_24 : decode (iC M_S_readSize) 24 = .ok (.getfield 28, 3) := by decide +kernel
theorem d_S_readSize_27 : decode (iC M_S_readSize) 27 = .ok (.iconst 2, 1) := by decide +kernel
theorem d_S_readSize_28 : decode (iC M_S_readSize) 28 = .ok (.invokevirtual 42, 3) := by decide +kernel
theorem d_S_readSize_31 : decode (iC M_S_readSize) 31 = .ok (.iconst 1, 1) := by decide +kernel
theorem d_S_readSize_32 : decode (iC M_S_readSize) 32 = .ok (.iadd, 1) := by decide +kernel
theorem d_S_readSize_33 : decode (iC M_S_readSize) 33 = .ok (.istore_n 2, 1) := by decide +kernel
theorem d_S_readSize_34 : decode (iC M_S_readSize) 34 = .ok (.aload_n 0, 1) := by decide +kernel
theorem d_S_readSize_35 : decode (iC M_S_readSize) 35 = .ok (.getfield 32, 3) := by decide +kernel
theorem d_S_readSize_38 : decode (iC M_S_readSize) 38 = .ok (.iload_n 1, 1) := by decide +kernel
theorem d_S_readSize_39 : decode (iC M_S_readSize) 39 = .ok (.iload_n 2, 1) := by decide +kernel
theorem d_S_readSize_40 : decode (iC M_S_readSize) 40 = .ok (.invokevirtual 46, 3) := by decide +kernel
theorem d_S_readSize_43 : decode (iC M_S_readSize) 43 = .ok (.aload_n 0, 1) := by decide +kernel
theorem d_S_readSize_44 : decode (iC M_S_readSize) 44 = .ok (.getfield 28, 3) := by decide +kernel
theorem d_S_readSize_47 : decode (iC M_S_readSize) 47 = .ok (.invokevirtual 51, 3) := by decide +kernel
theorem d_S_readSize_50 : decode (iC M_S_readSize) 50 = .ok (.return_, 1) := by decide +kernel
theorem d_S_pictureComes_0 : decode (iC M_S_pictureComes) 0 = .ok (.aload_n 0, 1) := by decide +kernel
theorem d_S_pictureComes_1 : decode (iC M_S_pictureComes) 1 = .ok (.getfield 28, 3) := by decide +kernel
theorem d_S_pictureComes_4 : decode (iC M_S_pictureComes) 4 = .ok (.iconst 1, 1) := by decide +kernel
theorem d_S_pictureComes_5 : decode (iC M_S_pictureComes) 5 = .ok (.bipush 24, 2) := by decide +kernel
theorem d_S_pictureComes_7 : decode (iC M_S_pictureComes) 7 = .ok (.invokevirtual 36, 3) := by decide +kernel
theorem d_S_pictureComes_10 : decode (iC M_S_pictureComes) 10 = .ok (.aload_n 0, 1) := by decide +kernel
theorem d_S_pictureComes_11 : decode (iC M_S_pictureComes) 11 = .ok (.getfield 28, 3) := by decide +kernel
theorem d_S_pictureComes_14 : decode (iC M_S_pictureComes) 14 = .ok (.invokevirtual 54, 3) := by decide +kernel
theorem d_S_pictureComes_17 : decode (iC M_S_pictureComes) 17 = .ok (.ifCond .ne 7, 3) := by decide +kernel
theorem d_S_pictureComes_20 : decode (iC M_S_pictureComes) 20 = .ok (.iconst 1, 1) := by decide +kernel
theorem d_S_pictureComes_21 : decode (iC M_S_pictureComes) 21 = .ok (.goto 4, 3) := by decide +kernel
theorem d_S_pictureComes_24 : decode (iC M_S_pictureComes) 24 = .ok (.iconst 0, 1) := by decide +kernel
theorem d_S_pictureComes_25 : decode (iC M_S_pictureComes) 25 = .ok (.istore_n 1, 1) := by decide +kernel
theorem d_S_pictureComes_26 : decode (iC M_S_pictureComes) 26 = .ok (.aload_n 0, 1) := by decide +kernel
theorem d_S_pictureComes_27 : decode (iC M_S_pictureComes) 27 = .ok (.getfield 28, 3) := by decide +kernel
theorem d_S_pictureComes_30 : decode (iC M_S_pictureComes) 30 = .ok (.iload_n 1, 1) := by decide +kernel
theorem d_S_pictureComes_31 : decode (iC M_S_pictureComes) 31 = .ok (.ifCond .eq 9, 3) := by decide +kernel
theorem d_S_pictureComes_34 : decode (iC M_S_pictureComes) 34 = .ok (.sipush 256, 3) := by decide +kernel
theorem d_S_pictureComes_37 : decode (iC M_S_pictureComes) 37 = .ok (.goto 6, 3) := by decide +kernel
theorem d_S_pictureComes_40 : decode (iC M_S_pictureComes) 40 = .ok (.sipush 439, 3) := by decide +kernel
theorem d_S_pictureComes_43 : decode (iC M_S_pictureComes) 43 = .ok (.bipush 7, 2) := by decide +kernel
theorem d_S_pictureComes_45 : decode (iC M_S_pictureComes) 45 = .ok (.invokevirtual 36, 3) := by decide +kernel
theorem d_S_pictureComes_48 : decode (iC M_S_pictureComes) 48 = .ok (.iload_n 1, 1) := by decide +kernel
theorem d_S_pictureComes_49 : decode (iC M_S_pictureComes) 49 = .ok (.ireturn, 1) := by decide +kernel
theorem d_S_readPicture_0 : decode (iC M_S_readPicture) 0 = .ok (.aload_n 0, 1) := by decide +kernel
theorem d_S_readPicture_1 : decode (iC M_S_readPicture) 1 = .ok (.invokevirtual 58, 3) := by decide +kernel
theorem d_S_readPicture_4 : decode (iC M_S_readPicture) 4 = .ok (.aload_n 0, 1) := by decide +kernel
theorem d_S_readPicture_5 : decode (iC M_S_readPicture) 5 = .ok (.getfield 32, 3) := by decide +kernel
theorem d_S_readPicture_8 : decode (iC M_S_readPicture) 8 = .ok (.aload_n 0, 1) := by decide +kernel
theorem d_S_readPicture_9 : decode (iC M_S_readPicture) 9 = .ok (.getfield 61, 3) := by decide +kernel
theorem d_S_readPicture_12 : decode (iC M_S_readPicture) 12 = .ok (.iload_n 1, 1) := by decide +kernel
theorem d_S_readPicture_13 : decode (iC M_S_readPicture) 13 = .ok (.invokevirtual 65, 3) := by decide +kernel
theorem d_S_readPicture_16 : decode (iC M_S_readPicture) 16 = .ok (.aload_n 0, 1) := by decide +kernel
theorem d_S_readPicture_17 : decode (iC M_S_readPicture) 17 = .ok (.getfield 32, 3) := by decide +kernel
theorem d_S_readPicture_20 : decode (iC M_S_readPicture) 20 = .ok (.getfield 68, 3) := by decide +kernel
theorem d_S_readPicture_23 : decode (iC M_S_readPicture) 23 = .ok (.aload_n 0, 1) := by decide +kernel
theorem d_S_readPicture_24 : decode (iC M_S_readPicture) 24 = .ok (.getfield 32, 3) := by decide +kernel
theorem d_S_readPicture_27 : decode (iC M_S_readPicture) 27 = .ok (.getfield 71, 3) := by decide +kernel
theorem d_S_readPicture_30 : decode (iC M_S_readPicture) 30 = .ok (.imul, 1) := by decide +kernel
theorem d_S_readPicture_31 : decode (iC M_S_readPicture) 31 = .ok (.istore_n 2, 1) := by decide +kernel
theorem d_S_readPicture_32 : decode (iC M_S_readPicture) 32 = .ok (.iconst 0, 1) := by decide +kernel
theorem d_S_readPicture_33 : decode (iC M_S_readPicture) 33 = .ok (.istore_n 3, 1) := by decide +kernel
theorem d_S_readPicture_34 : decode (iC M_S_readPicture) 34 = .ok (.iload_n 3, 1) := by decide +kernel
theorem d_S_readPicture_35 : decode (iC M_S_readPicture) 35 = .ok (.iload_n 2, 1) := by decide +kernel
theorem d_S_readPicture_36 : decode (iC M_S_readPicture) 36 = .ok (.if_icmp .ge 36, 3) := by decide +kernel
theorem d_S_readPicture_39 : decode (iC M_S_readPicture) 39 = .ok (.aload_n 0, 1) := by decide +kernel
theorem d_S_readPicture_40 : decode (iC M_S_readPicture) 40 = .ok (.getfield 61, 3) := by decide +kernel
theorem d_S_readPicture_43 : decode (iC M_S_readPicture) 43 = .ok (.iconst 1, 1) := by decide +kernel
theorem d_S_readPicture_44 : decode (iC M_S_readPicture) 44 = .ok (.if_icmp .eq 12, 3) := by decide +kernel
theorem d_S_readPicture_47 : decode (iC M_S_readPicture) 47 = .ok (.iload_n 3, 1) := by decide +kernel
theorem d_S_readPicture_48 : decode (iC M_S_readPicture) 48 = .ok (.aload_n 0, 1) := by decide +kernel
theorem d_S_readPicture_49 : decode (iC M_S_readPicture) 49 = .ok (.iload_n 3, 1) := by decide +kernel
theorem d_S_readPicture_50 : decode (iC M_S_readPicture) 50 = .ok (.iload_n 2, 1) := by decide +kernel
theorem d_S_readPicture_51 : decode (iC M_S_readPicture) 51 = .ok (.invokevirtual 74, 3) := by decide +kernel
theorem d_S_readPicture_54 : decode (iC M_S_readPicture) 54 = .ok (.iadd, 1) := by decide +kernel
theorem d_S_readPicture_55 : decode (iC M_S_readPicture) 55 = .ok (.istore_n 3, 1) := by decide +kernel
theorem d_S_readPicture_56 : decode (iC M_S_readPicture) 56 = .ok (.iload_n 3, 1) := by decide +kernel
theorem d_S_readPicture_57 : decode (iC M_S_readPicture) 57 = .ok (.iload_n 2, 1) := by decide +kernel
theorem d_S_readPicture_58 : decode (iC M_S_readPicture) 58 = .ok (.if_icmp .ge 8, 3) := by decide +kernel
theorem d_S_readPicture_61 : decode (iC M_S_readPicture) 61 = .ok (.aload_n 0, 1) := by decide +kernel
theorem d_S_readPicture_62 : decode (iC M_S_readPicture) 62 = .ok (.iload_n 3, 1) := by decide +kernel
theorem d_S_readPicture_63 : decode (iC M_S_readPicture) 63 = .ok (.invokevirtual 78, 3) := by decide +kernel
theorem d_S_readPicture_66 : decode (iC M_S_readPicture) 66 = .ok (.iinc 3 1, 3) := by decide +kernel
theorem d_S_readPicture_69 : decode (iC M_S_readPicture) 69 = .ok (.goto (-35), 3) := by decide +kernel
theorem d_S_readPicture_72 : decode (iC M_S_readPicture) 72 = .ok (.aload_n 0, 1) := by decide +kernel
theorem d_S_readPicture_73 : decode (iC M_S_readPicture) 73 = .ok (.getfield 28, 3) := by decide +kernel
theorem d_S_readPicture_76 : decode (iC M_S_readPicture) 76 = .ok (.invokevirtual 51, 3) := by decide +kernel
theorem d_S_readPicture_79 : decode (iC M_S_readPicture) 79 = .ok (.aload_n 0, 1) := by decide +kernel
theorem d_S_readPicture_80 : decode (iC M_S_readPicture) 80 = .ok (.getfield 32, 3) := by decide +kernel
theorem d_S_readPicture_83 : decode (iC M_S_readPicture) 83 = .ok (.invokevirtual 82, 3) := by decide +kernel
theorem d_S_readPicture_86 : decode (iC M_S_readPicture) 86 = .ok (.return_, 1) := by decide +kernel
theorem d_S_readHead_0 : decode (iC M_S_readHead) 0 = .ok (.aload_n 0, 1) := by decide +kernel
theorem d_S_readHead_1 : decode (iC M_S_readHead) 1 = .ok (.getfield 28, 3) := by decide +kernel
theorem d_S_readHead_4 : decode (iC M_S_readHead) 4 = .ok (.getfield 85, 3) := by decide +kernel
theorem d_S_readHead_7 : decode (iC M_S_readHead) 7 = .ok (.istore_n 1, 1) := by decide +kernel
theorem d_S_readHead_8 : decode (iC M_S_readHead) 8 = .ok (.aload_n 0, 1) := by decide +kernel
theorem d_S_readHead_9 : decode (iC M_S_readHead) 9 = .ok (.aload_n 0, 1) := by decide +kernel
theorem d_S_readHead_10 : decode (iC M_S_readHead) 10 = .ok (.getfield 28, 3) := by decide +kernel
theorem d_S_readHead_13 : decode (iC M_S_readHead) 13 = .ok (.iconst 2, 1) := by decide +kernel
theorem d_S_readHead_14 : decode (iC M_S_readHead) 14 = .ok (.invokevirtual 88, 3) := by decide +kernel
theorem d_S_readHead_17 : decode (iC M_S_readHead) 17 = .ok (.putfield 61, 3) := by decide +kernel
theorem d_S_readHead_20 : decode (iC M_S_readHead) 20 = .ok (.aload_n 0, 1) := by decide +kernel
theorem d_S_readHead_21 : decode (iC M_S_readHead) 21 = .ok (.getfield 61, 3) := by decide +kernel
theorem d_S_readHead_24 : decode (iC M_S_readHead) 24 = .ok (.iconst 1, 1) := by decide +kernel
theorem d_S_readHead_25 : decode (iC M_S_readHead) 25 = .ok (.if_icmp .ne 7, 3) := by decide +kernel
theorem d_S_readHead_28 : decode (iC M_S_readHead) 28 = .ok (.iconst 0, 1) := by decide +kernel
theorem d_S_readHead_29 : decode (iC M_S_readHead) 29 = .ok (.goto 16, 3) := by decide +kernel
theorem d_S_readHead_32 : decode (iC M_S_readHead) 32 = .ok (.aload_n 0, 1) := by decide +kernel
theorem d_S_readHead_33 : decode (iC M_S_readHead) 33 = .ok (.getfield 61, 3) := by decide +kernel
theorem d_S_readHead_36 : decode (iC M_S_readHead) 36 = .ok (.iconst 2, 1) := by decide +kernel
theorem d_S_readHead_37 : decode (iC M_S_readHead) 37 = .ok (.if_icmp .ne 7, 3) := by decide +kernel
theorem d_S_readHead_40 : decode (iC M_S_readHead) 40 = .ok (.iconst 1, 1) := by decide +kernel
theorem d_S_readHead_41 : decode (iC M_S_readHead) 41 = .ok (.goto 4, 3) := by decide +kernel
theorem d_S_readHead_44 : decode (iC M_S_readHead) 44 = .ok (.iconst 2, 1) := by decide +kernel
theorem d_S_readHead_45 : decode (iC M_S_readHead) 45 = .ok (.istore_n 2, 1) := by decide +kernel
theorem d_S_readHead_46 : decode (iC M_S_readHead) 46 = .ok (.iload_n 2, 1) := by decide +kernel
theorem d_S_readHead_47 : decode (iC M_S_readHead) 47 = .ok (.aload_n 0, 1) := by decide +kernel
theorem d_S_readHead_48 : decode (iC M_S_readHead) 48 = .ok (.getfield 32, 3) := by decide +kernel
theorem d_S_readHead_51 : decode (iC M_S_readHead) 51 = .ok (.getfield 91, 3) := by decide +kernel
theorem d_S_readHead_54 : decode (iC M_S_readHead) 54 = .ok (.if_icmp .le 11, 3) := by decide +kernel
theorem d_S_readHead_57 : decode (iC M_S_readHead) 57 = .ok (.aload_n 0, 1) := by decide +kernel
theorem d_S_readHead_58 : decode (iC M_S_readHead) 58 = .ok (.getfield 28, 3) := by decide +kernel
theorem d_S_readHead_61 : decode (iC M_S_readHead) 61 = .ok (.iload_n 1, 1) := by decide +kernel
theorem d_S_readHead_62 : decode (iC M_S_readHead) 62 = .ok (.invokevirtual 94, 3) := by decide +kernel
theorem d_S_readHead_65 : decode (iC M_S_readHead) 65 = .ok (.aload_n 0, 1) := by decide +kernel
theorem d_S_readHead_66 : decode (iC M_S_readHead) 66 = .ok (.aload_n 0, 1) := by decide +kernel
theorem d_S_readHead_67 : decode (iC M_S_readHead) 67 = .ok (.getfield 28, 3) := by decide +kernel
theorem d_S_readHead_70 : decode (iC M_S_readHead) 70 = .ok (.iconst 5, 1) := by decide +kernel
theorem d_S_readHead_71 : decode (iC M_S_readHead) 71 = .ok (.invokevirtual 88, 3) := by decide +kernel
theorem d_S_readHead_74 : decode (iC M_S_readHead) 74 = .ok (.putfield 97, 3) := by decide +kernel
theorem d_S_readHead_77 : decode (iC M_S_readHead) 77 = .ok (.aload_n 0, 1) := by decide +kernel
theorem d_S_readHead_78 : decode (iC M_S_readHead) 78 = .ok (.aload_n 0, 1) := by decide +kernel
theorem d_S_readHead_79 : decode (iC M_S_readHead) 79 = .ok (.getfield 61, 3) := by decide +kernel
theorem d_S_readHead_82 : decode (iC M_S_readHead) 82 = .ok (.iconst 1, 1) := by decide +kernel
theorem d_S_readHead_83 : decode (iC M_S_readHead) 83 = .ok (.if_icmp .ne 7, 3) := by decide +kernel
theorem d_S_readHead_86 : decode (iC M_S_readHead) 86 = .ok (.iconst 0, 1) := by decide +kernel
theorem d_S_readHead_87 : decode (iC M_S_readHead) 87 = .ok (.goto 14, 3) := by decide +kernel
theorem d_S_readHead_90 : decode (iC M_S_readHead) 90 = .ok (.bipush 16, 2) := by decide +kernel
theorem d_S_readHead_92 : decode (iC M_S_readHead) 92 = .ok (.aload_n 0, 1) := by decide +kernel
theorem d_S_readHead_93 : decode (iC M_S_readHead) 93 = .ok (.getfield 28, 3) := by decide +kernel
theorem d_S_readHead_96 : decode (iC M_S_readHead) 96 = .ok (.iconst 3, 1) := by decide +kernel
theorem d_S_readHead_97 : decode (iC M_S_readHead) 97 = .ok (.invokevirtual 88, 3) := by decide +kernel
theorem d_S_readHead_100 : decode (iC M_S_readHead) 100 = .ok (.ishl, 1) := by decide +kernel
theorem d_S_readHead_101 : decode (iC M_S_readHead) 101 = .ok (.putfield 100, 3) := by decide +kernel
theorem d_S_readHead_104 : decode (iC M_S_readHead) 104 = .ok (.return_, 1) := by decide +kernel
theorem d_S_passOver_0 : decode (iC M_S_passOver) 0 = .ok (.aload_n 0, 1) := by decide +kernel
theorem d_S_passOver_1 : decode (iC M_S_passOver) 1 = .ok (.getfield 28, 3) := by decide +kernel
theorem d_S_passOver_4 : decode (iC M_S_passOver) 4 = .ok (.aload_n 0, 1) := by decide +kernel
theorem d_S_passOver_5 : decode (iC M_S_passOver) 5 = .ok (.getfield 61, 3) := by decide +kernel
theorem d_S_passOver_8 : decode (iC M_S_passOver) 8 = .ok (.iconst 2, 1) := by decide +kernel
theorem d_S_passOver_9 : decode (iC M_S_passOver) 9 = .ok (.if_icmp .ne 9, 3) := by decide +kernel
theorem d_S_passOver_12 : decode (iC M_S_passOver) 12 = .ok (.iload_n 2, 1) := by decide +kernel
theorem d_S_passOver_13 : decode (iC M_S_passOver) 13 = .ok (.iload_n 1, 1) := by decide +kernel
theorem d_S_passOver_14 : decode (iC M_S_passOver) 14 = .ok (.isub, 1) := by decide +kernel
theorem d_S_passOver_15 : decode (iC M_S_passOver) 15 = .ok (.goto 8, 3) := by decide +kernel
theorem d_S_passOver_18 : decode (iC M_S_passOver) 18 = .ok (.aload_n 0, 1) := by decide +kernel
theorem d_S_passOver_19 : decode (iC M_S_passOver) 19 = .ok (.iload_n 1, 1) := by decide +kernel
theorem d_S_passOver_20 : decode (iC M_S_passOver) 20 = .ok (.invokevirtual 103, 3) := by decide +kernel
theorem d_S_passOver_23 : decode (iC M_S_passOver) 23 = .ok (.invokevirtual 106, 3) := by decide +kernel
theorem d_S_passOver_26 : decode (iC M_S_passOver) 26 = .ok (.istore_n 3, 1) := by decide +kernel
theorem d_S_passOver_27 : decode (iC M_S_passOver) 27 = .ok (.iconst 0, 1) := by decide +kernel
theorem d_S_passOver_28 : decode (iC M_S_passOver) 28 = .ok (.istore 4, 2) := by decide +kernel
theorem d_S_passOver_30 : decode (iC M_S_passOver) 30 = .ok (.iload 4, 2) := by decide +kernel
theorem d_S_passOver_32 : decode (iC M_S_passOver) 32 = .ok (.iload_n 3, 1) := by decide +kernel
theorem d_S_passOver_33 : decode (iC M_S_passOver) 33 = .ok (.if_icmp .ge 33, 3) := by decide +kernel
theorem d_S_passOver_36 : decode (iC M_S_passOver) 36 = .ok (.aload_n 0, 1) := by decide +kernel
theorem d_S_passOver_37 : decode (iC M_S_passOver) 37 = .ok (.iload_n 1, 1) := by decide +kernel
theorem d_S_passOver_38 : decode (iC M_S_passOver) 38 = .ok (.iload 4, 2) := by decide +kernel
theorem d_S_passOver_40 : decode (iC M_S_passOver) 40 = .ok (.iadd, 1) := by decide +kernel
theorem d_S_passOver_41 : decode (iC M_S_passOver) 41 = .ok (.aload_n 0, 1) := by decide +kernel
theorem d_S_passOver_42 : decode (iC M_S_passOver) 42 = .ok (.getfield 61, 3) := by decide +kernel
theorem d_S_passOver_45 : decode (iC M_S_passOver) 45 = .ok (.iconst 2, 1) := by decide +kernel
theorem d_S_passOver_46 : decode (iC M_S_passOver) 46 = .ok (.if_icmp .ne 7, 3) := by decide +kernel
theorem d_S_passOver_49 : decode (iC M_S_passOver) 49 = .ok (.iconst 0, 1) := by decide +kernel
theorem d_S_passOver_50 : decode (iC M_S_passOver) 50 = .ok (.goto 7, 3) := by decide +kernel
theorem d_S_passOver_53 : decode (iC M_S_passOver) 53 = .ok (.aload_n 0, 1) := by decide +kernel
theorem d_S_passOver_54 : decode (iC M_S_passOver) 54 = .ok (.getfield 109, 3) := by decide +kernel
theorem d_S_passOver_57 : decode (iC M_S_passOver) 57 = .ok (.invokevirtual 112, 3) := by decide +kernel
theorem d_S_passOver_60 : decode (iC M_S_passOver) 60 = .ok (.iinc 4 1, 3) := by decide +kernel
theorem d_S_passOver_63 : decode (iC M_S_passOver) 63 = .ok (.goto (-33), 3) := by decide +kernel
theorem d_S_passOver_66 : decode (iC M_S_passOver) 66 = .ok (.aload_n 0, 1) := by decide +kernel
theorem d_S_passOver_67 : decode (iC M_S_passOver) 67 = .ok (.getfield 32, 3) := by decide +kernel
theorem d_S_passOver_70 : decode (iC M_S_passOver) 70 = .ok (.getfield 115, 3) := by decide +kernel
theorem d_S_passOver_73 : decode (iC M_S_passOver) 73 = .ok (.getfield 119, 3) := by decide +kernel
theorem d_S_passOver_76 : decode (iC M_S_passOver) 76 = .ok (.iconst 3, 1) := by decide +kernel
theorem d_S_passOver_77 : decode (iC M_S_passOver) 77 = .ok (.dup2, 1) := by decide +kernel
theorem d_S_passOver_78 : decode (iC M_S_passOver) 78 = .ok (.iaload, 1) := by decide +kernel
theorem d_S_passOver_79 : decode (iC M_S_passOver) 79 = .ok (.iload_n 3, 1) := by decide +kernel
theorem d_S_passOver_80 : decode (iC M_S_passOver) 80 = .ok (.iadd, 1) := by decide +kernel
theorem d_S_passOver_81 : decode (iC M_S_passOver) 81 = .ok (.iastore, 1) := by decide +kernel
theorem d_S_passOver_82 : decode (iC M_S_passOver) 82 = .ok (.aload_n 0, 1) := by decide +kernel
theorem d_S_passOver_83 : decode (iC M_S_passOver) 83 = .ok (.getfield 32, 3) := by decide +kernel
theorem d_S_passOver_86 : decode (iC M_S_passOver) 86 = .ok (.getfield 124, 3) := by decide +kernel
theorem d_S_passOver_89 : decode (iC M_S_passOver) 89 = .ok (.iconst 5, 1) := by decide +kernel
theorem d_S_passOver_90 : decode (iC M_S_passOver) 90 = .ok (.dup2, 1) := by decide +kernel
theorem d_S_passOver_91 : decode (iC M_S_passOver) 91 = .ok (.iaload, 1) := by decide +kernel
theorem d_S_passOver_92 : decode (iC M_S_passOver) 92 = .ok (.iload_n 3, 1) := by decide +kernel
theorem d_S_passOver_93 : decode (iC M_S_passOver) 93 = .ok (.iadd, 1) := by decide +kernel
theorem d_S_passOver_94 : decode (iC M_S_passOver) 94 = .ok (.iastore, 1) := by decide +kernel
theorem d_S_passOver_95 : decode (iC M_S_passOver) 95 = .ok (.iload_n 3, 1) := by decide +kernel
theorem d_S_passOver_96 : decode (iC M_S_passOver) 96 = .ok (.ireturn, 1) := by decide +kernel
theorem d_S_mostPassedInB_0 : decode (iC M_S_mostPassedInB) 0 = .ok (.iload_n 1, 1) := by decide +kernel
theorem d_S_mostPassedInB_1 : decode (iC M_S_mostPassedInB) 1 = .ok (.aload_n 0, 1) := by decide +kernel
theorem d_S_mostPassedInB_2 : decode (iC M_S_mostPassedInB) 2 = .ok (.getfield 32, 3) := by decide +kernel
theorem d_S_mostPassedInB_5 : decode (iC M_S_mostPassedInB) 5 = .ok (.getfield 68, 3) := by decide +kernel
theorem d_S_mostPassedInB_8 : decode (iC M_S_mostPassedInB) 8 = .ok (.irem, 1) := by decide +kernel
theorem d_S_mostPassedInB_9 : decode (iC M_S_mostPassedInB) 9 = .ok (.istore_n 2, 1) := by decide +kernel
theorem d_S_mostPassedInB_10 : decode (iC M_S_mostPassedInB) 10 = .ok (.iload_n 2, 1) := by decide +kernel
theorem d_S_mostPassedInB_11 : decode (iC M_S_mostPassedInB) 11 = .ok (.ifCond .eq 10, 3) := by decide +kernel
theorem d_S_mostPassedInB_14 : decode (iC M_S_mostPassedInB) 14 = .ok (.aload_n 0, 1) := by decide +kernel
theorem d_S_mostPassedInB_15 : decode (iC M_S_mostPassedInB) 15 = .ok (.getfield 109, 3) := by decide +kernel
theorem d_S_mostPassedInB_18 : decode (iC M_S_mostPassedInB) 18 = .ok (.ifCond .ne 7, 3) := by decide +kernel
theorem d_S_mostPassedInB_21 : decode (iC M_S_mostPassedInB) 21 = .ok (.iconst 0, 1) := by decide +kernel
theorem d_S_mostPassedInB_22 : decode (iC M_S_mostPassedInB) 22 = .ok (.goto 12, 3) := by decide +kernel
theorem d_S_mostPassedInB_25 : decode (iC M_S_mostPassedInB) 25 = .ok (.aload_n 0, 1) := by decide +kernel
theorem d_S_mostPassedInB_26 : decode (iC M_S_mostPassedInB) 26 = .ok (.getfield 32, 3) := by decide +kernel
theorem d_S_mostPassedInB_29 : decode (iC M_S_mostPassedInB) 29 = .ok (.getfield 68, 3) := by decide +kernel
theorem d_S_mostPassedInB_32 : decode (iC M_S_mostPassedInB) 32 = .ok (.iload_n 2, 1) := by decide +kernel
theorem d_S_mostPassedInB_33 : decode (iC M_S_mostPassedInB) 33 = .ok (.isub, 1) := by decide +kernel
theorem d_S_mostPassedInB_34 : decode (iC M_S_mostPassedInB) 34 = .ok (.ireturn, 1) := by decide +kernel
theorem d_S_foretellSquare_0 : decode (iC M_S_foretellSquare) 0 = .ok (.aload_n 0, 1) := by decide +kernel
theorem d_S_foretellSquare_1 : decode (iC M_S_foretellSquare) 1 = .ok (.invokevirtual 127, 3) := by decide +kernel
theorem d_S_foretellSquare_4 : decode (iC M_S_foretellSquare) 4 = .ok (.iload_n 2, 1) := by decide +kernel
theorem d_S_foretellSquare_5 : decode (iC M_S_foretellSquare) 5 = .ok (.ifCond .ne 7, 3) := by decide +kernel
theorem d_S_foretellSquare_8 : decode (iC M_S_foretellSquare) 8 = .ok (.aload_n 0, 1) := by decide +kernel
theorem d_S_foretellSquare_9 : decode (iC M_S_foretellSquare) 9 = .ok (.invokevirtual 130, 3) := by decide +kernel
theorem d_S_foretellSquare_12 : decode (iC M_S_foretellSquare) 12 = .ok (.aload_n 0, 1) := by decide +kernel
theorem d_S_foretellSquare_13 : decode (iC M_S_foretellSquare) 13 = .ok (.iload_n 2, 1) := by decide +kernel
theorem d_S_foretellSquare_14 : decode (iC M_S_foretellSquare) 14 = .ok (.putfield 109, 3) := by decide +kernel
theorem d_S_foretellSquare_17 : decode (iC M_S_foretellSquare) 17 = .ok (.iload_n 2, 1) := by decide +kernel
theorem d_S_foretellSquare_18 : decode (iC M_S_foretellSquare) 18 = .ok (.iconst 1, 1) := by decide +kernel
theorem d_S_foretellSquare_19 : decode (iC M_S_foretellSquare) 19 = .ok (.iand, 1) := by decide +kernel
theorem d_S_foretellSquare_20 : decode (iC M_S_foretellSquare) 20 = .ok (.ifCond .eq 7, 3) := by decide +kernel
theorem d_S_foretellSquare_23 : decode (iC M_S_foretellSquare) 23 = .ok (.iconst 1, 1) := by decide +kernel
theorem d_S_foretellSquare_24 : decode (iC M_S_foretellSquare) 24 = .ok (.goto 4, 3) := by decide +kernel
theorem d_S_foretellSquare_27 : decode (iC M_S_foretellSquare) 27 = .ok (.iconst 0, 1) := by decide +kernel
theorem d_S_foretellSquare_28 : decode (iC M_S_foretellSquare) 28 = .ok (.istore_n 3, 1) := by decide +kernel
theorem d_S_foretellSquare_29 : decode (iC M_S_foretellSquare) 29 = .ok (.iload_n 2, 1) := by decide +kernel
theorem d_S_foretellSquare_30 : decode (iC M_S_foretellSquare) 30 = .ok (.ifCond .eq 9, 3) := by decide +kernel
theorem d_S_foretellSquare_33 : decode (iC M_S_foretellSquare) 33 = .ok (.iload_n 2, 1) := by decide +kernel
theorem d_S_foretellSquare_34 : decode (iC M_S_foretellSquare) 34 = .ok (.iconst 2, 1) := by decide +kernel
theorem d_S_foretellSquare_35 : decode (iC M_S_foretellSquare) 35 = .ok (.iand, 1) := by decide +kernel
theorem d_S_foretellSquare_36 : decode (iC M_S_foretellSquare) 36 = .ok (.ifCond .eq 7, 3) := by decide +kernel
theorem d_S_foretellSquare_39 : decode (iC M_S_foretellSquare) 39 = .ok (.iconst 1, 1) := by decide +kernel
theorem d_S_foretellSquare_40 : decode (iC M_S_foretellSquare) 40 = .ok (.goto 4, 3) := by decide +kernel
theorem d_S_foretellSquare_43 : decode (iC M_S_foretellSquare) 43 = .ok (.iconst 0, 1) := by decide +kernel
theorem d_S_foretellSquare_44 : decode (iC M_S_foretellSquare) 44 = .ok (.istore 4, 2) := by decide +kernel
theorem d_S_foretellSquare_46 : decode (iC M_S_foretellSquare) 46 = .ok (.iload_n 1, 1) := by decide +kernel
theorem d_S_foretellSquare_47 : decode (iC M_S_foretellSquare) 47 = .ok (.aload_n 0, 1) := by decide +kernel
theorem d_S_foretellSquare_48 : decode (iC M_S_foretellSquare) 48 = .ok (.getfield 32, 3) := by decide +kernel
theorem d_S_foretellSquare_51 : decode (iC M_S_foretellSquare) 51 = .ok (.getfield 68, 3) := by decide +kernel
theorem d_S_foretellSquare_54 : decode (iC M_S_foretellSquare) 54 = .ok (.irem, 1) := by decide +kernel
theorem d_S_foretellSquare_55 : decode (iC M_S_foretellSquare) 55 = .ok (.istore 5, 2) := by decide +kernel
theorem d_S_foretellSquare_57 : decode (iC M_S_foretellSquare) 57 = .ok (.iload_n 1, 1) := by decide +kernel
theorem d_S_foretellSquare_58 : decode (iC M_S_foretellSquare) 58 = .ok (.aload_n 0, 1) := by decide +kernel
theorem d_S_foretellSquare_59 : decode (iC M_S_foretellSquare) 59 = .ok (.getfield 32, 3) := by decide +kernel
theorem d_S_foretellSquare_62 : decode (iC M_S_foretellSquare) 62 = .ok (.getfield 68, 3) := by decide +kernel
theorem d_S_foretellSquare_65 : decode (iC M_S_foretellSquare) 65 = .ok (.idiv, 1) := by decide +kernel
theorem d_S_foretellSquare_66 : decode (iC M_S_foretellSquare) 66 = .ok (.istore 6, 2) := by decide +kernel
theorem d_S_foretellSquare_68 : decode (iC M_S_foretellSquare) 68 = .ok (.aload_n 0, 1) := by decide +kernel
theorem d_S_foretellSquare_69 : decode (iC M_S_foretellSquare) 69 = .ok (.getfield 61, 3) := by decide +kernel
theorem d_S_foretellSquare_72 : decode (iC M_S_foretellSquare) 72 = .ok (.iconst 2, 1) := by decide +kernel
theorem d_S_foretellSquare_73 : decode (iC M_S_foretellSquare) 73 = .ok (.if_icmp .ne 13, 3) := by decide +kernel
theorem d_S_foretellSquare_76 : decode (iC M_S_foretellSquare) 76 = .ok (.aload_n 0, 1) := by decide +kernel
theorem d_S_foretellSquare_77 : decode (iC M_S_foretellSquare) 77 = .ok (.getfield 32, 3) := by decide +kernel
theorem d_S_foretellSquare_80 : decode (iC M_S_foretellSquare) 80 = .ok (.getfield 151, 3) := by decide +kernel
theorem d_S_foretellSquare_83 : decode (iC M_S_foretellSquare) 83 = .ok (.goto 10, 3) := by decide +kernel
theorem d_S_foretellSquare_86 : decode (iC M_S_foretellSquare) 86 = .ok (.aload_n 0, 1) := by decide +kernel
theorem d_S_foretellSquare_87 : decode (iC M_S_foretellSquare) 87 = .ok (.getfield 32, 3) := by decide +kernel
theorem d_S_foretellSquare_90 : decode (iC M_S_foretellSquare) 90 = .ok (.getfield 154, 3) := by decide +kernel
theorem d_S_foretellSquare_93 : decode (iC M_S_foretellSquare) 93 = .ok (.astore 7, 2) := by decide +kernel
theorem d_S_foretellSquare_95 : decode (iC M_S_foretellSquare) 95 = .ok (.iconst 0, 1) := by decide +kernel
theorem d_S_foretellSquare_96 : decode (iC M_S_foretellSquare) 96 = .ok (.istore 8, 2) := by decide +kernel
theorem d_S_foretellSquare_98 : decode (iC M_S_foretellSquare) 98 = .ok (.iload 8, 2) := by decide +kernel
theorem d_S_foretellSquare_100 : decode (iC M_S_foretellSquare) 100 = .ok (.iconst 3, 1) := by decide +kernel
theorem d_S_foretellSquare_101 : decode (iC M_S_foretellSquare) 101 = .ok (.if_icmp .ge 83, 3) := by decide +kernel
theorem d_S_foretellSquare_104 : decode (iC M_S_foretellSquare) 104 = .ok (.aload_n 0, 1) := by decide +kernel
theorem d_S_foretellSquare_105 : decode (iC M_S_foretellSquare) 105 = .ok (.getfield 32, 3) := by decide +kernel
theorem d_S_foretellSquare_108 : decode (iC M_S_foretellSquare) 108 = .ok (.getfield 115, 3) := by decide +kernel
theorem d_S_foretellSquare_111 : decode (iC M_S_foretellSquare) 111 = .ok (.getfield 157, 3) := by decide +kernel
theorem d_S_foretellSquare_114 : decode (iC M_S_foretellSquare) 114 = .ok (.iload 8, 2) := by decide +kernel
theorem d_S_foretellSquare_116 : decode (iC M_S_foretellSquare) 116 = .ok (.aaload, 1) := by decide +kernel
theorem d_S_foretellSquare_117 : decode (iC M_S_foretellSquare) 117 = .ok (.astore 9, 2) := by decide +kernel
theorem d_S_foretellSquare_119 : decode (iC M_S_foretellSquare) 119 = .ok (.iload 4, 2) := by decide +kernel
theorem d_S_foretellSquare_121 : decode (iC M_S_foretellSquare) 121 = .ok (.ifCond .eq 25, 3) := by decide +kernel
theorem d_S_foretellSquare_124 : decode (iC M_S_foretellSquare) 124 = .ok (.aload 9, 2) := by decide +kernel
theorem d_S_foretellSquare_126 : decode (iC M_S_foretellSquare) 126 = .ok (.aload 7, 2) := by decide +kernel
theorem d_S_foretellSquare_128 : decode (iC M_S_foretellSquare) 128 = .ok (.getfield 157, 3) := by decide +kernel
theorem d_S_foretellSquare_131 : decode (iC M_S_foretellSquare) 131 = .ok (.iload 8, 2) := by decide +kernel
theorem d_S_foretellSquare_133 : decode (iC M_S_foretellSquare) 133 = .ok (.aaload, 1) := by decide +kernel
theorem d_S_foretellSquare_134 : decode (iC M_S_foretellSquare) 134 = .ok (.iload 5, 2) := by decide +kernel
theorem d_S_foretellSquare_136 : decode (iC M_S_foretellSquare) 136 = .ok (.iload 6, 2) := by decide +kernel
theorem d_S_foretellSquare_138 : decode (iC M_S_foretellSquare) 138 = .ok (.aload_n 0, 1) := by decide +kernel
theorem d_S_foretellSquare_139 : decode (iC M_S_foretellSquare) 139 = .ok (.getfield 22, 3) := by decide +kernel
theorem d_S_foretellSquare_142 : decode (iC M_S_foretellSquare) 142 = .ok (.iconst 0, 1) := by decide +kernel
theorem d_S_foretellSquare_143 : decode (iC M_S_foretellSquare) 143 = .ok (.invokevirtual 161, 3) := by decide +kernel
theorem d_S_foretellSquare_146 : decode (iC M_S_foretellSquare) 146 = .ok (.iload_n 3, 1) := by decide +kernel
theorem d_S_foretellSquare_147 : decode (iC M_S_foretellSquare) 147 = .ok (.ifCond .eq 31, 3) := by decide +kernel
theorem d_S_foretellSquare_150 : decode (iC M_S_foretellSquare) 150 = .ok (.aload 9, 2) := by decide +kernel
theorem d_S_foretellSquare_152 : decode (iC M_S_foretellSquare) 152 = .ok (.aload_n 0, 1) := by decide +kernel
theorem d_S_foretellSquare_153 : decode (iC M_S_foretellSquare) 153 = .ok (.getfield 32, 3) := by decide +kernel
theorem d_S_foretellSquare_156 : decode (iC M_S_foretellSquare) 156 = .ok (.getfield 151, 3) := by decide +kernel
theorem d_S_foretellSquare_159 : decode (iC M_S_foretellSquare) 159 = .ok (.getfield 157, 3) := by decide +kernel
theorem d_S_foretellSquare_162 : decode (iC M_S_foretellSquare) 162 = .ok (.iload 8, 2) := by decide +kernel
theorem d_S_foretellSquare_164 : decode (iC M_S_foretellSquare) 164 = .ok (.aaload, 1) := by decide +kernel
theorem d_S_foretellSquare_165 : decode (iC M_S_foretellSquare) 165 = .ok (.iload 5, 2) := by decide +kernel
theorem d_S_foretellSquare_167 : decode (iC M_S_foretellSquare) 167 = .ok (.iload 6, 2) := by decide +kernel
theorem d_S_foretellSquare_169 : decode (iC M_S_foretellSquare) 169 = .ok (.aload_n 0, 1) := by decide +kernel
theorem d_S_foretellSquare_170 : decode (iC M_S_foretellSquare) 170 = .ok (.getfield 25, 3) := by decide +kernel
theorem d_S_foretellSquare_173 : decode (iC M_S_foretellSquare) 173 = .ok (.iload 4, 2) := by decide +kernel
theorem d_S_foretellSquare_175 : decode (iC M_S_foretellSquare) 175 = .ok (.invokevirtual 161, 3) := by decide +kernel
theorem d_S_foretellSquare_178 : decode (iC M_S_foretellSquare) 178 = .ok (.iinc 8 1, 3) := by decide +kernel
theorem d_S_foretellSquare_181 : decode (iC M_S_foretellSquare) 181 = .ok (.goto (-83), 3) := by decide +kernel
theorem d_S_foretellSquare_184 : decode (iC M_S_foretellSquare) 184 = .ok (.return_, 1) := by decide +kernel
theorem d_S_forgetDcs_0 : decode (iC M_S_forgetDcs) 0 = .ok (.aload_n 0, 1) := by decide +kernel
theorem d_S_forgetDcs_1 : decode (iC M_S_forgetDcs) 1 = .ok (.getfield 18, 3) := by decide +kernel
theorem d_S_forgetDcs_4 : decode (iC M_S_forgetDcs) 4 = .ok (.sipush 128, 3) := by decide +kernel
theorem d_S_forgetDcs_7 : decode (iC M_S_forgetDcs) 7 = .ok (.invokestatic 167, 3) := by decide +kernel
theorem d_S_forgetDcs_10 : decode (iC M_S_forgetDcs) 10 = .ok (.return_, 1) := by decide +kernel
theorem d_S_forgetVectors_0 : decode (iC M_S_forgetVectors) 0 = .ok (.aload_n 0, 1) := by decide +kernel
theorem d_S_forgetVectors_1 : decode (iC M_S_forgetVectors) 1 = .ok (.getfield 22, 3) := by decide +kernel
theorem d_S_forgetVectors_4 : decode (iC M_S_forgetVectors) 4 = .ok (.iconst 0, 1) := by decide +kernel
theorem d_S_forgetVectors_5 : decode (iC M_S_forgetVectors) 5 = .ok (.invokestatic 167, 3) := by decide +kernel
theorem d_S_forgetVectors_8 : decode (iC M_S_forgetVectors) 8 = .ok (.aload_n 0, 1) := by decide +kernel
theorem d_S_forgetVectors_9 : decode (iC M_S_forgetVectors) 9 = .ok (.getfield 25, 3) := by decide +kernel
theorem d_S_forgetVectors_12 : decode (iC M_S_forgetVectors) 12 = .ok (.iconst 0, 1) := by decide +kernel
theorem d_S_forgetVectors_13 : decode (iC M_S_forgetVectors) 13 = .ok (.invokestatic 167, 3) := by decide +kernel
theorem d_S_forgetVectors_16 : decode (iC M_S_forgetVectors) 16 = .ok (.return_, 1) := by decide +kernel
theorem d_S_readSquare_0 : decode (iC M_S_readSquare) 0 = .ok (.iload_n 1, 1) := by decide +kernel
theorem d_S_readSquare_1 : decode (iC M_S_readSquare) 1 = .ok (.aload_n 0, 1) := by decide +kernel
theorem d_S_readSquare_2 : decode (iC M_S_readSquare) 2 = .ok (.getfield 32, 3) := by decide +kernel
theorem d_S_readSquare_5 : decode (iC M_S_readSquare) 5 = .ok (.getfield 68, 3) := by decide +kernel
theorem d_S_readSquare_8 : decode (iC M_S_readSquare) 8 = .ok (.irem, 1) := by decide +kernel
theorem d_S_readSquare_9 : decode (iC M_S_readSquare) 9 = .ok (.ifCond .ne 11, 3) := by decide +kernel
theorem d_S_readSquare_12 : decode (iC M_S_readSquare) 12 = .ok (.aload_n 0, 1) := by decide +kernel
theorem d_S_readSquare_13 : decode (iC M_S_readSquare) 13 = .ok (.invokevirtual 127, 3) := by decide +kernel
theorem d_S_readSquare_16 : decode (iC M_S_readSquare) 16 = .ok (.aload_n 0, 1) := by decide +kernel
theorem d_S_readSquare_17 : decode (iC M_S_readSquare) 17 = .ok (.invokevirtual 130, 3) := by decide +kernel
theorem d_S_readSquare_20 : decode (iC M_S_readSquare) 20 = .ok (.aload_n 0, 1) := by decide +kernel
theorem d_S_readSquare_21 : decode (iC M_S_readSquare) 21 = .ok (.getfield 61, 3) := by decide +kernel
theorem d_S_readSquare_24 : decode (iC M_S_readSquare) 24 = .ok (.iconst 1, 1) := by decide +kernel
theorem d_S_readSquare_25 : decode (iC M_S_readSquare) 25 = .ok (.if_icmp .eq 14, 3) := by decide +kernel
theorem d_S_readSquare_28 : decode (iC M_S_readSquare) 28 = .ok (.aload_n 0, 1) := by decide +kernel
theorem d_S_readSquare_29 : decode (iC M_S_readSquare) 29 = .ok (.getfield 28, 3) := by decide +kernel
theorem d_S_readSquare_32 : decode (iC M_S_readSquare) 32 = .ok (.invokevirtual 54, 3) := by decide +kernel
theorem d_S_readSquare_35 : decode (iC M_S_readSquare) 35 = .ok (.iconst 1, 1) := by decide +kernel
theorem d_S_readSquare_36 : decode (iC M_S_readSquare) 36 = .ok (.if_icmp .ne 7, 3) := by decide +kernel
theorem d_S_readSquare_39 : decode (iC M_S_readSquare) 39 = .ok (.iconst 1, 1) := by decide +kernel
theorem d_S_readSquare_40 : decode (iC M_S_readSquare) 40 = .ok (.goto 4, 3) := by decide +kernel
theorem d_S_readSquare_43 : decode (iC M_S_readSquare) 43 = .ok (.iconst 0, 1) := by decide +kernel
theorem d_S_readSquare_44 : decode (iC M_S_readSquare) 44 = .ok (.istore_n 2, 1) := by decide +kernel
theorem d_S_readSquare_45 : decode (iC M_S_readSquare) 45 = .ok (.iload_n 2, 1) := by decide +kernel
theorem d_S_readSquare_46 : decode (iC M_S_readSquare) 46 = .ok (.ifCond .eq 7, 3) := by decide +kernel
theorem d_S_readSquare_49 : decode (iC M_S_readSquare) 49 = .ok (.iconst 0, 1) := by decide +kernel
theorem d_S_readSquare_50 : decode (iC M_S_readSquare) 50 = .ok (.goto 7, 3) := by decide +kernel
theorem d_S_readSquare_53 : decode (iC M_S_readSquare) 53 = .ok (.aload_n 0, 1) := by decide +kernel
theorem d_S_readSquare_54 : decode (iC M_S_readSquare) 54 = .ok (.invokevirtual 133, 3) := by decide +kernel
theorem d_S_readSquare_57 : decode (iC M_S_readSquare) 57 = .ok (.istore_n 3, 1) := by decide +kernel
theorem d_S_readSquare_58 : decode (iC M_S_readSquare) 58 = .ok (.iload_n 2, 1) := by decide +kernel
theorem d_S_readSquare_59 : decode (iC M_S_readSquare) 59 = .ok (.ifCond .ne 14, 3) := by decide +kernel
theorem d_S_readSquare_62 : decode (iC M_S_readSquare) 62 = .ok (.aload_n 0, 1) := by decide +kernel
theorem d_S_readSquare_63 : decode (iC M_S_readSquare) 63 = .ok (.getfield 28, 3) := by decide +kernel
theorem d_S_readSquare_66 : decode (iC M_S_readSquare) 66 = .ok (.invokevirtual 54, 3) := by decide +kernel
theorem d_S_readSquare_69 : decode (iC M_S_readSquare) 69 = .ok (.iconst 1, 1) := by decide +kernel
theorem d_S_readSquare_70 : decode (iC M_S_readSquare) 70 = .ok (.if_icmp .ne 7, 3) := by decide +kernel
theorem d_S_readSquare_73 : decode (iC M_S_readSquare) 73 = .ok (.iconst 1, 1) := by decide +kernel
theorem d_S_readSquare_74 : decode (iC M_S_readSquare) 74 = .ok (.goto 4, 3) := by decide +kernel
theorem d_S_readSquare_77 : decode (iC M_S_readSquare) 77 = .ok (.iconst 0, 1) := by decide +kernel
theorem d_S_readSquare_78 : decode (iC M_S_readSquare) 78 = .ok (.istore 4, 2) := by decide +kernel
theorem d_S_readSquare_80 : decode (iC M_S_readSquare) 80 = .ok (.iload 4, 2) := by decide +kernel
theorem d_S_readSquare_82 : decode (iC M_S_readSquare) 82 = .ok (.ifCond .eq 26, 3) := by decide +kernel
theorem d_S_readSquare_85 : decode (iC M_S_readSquare) 85 = .ok (.aload_n 0, 1) := by decide +kernel
theorem d_S_readSquare_86 : decode (iC M_S_readSquare) 86 = .ok (.getfield 28, 3) := by decide +kernel
theorem d_S_readSquare_89 : decode (iC M_S_readSquare) 89 = .ok (.invokevirtual 54, 3) := by decide +kernel
theorem d_S_readSquare_92 : decode (iC M_S_readSquare) 92 = .ok (.iconst 1, 1) := by decide +kernel
theorem d_S_readSquare_93 : decode (iC M_S_readSquare) 93 = .ok (.if_icmp .ne 15, 3) := by decide +kernel
theorem d_S_readSquare_96 : decode (iC M_S_readSquare) 96 = .ok (.aload_n 0, 1) := by decide +kernel
theorem d_S_readSquare_97 : decode (iC M_S_readSquare) 97 = .ok (.aload_n 0, 1) := by decide +kernel
theorem d_S_readSquare_98 : decode (iC M_S_readSquare) 98 = .ok (.getfield 28, 3) := by decide +kernel
theorem d_S_readSquare_101 : decode (iC M_S_readSquare) 101 = .ok (.iconst 5, 1) := by decide +kernel
theorem d_S_readSquare_102 : decode (iC M_S_readSquare) 102 = .ok (.invokevirtual 88, 3) := by decide +kernel
theorem d_S_readSquare_105 : decode (iC M_S_readSquare) 105 = .ok (.putfield 97, 3) := by decide +kernel
theorem d_S_readSquare_108 : decode (iC M_S_readSquare) 108 = .ok (.iload_n 3, 1) := by decide +kernel
theorem d_S_readSquare_109 : decode (iC M_S_readSquare) 109 = .ok (.iconst 2, 1) := by decide +kernel
theorem d_S_readSquare_110 : decode (iC M_S_readSquare) 110 = .ok (.iand, 1) := by decide +kernel
theorem d_S_readSquare_111 : decode (iC M_S_readSquare) 111 = .ok (.ifCond .eq 11, 3) := by decide +kernel
theorem d_S_readSquare_114 : decode (iC M_S_readSquare) 114 = .ok (.aload_n 0, 1) := by decide +kernel
theorem d_S_readSquare_115 : decode (iC M_S_readSquare) 115 = .ok (.aload_n 0, 1) := by decide +kernel
theorem d_S_readSquare_116 : decode (iC M_S_readSquare) 116 = .ok (.getfield 22, 3) := by decide +kernel
theorem d_S_readSquare_119 : decode (iC M_S_readSquare) 119 = .ok (.invokevirtual 136, 3) := by decide +kernel
theorem d_S_readSquare_122 : decode (iC M_S_readSquare) 122 = .ok (.iload_n 3, 1) := by decide +kernel
theorem d_S_readSquare_123 : decode (iC M_S_readSquare) 123 = .ok (.iconst 1, 1) := by decide +kernel
theorem d_S_readSquare_124 : decode (iC M_S_readSquare) 124 = .ok (.iand, 1) := by decide +kernel
theorem d_S_readSquare_125 : decode (iC M_S_readSquare) 125 = .ok (.ifCond .eq 11, 3) := by decide +kernel
theorem d_S_readSquare_128 : decode (iC M_S_readSquare) 128 = .ok (.aload_n 0, 1) := by decide +kernel
theorem d_S_readSquare_129 : decode (iC M_S_readSquare) 129 = .ok (.aload_n 0, 1) := by decide +kernel
theorem d_S_readSquare_130 : decode (iC M_S_readSquare) 130 = .ok (.getfield 25, 3) := by decide +kernel
theorem d_S_readSquare_133 : decode (iC M_S_readSquare) 133 = .ok (.invokevirtual 136, 3) := by decide +kernel
theorem d_S_readSquare_136 : decode (iC M_S_readSquare) 136 = .ok (.iload_n 2, 1) := by decide +kernel
theorem d_S_readSquare_137 : decode (iC M_S_readSquare) 137 = .ok (.ifCond .eq 8, 3) := by decide +kernel
theorem d_S_readSquare_140 : decode (iC M_S_readSquare) 140 = .ok (.bipush 63, 2) := by decide +kernel
theorem d_S_readSquare_142 : decode (iC M_S_readSquare) 142 = .ok (.goto 21, 3) := by decide +kernel
theorem d_S_readSquare_145 : decode (iC M_S_readSquare) 145 = .ok (.iload 4, 2) := by decide +kernel
theorem d_S_readSquare_147 : decode (iC M_S_readSquare) 147 = .ok (.ifCond .eq 15, 3) := by decide +kernel
theorem d_S_readSquare_150 : decode (iC M_S_readSquare) 150 = .ok (.aload_n 0, 1) := by decide +kernel
theorem d_S_readSquare_151 : decode (iC M_S_readSquare) 151 = .ok (.getfield 28, 3) := by decide +kernel
theorem d_S_readSquare_154 : decode (iC M_S_readSquare) 154 = .ok (.bipush 6, 2) := by decide +kernel
theorem d_S_readSquare_156 : decode (iC M_S_readSquare) 156 = .ok (.invokevirtual 42, 3) := by decide +kernel
theorem d_S_readSquare_159 : decode (iC M_S_readSquare) 159 = .ok (.goto 4, 3) := by decide +kernel
theorem d_S_readSquare_162 : decode (iC M_S_readSquare) 162 = .ok (.iconst 0, 1) := by decide +kernel
theorem d_S_readSquare_163 : decode (iC M_S_readSquare) 163 = .ok (.istore 5, 2) := by decide +kernel
theorem d_S_readSquare_165 : decode (iC M_S_readSquare) 165 = .ok (.iload_n 2, 1) := by decide +kernel
theorem d_S_readSquare_166 : decode (iC M_S_readSquare) 166 = .ok (.ifCond .eq 31, 3) := by decide +kernel
theorem d_S_readSquare_169 : decode (iC M_S_readSquare) 169 = .ok (.aload_n 0, 1) := by decide +kernel
theorem d_S_readSquare_170 : decode (iC M_S_readSquare) 170 = .ok (.invokevirtual 130, 3) := by decide +kernel
theorem d_S_readSquare_173 : decode (iC M_S_readSquare) 173 = .ok (.aload_n 0, 1) := by decide +kernel
theorem d_S_readSquare_174 : decode (iC M_S_readSquare) 174 = .ok (.iconst 0, 1) := by decide +kernel
theorem d_S_readSquare_175 : decode (iC M_S_readSquare) 175 = .ok (.putfield 109, 3) := by decide +kernel
theorem d_S_readSquare_178 : decode (iC M_S_readSquare) 178 = .ok (.aload_n 0, 1) := by decide +kernel
theorem d_S_readSquare_179 : decode (iC M_S_readSquare) 179 = .ok (.getfield 32, 3) := by decide +kernel
theorem d_S_readSquare_182 : decode (iC M_S_readSquare) 182 = .ok (.getfield 115, 3) := by decide +kernel
theorem d_S_readSquare_185 : decode (iC M_S_readSquare) 185 = .ok (.getfield 119, 3) := by decide +kernel
theorem d_S_readSquare_188 : decode (iC M_S_readSquare) 188 = .ok (.iconst 2, 1) := by decide +kernel
theorem d_S_readSquare_189 : decode (iC M_S_readSquare) 189 = .ok (.dup2, 1) := by decide +kernel
theorem d_S_readSquare_190 : decode (iC M_S_readSquare) 190 = .ok (.iaload, 1) := by decide +kernel
theorem d_S_readSquare_191 : decode (iC M_S_readSquare) 191 = .ok (.iconst 1, 1) := by decide +kernel
theorem d_S_readSquare_192 : decode (iC M_S_readSquare) 192 = .ok (.iadd, 1) := by decide +kernel
theorem d_S_readSquare_193 : decode (iC M_S_readSquare) 193 = .ok (.iastore, 1) := by decide +kernel
theorem d_S_readSquare_194 : decode (iC M_S_readSquare) 194 = .ok (.goto 9, 3) := by decide +kernel
theorem d_S_readSquare_197 : decode (iC M_S_readSquare) 197 = .ok (.aload_n 0, 1) := by decide +kernel
theorem d_S_readSquare_198 : decode (iC M_S_readSquare) 198 = .ok (.iload_n 1, 1) := by decide +kernel
theorem d_S_readSquare_199 : decode (iC M_S_readSquare) 199 = .ok (.iload_n 3, 1) := by decide +kernel
theorem d_S_readSquare_200 : decode (iC M_S_readSquare) 200 = .ok (.invokevirtual 112, 3) := by decide +kernel
theorem d_S_readSquare_203 : decode (iC M_S_readSquare) 203 = .ok (.iconst 0, 1) := by decide +kernel
theorem d_S_readSquare_204 : decode (iC M_S_readSquare) 204 = .ok (.istore 6, 2) := by decide +kernel
theorem d_S_readSquare_206 : decode (iC M_S_readSquare) 206 = .ok (.iload 6, 2) := by decide +kernel
theorem d_S_readSquare_208 : decode (iC M_S_readSquare) 208 = .ok (.bipush 6, 2) := by decide +kernel
theorem d_S_readSquare_210 : decode (iC M_S_readSquare) 210 = .ok (.if_icmp .ge 49, 3) := by decide +kernel
theorem d_S_readSquare_213 : decode (iC M_S_readSquare) 213 = .ok (.iload 5, 2) := by decide +kernel
theorem d_S_readSquare_215 : decode (iC M_S_readSquare) 215 = .ok (.iconst 5, 1) := by decide +kernel
theorem d_S_readSquare_216 : decode (iC M_S_readSquare) 216 = .ok (.iload 6, 2) := by decide +kernel
theorem d_S_readSquare_218 : decode (iC M_S_readSquare) 218 = .ok (.isub, 1) := by decide +kernel
theorem d_S_readSquare_219 : decode (iC M_S_readSquare) 219 = .ok (.ishr, 1) := by decide +kernel
theorem d_S_readSquare_220 : decode (iC M_S_readSquare) 220 = .ok (.iconst 1, 1) := by decide +kernel
theorem d_S_readSquare_221 : decode (iC M_S_readSquare) 221 = .ok (.iand, 1) := by decide +kernel
theorem d_S_readSquare_222 : decode (iC M_S_readSquare) 222 = .ok (.iconst 1, 1) := by decide +kernel
theorem d_S_readSquare_223 : decode (iC M_S_readSquare) 223 = .ok (.if_icmp .ne 30, 3) := by decide +kernel
theorem d_S_readSquare_226 : decode (iC M_S_readSquare) 226 = .ok (.aload_n 0, 1) := by decide +kernel
theorem d_S_readSquare_227 : decode (iC M_S_readSquare) 227 = .ok (.iload 6, 2) := by decide +kernel
theorem d_S_readSquare_229 : decode (iC M_S_readSquare) 229 = .ok (.iconst 4, 1) := by decide +kernel
theorem d_S_readSquare_230 : decode (iC M_S_readSquare) 230 = .ok (.if_icmp .ge 7, 3) := by decide +kernel
theorem d_S_readSquare_233 : decode (iC M_S_readSquare) 233 = .ok (.iconst 0, 1) := by decide +kernel
theorem d_S_readSquare_234 : decode (iC M_S_readSquare) 234 = .ok (.goto 7, 3) := by decide +kernel
theorem d_S_readSquare_237 : decode (iC M_S_readSquare) 237 = .ok (.iload 6, 2) := by decide +kernel
theorem d_S_readSquare_239 : decode (iC M_S_readSquare) 239 = .ok (.iconst 3, 1) := by decide +kernel
theorem d_S_readSquare_240 : decode (iC M_S_readSquare) 240 = .ok (.isub, 1) := by decide +kernel
theorem d_S_readSquare_241 : decode (iC M_S_readSquare) 241 = .ok (.iload_n 2, 1) := by decide +kernel
theorem d_S_readSquare_242 : decode (iC M_S_readSquare) 242 = .ok (.invokevirtual 140, 3) := by decide +kernel
theorem d_S_readSquare_245 : decode (iC M_S_readSquare) 245 = .ok (.aload_n 0, 1) := by decide +kernel
theorem d_S_readSquare_246 : decode (iC M_S_readSquare) 246 = .ok (.iload_n 1, 1) := by decide +kernel
theorem d_S_readSquare_247 : decode (iC M_S_readSquare) 247 = .ok (.iload 6, 2) := by decide +kernel
theorem d_S_readSquare_249 : decode (iC M_S_readSquare) 249 = .ok (.iload_n 2, 1) := by decide +kernel
theorem d_S_readSquare_250 : decode (iC M_S_readSquare) 250 = .ok (.invokevirtual 144, 3) := by decide +kernel
theorem d_S_readSquare_253 : decode (iC M_S_readSquare) 253 = .ok (.iinc 6 1, 3) := by decide +kernel
theorem d_S_readSquare_256 : decode (iC M_S_readSquare) 256 = .ok (.goto (-50), 3) := by decide +kernel
theorem d_S_readSquare_259 : decode (iC M_S_readSquare) 259 = .ok (.aload_n 0, 1) := by decide +kernel
theorem d_S_readSquare_260 : decode (iC M_S_readSquare) 260 = .ok (.getfield 32, 3) := by decide +kernel
theorem d_S_readSquare_263 : decode (iC M_S_readSquare) 263 = .ok (.getfield 124, 3) := by decide +kernel
theorem d_S_readSquare_266 : decode (iC M_S_readSquare) 266 = .ok (.iconst 4, 1) := by decide +kernel
theorem d_S_readSquare_267 : decode (iC M_S_readSquare) 267 = .ok (.dup2, 1) := by decide +kernel
theorem d_S_readSquare_268 : decode (iC M_S_readSquare) 268 = .ok (.iaload, 1) := by decide +kernel
theorem d_S_readSquare_269 : decode (iC M_S_readSquare) 269 = .ok (.iconst 1, 1) := by decide +kernel
theorem d_S_readSquare_270 : decode (iC M_S_readSquare) 270 = .ok (.iadd, 1) := by decide +kernel
theorem d_S_readSquare_271 : decode (iC M_S_readSquare) 271 = .ok (.iastore, 1) := by decide +kernel
theorem d_S_readSquare_272 : decode (iC M_S_readSquare) 272 = .ok (.return_, 1) := by decide +kernel
theorem d_S_readWays_0 : decode (iC M_S_readWays) 0 = .ok (.aload_n 0, 1) := by decide +kernel
theorem d_S_readWays_1 : decode (iC M_S_readWays) 1 = .ok (.getfield 61, 3) := by decide +kernel
theorem d_S_readWays_4 : decode (iC M_S_readWays) 4 = .ok (.iconst 2, 1) := by decide +kernel
theorem d_S_readWays_5 : decode (iC M_S_readWays) 5 = .ok (.if_icmp .ne 20, 3) := by decide +kernel
theorem d_S_readWays_8 : decode (iC M_S_readWays) 8 = .ok (.aload_n 0, 1) := by decide +kernel
theorem d_S_readWays_9 : decode (iC M_S_readWays) 9 = .ok (.getfield 28, 3) := by decide +kernel
theorem d_S_readWays_12 : decode (iC M_S_readWays) 12 = .ok (.invokevirtual 54, 3) := by decide +kernel
theorem d_S_readWays_15 : decode (iC M_S_readWays) 15 = .ok (.iconst 1, 1) := by decide +kernel
theorem d_S_readWays_16 : decode (iC M_S_readWays) 16 = .ok (.if_icmp .ne 7, 3) := by decide +kernel
theorem d_S_readWays_19 : decode (iC M_S_readWays) 19 = .ok (.iconst 2, 1) := by decide +kernel
theorem d_S_readWays_20 : decode (iC M_S_readWays) 20 = .ok (.goto 4, 3) := by decide +kernel
theorem d_S_readWays_23 : decode (iC M_S_readWays) 23 = .ok (.iconst 0, 1) := by decide +kernel
theorem d_S_readWays_24 : decode (iC M_S_readWays) 24 = .ok (.ireturn, 1) := by decide +kernel
theorem d_S_readWays_25 : decode (iC M_S_readWays) 25 = .ok (.aload_n 0, 1) := by decide +kernel
theorem d_S_readWays_26 : decode (iC M_S_readWays) 26 = .ok (.getfield 28, 3) := by decide +kernel
theorem d_S_readWays_29 : decode (iC M_S_readWays) 29 = .ok (.iconst 2, 1) := by decide +kernel
theorem d_S_readWays_30 : decode (iC M_S_readWays) 30 = .ok (.invokevirtual 88, 3) := by decide +kernel
theorem d_S_readWays_33 : decode (iC M_S_readWays) 33 = .ok (.ireturn, 1) := by decide +kernel
theorem d_S_readVector_0 : decode (iC M_S_readVector) 0 = .ok (.aload_n 0, 1) := by decide +kernel
theorem d_S_readVector_1 : decode (iC M_S_readVector) 1 = .ok (.getfield 100, 3) := by decide +kernel
theorem d_S_readVector_4 : decode (iC M_S_readVector) 4 = .ok (.iconst 2, 1) := by decide +kernel
theorem d_S_readVector_5 : decode (iC M_S_readVector) 5 = .ok (.idiv, 1) := by decide +kernel
theorem d_S_readVector_6 : decode (iC M_S_readVector) 6 = .ok (.istore_n 2, 1) := by decide +kernel
theorem d_S_readVector_7 : decode (iC M_S_readVector) 7 = .ok (.iconst 0, 1) := by decide +kernel
theorem d_S_readVector_8 : decode (iC M_S_readVector) 8 = .ok (.istore_n 3, 1) := by decide +kernel
theorem d_S_readVector_9 : decode (iC M_S_readVector) 9 = .ok (.iload_n 3, 1) := by decide +kernel
theorem d_S_readVector_10 : decode (iC M_S_readVector) 10 = .ok (.aload_n 1, 1) := by decide +kernel
theorem d_S_readVector_11 : decode (iC M_S_readVector) 11 = .ok (.arraylength, 1) := by decide +kernel
theorem d_S_readVector_12 : decode (iC M_S_readVector) 12 = .ok (.if_icmp .ge 65, 3) := by decide +kernel
theorem d_S_readVector_15 : decode (iC M_S_readVector) 15 = .ok (.aload_n 1, 1) := by decide +kernel
theorem d_S_readVector_16 : decode (iC M_S_readVector) 16 = .ok (.iload_n 3, 1) := by decide +kernel
theorem d_S_readVector_17 : decode (iC M_S_readVector) 17 = .ok (.iaload, 1) := by decide +kernel
theorem d_S_readVector_18 : decode (iC M_S_readVector) 18 = .ok (.aload_n 0, 1) := by decide +kernel
theorem d_S_readVector_19 : decode (iC M_S_readVector) 19 = .ok (.getfield 28, 3) := by decide +kernel
theorem d_S_readVector_22 : decode (iC M_S_readVector) 22 = .ok (.iload_n 2, 1) := by decide +kernel
theorem d_S_readVector_23 : decode (iC M_S_readVector) 23 = .ok (.ineg, 1) := by decide +kernel
theorem d_S_readVector_24 : decode (iC M_S_readVector) 24 = .ok (.iload_n 2, 1) := by decide +kernel
theorem d_S_readVector_25 : decode (iC M_S_readVector) 25 = .ok (.iconst 1, 1) := by decide +kernel
theorem d_S_readVector_26 : decode (iC M_S_readVector) 26 = .ok (.isub, 1) := by decide +kernel
theorem d_S_readVector_27 : decode (iC M_S_readVector) 27 = .ok (.invokevirtual 148, 3) := by decide +kernel
theorem d_S_readVector_30 : decode (iC M_S_readVector) 30 = .ok (.iadd, 1) := by decide +kernel
theorem d_S_readVector_31 : decode (iC M_S_readVector) 31 = .ok (.istore 4, 2) := by decide +kernel
theorem d_S_readVector_33 : decode (iC M_S_readVector) 33 = .ok (.aload_n 1, 1) := by decide +kernel
theorem d_S_readVector_34 : decode (iC M_S_readVector) 34 = .ok (.iload_n 3, 1) := by decide +kernel
theorem d_S_readVector_35 : decode (iC M_S_readVector) 35 = .ok (.iload 4, 2) := by decide +kernel
theorem d_S_readVector_37 : decode (iC M_S_readVector) 37 = .ok (.iload_n 2, 1) := by decide +kernel
theorem d_S_readVector_38 : decode (iC M_S_readVector) 38 = .ok (.ineg, 1) := by decide +kernel
theorem d_S_readVector_39 : decode (iC M_S_readVector) 39 = .ok (.if_icmp .ge 13, 3) := by decide +kernel
theorem d_S_readVector_42 : decode (iC M_S_readVector) 42 = .ok (.iload 4, 2) := by decide +kernel
theorem d_S_readVector_44 : decode (iC M_S_readVector) 44 = .ok (.aload_n 0, 1) := by decide +kernel
theorem d_S_readVector_45 : decode (iC M_S_readVector) 45 = .ok (.getfield 100, 3) := by decide +kernel
theorem d_S_readVector_48 : decode (iC M_S_readVector) 48 = .ok (.iadd, 1) := by decide +kernel
theorem d_S_readVector_49 : decode (iC M_S_readVector) 49 = .ok (.goto 21, 3) := by decide +kernel
theorem d_S_readVector_52 : decode (iC M_S_readVector) 52 = .ok (.iload 4, 2) := by decide +kernel
theorem d_S_readVector_54 : decode (iC M_S_readVector) 54 = .ok (.iload_n 2, 1) := by decide +kernel
theorem d_S_readVector_55 : decode (iC M_S_readVector) 55 = .ok (.if_icmp .lt 13, 3) := by decide +kernel
theorem d_S_readVector_58 : decode (iC M_S_readVector) 58 = .ok (.iload 4, 2) := by decide +kernel
theorem d_S_readVector_60 : decode (iC M_S_readVector) 60 = .ok (.aload_n 0, 1) := by decide +kernel
theorem d_S_readVector_61 : decode (iC M_S_readVector) 61 = .ok (.getfield 100, 3) := by decide +kernel
theorem d_S_readVector_64 : decode (iC M_S_readVector) 64 = .ok (.isub, 1) := by decide +kernel
theorem d_S_readVector_65 : decode (iC M_S_readVector) 65 = .ok (.goto 5, 3) := by decide +kernel
theorem d_S_readVector_68 : decode (iC M_S_readVector) 68 = .ok (.iload 4, 2) := by decide +kernel
theorem d_S_readVector_70 : decode (iC M_S_readVector) 70 = .ok (.iastore, 1) := by decide +kernel
theorem d_S_readVector_71 : decode (iC M_S_readVector) 71 = .ok (.iinc 3 1, 3) := by decide +kernel
theorem d_S_readVector_74 : decode (iC M_S_readVector) 74 = .ok (.goto (-65), 3) := by decide +kernel
theorem d_S_readVector_77 : decode (iC M_S_readVector) 77 = .ok (.return_, 1) := by decide +kernel
theorem d_S_readBlock_0 : decode (iC M_S_readBlock) 0 = .ok (.aload_n 0, 1) := by decide +kernel
theorem d_S_readBlock_1 : decode (iC M_S_readBlock) 1 = .ok (.getfield 12, 3) := by decide +kernel
theorem d_S_readBlock_4 : decode (iC M_S_readBlock) 4 = .ok (.invokevirtual 173, 3) := by decide +kernel
theorem d_S_readBlock_7 : decode (iC M_S_readBlock) 7 = .ok (.iconst 0, 1) := by decide +kernel
theorem d_S_readBlock_8 : decode (iC M_S_readBlock) 8 = .ok (.istore_n 3, 1) := by decide +kernel
theorem d_S_readBlock_9 : decode (iC M_S_readBlock) 9 = .ok (.iload_n 2, 1) := by decide +kernel
theorem d_S_readBlock_10 : decode (iC M_S_readBlock) 10 = .ok (.ifCond .eq 51, 3) := by decide +kernel
theorem d_S_readBlock_13 : decode (iC M_S_readBlock) 13 = .ok (.aload_n 0, 1) := by decide +kernel
theorem d_S_readBlock_14 : decode (iC M_S_readBlock) 14 = .ok (.getfield 18, 3) := by decide +kernel
theorem d_S_readBlock_17 : decode (iC M_S_readBlock) 17 = .ok (.iload_n 1, 1) := by decide +kernel
theorem d_S_readBlock_18 : decode (iC M_S_readBlock) 18 = .ok (.dup2, 1) := by decide +kernel
theorem d_S_readBlock_19 : decode (iC M_S_readBlock) 19 = .ok (.iaload, 1) := by decide +kernel
theorem d_S_readBlock_20 : decode (iC M_S_readBlock) 20 = .ok (.aload_n 0, 1) := by decide +kernel
theorem d_S_readBlock_21 : decode (iC M_S_readBlock) 21 = .ok (.getfield 28, 3) := by decide +kernel
theorem d_S_readBlock_24 : decode (iC M_S_readBlock) 24 = .ok (.aload_n 0, 1) := by decide +kernel
theorem d_S_readBlock_25 : decode (iC M_S_readBlock) 25 = .ok (.getfield 18, 3) := by decide +kernel
theorem d_S_readBlock_28 : decode (iC M_S_readBlock) 28 = .ok (.iload_n 1, 1) := by decide +kernel
theorem d_S_readBlock_29 : decode (iC M_S_readBlock) 29 = .ok (.iaload, 1) := by decide +kernel
theorem d_S_readBlock_30 : decode (iC M_S_readBlock) 30 = .ok (.ineg, 1) := by decide +kernel
theorem d_S_readBlock_31 : decode (iC M_S_readBlock) 31 = .ok (.sipush 255, 3) := by decide +kernel
theorem d_S_readBlock_34 : decode (iC M_S_readBlock) 34 = .ok (.aload_n 0, 1) := by decide +kernel
theorem d_S_readBlock_35 : decode (iC M_S_readBlock) 35 = .ok (.getfield 18, 3) := by decide +kernel
theorem d_S_readBlock_38 : decode (iC M_S_readBlock) 38 = .ok (.iload_n 1, 1) := by decide +kernel
theorem d_S_readBlock_39 : decode (iC M_S_readBlock) 39 = .ok (.iaload, 1) := by decide +kernel
theorem d_S_readBlock_40 : decode (iC M_S_readBlock) 40 = .ok (.isub, 1) := by decide +kernel
theorem d_S_readBlock_41 : decode (iC M_S_readBlock) 41 = .ok (.invokevirtual 148, 3) := by decide +kernel
theorem d_S_readBlock_44 : decode (iC M_S_readBlock) 44 = .ok (.iadd, 1) := by decide +kernel
theorem d_S_readBlock_45 : decode (iC M_S_readBlock) 45 = .ok (.iastore, 1) := by decide +kernel
theorem d_S_readBlock_46 : decode (iC M_S_readBlock) 46 = .ok (.aload_n 0, 1) := by decide +kernel
theorem d_S_readBlock_47 : decode (iC M_S_readBlock) 47 = .ok (.getfield 12, 3) := by decide +kernel
theorem d_S_readBlock_50 : decode (iC M_S_readBlock) 50 = .ok (.aload_n 0, 1) := by decide +kernel
theorem d_S_readBlock_51 : decode (iC M_S_readBlock) 51 = .ok (.getfield 18, 3) := by decide +kernel
theorem d_S_readBlock_54 : decode (iC M_S_readBlock) 54 = .ok (.iload_n 1, 1) := by decide +kernel
theorem d_S_readBlock_55 : decode (iC M_S_readBlock) 55 = .ok (.iaload, 1) := by decide +kernel
theorem d_S_readBlock_56 : decode (iC M_S_readBlock) 56 = .ok (.invokevirtual 176, 3) := by decide +kernel
theorem d_S_readBlock_59 : decode (iC M_S_readBlock) 59 = .ok (.iconst 1, 1) := by decide +kernel
theorem d_S_readBlock_60 : decode (iC M_S_readBlock) 60 = .ok (.istore_n 3, 1) := by decide +kernel
theorem d_S_readBlock_61 : decode (iC M_S_readBlock) 61 = .ok (.iconst 0, 1) := by decide +kernel
theorem d_S_readBlock_62 : decode (iC M_S_readBlock) 62 = .ok (.istore 4, 2) := by decide +kernel
theorem d_S_readBlock_64 : decode (iC M_S_readBlock) 64 = .ok (.iload 4, 2) := by decide +kernel
theorem d_S_readBlock_66 : decode (iC M_S_readBlock) 66 = .ok (.bipush 64, 2) := by decide +kernel
theorem d_S_readBlock_68 : decode (iC M_S_readBlock) 68 = .ok (.if_icmp .gt 104, 3) := by decide +kernel
theorem d_S_readBlock_71 : decode (iC M_S_readBlock) 71 = .ok (.aload_n 0, 1) := by decide +kernel
theorem d_S_readBlock_72 : decode (iC M_S_readBlock) 72 = .ok (.getfield 28, 3) := by decide +kernel
theorem d_S_readBlock_75 : decode (iC M_S_readBlock) 75 = .ok (.bipush 64, 2) := by decide +kernel
theorem d_S_readBlock_77 : decode (iC M_S_readBlock) 77 = .ok (.iload_n 3, 1) := by decide +kernel
theorem d_S_readBlock_78 : decode (iC M_S_readBlock) 78 = .ok (.isub, 1) := by decide +kernel
theorem d_S_readBlock_79 : decode (iC M_S_readBlock) 79 = .ok (.invokevirtual 106, 3) := by decide +kernel
theorem d_S_readBlock_82 : decode (iC M_S_readBlock) 82 = .ok (.istore 5, 2) := by decide +kernel
theorem d_S_readBlock_84 : decode (iC M_S_readBlock) 84 = .ok (.iload 5, 2) := by decide +kernel
theorem d_S_readBlock_86 : decode (iC M_S_readBlock) 86 = .ok (.ifCond .ne 6, 3) := by decide +kernel
theorem d_S_readBlock_89 : decode (iC M_S_readBlock) 89 = .ok (.goto 83, 3) := by decide +kernel
theorem d_S_readBlock_92 : decode (iC M_S_readBlock) 92 = .ok (.iload_n 3, 1) := by decide +kernel
theorem d_S_readBlock_93 : decode (iC M_S_readBlock) 93 = .ok (.iload 5, 2) := by decide +kernel
theorem d_S_readBlock_95 : decode (iC M_S_readBlock) 95 = .ok (.iadd, 1) := by decide +kernel
theorem d_S_readBlock_96 : decode (iC M_S_readBlock) 96 = .ok (.istore_n 3, 1) := by decide +kernel
theorem d_S_readBlock_97 : decode (iC M_S_readBlock) 97 = .ok (.aload_n 0, 1) := by decide +kernel
theorem d_S_readBlock_98 : decode (iC M_S_readBlock) 98 = .ok (.getfield 28, 3) := by decide +kernel
theorem d_S_readBlock_101 : decode (iC M_S_readBlock) 101 = .ok (.getfield 85, 3) := by decide +kernel
theorem d_S_readBlock_104 : decode (iC M_S_readBlock) 104 = .ok (.istore 6, 2) := by decide +kernel
theorem d_S_readBlock_106 : decode (iC M_S_readBlock) 106 = .ok (.aload_n 0, 1) := by decide +kernel
theorem d_S_readBlock_107 : decode (iC M_S_readBlock) 107 = .ok (.getfield 28, 3) := by decide +kernel
theorem d_S_readBlock_110 : decode (iC M_S_readBlock) 110 = .ok (.sipush (-2047), 3) := by decide +kernel
theorem d_S_readBlock_113 : decode (iC M_S_readBlock) 113 = .ok (.sipush 2047, 3) := by decide +kernel
theorem d_S_readBlock_116 : decode (iC M_S_readBlock) 116 = .ok (.invokevirtual 148, 3) := by decide +kernel
theorem d_S_readBlock_119 : decode (iC M_S_readBlock) 119 = .ok (.istore 7, 2) := by decide +kernel
theorem d_S_readBlock_121 : decode (iC M_S_readBlock) 121 = .ok (.iload 7, 2) := by decide +kernel
theorem d_S_readBlock_123 : decode (iC M_S_readBlock) 123 = .ok (.ifCond .ne 12, 3) := by decide +kernel
theorem d_S_readBlock_126 : decode (iC M_S_readBlock) 126 = .ok (.aload_n 0, 1) := by decide +kernel
theorem d_S_readBlock_127 : decode (iC M_S_readBlock) 127 = .ok (.getfield 28, 3) := by decide +kernel
theorem d_S_readBlock_130 : decode (iC M_S_readBlock) 130 = .ok (.iload 6, 2) := by decide +kernel
theorem d_S_readBlock_132 : decode (iC M_S_readBlock) 132 = .ok (.invokevirtual 94, 3) := by decide +kernel
theorem d_S_readBlock_135 : decode (iC M_S_readBlock) 135 = .ok (.aload_n 0, 1) := by decide +kernel
theorem d_S_readBlock_136 : decode (iC M_S_readBlock) 136 = .ok (.getfield 12, 3) := by decide +kernel
theorem d_S_readBlock_139 : decode (iC M_S_readBlock) 139 = .ok (.iload_n 3, 1) := by decide +kernel
theorem d_S_readBlock_140 : decode (iC M_S_readBlock) 140 = .ok (.iconst 1, 1) := by decide +kernel
theorem d_S_readBlock_141 : decode (iC M_S_readBlock) 141 = .ok (.isub, 1) := by decide +kernel
theorem d_S_readBlock_142 : decode (iC M_S_readBlock) 142 = .ok (.iload 7, 2) := by decide +kernel
theorem d_S_readBlock_144 : decode (iC M_S_readBlock) 144 = .ok (.aload_n 0, 1) := by decide +kernel
theorem d_S_readBlock_145 : decode (iC M_S_readBlock) 145 = .ok (.getfield 97, 3) := by decide +kernel
theorem d_S_readBlock_148 : decode (iC M_S_readBlock) 148 = .ok (.iload_n 2, 1) := by decide +kernel
theorem d_S_readBlock_149 : decode (iC M_S_readBlock) 149 = .ok (.invokevirtual 179, 3) := by decide +kernel
theorem d_S_readBlock_152 : decode (iC M_S_readBlock) 152 = .ok (.aload_n 0, 1) := by decide +kernel
theorem d_S_readBlock_153 : decode (iC M_S_readBlock) 153 = .ok (.getfield 32, 3) := by decide +kernel
theorem d_S_readBlock_156 : decode (iC M_S_readBlock) 156 = .ok (.getfield 124, 3) := by decide +kernel
theorem d_S_readBlock_159 : decode (iC M_S_readBlock) 159 = .ok (.bipush 7, 2) := by decide +kernel
theorem d_S_readBlock_161 : decode (iC M_S_readBlock) 161 = .ok (.dup2, 1) := by decide +kernel
theorem d_S_readBlock_162 : decode (iC M_S_readBlock) 162 = .ok (.iaload, 1) := by decide +kernel
theorem d_S_readBlock_163 : decode (iC M_S_readBlock) 163 = .ok (.iconst 1, 1) := by decide +kernel
theorem d_S_readBlock_164 : decode (iC M_S_readBlock) 164 = .ok (.iadd, 1) := by decide +kernel
theorem d_S_readBlock_165 : decode (iC M_S_readBlock) 165 = .ok (.iastore, 1) := by decide +kernel
theorem d_S_readBlock_166 : decode (iC M_S_readBlock) 166 = .ok (.iinc 4 1, 3) := by decide +kernel
theorem d_S_readBlock_169 : decode (iC M_S_readBlock) 169 = .ok (.goto (-105), 3) := by decide +kernel
theorem d_S_readBlock_172 : decode (iC M_S_readBlock) 172 = .ok (.aload_n 0, 1) := by decide +kernel
theorem d_S_readBlock_173 : decode (iC M_S_readBlock) 173 = .ok (.getfield 32, 3) := by decide +kernel
theorem d_S_readBlock_176 : decode (iC M_S_readBlock) 176 = .ok (.getfield 124, 3) := by decide +kernel
theorem d_S_readBlock_179 : decode (iC M_S_readBlock) 179 = .ok (.bipush 6, 2) := by decide +kernel
theorem d_S_readBlock_181 : decode (iC M_S_readBlock) 181 = .ok (.dup2, 1) := by decide +kernel
theorem d_S_readBlock_182 : decode (iC M_S_readBlock) 182 = .ok (.iaload, 1) := by decide +kernel
theorem d_S_readBlock_183 : decode (iC M_S_readBlock) 183 = .ok (.iconst 1, 1) := by decide +kernel
theorem d_S_readBlock_184 : decode (iC M_S_readBlock) 184 = .ok (.iadd, 1) := by decide +kernel
theorem d_S_readBlock_185 : decode (iC M_S_readBlock) 185 = .ok (.iastore, 1) := by decide +kernel
theorem d_S_readBlock_186 : decode (iC M_S_readBlock) 186 = .ok (.return_, 1) := by decide +kernel
theorem d_S_drawBlock_0 : decode (iC M_S_drawBlock) 0 = .ok (.aload_n 0, 1) := by decide +kernel
theorem d_S_drawBlock_1 : decode (iC M_S_drawBlock) 1 = .ok (.getfield 12, 3) := by decide +kernel
theorem d_S_drawBlock_4 : decode (iC M_S_drawBlock) 4 = .ok (.invokevirtual 183, 3) := by decide +kernel
theorem d_S_drawBlock_7 : decode (iC M_S_drawBlock) 7 = .ok (.iload_n 1, 1) := by decide +kernel
theorem d_S_drawBlock_8 : decode (iC M_S_drawBlock) 8 = .ok (.aload_n 0, 1) := by decide +kernel
theorem d_S_drawBlock_9 : decode (iC M_S_drawBlock) 9 = .ok (.getfield 32, 3) := by decide +kernel
theorem d_S_drawBlock_12 : decode (iC M_S_drawBlock) 12 = .ok (.getfield 68, 3) := by decide +kernel
theorem d_S_drawBlock_15 : decode (iC M_S_drawBlock) 15 = .ok (.irem, 1) := by decide +kernel
theorem d_S_drawBlock_16 : decode (iC M_S_drawBlock) 16 = .ok (.istore 4, 2) := by decide +kernel
theorem d_S_drawBlock_18 : decode (iC M_S_drawBlock) 18 = .ok (.iload_n 1, 1) := by decide +kernel
theorem d_S_drawBlock_19 : decode (iC M_S_drawBlock) 19 = .ok (.aload_n 0, 1) := by decide +kernel
theorem d_S_drawBlock_20 : decode (iC M_S_drawBlock) 20 = .ok (.getfield 32, 3) := by decide +kernel
theorem d_S_drawBlock_23 : decode (iC M_S_drawBlock) 23 = .ok (.getfield 68, 3) := by decide +kernel
theorem d_S_drawBlock_26 : decode (iC M_S_drawBlock) 26 = .ok (.idiv, 1) := by decide +kernel
theorem d_S_drawBlock_27 : decode (iC M_S_drawBlock) 27 = .ok (.istore 5, 2) := by decide +kernel
theorem d_S_drawBlock_29 : decode (iC M_S_drawBlock) 29 = .ok (.iload_n 2, 1) := by decide +kernel
theorem d_S_drawBlock_30 : decode (iC M_S_drawBlock) 30 = .ok (.iconst 4, 1) := by decide +kernel
theorem d_S_drawBlock_31 : decode (iC M_S_drawBlock) 31 = .ok (.if_icmp .ge 61, 3) := by decide +kernel
theorem d_S_drawBlock_34 : decode (iC M_S_drawBlock) 34 = .ok (.bipush 16, 2) := by decide +kernel
theorem d_S_drawBlock_36 : decode (iC M_S_drawBlock) 36 = .ok (.iload 4, 2) := by decide +kernel
theorem d_S_drawBlock_38 : decode (iC M_S_drawBlock) 38 = .ok (.imul, 1) := by decide +kernel
theorem d_S_drawBlock_39 : decode (iC M_S_drawBlock) 39 = .ok (.bipush 8, 2) := by decide +kernel
theorem d_S_drawBlock_41 : decode (iC M_S_drawBlock) 41 = .ok (.iload_n 2, 1) := by decide +kernel
theorem d_S_drawBlock_42 : decode (iC M_S_drawBlock) 42 = .ok (.iconst 1, 1) := by decide +kernel
theorem d_S_drawBlock_43 : decode (iC M_S_drawBlock) 43 = .ok (.iand, 1) := by decide +kernel
theorem d_S_drawBlock_44 : decode (iC M_S_drawBlock) 44 = .ok (.imul, 1) := by decide +kernel
theorem d_S_drawBlock_45 : decode (iC M_S_drawBlock) 45 = .ok (.iadd, 1) := by decide +kernel
theorem d_S_drawBlock_46 : decode (iC M_S_drawBlock) 46 = .ok (.istore 6, 2) := by decide +kernel
theorem d_S_drawBlock_48 : decode (iC M_S_drawBlock) 48 = .ok (.bipush 16, 2) := by decide +kernel
theorem d_S_drawBlock_50 : decode (iC M_S_drawBlock) 50 = .ok (.iload 5, 2) := by decide +kernel
theorem d_S_drawBlock_52 : decode (iC M_S_drawBlock) 52 = .ok (.imul, 1) := by decide +kernel
theorem d_S_drawBlock_53 : decode (iC M_S_drawBlock) 53 = .ok (.bipush 8, 2) := by decide +kernel
theorem d_S_drawBlock_55 : decode (iC M_S_drawBlock) 55 = .ok (.iload_n 2, 1) := by decide +kernel
theorem d_S_drawBlock_56 : decode (iC M_S_drawBlock) 56 = .ok (.iconst 1, 1) := by decide +kernel
theorem d_S_drawBlock_57 : decode (iC M_S_drawBlock) 57 = .ok (.ishr, 1) := by decide +kernel
theorem d_S_drawBlock_58 : decode (iC M_S_drawBlock) 58 = .ok (.imul, 1) := by decide +kernel
theorem d_S_drawBlock_59 : decode (iC M_S_drawBlock) 59 = .ok (.iadd, 1) := by decide +kernel
theorem d_S_drawBlock_60 : decode (iC M_S_drawBlock) 60 = .ok (.istore 7, 2) := by decide +kernel
theorem d_S_drawBlock_62 : decode (iC M_S_drawBlock) 62 = .ok (.aload_n 0, 1) := by decide +kernel
theorem d_S_drawBlock_63 : decode (iC M_S_drawBlock) 63 = .ok (.getfield 32, 3) := by decide +kernel
theorem d_S_drawBlock_66 : decode (iC M_S_drawBlock) 66 = .ok (.getfield 115, 3) := by decide +kernel
theorem d_S_drawBlock_69 : decode (iC M_S_drawBlock) 69 = .ok (.getfield 157, 3) := by decide +kernel
theorem d_S_drawBlock_72 : decode (iC M_S_drawBlock) 72 = .ok (.iconst 0, 1) := by decide +kernel
theorem d_S_drawBlock_73 : decode (iC M_S_drawBlock) 73 = .ok (.aaload, 1) := by decide +kernel
theorem d_S_drawBlock_74 : decode (iC M_S_drawBlock) 74 = .ok (.aload_n 0, 1) := by decide +kernel
theorem d_S_drawBlock_75 : decode (iC M_S_drawBlock) 75 = .ok (.getfield 12, 3) := by decide +kernel
theorem d_S_drawBlock_78 : decode (iC M_S_drawBlock) 78 = .ok (.getfield 186, 3) := by decide +kernel
theorem d_S_drawBlock_81 : decode (iC M_S_drawBlock) 81 = .ok (.iload 6, 2) := by decide +kernel
theorem d_S_drawBlock_83 : decode (iC M_S_drawBlock) 83 = .ok (.iload 7, 2) := by decide +kernel
theorem d_S_drawBlock_85 : decode (iC M_S_drawBlock) 85 = .ok (.iload_n 3, 1) := by decide +kernel
theorem d_S_drawBlock_86 : decode (iC M_S_drawBlock) 86 = .ok (.invokevirtual 189, 3) := by decide +kernel
theorem d_S_drawBlock_89 : decode (iC M_S_drawBlock) 89 = .ok (.goto 38, 3) := by decide +kernel
theorem d_S_drawBlock_92 : decode (iC M_S_drawBlock) 92 = .ok (.aload_n 0, 1) := by decide +kernel
theorem d_S_drawBlock_93 : decode (iC M_S_drawBlock) 93 = .ok (.getfield 32, 3) := by decide +kernel
theorem d_S_drawBlock_96 : decode (iC M_S_drawBlock) 96 = .ok (.getfield 115, 3) := by decide +kernel
theorem d_S_drawBlock_99 : decode (iC M_S_drawBlock) 99 = .ok (.getfield 157, 3) := by decide +kernel
theorem d_S_drawBlock_102 : decode (iC M_S_drawBlock) 102 = .ok (.iload_n 2, 1) := by decide +kernel
theorem d_S_drawBlock_103 : decode (iC M_S_drawBlock) 103 = .ok (.iconst 3, 1) := by decide +kernel
theorem d_S_drawBlock_104 : decode (iC M_S_drawBlock) 104 = .ok (.isub, 1) := by decide +kernel
theorem d_S_drawBlock_105 : decode (iC M_S_drawBlock) 105 = .ok (.aaload, 1) := by decide +kernel
theorem d_S_drawBlock_106 : decode (iC M_S_drawBlock) 106 = .ok (.aload_n 0, 1) := by decide +kernel
theorem d_S_drawBlock_107 : decode (iC M_S_drawBlock) 107 = .ok (.getfield 12, 3) := by decide +kernel
theorem d_S_drawBlock_110 : decode (iC M_S_drawBlock) 110 = .ok (.getfield 186, 3) := by decide +kernel
theorem d_S_drawBlock_113 : decode (iC M_S_drawBlock) 113 = .ok (.bipush 8, 2) := by decide +kernel
theorem d_S_drawBlock_115 : decode (iC M_S_drawBlock) 115 = .ok (.iload 4, 2) := by decide +kernel
theorem d_S_drawBlock_117 : decode (iC M_S_drawBlock) 117 = .ok (.imul, 1) := by decide +kernel
theorem d_S_drawBlock_118 : decode (iC M_S_drawBlock) 118 = .ok (.bipush 8, 2) := by decide +kernel
theorem d_S_drawBlock_120 : decode (iC M_S_drawBlock) 120 = .ok (.iload 5, 2) := by decide +kernel
theorem d_S_drawBlock_122 : decode (iC M_S_drawBlock) 122 = .ok (.imul, 1) := by decide +kernel
theorem d_S_drawBlock_123 : decode (iC M_S_drawBlock) 123 = .ok (.iload_n 3, 1) := by decide +kernel
theorem d_S_drawBlock_124 : decode (iC M_S_drawBlock) 124 = .ok (.invokevirtual 189, 3) := by decide +kernel
theorem d_S_drawBlock_127 : decode (iC M_S_drawBlock) 127 = .ok (.return_, 1) := by decide +kernel
