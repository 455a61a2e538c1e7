theorem dX8_init_0 : decode cX8_init 0 = .ok (.aload_n 0, 1) := by decide +kernel
theorem dX8_init_1 : decode cX8_init 1 = .ok (.invokespecial 1, 3) := by decide +kernel
theorem dX8_init_4 : decode cX8_init 4 = .ok (.aload_n 0, 1) := by decide +kernel
theorem dX8_init_5 : decode cX8_init 5 = .ok (.sipush 231, 3) := by decide +kernel
theorem dX8_init_8 : decode cX8_init 8 = .ok (.newarray .int, 2) := by decide +kernel
theorem dX8_init_10 : decode cX8_init 10 = .ok (.putfield 7, 3) := by decide +kernel
theorem dX8_init_13 : decode cX8_init 13 = .ok (.aload_n 0, 1) := by decide +kernel
theorem dX8_init_14 : decode cX8_init 14 = .ok (.sipush 1386, 3) := by decide +kernel
theorem dX8_init_17 : decode cX8_init 17 = .ok (.newarray .int, 2) := by decide +kernel
theorem dX8_init_19 : decode cX8_init 19 = .ok (.putfield 13, 3) := by decide +kernel
theorem dX8_init_22 : decode cX8_init 22 = .ok (.aload_n 0, 1) := by decide +kernel
theorem dX8_init_23 : decode cX8_init 23 = .ok (.bipush 60, 2) := by decide +kernel
theorem dX8_init_25 : decode cX8_init 25 = .ok (.newarray .int, 2) := by decide +kernel
theorem dX8_init_27 : decode cX8_init 27 = .ok (.putfield 16, 3) := by decide +kernel
theorem dX8_init_30 : decode cX8_init 30 = .ok (.aload_n 0, 1) := by decide +kernel
theorem dX8_init_31 : decode cX8_init 31 = .ok (.bipush 11, 2) := by decide +kernel
theorem dX8_init_33 : decode cX8_init 33 = .ok (.newarray .int, 2) := by decide +kernel
theorem dX8_init_35 : decode cX8_init 35 = .ok (.putfield 19, 3) := by decide +kernel
theorem dX8_init_38 : decode cX8_init 38 = .ok (.aload_n 0, 1) := by decide +kernel
theorem dX8_init_39 : decode cX8_init 39 = .ok (.bipush 10, 2) := by decide +kernel
theorem dX8_init_41 : decode cX8_init 41 = .ok (.newarray .int, 2) := by decide +kernel
theorem dX8_init_43 : decode cX8_init 43 = .ok (.putfield 22, 3) := by decide +kernel
theorem dX8_init_46 : decode cX8_init 46 = .ok (.aload_n 0, 1) := by decide +kernel
theorem dX8_init_47 : decode cX8_init 47 = .ok (.bipush 10, 2) := by decide +kernel
theorem dX8_init_49 : decode cX8_init 49 = .ok (.newarray .int, 2) := by decide +kernel
theorem dX8_init_51 : decode cX8_init 51 = .ok (.putfield 25, 3) := by decide +kernel
theorem dX8_init_54 : decode cX8_init 54 = .ok (.aload_n 0, 1) := by decide +kernel
theorem dX8_init_55 : decode cX8_init 55 = .ok (.bipush 10, 2) := by decide +kernel
theorem dX8_init_57 : decode cX8_init 57 = .ok (.newarray .int, 2) := by decide +kernel
theorem dX8_init_59 : decode cX8_init 59 = .ok (.putfield 28, 3) := by decide +kernel
theorem dX8_init_62 : decode cX8_init 62 = .ok (.aload_n 0, 1) := by decide +kernel
theorem dX8_init_63 : decode cX8_init 63 = .ok (.bipush 124, 2) := by decide +kernel
theorem dX8_init_65 : decode cX8_init 65 = .ok (.newarray .int, 2) := by decide +kernel
theorem dX8_init_67 : decode cX8_init 67 = .ok (.putfield 31, 3) := by decide +kernel
theorem dX8_init_70 : decode cX8_init 70 = .ok (.iconst 0, 1) := by decide +kernel
theorem dX8_init_71 : decode cX8_init 71 = .ok (.istore_n 1, 1) := by decide +kernel
theorem dX8_init_72 : decode cX8_init 72 = .ok (.iload_n 1, 1) := by decide +kernel
theorem dX8_init_73 : decode cX8_init 73 = .ok (.iconst 3, 1) := by decide +kernel
theorem dX8_init_74 : decode cX8_init 74 = .ok (.if_icmp .ge 38, 3) := by decide +kernel
theorem dX8_init_77 : decode cX8_init 77 = .ok (.aload_n 0, 1) := by decide +kernel
theorem dX8_init_78 : decode cX8_init 78 = .ok (.getfield 7, 3) := by decide +kernel
theorem dX8_init_81 : decode cX8_init 81 = .ok (.bipush 67, 2) := by decide +kernel
theorem dX8_init_83 : decode cX8_init 83 = .ok (.iload_n 1, 1) := by decide +kernel
theorem dX8_init_84 : decode cX8_init 84 = .ok (.imul, 1) := by decide +kernel
theorem dX8_init_85 : decode cX8_init 85 = .ok (.bipush 41, 2) := by decide +kernel
theorem dX8_init_87 : decode cX8_init 87 = .ok (.iadd, 1) := by decide +kernel
theorem dX8_init_88 : decode cX8_init 88 = .ok (.iconst 1, 1) := by decide +kernel
theorem dX8_init_89 : decode cX8_init 89 = .ok (.iastore, 1) := by decide +kernel
theorem dX8_init_90 : decode cX8_init 90 = .ok (.aload_n 0, 1) := by decide +kernel
theorem dX8_init_91 : decode cX8_init 91 = .ok (.getfield 7, 3) := by decide +kernel
theorem dX8_init_94 : decode cX8_init 94 = .ok (.bipush 67, 2) := by decide +kernel
theorem dX8_init_96 : decode cX8_init 96 = .ok (.iload_n 1, 1) := by decide +kernel
theorem dX8_init_97 : decode cX8_init 97 = .ok (.imul, 1) := by decide +kernel
theorem dX8_init_98 : decode cX8_init 98 = .ok (.bipush 42, 2) := by decide +kernel
theorem dX8_init_100 : decode cX8_init 100 = .ok (.iadd, 1) := by decide +kernel
theorem dX8_init_101 : decode cX8_init 101 = .ok (.iconst 1, 1) := by decide +kernel
theorem dX8_init_102 : decode cX8_init 102 = .ok (.iadd, 1) := by decide +kernel
theorem dX8_init_103 : decode cX8_init 103 = .ok (.bipush 16, 2) := by decide +kernel
theorem dX8_init_105 : decode cX8_init 105 = .ok (.iastore, 1) := by decide +kernel
theorem dX8_init_106 : decode cX8_init 106 = .ok (.iinc 1 1, 3) := by decide +kernel
theorem dX8_init_109 : decode cX8_init 109 = .ok (.goto (-37), 3) := by decide +kernel
theorem dX8_init_112 : decode cX8_init 112 = .ok (.aload_n 0, 1) := by decide +kernel
theorem dX8_init_113 : decode cX8_init 113 = .ok (.getfield 7, 3) := by decide +kernel
theorem dX8_init_116 : decode cX8_init 116 = .ok (.sipush 226, 3) := by decide +kernel
theorem dX8_init_119 : decode cX8_init 119 = .ok (.bipush 20, 2) := by decide +kernel
theorem dX8_init_121 : decode cX8_init 121 = .ok (.iastore, 1) := by decide +kernel
theorem dX8_init_122 : decode cX8_init 122 = .ok (.aload_n 0, 1) := by decide +kernel
theorem dX8_init_123 : decode cX8_init 123 = .ok (.getfield 7, 3) := by decide +kernel
theorem dX8_init_126 : decode cX8_init 126 = .ok (.sipush 227, 3) := by decide +kernel
theorem dX8_init_129 : decode cX8_init 129 = .ok (.iconst 5, 1) := by decide +kernel
theorem dX8_init_130 : decode cX8_init 130 = .ok (.iastore, 1) := by decide +kernel
theorem dX8_init_131 : decode cX8_init 131 = .ok (.return_, 1) := by decide +kernel
theorem dX8_thrown_0 : decode cX8_thrown 0 = .ok (.aload_n 0, 1) := by decide +kernel
theorem dX8_thrown_1 : decode cX8_thrown 1 = .ok (.getfield 34, 3) := by decide +kernel
theorem dX8_thrown_4 : decode cX8_thrown 4 = .ok (.ireturn, 1) := by decide +kernel
theorem dX8_within_0 : decode cX8_within 0 = .ok (.iload_n 0, 1) := by decide +kernel
theorem dX8_within_1 : decode cX8_within 1 = .ok (.iload_n 1, 1) := by decide +kernel
theorem dX8_within_2 : decode cX8_within 2 = .ok (.if_icmp .lt 12, 3) := by decide +kernel
theorem dX8_within_5 : decode cX8_within 5 = .ok (.iload_n 0, 1) := by decide +kernel
theorem dX8_within_6 : decode cX8_within 6 = .ok (.iload_n 2, 1) := by decide +kernel
theorem dX8_within_7 : decode cX8_within 7 = .ok (.if_icmp .gt 7, 3) := by decide +kernel
theorem dX8_within_10 : decode cX8_within 10 = .ok (.iconst 1, 1) := by decide +kernel
theorem dX8_within_11 : decode cX8_within 11 = .ok (.goto 4, 3) := by decide +kernel
theorem dX8_within_14 : decode cX8_within 14 = .ok (.iconst 0, 1) := by decide +kernel
theorem dX8_within_15 : decode cX8_within 15 = .ok (.ireturn, 1) := by decide +kernel
theorem dX8_size_0 : decode cX8_size 0 = .ok (.iload_n 0, 1) := by decide +kernel
theorem dX8_size_1 : decode cX8_size 1 = .ok (.ifCond .ge 8, 3) := by decide +kernel
theorem dX8_size_4 : decode cX8_size 4 = .ok (.iload_n 0, 1) := by decide +kernel
theorem dX8_size_5 : decode cX8_size 5 = .ok (.ineg, 1) := by decide +kernel
theorem dX8_size_6 : decode cX8_size 6 = .ok (.goto 4, 3) := by decide +kernel
theorem dX8_size_9 : decode cX8_size 9 = .ok (.iload_n 0, 1) := by decide +kernel
theorem dX8_size_10 : decode cX8_size 10 = .ok (.ireturn, 1) := by decide +kernel
theorem dX8_isReel_0 : decode cX8_isReel 0 = .ok (.iload_n 0, 1) := by decide +kernel
theorem dX8_isReel_1 : decode cX8_isReel 1 = .ok (.iconst 0, 1) := by decide +kernel
theorem dX8_isReel_2 : decode cX8_isReel 2 = .ok (.iconst 2, 1) := by decide +kernel
theorem dX8_isReel_3 : decode cX8_isReel 3 = .ok (.invokestatic 38, 3) := by decide +kernel
theorem dX8_isReel_6 : decode cX8_isReel 6 = .ok (.ireturn, 1) := by decide +kernel
theorem dX8_scenes_0 : decode cX8_scenes 0 = .ok (.aload_n 0, 1) := by decide +kernel
theorem dX8_scenes_1 : decode cX8_scenes 1 = .ok (.getfield 7, 3) := by decide +kernel
theorem dX8_scenes_4 : decode cX8_scenes 4 = .ok (.bipush 67, 2) := by decide +kernel
theorem dX8_scenes_6 : decode cX8_scenes 6 = .ok (.iload_n 1, 1) := by decide +kernel
theorem dX8_scenes_7 : decode cX8_scenes 7 = .ok (.imul, 1) := by decide +kernel
theorem dX8_scenes_8 : decode cX8_scenes 8 = .ok (.iconst 0, 1) := by decide +kernel
theorem dX8_scenes_9 : decode cX8_scenes 9 = .ok (.iadd, 1) := by decide +kernel
theorem dX8_scenes_10 : decode cX8_scenes 10 = .ok (.iaload, 1) := by decide +kernel
theorem dX8_scenes_11 : decode cX8_scenes 11 = .ok (.ireturn, 1) := by decide +kernel
theorem dX8_isScene_0 : decode cX8_isScene 0 = .ok (.iload_n 1, 1) := by decide +kernel
theorem dX8_isScene_1 : decode cX8_isScene 1 = .ok (.invokestatic 42, 3) := by decide +kernel
theorem dX8_isScene_4 : decode cX8_isScene 4 = .ok (.ifCond .eq 22, 3) := by decide +kernel
theorem dX8_isScene_7 : decode cX8_isScene 7 = .ok (.iload_n 2, 1) := by decide +kernel
theorem dX8_isScene_8 : decode cX8_isScene 8 = .ok (.iconst 0, 1) := by decide +kernel
theorem dX8_isScene_9 : decode cX8_isScene 9 = .ok (.aload_n 0, 1) := by decide +kernel
theorem dX8_isScene_10 : decode cX8_isScene 10 = .ok (.iload_n 1, 1) := by decide +kernel
theorem dX8_isScene_11 : decode cX8_isScene 11 = .ok (.invokevirtual 46, 3) := by decide +kernel
theorem dX8_isScene_14 : decode cX8_isScene 14 = .ok (.iconst 1, 1) := by decide +kernel
theorem dX8_isScene_15 : decode cX8_isScene 15 = .ok (.isub, 1) := by decide +kernel
theorem dX8_isScene_16 : decode cX8_isScene 16 = .ok (.invokestatic 38, 3) := by decide +kernel
theorem dX8_isScene_19 : decode cX8_isScene 19 = .ok (.ifCond .eq 7, 3) := by decide +kernel
theorem dX8_isScene_22 : decode cX8_isScene 22 = .ok (.iconst 1, 1) := by decide +kernel
theorem dX8_isScene_23 : decode cX8_isScene 23 = .ok (.goto 4, 3) := by decide +kernel
theorem dX8_isScene_26 : decode cX8_isScene 26 = .ok (.iconst 0, 1) := by decide +kernel
theorem dX8_isScene_27 : decode cX8_isScene 27 = .ok (.ireturn, 1) := by decide +kernel
theorem dX8_isPiece_0 : decode cX8_isPiece 0 = .ok (.iload_n 1, 1) := by decide +kernel
theorem dX8_isPiece_1 : decode cX8_isPiece 1 = .ok (.iconst 0, 1) := by decide +kernel
theorem dX8_isPiece_2 : decode cX8_isPiece 2 = .ok (.aload_n 0, 1) := by decide +kernel
theorem dX8_isPiece_3 : decode cX8_isPiece 3 = .ok (.getfield 7, 3) := by decide +kernel
theorem dX8_isPiece_6 : decode cX8_isPiece 6 = .ok (.sipush 201, 3) := by decide +kernel
theorem dX8_isPiece_9 : decode cX8_isPiece 9 = .ok (.iaload, 1) := by decide +kernel
theorem dX8_isPiece_10 : decode cX8_isPiece 10 = .ok (.iconst 1, 1) := by decide +kernel
theorem dX8_isPiece_11 : decode cX8_isPiece 11 = .ok (.isub, 1) := by decide +kernel
theorem dX8_isPiece_12 : decode cX8_isPiece 12 = .ok (.invokestatic 38, 3) := by decide +kernel
theorem dX8_isPiece_15 : decode cX8_isPiece 15 = .ok (.ireturn, 1) := by decide +kernel
theorem dX8_of_0 : decode cX8_of 0 = .ok (.aload_n 0, 1) := by decide +kernel
theorem dX8_of_1 : decode cX8_of 1 = .ok (.getfield 7, 3) := by decide +kernel
theorem dX8_of_4 : decode cX8_of 4 = .ok (.bipush 67, 2) := by decide +kernel
theorem dX8_of_6 : decode cX8_of 6 = .ok (.iload_n 1, 1) := by decide +kernel
theorem dX8_of_7 : decode cX8_of 7 = .ok (.imul, 1) := by decide +kernel
theorem dX8_of_8 : decode cX8_of 8 = .ok (.iconst 1, 1) := by decide +kernel
theorem dX8_of_9 : decode cX8_of 9 = .ok (.iadd, 1) := by decide +kernel
theorem dX8_of_10 : decode cX8_of 10 = .ok (.iconst 4, 1) := by decide +kernel
theorem dX8_of_11 : decode cX8_of 11 = .ok (.iload_n 2, 1) := by decide +kernel
theorem dX8_of_12 : decode cX8_of 12 = .ok (.imul, 1) := by decide +kernel
theorem dX8_of_13 : decode cX8_of 13 = .ok (.iadd, 1) := by decide +kernel
theorem dX8_of_14 : decode cX8_of 14 = .ok (.iload_n 3, 1) := by decide +kernel
theorem dX8_of_15 : decode cX8_of 15 = .ok (.iadd, 1) := by decide +kernel
theorem dX8_of_16 : decode cX8_of 16 = .ok (.iaload, 1) := by decide +kernel
theorem dX8_of_17 : decode cX8_of 17 = .ok (.ireturn, 1) := by decide +kernel
theorem dX8_speedOf_0 : decode cX8_speedOf 0 = .ok (.iconst (-1), 1) := by decide +kernel
theorem dX8_speedOf_1 : decode cX8_speedOf 1 = .ok (.istore_n 3, 1) := by decide +kernel
theorem dX8_speedOf_2 : decode cX8_speedOf 2 = .ok (.iconst 0, 1) := by decide +kernel
theorem dX8_speedOf_3 : decode cX8_speedOf 3 = .ok (.istore 4, 2) := by decide +kernel
theorem dX8_speedOf_5 : decode cX8_speedOf 5 = .ok (.iconst 0, 1) := by decide +kernel
theorem dX8_speedOf_6 : decode cX8_speedOf 6 = .ok (.istore 5, 2) := by decide +kernel
theorem dX8_speedOf_8 : decode cX8_speedOf 8 = .ok (.iload 5, 2) := by decide +kernel
theorem dX8_speedOf_10 : decode cX8_speedOf 10 = .ok (.aload_n 0, 1) := by decide +kernel
theorem dX8_speedOf_11 : decode cX8_speedOf 11 = .ok (.getfield 7, 3) := by decide +kernel
theorem dX8_speedOf_14 : decode cX8_speedOf 14 = .ok (.bipush 67, 2) := by decide +kernel
theorem dX8_speedOf_16 : decode cX8_speedOf 16 = .ok (.iload_n 1, 1) := by decide +kernel
theorem dX8_speedOf_17 : decode cX8_speedOf 17 = .ok (.imul, 1) := by decide +kernel
theorem dX8_speedOf_18 : decode cX8_speedOf 18 = .ok (.bipush 41, 2) := by decide +kernel
theorem dX8_speedOf_20 : decode cX8_speedOf 20 = .ok (.iadd, 1) := by decide +kernel
theorem dX8_speedOf_21 : decode cX8_speedOf 21 = .ok (.iaload, 1) := by decide +kernel
theorem dX8_speedOf_22 : decode cX8_speedOf 22 = .ok (.if_icmp .ge 64, 3) := by decide +kernel
theorem dX8_speedOf_25 : decode cX8_speedOf 25 = .ok (.aload_n 0, 1) := by decide +kernel
theorem dX8_speedOf_26 : decode cX8_speedOf 26 = .ok (.getfield 7, 3) := by decide +kernel
theorem dX8_speedOf_29 : decode cX8_speedOf 29 = .ok (.bipush 67, 2) := by decide +kernel
theorem dX8_speedOf_31 : decode cX8_speedOf 31 = .ok (.iload_n 1, 1) := by decide +kernel
theorem dX8_speedOf_32 : decode cX8_speedOf 32 = .ok (.imul, 1) := by decide +kernel
theorem dX8_speedOf_33 : decode cX8_speedOf 33 = .ok (.bipush 42, 2) := by decide +kernel
theorem dX8_speedOf_35 : decode cX8_speedOf 35 = .ok (.iadd, 1) := by decide +kernel
theorem dX8_speedOf_36 : decode cX8_speedOf 36 = .ok (.iconst 2, 1) := by decide +kernel
theorem dX8_speedOf_37 : decode cX8_speedOf 37 = .ok (.iload 5, 2) := by decide +kernel
theorem dX8_speedOf_39 : decode cX8_speedOf 39 = .ok (.imul, 1) := by decide +kernel
theorem dX8_speedOf_40 : decode cX8_speedOf 40 = .ok (.iadd, 1) := by decide +kernel
theorem dX8_speedOf_41 : decode cX8_speedOf 41 = .ok (.iaload, 1) := by decide +kernel
theorem dX8_speedOf_42 : decode cX8_speedOf 42 = .ok (.istore 6, 2) := by decide +kernel
theorem dX8_speedOf_44 : decode cX8_speedOf 44 = .ok (.iload 6, 2) := by decide +kernel
theorem dX8_speedOf_46 : decode cX8_speedOf 46 = .ok (.iload_n 2, 1) := by decide +kernel
theorem dX8_speedOf_47 : decode cX8_speedOf 47 = .ok (.if_icmp .gt 33, 3) := by decide +kernel
theorem dX8_speedOf_50 : decode cX8_speedOf 50 = .ok (.iload 6, 2) := by decide +kernel
theorem dX8_speedOf_52 : decode cX8_speedOf 52 = .ok (.iload_n 3, 1) := by decide +kernel
theorem dX8_speedOf_53 : decode cX8_speedOf 53 = .ok (.if_icmp .le 27, 3) := by decide +kernel
theorem dX8_speedOf_56 : decode cX8_speedOf 56 = .ok (.iload 6, 2) := by decide +kernel
theorem dX8_speedOf_58 : decode cX8_speedOf 58 = .ok (.istore_n 3, 1) := by decide +kernel
theorem dX8_speedOf_59 : decode cX8_speedOf 59 = .ok (.aload_n 0, 1) := by decide +kernel
theorem dX8_speedOf_60 : decode cX8_speedOf 60 = .ok (.getfield 7, 3) := by decide +kernel
theorem dX8_speedOf_63 : decode cX8_speedOf 63 = .ok (.bipush 67, 2) := by decide +kernel
theorem dX8_speedOf_65 : decode cX8_speedOf 65 = .ok (.iload_n 1, 1) := by decide +kernel
theorem dX8_speedOf_66 : decode cX8_speedOf 66 = .ok (.imul, 1) := by decide +kernel
theorem dX8_speedOf_67 : decode cX8_speedOf 67 = .ok (.bipush 42, 2) := by decide +kernel
theorem dX8_speedOf_69 : decode cX8_speedOf 69 = .ok (.iadd, 1) := by decide +kernel
theorem dX8_speedOf_70 : decode cX8_speedOf 70 = .ok (.iconst 2, 1) := by decide +kernel
theorem dX8_speedOf_71 : decode cX8_speedOf 71 = .ok (.iload 5, 2) := by decide +kernel
theorem dX8_speedOf_73 : decode cX8_speedOf 73 = .ok (.imul, 1) := by decide +kernel
theorem dX8_speedOf_74 : decode cX8_speedOf 74 = .ok (.iadd, 1) := by decide +kernel
theorem dX8_speedOf_75 : decode cX8_speedOf 75 = .ok (.iconst 1, 1) := by decide +kernel
theorem dX8_speedOf_76 : decode cX8_speedOf 76 = .ok (.iadd, 1) := by decide +kernel
theorem dX8_speedOf_77 : decode cX8_speedOf 77 = .ok (.iaload, 1) := by decide +kernel
theorem dX8_speedOf_78 : decode cX8_speedOf 78 = .ok (.istore 4, 2) := by decide +kernel
theorem dX8_speedOf_80 : decode cX8_speedOf 80 = .ok (.iinc 5 1, 3) := by decide +kernel
theorem dX8_speedOf_83 : decode cX8_speedOf 83 = .ok (.goto (-75), 3) := by decide +kernel
theorem dX8_speedOf_86 : decode cX8_speedOf 86 = .ok (.iload 4, 2) := by decide +kernel
theorem dX8_speedOf_88 : decode cX8_speedOf 88 = .ok (.ireturn, 1) := by decide +kernel
theorem dX8_isLost_0 : decode cX8_isLost 0 = .ok (.iconst 0, 1) := by decide +kernel
theorem dX8_isLost_1 : decode cX8_isLost 1 = .ok (.istore_n 3, 1) := by decide +kernel
theorem dX8_isLost_2 : decode cX8_isLost 2 = .ok (.iconst 0, 1) := by decide +kernel
theorem dX8_isLost_3 : decode cX8_isLost 3 = .ok (.istore 4, 2) := by decide +kernel
theorem dX8_isLost_5 : decode cX8_isLost 5 = .ok (.iload 4, 2) := by decide +kernel
theorem dX8_isLost_7 : decode cX8_isLost 7 = .ok (.aload_n 0, 1) := by decide +kernel
theorem dX8_isLost_8 : decode cX8_isLost 8 = .ok (.getfield 7, 3) := by decide +kernel
theorem dX8_isLost_11 : decode cX8_isLost 11 = .ok (.bipush 67, 2) := by decide +kernel
theorem dX8_isLost_13 : decode cX8_isLost 13 = .ok (.iload_n 1, 1) := by decide +kernel
theorem dX8_isLost_14 : decode cX8_isLost 14 = .ok (.imul, 1) := by decide +kernel
theorem dX8_isLost_15 : decode cX8_isLost 15 = .ok (.bipush 54, 2) := by decide +kernel
theorem dX8_isLost_17 : decode cX8_isLost 17 = .ok (.iadd, 1) := by decide +kernel
theorem dX8_isLost_18 : decode cX8_isLost 18 = .ok (.iaload, 1) := by decide +kernel
theorem dX8_isLost_19 : decode cX8_isLost 19 = .ok (.if_icmp .ge 71, 3) := by decide +kernel
theorem dX8_isLost_22 : decode cX8_isLost 22 = .ok (.aload_n 0, 1) := by decide +kernel
theorem dX8_isLost_23 : decode cX8_isLost 23 = .ok (.getfield 7, 3) := by decide +kernel
theorem dX8_isLost_26 : decode cX8_isLost 26 = .ok (.bipush 67, 2) := by decide +kernel
theorem dX8_isLost_28 : decode cX8_isLost 28 = .ok (.iload_n 1, 1) := by decide +kernel
theorem dX8_isLost_29 : decode cX8_isLost 29 = .ok (.imul, 1) := by decide +kernel
theorem dX8_isLost_30 : decode cX8_isLost 30 = .ok (.bipush 55, 2) := by decide +kernel
theorem dX8_isLost_32 : decode cX8_isLost 32 = .ok (.iadd, 1) := by decide +kernel
theorem dX8_isLost_33 : decode cX8_isLost 33 = .ok (.iconst 2, 1) := by decide +kernel
theorem dX8_isLost_34 : decode cX8_isLost 34 = .ok (.iload 4, 2) := by decide +kernel
theorem dX8_isLost_36 : decode cX8_isLost 36 = .ok (.imul, 1) := by decide +kernel
theorem dX8_isLost_37 : decode cX8_isLost 37 = .ok (.iadd, 1) := by decide +kernel
theorem dX8_isLost_38 : decode cX8_isLost 38 = .ok (.iaload, 1) := by decide +kernel
theorem dX8_isLost_39 : decode cX8_isLost 39 = .ok (.istore 5, 2) := by decide +kernel
theorem dX8_isLost_41 : decode cX8_isLost 41 = .ok (.iload_n 3, 1) := by decide +kernel
theorem dX8_isLost_42 : decode cX8_isLost 42 = .ok (.ifCond .ne 36, 3) := by decide +kernel
theorem dX8_isLost_45 : decode cX8_isLost 45 = .ok (.iload_n 2, 1) := by decide +kernel
theorem dX8_isLost_46 : decode cX8_isLost 46 = .ok (.iload 5, 2) := by decide +kernel
theorem dX8_isLost_48 : decode cX8_isLost 48 = .ok (.iload 5, 2) := by decide +kernel
theorem dX8_isLost_50 : decode cX8_isLost 50 = .ok (.aload_n 0, 1) := by decide +kernel
theorem dX8_isLost_51 : decode cX8_isLost 51 = .ok (.getfield 7, 3) := by decide +kernel
theorem dX8_isLost_54 : decode cX8_isLost 54 = .ok (.bipush 67, 2) := by decide +kernel
theorem dX8_isLost_56 : decode cX8_isLost 56 = .ok (.iload_n 1, 1) := by decide +kernel
theorem dX8_isLost_57 : decode cX8_isLost 57 = .ok (.imul, 1) := by decide +kernel
theorem dX8_isLost_58 : decode cX8_isLost 58 = .ok (.bipush 55, 2) := by decide +kernel
theorem dX8_isLost_60 : decode cX8_isLost 60 = .ok (.iadd, 1) := by decide +kernel
theorem dX8_isLost_61 : decode cX8_isLost 61 = .ok (.iconst 2, 1) := by decide +kernel
theorem dX8_isLost_62 : decode cX8_isLost 62 = .ok (.iload 4, 2) := by decide +kernel
theorem dX8_isLost_64 : decode cX8_isLost 64 = .ok (.imul, 1) := by decide +kernel
theorem dX8_isLost_65 : decode cX8_isLost 65 = .ok (.iadd, 1) := by decide +kernel
theorem dX8_isLost_66 : decode cX8_isLost 66 = .ok (.iconst 1, 1) := by decide +kernel
theorem dX8_isLost_67 : decode cX8_isLost 67 = .ok (.iadd, 1) := by decide +kernel
theorem dX8_isLost_68 : decode cX8_isLost 68 = .ok (.iaload, 1) := by decide +kernel
theorem dX8_isLost_69 : decode cX8_isLost 69 = .ok (.iadd, 1) := by decide +kernel
theorem dX8_isLost_70 : decode cX8_isLost 70 = .ok (.iconst 1, 1) := by decide +kernel
theorem dX8_isLost_71 : decode cX8_isLost 71 = .ok (.isub, 1) := by decide +kernel
theorem dX8_isLost_72 : decode cX8_isLost 72 = .ok (.invokestatic 38, 3) := by decide +kernel
theorem dX8_isLost_75 : decode cX8_isLost 75 = .ok (.ifCond .eq 7, 3) := by decide +kernel
theorem dX8_isLost_78 : decode cX8_isLost 78 = .ok (.iconst 1, 1) := by decide +kernel
theorem dX8_isLost_79 : decode cX8_isLost 79 = .ok (.goto 4, 3) := by decide +kernel
theorem dX8_isLost_82 : decode cX8_isLost 82 = .ok (.iconst 0, 1) := by decide +kernel
theorem dX8_isLost_83 : decode cX8_isLost 83 = .ok (.istore_n 3, 1) := by decide +kernel
theorem dX8_isLost_84 : decode cX8_isLost 84 = .ok (.iinc 4 1, 3) := by decide +kernel
theorem dX8_isLost_87 : decode cX8_isLost 87 = .ok (.goto (-82), 3) := by decide +kernel
theorem dX8_isLost_90 : decode cX8_isLost 90 = .ok (.iload_n 3, 1) := by decide +kernel
theorem dX8_isLost_91 : decode cX8_isLost 91 = .ok (.ireturn, 1) := by decide +kernel
theorem dX8_firstFoot_0 : decode cX8_firstFoot 0 = .ok (.iconst 0, 1) := by decide +kernel
theorem dX8_firstFoot_1 : decode cX8_firstFoot 1 = .ok (.istore_n 3, 1) := by decide +kernel
theorem dX8_firstFoot_2 : decode cX8_firstFoot 2 = .ok (.iconst 0, 1) := by decide +kernel
theorem dX8_firstFoot_3 : decode cX8_firstFoot 3 = .ok (.istore 4, 2) := by decide +kernel
theorem dX8_firstFoot_5 : decode cX8_firstFoot 5 = .ok (.iload 4, 2) := by decide +kernel
theorem dX8_firstFoot_7 : decode cX8_firstFoot 7 = .ok (.iload_n 2, 1) := by decide +kernel
theorem dX8_firstFoot_8 : decode cX8_firstFoot 8 = .ok (.if_icmp .ge 20, 3) := by decide +kernel
theorem dX8_firstFoot_11 : decode cX8_firstFoot 11 = .ok (.iload_n 3, 1) := by decide +kernel
theorem dX8_firstFoot_12 : decode cX8_firstFoot 12 = .ok (.aload_n 0, 1) := by decide +kernel
theorem dX8_firstFoot_13 : decode cX8_firstFoot 13 = .ok (.iload_n 1, 1) := by decide +kernel
theorem dX8_firstFoot_14 : decode cX8_firstFoot 14 = .ok (.iload 4, 2) := by decide +kernel
theorem dX8_firstFoot_16 : decode cX8_firstFoot 16 = .ok (.iconst 0, 1) := by decide +kernel
theorem dX8_firstFoot_17 : decode cX8_firstFoot 17 = .ok (.invokevirtual 50, 3) := by decide +kernel
theorem dX8_firstFoot_20 : decode cX8_firstFoot 20 = .ok (.iadd, 1) := by decide +kernel
theorem dX8_firstFoot_21 : decode cX8_firstFoot 21 = .ok (.istore_n 3, 1) := by decide +kernel
theorem dX8_firstFoot_22 : decode cX8_firstFoot 22 = .ok (.iinc 4 1, 3) := by decide +kernel
theorem dX8_firstFoot_25 : decode cX8_firstFoot 25 = .ok (.goto (-20), 3) := by decide +kernel
theorem dX8_firstFoot_28 : decode cX8_firstFoot 28 = .ok (.iload_n 3, 1) := by decide +kernel
theorem dX8_firstFoot_29 : decode cX8_firstFoot 29 = .ok (.ireturn, 1) := by decide +kernel
theorem dX8_layScenes_0 : decode cX8_layScenes 0 = .ok (.aload_n 0, 1) := by decide +kernel
theorem dX8_layScenes_1 : decode cX8_layScenes 1 = .ok (.getfield 19, 3) := by decide +kernel
theorem dX8_layScenes_4 : decode cX8_layScenes 4 = .ok (.iconst 0, 1) := by decide +kernel
theorem dX8_layScenes_5 : decode cX8_layScenes 5 = .ok (.iconst 0, 1) := by decide +kernel
theorem dX8_layScenes_6 : decode cX8_layScenes 6 = .ok (.iastore, 1) := by decide +kernel
theorem dX8_layScenes_7 : decode cX8_layScenes 7 = .ok (.iconst 0, 1) := by decide +kernel
theorem dX8_layScenes_8 : decode cX8_layScenes 8 = .ok (.istore_n 3, 1) := by decide +kernel
theorem dX8_layScenes_9 : decode cX8_layScenes 9 = .ok (.iconst 0, 1) := by decide +kernel
theorem dX8_layScenes_10 : decode cX8_layScenes 10 = .ok (.istore 4, 2) := by decide +kernel
theorem dX8_layScenes_12 : decode cX8_layScenes 12 = .ok (.iload 4, 2) := by decide +kernel
theorem dX8_layScenes_14 : decode cX8_layScenes 14 = .ok (.aload_n 0, 1) := by decide +kernel
theorem dX8_layScenes_15 : decode cX8_layScenes 15 = .ok (.iload_n 1, 1) := by decide +kernel
theorem dX8_layScenes_16 : decode cX8_layScenes 16 = .ok (.invokevirtual 46, 3) := by decide +kernel
theorem dX8_layScenes_19 : decode cX8_layScenes 19 = .ok (.if_icmp .ge 111, 3) := by decide +kernel
theorem dX8_layScenes_22 : decode cX8_layScenes 22 = .ok (.aload_n 0, 1) := by decide +kernel
theorem dX8_layScenes_23 : decode cX8_layScenes 23 = .ok (.getfield 19, 3) := by decide +kernel
theorem dX8_layScenes_26 : decode cX8_layScenes 26 = .ok (.iload 4, 2) := by decide +kernel
theorem dX8_layScenes_28 : decode cX8_layScenes 28 = .ok (.iconst 1, 1) := by decide +kernel
theorem dX8_layScenes_29 : decode cX8_layScenes 29 = .ok (.iadd, 1) := by decide +kernel
theorem dX8_layScenes_30 : decode cX8_layScenes 30 = .ok (.aload_n 0, 1) := by decide +kernel
theorem dX8_layScenes_31 : decode cX8_layScenes 31 = .ok (.getfield 19, 3) := by decide +kernel
theorem dX8_layScenes_34 : decode cX8_layScenes 34 = .ok (.iload 4, 2) := by decide +kernel
theorem dX8_layScenes_36 : decode cX8_layScenes 36 = .ok (.iaload, 1) := by decide +kernel
theorem dX8_layScenes_37 : decode cX8_layScenes 37 = .ok (.iastore, 1) := by decide +kernel
theorem dX8_layScenes_38 : decode cX8_layScenes 38 = .ok (.aload_n 0, 1) := by decide +kernel
theorem dX8_layScenes_39 : decode cX8_layScenes 39 = .ok (.getfield 22, 3) := by decide +kernel
theorem dX8_layScenes_42 : decode cX8_layScenes 42 = .ok (.iload 4, 2) := by decide +kernel
theorem dX8_layScenes_44 : decode cX8_layScenes 44 = .ok (.iconst 0, 1) := by decide +kernel
theorem dX8_layScenes_45 : decode cX8_layScenes 45 = .ok (.iastore, 1) := by decide +kernel
theorem dX8_layScenes_46 : decode cX8_layScenes 46 = .ok (.iconst 0, 1) := by decide +kernel
theorem dX8_layScenes_47 : decode cX8_layScenes 47 = .ok (.istore 5, 2) := by decide +kernel
theorem dX8_layScenes_49 : decode cX8_layScenes 49 = .ok (.iload 5, 2) := by decide +kernel
theorem dX8_layScenes_51 : decode cX8_layScenes 51 = .ok (.aload_n 0, 1) := by decide +kernel
theorem dX8_layScenes_52 : decode cX8_layScenes 52 = .ok (.iload_n 1, 1) := by decide +kernel
theorem dX8_layScenes_53 : decode cX8_layScenes 53 = .ok (.iload 4, 2) := by decide +kernel
theorem dX8_layScenes_55 : decode cX8_layScenes 55 = .ok (.iconst 0, 1) := by decide +kernel
theorem dX8_layScenes_56 : decode cX8_layScenes 56 = .ok (.invokevirtual 50, 3) := by decide +kernel
theorem dX8_layScenes_59 : decode cX8_layScenes 59 = .ok (.if_icmp .ge 65, 3) := by decide +kernel
theorem dX8_layScenes_62 : decode cX8_layScenes 62 = .ok (.aload_n 0, 1) := by decide +kernel
theorem dX8_layScenes_63 : decode cX8_layScenes 63 = .ok (.iload_n 1, 1) := by decide +kernel
theorem dX8_layScenes_64 : decode cX8_layScenes 64 = .ok (.iload_n 3, 1) := by decide +kernel
theorem dX8_layScenes_65 : decode cX8_layScenes 65 = .ok (.invokevirtual 54, 3) := by decide +kernel
theorem dX8_layScenes_68 : decode cX8_layScenes 68 = .ok (.ifCond .eq 17, 3) := by decide +kernel
theorem dX8_layScenes_71 : decode cX8_layScenes 71 = .ok (.aload_n 0, 1) := by decide +kernel
theorem dX8_layScenes_72 : decode cX8_layScenes 72 = .ok (.getfield 22, 3) := by decide +kernel
theorem dX8_layScenes_75 : decode cX8_layScenes 75 = .ok (.iload 4, 2) := by decide +kernel
theorem dX8_layScenes_77 : decode cX8_layScenes 77 = .ok (.dup2, 1) := by decide +kernel
theorem dX8_layScenes_78 : decode cX8_layScenes 78 = .ok (.iaload, 1) := by decide +kernel
theorem dX8_layScenes_79 : decode cX8_layScenes 79 = .ok (.iconst 1, 1) := by decide +kernel
theorem dX8_layScenes_80 : decode cX8_layScenes 80 = .ok (.iadd, 1) := by decide +kernel
theorem dX8_layScenes_81 : decode cX8_layScenes 81 = .ok (.iastore, 1) := by decide +kernel
theorem dX8_layScenes_82 : decode cX8_layScenes 82 = .ok (.goto 33, 3) := by decide +kernel
theorem dX8_layScenes_85 : decode cX8_layScenes 85 = .ok (.aload_n 0, 1) := by decide +kernel
theorem dX8_layScenes_86 : decode cX8_layScenes 86 = .ok (.getfield 19, 3) := by decide +kernel
theorem dX8_layScenes_89 : decode cX8_layScenes 89 = .ok (.iload 4, 2) := by decide +kernel
theorem dX8_layScenes_91 : decode cX8_layScenes 91 = .ok (.iconst 1, 1) := by decide +kernel
theorem dX8_layScenes_92 : decode cX8_layScenes 92 = .ok (.iadd, 1) := by decide +kernel
theorem dX8_layScenes_93 : decode cX8_layScenes 93 = .ok (.dup2, 1) := by decide +kernel
theorem dX8_layScenes_94 : decode cX8_layScenes 94 = .ok (.iaload, 1) := by decide +kernel
theorem dX8_layScenes_95 : decode cX8_layScenes 95 = .ok (.sipush 160, 3) := by decide +kernel
theorem dX8_layScenes_98 : decode cX8_layScenes 98 = .ok (.iload_n 2, 1) := by decide +kernel
theorem dX8_layScenes_99 : decode cX8_layScenes 99 = .ok (.ifCond .ne 12, 3) := by decide +kernel
theorem dX8_layScenes_102 : decode cX8_layScenes 102 = .ok (.aload_n 0, 1) := by decide +kernel
theorem dX8_layScenes_103 : decode cX8_layScenes 103 = .ok (.iload_n 1, 1) := by decide +kernel
theorem dX8_layScenes_104 : decode cX8_layScenes 104 = .ok (.iload_n 3, 1) := by decide +kernel
theorem dX8_layScenes_105 : decode cX8_layScenes 105 = .ok (.invokevirtual 58, 3) := by decide +kernel
theorem dX8_layScenes_108 : decode cX8_layScenes 108 = .ok (.goto 4, 3) := by decide +kernel
theorem dX8_layScenes_111 : decode cX8_layScenes 111 = .ok (.iload_n 2, 1) := by decide +kernel
theorem dX8_layScenes_112 : decode cX8_layScenes 112 = .ok (.idiv, 1) := by decide +kernel
theorem dX8_layScenes_113 : decode cX8_layScenes 113 = .ok (.iadd, 1) := by decide +kernel
theorem dX8_layScenes_114 : decode cX8_layScenes 114 = .ok (.iastore, 1) := by decide +kernel
theorem dX8_layScenes_115 : decode cX8_layScenes 115 = .ok (.iinc 3 1, 3) := by decide +kernel
theorem dX8_layScenes_118 : decode cX8_layScenes 118 = .ok (.iinc 5 1, 3) := by decide +kernel
theorem dX8_layScenes_121 : decode cX8_layScenes 121 = .ok (.goto (-72), 3) := by decide +kernel
theorem dX8_layScenes_124 : decode cX8_layScenes 124 = .ok (.iinc 4 1, 3) := by decide +kernel
theorem dX8_layScenes_127 : decode cX8_layScenes 127 = .ok (.goto (-115), 3) := by decide +kernel
theorem dX8_layScenes_130 : decode cX8_layScenes 130 = .ok (.return_, 1) := by decide +kernel
theorem dX8_playTime_0 : decode cX8_playTime 0 = .ok (.sipush 202, 3) := by decide +kernel
theorem dX8_playTime_3 : decode cX8_playTime 3 = .ok (.iconst 3, 1) := by decide +kernel
theorem dX8_playTime_4 : decode cX8_playTime 4 = .ok (.iload_n 1, 1) := by decide +kernel
theorem dX8_playTime_5 : decode cX8_playTime 5 = .ok (.imul, 1) := by decide +kernel
theorem dX8_playTime_6 : decode cX8_playTime 6 = .ok (.iadd, 1) := by decide +kernel
theorem dX8_playTime_7 : decode cX8_playTime 7 = .ok (.istore 4, 2) := by decide +kernel
theorem dX8_playTime_9 : decode cX8_playTime 9 = .ok (.aload_n 0, 1) := by decide +kernel
theorem dX8_playTime_10 : decode cX8_playTime 10 = .ok (.getfield 7, 3) := by decide +kernel
theorem dX8_playTime_13 : decode cX8_playTime 13 = .ok (.iload 4, 2) := by decide +kernel
theorem dX8_playTime_15 : decode cX8_playTime 15 = .ok (.iaload, 1) := by decide +kernel
theorem dX8_playTime_16 : decode cX8_playTime 16 = .ok (.iload_n 2, 1) := by decide +kernel
theorem dX8_playTime_17 : decode cX8_playTime 17 = .ok (.aload_n 0, 1) := by decide +kernel
theorem dX8_playTime_18 : decode cX8_playTime 18 = .ok (.getfield 7, 3) := by decide +kernel
theorem dX8_playTime_21 : decode cX8_playTime 21 = .ok (.iload 4, 2) := by decide +kernel
theorem dX8_playTime_23 : decode cX8_playTime 23 = .ok (.iconst 1, 1) := by decide +kernel
theorem dX8_playTime_24 : decode cX8_playTime 24 = .ok (.iadd, 1) := by decide +kernel
theorem dX8_playTime_25 : decode cX8_playTime 25 = .ok (.iaload, 1) := by decide +kernel
theorem dX8_playTime_26 : decode cX8_playTime 26 = .ok (.imul, 1) := by decide +kernel
theorem dX8_playTime_27 : decode cX8_playTime 27 = .ok (.iadd, 1) := by decide +kernel
theorem dX8_playTime_28 : decode cX8_playTime 28 = .ok (.aload_n 0, 1) := by decide +kernel
theorem dX8_playTime_29 : decode cX8_playTime 29 = .ok (.getfield 7, 3) := by decide +kernel
theorem dX8_playTime_32 : decode cX8_playTime 32 = .ok (.iload 4, 2) := by decide +kernel
theorem dX8_playTime_34 : decode cX8_playTime 34 = .ok (.iconst 2, 1) := by decide +kernel
theorem dX8_playTime_35 : decode cX8_playTime 35 = .ok (.iadd, 1) := by decide +kernel
theorem dX8_playTime_36 : decode cX8_playTime 36 = .ok (.iaload, 1) := by decide +kernel
theorem dX8_playTime_37 : decode cX8_playTime 37 = .ok (.iadd, 1) := by decide +kernel
theorem dX8_playTime_38 : decode cX8_playTime 38 = .ok (.bipush 100, 2) := by decide +kernel
theorem dX8_playTime_40 : decode cX8_playTime 40 = .ok (.imul, 1) := by decide +kernel
theorem dX8_playTime_41 : decode cX8_playTime 41 = .ok (.iload_n 3, 1) := by decide +kernel
theorem dX8_playTime_42 : decode cX8_playTime 42 = .ok (.idiv, 1) := by decide +kernel
theorem dX8_playTime_43 : decode cX8_playTime 43 = .ok (.ireturn, 1) := by decide +kernel
theorem dX8_beginOf_0 : decode cX8_beginOf 0 = .ok (.aload_n 0, 1) := by decide +kernel
theorem dX8_beginOf_1 : decode cX8_beginOf 1 = .ok (.getfield 19, 3) := by decide +kernel
theorem dX8_beginOf_4 : decode cX8_beginOf 4 = .ok (.iload_n 2, 1) := by decide +kernel
theorem dX8_beginOf_5 : decode cX8_beginOf 5 = .ok (.iaload, 1) := by decide +kernel
theorem dX8_beginOf_6 : decode cX8_beginOf 6 = .ok (.istore_n 3, 1) := by decide +kernel
theorem dX8_beginOf_7 : decode cX8_beginOf 7 = .ok (.iconst 0, 1) := by decide +kernel
theorem dX8_beginOf_8 : decode cX8_beginOf 8 = .ok (.istore 4, 2) := by decide +kernel
theorem dX8_beginOf_10 : decode cX8_beginOf 10 = .ok (.iload 4, 2) := by decide +kernel
theorem dX8_beginOf_12 : decode cX8_beginOf 12 = .ok (.iload_n 2, 1) := by decide +kernel
theorem dX8_beginOf_13 : decode cX8_beginOf 13 = .ok (.if_icmp .ge 45, 3) := by decide +kernel
theorem dX8_beginOf_16 : decode cX8_beginOf 16 = .ok (.aload_n 0, 1) := by decide +kernel
theorem dX8_beginOf_17 : decode cX8_beginOf 17 = .ok (.iload_n 1, 1) := by decide +kernel
theorem dX8_beginOf_18 : decode cX8_beginOf 18 = .ok (.iload 4, 2) := by decide +kernel
theorem dX8_beginOf_20 : decode cX8_beginOf 20 = .ok (.iconst 1, 1) := by decide +kernel
theorem dX8_beginOf_21 : decode cX8_beginOf 21 = .ok (.invokevirtual 50, 3) := by decide +kernel
theorem dX8_beginOf_24 : decode cX8_beginOf 24 = .ok (.ldc 62, 2) := by decide +kernel
theorem dX8_beginOf_26 : decode cX8_beginOf 26 = .ok (.if_icmp .eq 24, 3) := by decide +kernel
theorem dX8_beginOf_29 : decode cX8_beginOf 29 = .ok (.aload_n 0, 1) := by decide +kernel
theorem dX8_beginOf_30 : decode cX8_beginOf 30 = .ok (.getfield 28, 3) := by decide +kernel
theorem dX8_beginOf_33 : decode cX8_beginOf 33 = .ok (.iload 4, 2) := by decide +kernel
theorem dX8_beginOf_35 : decode cX8_beginOf 35 = .ok (.iaload, 1) := by decide +kernel
theorem dX8_beginOf_36 : decode cX8_beginOf 36 = .ok (.iload_n 3, 1) := by decide +kernel
theorem dX8_beginOf_37 : decode cX8_beginOf 37 = .ok (.if_icmp .le 13, 3) := by decide +kernel
theorem dX8_beginOf_40 : decode cX8_beginOf 40 = .ok (.aload_n 0, 1) := by decide +kernel
theorem dX8_beginOf_41 : decode cX8_beginOf 41 = .ok (.getfield 28, 3) := by decide +kernel
theorem dX8_beginOf_44 : decode cX8_beginOf 44 = .ok (.iload 4, 2) := by decide +kernel
theorem dX8_beginOf_46 : decode cX8_beginOf 46 = .ok (.iaload, 1) := by decide +kernel
theorem dX8_beginOf_47 : decode cX8_beginOf 47 = .ok (.goto 4, 3) := by decide +kernel
theorem dX8_beginOf_50 : decode cX8_beginOf 50 = .ok (.iload_n 3, 1) := by decide +kernel
theorem dX8_beginOf_51 : decode cX8_beginOf 51 = .ok (.istore_n 3, 1) := by decide +kernel
theorem dX8_beginOf_52 : decode cX8_beginOf 52 = .ok (.iinc 4 1, 3) := by decide +kernel
theorem dX8_beginOf_55 : decode cX8_beginOf 55 = .ok (.goto (-45), 3) := by decide +kernel
theorem dX8_beginOf_58 : decode cX8_beginOf 58 = .ok (.iload_n 3, 1) := by decide +kernel
theorem dX8_beginOf_59 : decode cX8_beginOf 59 = .ok (.ireturn, 1) := by decide +kernel
theorem dX8_layCue_0 : decode cX8_layCue 0 = .ok (.aload_n 0, 1) := by decide +kernel
theorem dX8_layCue_1 : decode cX8_layCue 1 = .ok (.getfield 25, 3) := by decide +kernel
theorem dX8_layCue_4 : decode cX8_layCue 4 = .ok (.iload_n 2, 1) := by decide +kernel
theorem dX8_layCue_5 : decode cX8_layCue 5 = .ok (.aload_n 0, 1) := by decide +kernel
theorem dX8_layCue_6 : decode cX8_layCue 6 = .ok (.iload_n 1, 1) := by decide +kernel
theorem dX8_layCue_7 : decode cX8_layCue 7 = .ok (.iload_n 2, 1) := by decide +kernel
theorem dX8_layCue_8 : decode cX8_layCue 8 = .ok (.invokevirtual 63, 3) := by decide +kernel
theorem dX8_layCue_11 : decode cX8_layCue 11 = .ok (.iastore, 1) := by decide +kernel
theorem dX8_layCue_12 : decode cX8_layCue 12 = .ok (.aload_n 0, 1) := by decide +kernel
theorem dX8_layCue_13 : decode cX8_layCue 13 = .ok (.getfield 28, 3) := by decide +kernel
theorem dX8_layCue_16 : decode cX8_layCue 16 = .ok (.iload_n 2, 1) := by decide +kernel
theorem dX8_layCue_17 : decode cX8_layCue 17 = .ok (.aload_n 0, 1) := by decide +kernel
theorem dX8_layCue_18 : decode cX8_layCue 18 = .ok (.iload_n 1, 1) := by decide +kernel
theorem dX8_layCue_19 : decode cX8_layCue 19 = .ok (.iload_n 2, 1) := by decide +kernel
theorem dX8_layCue_20 : decode cX8_layCue 20 = .ok (.iconst 1, 1) := by decide +kernel
theorem dX8_layCue_21 : decode cX8_layCue 21 = .ok (.invokevirtual 50, 3) := by decide +kernel
theorem dX8_layCue_24 : decode cX8_layCue 24 = .ok (.ldc 62, 2) := by decide +kernel
theorem dX8_layCue_26 : decode cX8_layCue 26 = .ok (.if_icmp .ne 7, 3) := by decide +kernel
theorem dX8_layCue_29 : decode cX8_layCue 29 = .ok (.iconst 0, 1) := by decide +kernel
theorem dX8_layCue_30 : decode cX8_layCue 30 = .ok (.goto 35, 3) := by decide +kernel
theorem dX8_layCue_33 : decode cX8_layCue 33 = .ok (.aload_n 0, 1) := by decide +kernel
theorem dX8_layCue_34 : decode cX8_layCue 34 = .ok (.getfield 25, 3) := by decide +kernel
theorem dX8_layCue_37 : decode cX8_layCue 37 = .ok (.iload_n 2, 1) := by decide +kernel
theorem dX8_layCue_38 : decode cX8_layCue 38 = .ok (.iaload, 1) := by decide +kernel
theorem dX8_layCue_39 : decode cX8_layCue 39 = .ok (.aload_n 0, 1) := by decide +kernel
theorem dX8_layCue_40 : decode cX8_layCue 40 = .ok (.aload_n 0, 1) := by decide +kernel
theorem dX8_layCue_41 : decode cX8_layCue 41 = .ok (.iload_n 1, 1) := by decide +kernel
theorem dX8_layCue_42 : decode cX8_layCue 42 = .ok (.iload_n 2, 1) := by decide +kernel
theorem dX8_layCue_43 : decode cX8_layCue 43 = .ok (.iconst 1, 1) := by decide +kernel
theorem dX8_layCue_44 : decode cX8_layCue 44 = .ok (.invokevirtual 50, 3) := by decide +kernel
theorem dX8_layCue_47 : decode cX8_layCue 47 = .ok (.aload_n 0, 1) := by decide +kernel
theorem dX8_layCue_48 : decode cX8_layCue 48 = .ok (.iload_n 1, 1) := by decide +kernel
theorem dX8_layCue_49 : decode cX8_layCue 49 = .ok (.iload_n 2, 1) := by decide +kernel
theorem dX8_layCue_50 : decode cX8_layCue 50 = .ok (.iconst 2, 1) := by decide +kernel
theorem dX8_layCue_51 : decode cX8_layCue 51 = .ok (.invokevirtual 50, 3) := by decide +kernel
theorem dX8_layCue_54 : decode cX8_layCue 54 = .ok (.aload_n 0, 1) := by decide +kernel
theorem dX8_layCue_55 : decode cX8_layCue 55 = .ok (.iload_n 1, 1) := by decide +kernel
theorem dX8_layCue_56 : decode cX8_layCue 56 = .ok (.iload_n 2, 1) := by decide +kernel
theorem dX8_layCue_57 : decode cX8_layCue 57 = .ok (.iconst 3, 1) := by decide +kernel
theorem dX8_layCue_58 : decode cX8_layCue 58 = .ok (.invokevirtual 50, 3) := by decide +kernel
theorem dX8_layCue_61 : decode cX8_layCue 61 = .ok (.invokevirtual 66, 3) := by decide +kernel
theorem dX8_layCue_64 : decode cX8_layCue 64 = .ok (.iadd, 1) := by decide +kernel
theorem dX8_layCue_65 : decode cX8_layCue 65 = .ok (.iastore, 1) := by decide +kernel
theorem dX8_layCue_66 : decode cX8_layCue 66 = .ok (.return_, 1) := by decide +kernel
theorem dX8_lay_0 : decode cX8_lay 0 = .ok (.aload_n 0, 1) := by decide +kernel
theorem dX8_lay_1 : decode cX8_lay 1 = .ok (.iload_n 1, 1) := by decide +kernel
theorem dX8_lay_2 : decode cX8_lay 2 = .ok (.iload_n 2, 1) := by decide +kernel
theorem dX8_lay_3 : decode cX8_lay 3 = .ok (.invokevirtual 69, 3) := by decide +kernel
theorem dX8_lay_6 : decode cX8_lay 6 = .ok (.iconst 0, 1) := by decide +kernel
theorem dX8_lay_7 : decode cX8_lay 7 = .ok (.istore_n 3, 1) := by decide +kernel
theorem dX8_lay_8 : decode cX8_lay 8 = .ok (.iload_n 3, 1) := by decide +kernel
theorem dX8_lay_9 : decode cX8_lay 9 = .ok (.aload_n 0, 1) := by decide +kernel
theorem dX8_lay_10 : decode cX8_lay 10 = .ok (.iload_n 1, 1) := by decide +kernel
theorem dX8_lay_11 : decode cX8_lay 11 = .ok (.invokevirtual 46, 3) := by decide +kernel
theorem dX8_lay_14 : decode cX8_lay 14 = .ok (.if_icmp .ge 15, 3) := by decide +kernel
theorem dX8_lay_17 : decode cX8_lay 17 = .ok (.aload_n 0, 1) := by decide +kernel
theorem dX8_lay_18 : decode cX8_lay 18 = .ok (.iload_n 1, 1) := by decide +kernel
theorem dX8_lay_19 : decode cX8_lay 19 = .ok (.iload_n 3, 1) := by decide +kernel
theorem dX8_lay_20 : decode cX8_lay 20 = .ok (.invokevirtual 73, 3) := by decide +kernel
theorem dX8_lay_23 : decode cX8_lay 23 = .ok (.iinc 3 1, 3) := by decide +kernel
theorem dX8_lay_26 : decode cX8_lay 26 = .ok (.goto (-18), 3) := by decide +kernel
theorem dX8_lay_29 : decode cX8_lay 29 = .ok (.return_, 1) := by decide +kernel
theorem dX8_drift_0 : decode cX8_drift 0 = .ok (.aload_n 0, 1) := by decide +kernel
theorem dX8_drift_1 : decode cX8_drift 1 = .ok (.iload_n 1, 1) := by decide +kernel
theorem dX8_drift_2 : decode cX8_drift 2 = .ok (.iload_n 2, 1) := by decide +kernel
theorem dX8_drift_3 : decode cX8_drift 3 = .ok (.iconst 1, 1) := by decide +kernel
theorem dX8_drift_4 : decode cX8_drift 4 = .ok (.invokevirtual 50, 3) := by decide +kernel
theorem dX8_drift_7 : decode cX8_drift 7 = .ok (.ldc 62, 2) := by decide +kernel
theorem dX8_drift_9 : decode cX8_drift 9 = .ok (.if_icmp .ne 7, 3) := by decide +kernel
theorem dX8_drift_12 : decode cX8_drift 12 = .ok (.iconst 0, 1) := by decide +kernel
theorem dX8_drift_13 : decode cX8_drift 13 = .ok (.goto 18, 3) := by decide +kernel
theorem dX8_drift_16 : decode cX8_drift 16 = .ok (.aload_n 0, 1) := by decide +kernel
theorem dX8_drift_17 : decode cX8_drift 17 = .ok (.getfield 28, 3) := by decide +kernel
theorem dX8_drift_20 : decode cX8_drift 20 = .ok (.iload_n 2, 1) := by decide +kernel
theorem dX8_drift_21 : decode cX8_drift 21 = .ok (.iaload, 1) := by decide +kernel
theorem dX8_drift_22 : decode cX8_drift 22 = .ok (.aload_n 0, 1) := by decide +kernel
theorem dX8_drift_23 : decode cX8_drift 23 = .ok (.getfield 19, 3) := by decide +kernel
theorem dX8_drift_26 : decode cX8_drift 26 = .ok (.iload_n 2, 1) := by decide +kernel
theorem dX8_drift_27 : decode cX8_drift 27 = .ok (.iconst 1, 1) := by decide +kernel
theorem dX8_drift_28 : decode cX8_drift 28 = .ok (.iadd, 1) := by decide +kernel
theorem dX8_drift_29 : decode cX8_drift 29 = .ok (.iaload, 1) := by decide +kernel
theorem dX8_drift_30 : decode cX8_drift 30 = .ok (.isub, 1) := by decide +kernel
theorem dX8_drift_31 : decode cX8_drift 31 = .ok (.ireturn, 1) := by decide +kernel
theorem dX8_isBad_0 : decode cX8_isBad 0 = .ok (.aload_n 0, 1) := by decide +kernel
theorem dX8_isBad_1 : decode cX8_isBad 1 = .ok (.iload_n 1, 1) := by decide +kernel
theorem dX8_isBad_2 : decode cX8_isBad 2 = .ok (.iload_n 2, 1) := by decide +kernel
theorem dX8_isBad_3 : decode cX8_isBad 3 = .ok (.invokevirtual 76, 3) := by decide +kernel
theorem dX8_isBad_6 : decode cX8_isBad 6 = .ok (.invokestatic 79, 3) := by decide +kernel
theorem dX8_isBad_9 : decode cX8_isBad 9 = .ok (.aload_n 0, 1) := by decide +kernel
theorem dX8_isBad_10 : decode cX8_isBad 10 = .ok (.getfield 7, 3) := by decide +kernel
theorem dX8_isBad_13 : decode cX8_isBad 13 = .ok (.sipush 226, 3) := by decide +kernel
theorem dX8_isBad_16 : decode cX8_isBad 16 = .ok (.iaload, 1) := by decide +kernel
theorem dX8_isBad_17 : decode cX8_isBad 17 = .ok (.if_icmp .le 7, 3) := by decide +kernel
theorem dX8_isBad_20 : decode cX8_isBad 20 = .ok (.iconst 1, 1) := by decide +kernel
theorem dX8_isBad_21 : decode cX8_isBad 21 = .ok (.goto 4, 3) := by decide +kernel
theorem dX8_isBad_24 : decode cX8_isBad 24 = .ok (.iconst 0, 1) := by decide +kernel
theorem dX8_isBad_25 : decode cX8_isBad 25 = .ok (.ireturn, 1) := by decide +kernel
theorem dX8_bads_0 : decode cX8_bads 0 = .ok (.iconst 0, 1) := by decide +kernel
theorem dX8_bads_1 : decode cX8_bads 1 = .ok (.istore_n 2, 1) := by decide +kernel
theorem dX8_bads_2 : decode cX8_bads 2 = .ok (.iconst 0, 1) := by decide +kernel
theorem dX8_bads_3 : decode cX8_bads 3 = .ok (.istore_n 3, 1) := by decide +kernel
theorem dX8_bads_4 : decode cX8_bads 4 = .ok (.iload_n 3, 1) := by decide +kernel
theorem dX8_bads_5 : decode cX8_bads 5 = .ok (.aload_n 0, 1) := by decide +kernel
theorem dX8_bads_6 : decode cX8_bads 6 = .ok (.iload_n 1, 1) := by decide +kernel
theorem dX8_bads_7 : decode cX8_bads 7 = .ok (.invokevirtual 46, 3) := by decide +kernel
theorem dX8_bads_10 : decode cX8_bads 10 = .ok (.if_icmp .ge 26, 3) := by decide +kernel
theorem dX8_bads_13 : decode cX8_bads 13 = .ok (.iload_n 2, 1) := by decide +kernel
theorem dX8_bads_14 : decode cX8_bads 14 = .ok (.aload_n 0, 1) := by decide +kernel
theorem dX8_bads_15 : decode cX8_bads 15 = .ok (.iload_n 1, 1) := by decide +kernel
theorem dX8_bads_16 : decode cX8_bads 16 = .ok (.iload_n 3, 1) := by decide +kernel
theorem dX8_bads_17 : decode cX8_bads 17 = .ok (.invokevirtual 82, 3) := by decide +kernel
theorem dX8_bads_20 : decode cX8_bads 20 = .ok (.ifCond .eq 7, 3) := by decide +kernel
theorem dX8_bads_23 : decode cX8_bads 23 = .ok (.iconst 1, 1) := by decide +kernel
theorem dX8_bads_24 : decode cX8_bads 24 = .ok (.goto 4, 3) := by decide +kernel
theorem dX8_bads_27 : decode cX8_bads 27 = .ok (.iconst 0, 1) := by decide +kernel
theorem dX8_bads_28 : decode cX8_bads 28 = .ok (.iadd, 1) := by decide +kernel
theorem dX8_bads_29 : decode cX8_bads 29 = .ok (.istore_n 2, 1) := by decide +kernel
theorem dX8_bads_30 : decode cX8_bads 30 = .ok (.iinc 3 1, 3) := by decide +kernel
theorem dX8_bads_33 : decode cX8_bads 33 = .ok (.goto (-29), 3) := by decide +kernel
theorem dX8_bads_36 : decode cX8_bads 36 = .ok (.iload_n 2, 1) := by decide +kernel
theorem dX8_bads_37 : decode cX8_bads 37 = .ok (.ireturn, 1) := by decide +kernel
theorem dX8_drifts_0 : decode cX8_drifts 0 = .ok (.iconst 0, 1) := by decide +kernel
theorem dX8_drifts_1 : decode cX8_drifts 1 = .ok (.istore_n 2, 1) := by decide +kernel
theorem dX8_drifts_2 : decode cX8_drifts 2 = .ok (.iconst 0, 1) := by decide +kernel
theorem dX8_drifts_3 : decode cX8_drifts 3 = .ok (.istore_n 3, 1) := by decide +kernel
theorem dX8_drifts_4 : decode cX8_drifts 4 = .ok (.iload_n 3, 1) := by decide +kernel
theorem dX8_drifts_5 : decode cX8_drifts 5 = .ok (.aload_n 0, 1) := by decide +kernel
theorem dX8_drifts_6 : decode cX8_drifts 6 = .ok (.iload_n 1, 1) := by decide +kernel
theorem dX8_drifts_7 : decode cX8_drifts 7 = .ok (.invokevirtual 46, 3) := by decide +kernel
theorem dX8_drifts_10 : decode cX8_drifts 10 = .ok (.if_icmp .ge 21, 3) := by decide +kernel
theorem dX8_drifts_13 : decode cX8_drifts 13 = .ok (.iload_n 2, 1) := by decide +kernel
theorem dX8_drifts_14 : decode cX8_drifts 14 = .ok (.aload_n 0, 1) := by decide +kernel
theorem dX8_drifts_15 : decode cX8_drifts 15 = .ok (.iload_n 1, 1) := by decide +kernel
theorem dX8_drifts_16 : decode cX8_drifts 16 = .ok (.iload_n 3, 1) := by decide +kernel
theorem dX8_drifts_17 : decode cX8_drifts 17 = .ok (.invokevirtual 76, 3) := by decide +kernel
theorem dX8_drifts_20 : decode cX8_drifts 20 = .ok (.invokestatic 79, 3) := by decide +kernel
theorem dX8_drifts_23 : decode cX8_drifts 23 = .ok (.iadd, 1) := by decide +kernel
theorem dX8_drifts_24 : decode cX8_drifts 24 = .ok (.istore_n 2, 1) := by decide +kernel
theorem dX8_drifts_25 : decode cX8_drifts 25 = .ok (.iinc 3 1, 3) := by decide +kernel
theorem dX8_drifts_28 : decode cX8_drifts 28 = .ok (.goto (-24), 3) := by decide +kernel
theorem dX8_drifts_31 : decode cX8_drifts 31 = .ok (.iload_n 2, 1) := by decide +kernel
theorem dX8_drifts_32 : decode cX8_drifts 32 = .ok (.ireturn, 1) := by decide +kernel
theorem dX8_bestOf_0 : decode cX8_bestOf 0 = .ok (.aload_n 0, 1) := by decide +kernel
theorem dX8_bestOf_1 : decode cX8_bestOf 1 = .ok (.iload_n 1, 1) := by decide +kernel
theorem dX8_bestOf_2 : decode cX8_bestOf 2 = .ok (.iload_n 2, 1) := by decide +kernel
theorem dX8_bestOf_3 : decode cX8_bestOf 3 = .ok (.invokevirtual 63, 3) := by decide +kernel
theorem dX8_bestOf_6 : decode cX8_bestOf 6 = .ok (.istore 4, 2) := by decide +kernel
theorem dX8_bestOf_8 : decode cX8_bestOf 8 = .ok (.ldc 62, 2) := by decide +kernel
theorem dX8_bestOf_10 : decode cX8_bestOf 10 = .ok (.istore 5, 2) := by decide +kernel
theorem dX8_bestOf_12 : decode cX8_bestOf 12 = .ok (.iconst 0, 1) := by decide +kernel
theorem dX8_bestOf_13 : decode cX8_bestOf 13 = .ok (.istore 6, 2) := by decide +kernel
theorem dX8_bestOf_15 : decode cX8_bestOf 15 = .ok (.iconst 0, 1) := by decide +kernel
theorem dX8_bestOf_16 : decode cX8_bestOf 16 = .ok (.istore 7, 2) := by decide +kernel
theorem dX8_bestOf_18 : decode cX8_bestOf 18 = .ok (.iload 7, 2) := by decide +kernel
theorem dX8_bestOf_20 : decode cX8_bestOf 20 = .ok (.aload_n 0, 1) := by decide +kernel
theorem dX8_bestOf_21 : decode cX8_bestOf 21 = .ok (.getfield 7, 3) := by decide +kernel
theorem dX8_bestOf_24 : decode cX8_bestOf 24 = .ok (.sipush 227, 3) := by decide +kernel
theorem dX8_bestOf_27 : decode cX8_bestOf 27 = .ok (.iaload, 1) := by decide +kernel
theorem dX8_bestOf_28 : decode cX8_bestOf 28 = .ok (.if_icmp .gt 118, 3) := by decide +kernel
theorem dX8_bestOf_31 : decode cX8_bestOf 31 = .ok (.iconst 1, 1) := by decide +kernel
theorem dX8_bestOf_32 : decode cX8_bestOf 32 = .ok (.istore 8, 2) := by decide +kernel
theorem dX8_bestOf_34 : decode cX8_bestOf 34 = .ok (.iload 8, 2) := by decide +kernel
theorem dX8_bestOf_36 : decode cX8_bestOf 36 = .ok (.bipush 9, 2) := by decide +kernel
theorem dX8_bestOf_38 : decode cX8_bestOf 38 = .ok (.if_icmp .gt 102, 3) := by decide +kernel
theorem dX8_bestOf_41 : decode cX8_bestOf 41 = .ok (.bipush 100, 2) := by decide +kernel
theorem dX8_bestOf_43 : decode cX8_bestOf 43 = .ok (.iload 7, 2) := by decide +kernel
theorem dX8_bestOf_45 : decode cX8_bestOf 45 = .ok (.isub, 1) := by decide +kernel
theorem dX8_bestOf_46 : decode cX8_bestOf 46 = .ok (.istore 9, 2) := by decide +kernel
theorem dX8_bestOf_48 : decode cX8_bestOf 48 = .ok (.iload 9, 2) := by decide +kernel
theorem dX8_bestOf_50 : decode cX8_bestOf 50 = .ok (.bipush 100, 2) := by decide +kernel
theorem dX8_bestOf_52 : decode cX8_bestOf 52 = .ok (.iload 7, 2) := by decide +kernel
theorem dX8_bestOf_54 : decode cX8_bestOf 54 = .ok (.iadd, 1) := by decide +kernel
theorem dX8_bestOf_55 : decode cX8_bestOf 55 = .ok (.if_icmp .gt 79, 3) := by decide +kernel
theorem dX8_bestOf_58 : decode cX8_bestOf 58 = .ok (.iload 4, 2) := by decide +kernel
theorem dX8_bestOf_60 : decode cX8_bestOf 60 = .ok (.aload_n 0, 1) := by decide +kernel
theorem dX8_bestOf_61 : decode cX8_bestOf 61 = .ok (.iload_n 3, 1) := by decide +kernel
theorem dX8_bestOf_62 : decode cX8_bestOf 62 = .ok (.iload 8, 2) := by decide +kernel
theorem dX8_bestOf_64 : decode cX8_bestOf 64 = .ok (.iload 9, 2) := by decide +kernel
theorem dX8_bestOf_66 : decode cX8_bestOf 66 = .ok (.invokevirtual 66, 3) := by decide +kernel
theorem dX8_bestOf_69 : decode cX8_bestOf 69 = .ok (.iadd, 1) := by decide +kernel
theorem dX8_bestOf_70 : decode cX8_bestOf 70 = .ok (.aload_n 0, 1) := by decide +kernel
theorem dX8_bestOf_71 : decode cX8_bestOf 71 = .ok (.getfield 19, 3) := by decide +kernel
theorem dX8_bestOf_74 : decode cX8_bestOf 74 = .ok (.iload_n 2, 1) := by decide +kernel
theorem dX8_bestOf_75 : decode cX8_bestOf 75 = .ok (.iconst 1, 1) := by decide +kernel
theorem dX8_bestOf_76 : decode cX8_bestOf 76 = .ok (.iadd, 1) := by decide +kernel
theorem dX8_bestOf_77 : decode cX8_bestOf 77 = .ok (.iaload, 1) := by decide +kernel
theorem dX8_bestOf_78 : decode cX8_bestOf 78 = .ok (.isub, 1) := by decide +kernel
theorem dX8_bestOf_79 : decode cX8_bestOf 79 = .ok (.invokestatic 79, 3) := by decide +kernel
theorem dX8_bestOf_82 : decode cX8_bestOf 82 = .ok (.istore 10, 2) := by decide +kernel
theorem dX8_bestOf_84 : decode cX8_bestOf 84 = .ok (.iload 5, 2) := by decide +kernel
theorem dX8_bestOf_86 : decode cX8_bestOf 86 = .ok (.ldc 62, 2) := by decide +kernel
theorem dX8_bestOf_88 : decode cX8_bestOf 88 = .ok (.if_icmp .eq 10, 3) := by decide +kernel
theorem dX8_bestOf_91 : decode cX8_bestOf 91 = .ok (.iload 10, 2) := by decide +kernel
theorem dX8_bestOf_93 : decode cX8_bestOf 93 = .ok (.iload 6, 2) := by decide +kernel
theorem dX8_bestOf_95 : decode cX8_bestOf 95 = .ok (.if_icmp .ge 18, 3) := by decide +kernel
theorem dX8_bestOf_98 : decode cX8_bestOf 98 = .ok (.sipush 1000, 3) := by decide +kernel
theorem dX8_bestOf_101 : decode cX8_bestOf 101 = .ok (.iload 8, 2) := by decide +kernel
theorem dX8_bestOf_103 : decode cX8_bestOf 103 = .ok (.imul, 1) := by decide +kernel
theorem dX8_bestOf_104 : decode cX8_bestOf 104 = .ok (.iload 9, 2) := by decide +kernel
theorem dX8_bestOf_106 : decode cX8_bestOf 106 = .ok (.iadd, 1) := by decide +kernel
theorem dX8_bestOf_107 : decode cX8_bestOf 107 = .ok (.istore 5, 2) := by decide +kernel
theorem dX8_bestOf_109 : decode cX8_bestOf 109 = .ok (.iload 10, 2) := by decide +kernel
theorem dX8_bestOf_111 : decode cX8_bestOf 111 = .ok (.istore 6, 2) := by decide +kernel
theorem dX8_bestOf_113 : decode cX8_bestOf 113 = .ok (.iload 9, 2) := by decide +kernel
theorem dX8_bestOf_115 : decode cX8_bestOf 115 = .ok (.iload 7, 2) := by decide +kernel
theorem dX8_bestOf_117 : decode cX8_bestOf 117 = .ok (.ifCond .ne 7, 3) := by decide +kernel
theorem dX8_bestOf_120 : decode cX8_bestOf 120 = .ok (.iconst 1, 1) := by decide +kernel
theorem dX8_bestOf_121 : decode cX8_bestOf 121 = .ok (.goto 7, 3) := by decide +kernel
theorem dX8_bestOf_124 : decode cX8_bestOf 124 = .ok (.iconst 2, 1) := by decide +kernel
theorem dX8_bestOf_125 : decode cX8_bestOf 125 = .ok (.iload 7, 2) := by decide +kernel
theorem dX8_bestOf_127 : decode cX8_bestOf 127 = .ok (.imul, 1) := by decide +kernel
theorem dX8_bestOf_128 : decode cX8_bestOf 128 = .ok (.iadd, 1) := by decide +kernel
theorem dX8_bestOf_129 : decode cX8_bestOf 129 = .ok (.istore 9, 2) := by decide +kernel
theorem dX8_bestOf_131 : decode cX8_bestOf 131 = .ok (.goto (-83), 3) := by decide +kernel
theorem dX8_bestOf_134 : decode cX8_bestOf 134 = .ok (.iinc 8 1, 3) := by decide +kernel
theorem dX8_bestOf_137 : decode cX8_bestOf 137 = .ok (.goto (-103), 3) := by decide +kernel
theorem dX8_bestOf_140 : decode cX8_bestOf 140 = .ok (.iinc 7 1, 3) := by decide +kernel
theorem dX8_bestOf_143 : decode cX8_bestOf 143 = .ok (.goto (-125), 3) := by decide +kernel
theorem dX8_bestOf_146 : decode cX8_bestOf 146 = .ok (.aload_n 0, 1) := by decide +kernel
theorem dX8_bestOf_147 : decode cX8_bestOf 147 = .ok (.iload 6, 2) := by decide +kernel
theorem dX8_bestOf_149 : decode cX8_bestOf 149 = .ok (.putfield 85, 3) := by decide +kernel
theorem dX8_bestOf_152 : decode cX8_bestOf 152 = .ok (.iload 5, 2) := by decide +kernel
theorem dX8_bestOf_154 : decode cX8_bestOf 154 = .ok (.ireturn, 1) := by decide +kernel
theorem dX8_save_0 : decode cX8_save 0 = .ok (.aload_n 0, 1) := by decide +kernel
theorem dX8_save_1 : decode cX8_save 1 = .ok (.getfield 88, 3) := by decide +kernel
theorem dX8_save_4 : decode cX8_save 4 = .ok (.bipush 6, 2) := by decide +kernel
theorem dX8_save_6 : decode cX8_save 6 = .ok (.if_icmp .ne 46, 3) := by decide +kernel
theorem dX8_save_9 : decode cX8_save 9 = .ok (.sipush 231, 3) := by decide +kernel
theorem dX8_save_12 : decode cX8_save 12 = .ok (.istore_n 1, 1) := by decide +kernel
theorem dX8_save_13 : decode cX8_save 13 = .ok (.iload_n 1, 1) := by decide +kernel
theorem dX8_save_14 : decode cX8_save 14 = .ok (.sipush 1386, 3) := by decide +kernel
theorem dX8_save_17 : decode cX8_save 17 = .ok (.if_icmp .ge 25, 3) := by decide +kernel
theorem dX8_save_20 : decode cX8_save 20 = .ok (.aload_n 0, 1) := by decide +kernel
theorem dX8_save_21 : decode cX8_save 21 = .ok (.getfield 13, 3) := by decide +kernel
theorem dX8_save_24 : decode cX8_save 24 = .ok (.iload_n 1, 1) := by decide +kernel
theorem dX8_save_25 : decode cX8_save 25 = .ok (.sipush 231, 3) := by decide +kernel
theorem dX8_save_28 : decode cX8_save 28 = .ok (.isub, 1) := by decide +kernel
theorem dX8_save_29 : decode cX8_save 29 = .ok (.aload_n 0, 1) := by decide +kernel
theorem dX8_save_30 : decode cX8_save 30 = .ok (.getfield 13, 3) := by decide +kernel
theorem dX8_save_33 : decode cX8_save 33 = .ok (.iload_n 1, 1) := by decide +kernel
theorem dX8_save_34 : decode cX8_save 34 = .ok (.iaload, 1) := by decide +kernel
theorem dX8_save_35 : decode cX8_save 35 = .ok (.iastore, 1) := by decide +kernel
theorem dX8_save_36 : decode cX8_save 36 = .ok (.iinc 1 1, 3) := by decide +kernel
theorem dX8_save_39 : decode cX8_save 39 = .ok (.goto (-26), 3) := by decide +kernel
theorem dX8_save_42 : decode cX8_save 42 = .ok (.aload_n 0, 1) := by decide +kernel
theorem dX8_save_43 : decode cX8_save 43 = .ok (.dup, 1) := by decide +kernel
theorem dX8_save_44 : decode cX8_save 44 = .ok (.getfield 88, 3) := by decide +kernel
theorem dX8_save_47 : decode cX8_save 47 = .ok (.iconst 1, 1) := by decide +kernel
theorem dX8_save_48 : decode cX8_save 48 = .ok (.isub, 1) := by decide +kernel
theorem dX8_save_49 : decode cX8_save 49 = .ok (.putfield 88, 3) := by decide +kernel
theorem dX8_save_52 : decode cX8_save 52 = .ok (.iconst 0, 1) := by decide +kernel
theorem dX8_save_53 : decode cX8_save 53 = .ok (.istore_n 1, 1) := by decide +kernel
theorem dX8_save_54 : decode cX8_save 54 = .ok (.iload_n 1, 1) := by decide +kernel
theorem dX8_save_55 : decode cX8_save 55 = .ok (.sipush 231, 3) := by decide +kernel
theorem dX8_save_58 : decode cX8_save 58 = .ok (.if_icmp .ge 30, 3) := by decide +kernel
theorem dX8_save_61 : decode cX8_save 61 = .ok (.aload_n 0, 1) := by decide +kernel
theorem dX8_save_62 : decode cX8_save 62 = .ok (.getfield 13, 3) := by decide +kernel
theorem dX8_save_65 : decode cX8_save 65 = .ok (.sipush 231, 3) := by decide +kernel
theorem dX8_save_68 : decode cX8_save 68 = .ok (.aload_n 0, 1) := by decide +kernel
theorem dX8_save_69 : decode cX8_save 69 = .ok (.getfield 88, 3) := by decide +kernel
theorem dX8_save_72 : decode cX8_save 72 = .ok (.imul, 1) := by decide +kernel
theorem dX8_save_73 : decode cX8_save 73 = .ok (.iload_n 1, 1) := by decide +kernel
theorem dX8_save_74 : decode cX8_save 74 = .ok (.iadd, 1) := by decide +kernel
theorem dX8_save_75 : decode cX8_save 75 = .ok (.aload_n 0, 1) := by decide +kernel
theorem dX8_save_76 : decode cX8_save 76 = .ok (.getfield 7, 3) := by decide +kernel
theorem dX8_save_79 : decode cX8_save 79 = .ok (.iload_n 1, 1) := by decide +kernel
theorem dX8_save_80 : decode cX8_save 80 = .ok (.iaload, 1) := by decide +kernel
theorem dX8_save_81 : decode cX8_save 81 = .ok (.iastore, 1) := by decide +kernel
theorem dX8_save_82 : decode cX8_save 82 = .ok (.iinc 1 1, 3) := by decide +kernel
theorem dX8_save_85 : decode cX8_save 85 = .ok (.goto (-31), 3) := by decide +kernel
theorem dX8_save_88 : decode cX8_save 88 = .ok (.aload_n 0, 1) := by decide +kernel
theorem dX8_save_89 : decode cX8_save 89 = .ok (.dup, 1) := by decide +kernel
theorem dX8_save_90 : decode cX8_save 90 = .ok (.getfield 88, 3) := by decide +kernel
theorem dX8_save_93 : decode cX8_save 93 = .ok (.iconst 1, 1) := by decide +kernel
theorem dX8_save_94 : decode cX8_save 94 = .ok (.iadd, 1) := by decide +kernel
theorem dX8_save_95 : decode cX8_save 95 = .ok (.putfield 88, 3) := by decide +kernel
theorem dX8_save_98 : decode cX8_save 98 = .ok (.return_, 1) := by decide +kernel
theorem dX8_undo_0 : decode cX8_undo 0 = .ok (.aload_n 0, 1) := by decide +kernel
theorem dX8_undo_1 : decode cX8_undo 1 = .ok (.aload_n 0, 1) := by decide +kernel
theorem dX8_undo_2 : decode cX8_undo 2 = .ok (.getfield 88, 3) := by decide +kernel
theorem dX8_undo_5 : decode cX8_undo 5 = .ok (.ifCond .le 7, 3) := by decide +kernel
theorem dX8_undo_8 : decode cX8_undo 8 = .ok (.iconst 0, 1) := by decide +kernel
theorem dX8_undo_9 : decode cX8_undo 9 = .ok (.goto 4, 3) := by decide +kernel
theorem dX8_undo_12 : decode cX8_undo 12 = .ok (.iconst 1, 1) := by decide +kernel
theorem dX8_undo_13 : decode cX8_undo 13 = .ok (.putfield 34, 3) := by decide +kernel
theorem dX8_undo_16 : decode cX8_undo 16 = .ok (.aload_n 0, 1) := by decide +kernel
theorem dX8_undo_17 : decode cX8_undo 17 = .ok (.getfield 34, 3) := by decide +kernel
theorem dX8_undo_20 : decode cX8_undo 20 = .ok (.ifCond .le 5, 3) := by decide +kernel
theorem dX8_undo_23 : decode cX8_undo 23 = .ok (.iconst 0, 1) := by decide +kernel
theorem dX8_undo_24 : decode cX8_undo 24 = .ok (.ireturn, 1) := by decide +kernel
theorem dX8_undo_25 : decode cX8_undo 25 = .ok (.aload_n 0, 1) := by decide +kernel
theorem dX8_undo_26 : decode cX8_undo 26 = .ok (.dup, 1) := by decide +kernel
theorem dX8_undo_27 : decode cX8_undo 27 = .ok (.getfield 88, 3) := by decide +kernel
theorem dX8_undo_30 : decode cX8_undo 30 = .ok (.iconst 1, 1) := by decide +kernel
theorem dX8_undo_31 : decode cX8_undo 31 = .ok (.isub, 1) := by decide +kernel
theorem dX8_undo_32 : decode cX8_undo 32 = .ok (.putfield 88, 3) := by decide +kernel
theorem dX8_undo_35 : decode cX8_undo 35 = .ok (.iconst 0, 1) := by decide +kernel
theorem dX8_undo_36 : decode cX8_undo 36 = .ok (.istore_n 1, 1) := by decide +kernel
theorem dX8_undo_37 : decode cX8_undo 37 = .ok (.iload_n 1, 1) := by decide +kernel
theorem dX8_undo_38 : decode cX8_undo 38 = .ok (.sipush 231, 3) := by decide +kernel
theorem dX8_undo_41 : decode cX8_undo 41 = .ok (.if_icmp .ge 30, 3) := by decide +kernel
theorem dX8_undo_44 : decode cX8_undo 44 = .ok (.aload_n 0, 1) := by decide +kernel
theorem dX8_undo_45 : decode cX8_undo 45 = .ok (.getfield 7, 3) := by decide +kernel
theorem dX8_undo_48 : decode cX8_undo 48 = .ok (.iload_n 1, 1) := by decide +kernel
theorem dX8_undo_49 : decode cX8_undo 49 = .ok (.aload_n 0, 1) := by decide +kernel
theorem dX8_undo_50 : decode cX8_undo 50 = .ok (.getfield 13, 3) := by decide +kernel
theorem dX8_undo_53 : decode cX8_undo 53 = .ok (.sipush 231, 3) := by decide +kernel
theorem dX8_undo_56 : decode cX8_undo 56 = .ok (.aload_n 0, 1) := by decide +kernel
theorem dX8_undo_57 : decode cX8_undo 57 = .ok (.getfield 88, 3) := by decide +kernel
theorem dX8_undo_60 : decode cX8_undo 60 = .ok (.imul, 1) := by decide +kernel
theorem dX8_undo_61 : decode cX8_undo 61 = .ok (.iload_n 1, 1) := by decide +kernel
theorem dX8_undo_62 : decode cX8_undo 62 = .ok (.iadd, 1) := by decide +kernel
theorem dX8_undo_63 : decode cX8_undo 63 = .ok (.iaload, 1) := by decide +kernel
theorem dX8_undo_64 : decode cX8_undo 64 = .ok (.iastore, 1) := by decide +kernel
theorem dX8_undo_65 : decode cX8_undo 65 = .ok (.iinc 1 1, 3) := by decide +kernel
theorem dX8_undo_68 : decode cX8_undo 68 = .ok (.goto (-31), 3) := by decide +kernel
theorem dX8_undo_71 : decode cX8_undo 71 = .ok (.aload_n 0, 1) := by decide +kernel
theorem dX8_undo_72 : decode cX8_undo 72 = .ok (.getfield 88, 3) := by decide +kernel
theorem dX8_undo_75 : decode cX8_undo 75 = .ok (.ireturn, 1) := by decide +kernel
theorem dX8_bring_0 : decode cX8_bring 0 = .ok (.bipush 67, 2) := by decide +kernel
theorem dX8_bring_2 : decode cX8_bring 2 = .ok (.iload_n 1, 1) := by decide +kernel
theorem dX8_bring_3 : decode cX8_bring 3 = .ok (.imul, 1) := by decide +kernel
theorem dX8_bring_4 : decode cX8_bring 4 = .ok (.iconst 1, 1) := by decide +kernel
theorem dX8_bring_5 : decode cX8_bring 5 = .ok (.iadd, 1) := by decide +kernel
theorem dX8_bring_6 : decode cX8_bring 6 = .ok (.iconst 4, 1) := by decide +kernel
theorem dX8_bring_7 : decode cX8_bring 7 = .ok (.aload_n 0, 1) := by decide +kernel
theorem dX8_bring_8 : decode cX8_bring 8 = .ok (.iload_n 1, 1) := by decide +kernel
theorem dX8_bring_9 : decode cX8_bring 9 = .ok (.invokevirtual 46, 3) := by decide +kernel
theorem dX8_bring_12 : decode cX8_bring 12 = .ok (.imul, 1) := by decide +kernel
theorem dX8_bring_13 : decode cX8_bring 13 = .ok (.iadd, 1) := by decide +kernel
theorem dX8_bring_14 : decode cX8_bring 14 = .ok (.istore 6, 2) := by decide +kernel
theorem dX8_bring_16 : decode cX8_bring 16 = .ok (.aload_n 0, 1) := by decide +kernel
theorem dX8_bring_17 : decode cX8_bring 17 = .ok (.getfield 7, 3) := by decide +kernel
theorem dX8_bring_20 : decode cX8_bring 20 = .ok (.iload 6, 2) := by decide +kernel
theorem dX8_bring_22 : decode cX8_bring 22 = .ok (.iconst 0, 1) := by decide +kernel
theorem dX8_bring_23 : decode cX8_bring 23 = .ok (.iadd, 1) := by decide +kernel
theorem dX8_bring_24 : decode cX8_bring 24 = .ok (.iload_n 2, 1) := by decide +kernel
theorem dX8_bring_25 : decode cX8_bring 25 = .ok (.iastore, 1) := by decide +kernel
theorem dX8_bring_26 : decode cX8_bring 26 = .ok (.aload_n 0, 1) := by decide +kernel
theorem dX8_bring_27 : decode cX8_bring 27 = .ok (.getfield 7, 3) := by decide +kernel
theorem dX8_bring_30 : decode cX8_bring 30 = .ok (.iload 6, 2) := by decide +kernel
theorem dX8_bring_32 : decode cX8_bring 32 = .ok (.iconst 1, 1) := by decide +kernel
theorem dX8_bring_33 : decode cX8_bring 33 = .ok (.iadd, 1) := by decide +kernel
theorem dX8_bring_34 : decode cX8_bring 34 = .ok (.iload_n 3, 1) := by decide +kernel
theorem dX8_bring_35 : decode cX8_bring 35 = .ok (.iastore, 1) := by decide +kernel
theorem dX8_bring_36 : decode cX8_bring 36 = .ok (.aload_n 0, 1) := by decide +kernel
theorem dX8_bring_37 : decode cX8_bring 37 = .ok (.getfield 7, 3) := by decide +kernel
theorem dX8_bring_40 : decode cX8_bring 40 = .ok (.iload 6, 2) := by decide +kernel
theorem dX8_bring_42 : decode cX8_bring 42 = .ok (.iconst 2, 1) := by decide +kernel
theorem dX8_bring_43 : decode cX8_bring 43 = .ok (.iadd, 1) := by decide +kernel
theorem dX8_bring_44 : decode cX8_bring 44 = .ok (.iload 4, 2) := by decide +kernel
theorem dX8_bring_46 : decode cX8_bring 46 = .ok (.iastore, 1) := by decide +kernel
theorem dX8_bring_47 : decode cX8_bring 47 = .ok (.aload_n 0, 1) := by decide +kernel
theorem dX8_bring_48 : decode cX8_bring 48 = .ok (.getfield 7, 3) := by decide +kernel
theorem dX8_bring_51 : decode cX8_bring 51 = .ok (.iload 6, 2) := by decide +kernel
theorem dX8_bring_53 : decode cX8_bring 53 = .ok (.iconst 3, 1) := by decide +kernel
theorem dX8_bring_54 : decode cX8_bring 54 = .ok (.iadd, 1) := by decide +kernel
theorem dX8_bring_55 : decode cX8_bring 55 = .ok (.iload 5, 2) := by decide +kernel
theorem dX8_bring_57 : decode cX8_bring 57 = .ok (.iastore, 1) := by decide +kernel
theorem dX8_bring_58 : decode cX8_bring 58 = .ok (.aload_n 0, 1) := by decide +kernel
theorem dX8_bring_59 : decode cX8_bring 59 = .ok (.getfield 7, 3) := by decide +kernel
theorem dX8_bring_62 : decode cX8_bring 62 = .ok (.bipush 67, 2) := by decide +kernel
theorem dX8_bring_64 : decode cX8_bring 64 = .ok (.iload_n 1, 1) := by decide +kernel
theorem dX8_bring_65 : decode cX8_bring 65 = .ok (.imul, 1) := by decide +kernel
theorem dX8_bring_66 : decode cX8_bring 66 = .ok (.iconst 0, 1) := by decide +kernel
theorem dX8_bring_67 : decode cX8_bring 67 = .ok (.iadd, 1) := by decide +kernel
theorem dX8_bring_68 : decode cX8_bring 68 = .ok (.dup2, 1) := by decide +kernel
theorem dX8_bring_69 : decode cX8_bring 69 = .ok (.iaload, 1) := by decide +kernel
theorem dX8_bring_70 : decode cX8_bring 70 = .ok (.iconst 1, 1) := by decide +kernel
theorem dX8_bring_71 : decode cX8_bring 71 = .ok (.iadd, 1) := by decide +kernel
theorem dX8_bring_72 : decode cX8_bring 72 = .ok (.iastore, 1) := by decide +kernel
theorem dX8_bring_73 : decode cX8_bring 73 = .ok (.return_, 1) := by decide +kernel
theorem dX8_addScene_0 : decode cX8_addScene 0 = .ok (.iload_n 1, 1) := by decide +kernel
theorem dX8_addScene_1 : decode cX8_addScene 1 = .ok (.invokestatic 42, 3) := by decide +kernel
theorem dX8_addScene_4 : decode cX8_addScene 4 = .ok (.ifCond .ne 10, 3) := by decide +kernel
theorem dX8_addScene_7 : decode cX8_addScene 7 = .ok (.aload_n 0, 1) := by decide +kernel
theorem dX8_addScene_8 : decode cX8_addScene 8 = .ok (.iconst 1, 1) := by decide +kernel
theorem dX8_addScene_9 : decode cX8_addScene 9 = .ok (.putfield 34, 3) := by decide +kernel
theorem dX8_addScene_12 : decode cX8_addScene 12 = .ok (.iconst 0, 1) := by decide +kernel
theorem dX8_addScene_13 : decode cX8_addScene 13 = .ok (.ireturn, 1) := by decide +kernel
theorem dX8_addScene_14 : decode cX8_addScene 14 = .ok (.aload_n 0, 1) := by decide +kernel
theorem dX8_addScene_15 : decode cX8_addScene 15 = .ok (.iload_n 2, 1) := by decide +kernel
theorem dX8_addScene_16 : decode cX8_addScene 16 = .ok (.iconst 1, 1) := by decide +kernel
theorem dX8_addScene_17 : decode cX8_addScene 17 = .ok (.sipush 900, 3) := by decide +kernel
theorem dX8_addScene_20 : decode cX8_addScene 20 = .ok (.invokestatic 38, 3) := by decide +kernel
theorem dX8_addScene_23 : decode cX8_addScene 23 = .ok (.ifCond .ne 7, 3) := by decide +kernel
theorem dX8_addScene_26 : decode cX8_addScene 26 = .ok (.iconst 2, 1) := by decide +kernel
theorem dX8_addScene_27 : decode cX8_addScene 27 = .ok (.goto 18, 3) := by decide +kernel
theorem dX8_addScene_30 : decode cX8_addScene 30 = .ok (.aload_n 0, 1) := by decide +kernel
theorem dX8_addScene_31 : decode cX8_addScene 31 = .ok (.iload_n 1, 1) := by decide +kernel
theorem dX8_addScene_32 : decode cX8_addScene 32 = .ok (.invokevirtual 46, 3) := by decide +kernel
theorem dX8_addScene_35 : decode cX8_addScene 35 = .ok (.bipush 10, 2) := by decide +kernel
theorem dX8_addScene_37 : decode cX8_addScene 37 = .ok (.if_icmp .ne 7, 3) := by decide +kernel
theorem dX8_addScene_40 : decode cX8_addScene 40 = .ok (.iconst 3, 1) := by decide +kernel
theorem dX8_addScene_41 : decode cX8_addScene 41 = .ok (.goto 4, 3) := by decide +kernel
theorem dX8_addScene_44 : decode cX8_addScene 44 = .ok (.iconst 0, 1) := by decide +kernel
theorem dX8_addScene_45 : decode cX8_addScene 45 = .ok (.putfield 34, 3) := by decide +kernel
theorem dX8_addScene_48 : decode cX8_addScene 48 = .ok (.aload_n 0, 1) := by decide +kernel
theorem dX8_addScene_49 : decode cX8_addScene 49 = .ok (.getfield 34, 3) := by decide +kernel
theorem dX8_addScene_52 : decode cX8_addScene 52 = .ok (.ifCond .le 5, 3) := by decide +kernel
theorem dX8_addScene_55 : decode cX8_addScene 55 = .ok (.iconst 0, 1) := by decide +kernel
theorem dX8_addScene_56 : decode cX8_addScene 56 = .ok (.ireturn, 1) := by decide +kernel
theorem dX8_addScene_57 : decode cX8_addScene 57 = .ok (.aload_n 0, 1) := by decide +kernel
theorem dX8_addScene_58 : decode cX8_addScene 58 = .ok (.invokevirtual 91, 3) := by decide +kernel
theorem dX8_addScene_61 : decode cX8_addScene 61 = .ok (.aload_n 0, 1) := by decide +kernel
theorem dX8_addScene_62 : decode cX8_addScene 62 = .ok (.iload_n 1, 1) := by decide +kernel
theorem dX8_addScene_63 : decode cX8_addScene 63 = .ok (.iload_n 2, 1) := by decide +kernel
theorem dX8_addScene_64 : decode cX8_addScene 64 = .ok (.ldc 62, 2) := by decide +kernel
theorem dX8_addScene_66 : decode cX8_addScene 66 = .ok (.iconst 0, 1) := by decide +kernel
theorem dX8_addScene_67 : decode cX8_addScene 67 = .ok (.iconst 0, 1) := by decide +kernel
theorem dX8_addScene_68 : decode cX8_addScene 68 = .ok (.invokevirtual 94, 3) := by decide +kernel
theorem dX8_addScene_71 : decode cX8_addScene 71 = .ok (.aload_n 0, 1) := by decide +kernel
theorem dX8_addScene_72 : decode cX8_addScene 72 = .ok (.iload_n 1, 1) := by decide +kernel
theorem dX8_addScene_73 : decode cX8_addScene 73 = .ok (.invokevirtual 46, 3) := by decide +kernel
theorem dX8_addScene_76 : decode cX8_addScene 76 = .ok (.iconst 1, 1) := by decide +kernel
theorem dX8_addScene_77 : decode cX8_addScene 77 = .ok (.isub, 1) := by decide +kernel
theorem dX8_addScene_78 : decode cX8_addScene 78 = .ok (.ireturn, 1) := by decide +kernel
theorem dX8_removeScene_0 : decode cX8_removeScene 0 = .ok (.aload_n 0, 1) := by decide +kernel
theorem dX8_removeScene_1 : decode cX8_removeScene 1 = .ok (.aload_n 0, 1) := by decide +kernel
theorem dX8_removeScene_2 : decode cX8_removeScene 2 = .ok (.iload_n 1, 1) := by decide +kernel
theorem dX8_removeScene_3 : decode cX8_removeScene 3 = .ok (.iload_n 2, 1) := by decide +kernel
theorem dX8_removeScene_4 : decode cX8_removeScene 4 = .ok (.invokevirtual 98, 3) := by decide +kernel
theorem dX8_removeScene_7 : decode cX8_removeScene 7 = .ok (.ifCond .eq 7, 3) := by decide +kernel
theorem dX8_removeScene_10 : decode cX8_removeScene 10 = .ok (.iconst 0, 1) := by decide +kernel
theorem dX8_removeScene_11 : decode cX8_removeScene 11 = .ok (.goto 4, 3) := by decide +kernel
theorem dX8_removeScene_14 : decode cX8_removeScene 14 = .ok (.iconst 1, 1) := by decide +kernel
theorem dX8_removeScene_15 : decode cX8_removeScene 15 = .ok (.putfield 34, 3) := by decide +kernel
theorem dX8_removeScene_18 : decode cX8_removeScene 18 = .ok (.aload_n 0, 1) := by decide +kernel
theorem dX8_removeScene_19 : decode cX8_removeScene 19 = .ok (.getfield 34, 3) := by decide +kernel
theorem dX8_removeScene_22 : decode cX8_removeScene 22 = .ok (.ifCond .le 5, 3) := by decide +kernel
theorem dX8_removeScene_25 : decode cX8_removeScene 25 = .ok (.iconst 0, 1) := by decide +kernel
theorem dX8_removeScene_26 : decode cX8_removeScene 26 = .ok (.ireturn, 1) := by decide +kernel
theorem dX8_removeScene_27 : decode cX8_removeScene 27 = .ok (.aload_n 0, 1) := by decide +kernel
theorem dX8_removeScene_28 : decode cX8_removeScene 28 = .ok (.invokevirtual 91, 3) := by decide +kernel
theorem dX8_removeScene_31 : decode cX8_removeScene 31 = .ok (.aload_n 0, 1) := by decide +kernel
theorem dX8_removeScene_32 : decode cX8_removeScene 32 = .ok (.getfield 7, 3) := by decide +kernel
theorem dX8_removeScene_35 : decode cX8_removeScene 35 = .ok (.bipush 67, 2) := by decide +kernel
theorem dX8_removeScene_37 : decode cX8_removeScene 37 = .ok (.iload_n 1, 1) := by decide +kernel
theorem dX8_removeScene_38 : decode cX8_removeScene 38 = .ok (.imul, 1) := by decide +kernel
theorem dX8_removeScene_39 : decode cX8_removeScene 39 = .ok (.iconst 0, 1) := by decide +kernel
theorem dX8_removeScene_40 : decode cX8_removeScene 40 = .ok (.iadd, 1) := by decide +kernel
theorem dX8_removeScene_41 : decode cX8_removeScene 41 = .ok (.dup2, 1) := by decide +kernel
theorem dX8_removeScene_42 : decode cX8_removeScene 42 = .ok (.iaload, 1) := by decide +kernel
theorem dX8_removeScene_43 : decode cX8_removeScene 43 = .ok (.iconst 1, 1) := by decide +kernel
theorem dX8_removeScene_44 : decode cX8_removeScene 44 = .ok (.isub, 1) := by decide +kernel
theorem dX8_removeScene_45 : decode cX8_removeScene 45 = .ok (.iastore, 1) := by decide +kernel
theorem dX8_removeScene_46 : decode cX8_removeScene 46 = .ok (.bipush 67, 2) := by decide +kernel
theorem dX8_removeScene_48 : decode cX8_removeScene 48 = .ok (.iload_n 1, 1) := by decide +kernel
theorem dX8_removeScene_49 : decode cX8_removeScene 49 = .ok (.imul, 1) := by decide +kernel
theorem dX8_removeScene_50 : decode cX8_removeScene 50 = .ok (.iconst 1, 1) := by decide +kernel
theorem dX8_removeScene_51 : decode cX8_removeScene 51 = .ok (.iadd, 1) := by decide +kernel
theorem dX8_removeScene_52 : decode cX8_removeScene 52 = .ok (.istore_n 3, 1) := by decide +kernel
theorem dX8_removeScene_53 : decode cX8_removeScene 53 = .ok (.iload_n 3, 1) := by decide +kernel
theorem dX8_removeScene_54 : decode cX8_removeScene 54 = .ok (.iconst 4, 1) := by decide +kernel
theorem dX8_removeScene_55 : decode cX8_removeScene 55 = .ok (.iload_n 2, 1) := by decide +kernel
theorem dX8_removeScene_56 : decode cX8_removeScene 56 = .ok (.imul, 1) := by decide +kernel
theorem dX8_removeScene_57 : decode cX8_removeScene 57 = .ok (.iadd, 1) := by decide +kernel
theorem dX8_removeScene_58 : decode cX8_removeScene 58 = .ok (.istore 4, 2) := by decide +kernel
theorem dX8_removeScene_60 : decode cX8_removeScene 60 = .ok (.iload 4, 2) := by decide +kernel
theorem dX8_removeScene_62 : decode cX8_removeScene 62 = .ok (.iload_n 3, 1) := by decide +kernel
theorem dX8_removeScene_63 : decode cX8_removeScene 63 = .ok (.iconst 4, 1) := by decide +kernel
theorem dX8_removeScene_64 : decode cX8_removeScene 64 = .ok (.aload_n 0, 1) := by decide +kernel
theorem dX8_removeScene_65 : decode cX8_removeScene 65 = .ok (.iload_n 1, 1) := by decide +kernel
theorem dX8_removeScene_66 : decode cX8_removeScene 66 = .ok (.invokevirtual 46, 3) := by decide +kernel
theorem dX8_removeScene_69 : decode cX8_removeScene 69 = .ok (.imul, 1) := by decide +kernel
theorem dX8_removeScene_70 : decode cX8_removeScene 70 = .ok (.iadd, 1) := by decide +kernel
theorem dX8_removeScene_71 : decode cX8_removeScene 71 = .ok (.if_icmp .ge 25, 3) := by decide +kernel
theorem dX8_removeScene_74 : decode cX8_removeScene 74 = .ok (.aload_n 0, 1) := by decide +kernel
theorem dX8_removeScene_75 : decode cX8_removeScene 75 = .ok (.getfield 7, 3) := by decide +kernel
theorem dX8_removeScene_78 : decode cX8_removeScene 78 = .ok (.iload 4, 2) := by decide +kernel
theorem dX8_removeScene_80 : decode cX8_removeScene 80 = .ok (.aload_n 0, 1) := by decide +kernel
theorem dX8_removeScene_81 : decode cX8_removeScene 81 = .ok (.getfield 7, 3) := by decide +kernel
theorem dX8_removeScene_84 : decode cX8_removeScene 84 = .ok (.iload 4, 2) := by decide +kernel
theorem dX8_removeScene_86 : decode cX8_removeScene 86 = .ok (.iconst 4, 1) := by decide +kernel
theorem dX8_removeScene_87 : decode cX8_removeScene 87 = .ok (.iadd, 1) := by decide +kernel
theorem dX8_removeScene_88 : decode cX8_removeScene 88 = .ok (.iaload, 1) := by decide +kernel
theorem dX8_removeScene_89 : decode cX8_removeScene 89 = .ok (.iastore, 1) := by decide +kernel
theorem dX8_removeScene_90 : decode cX8_removeScene 90 = .ok (.iinc 4 1, 3) := by decide +kernel
theorem dX8_removeScene_93 : decode cX8_removeScene 93 = .ok (.goto (-33), 3) := by decide +kernel
theorem dX8_removeScene_96 : decode cX8_removeScene 96 = .ok (.aload_n 0, 1) := by decide +kernel
theorem dX8_removeScene_97 : decode cX8_removeScene 97 = .ok (.iload_n 1, 1) := by decide +kernel
theorem dX8_removeScene_98 : decode cX8_removeScene 98 = .ok (.invokevirtual 46, 3) := by decide +kernel
theorem dX8_removeScene_101 : decode cX8_removeScene 101 = .ok (.ireturn, 1) := by decide +kernel
theorem dX8_holdAt_0 : decode cX8_holdAt 0 = .ok (.iconst 0, 1) := by decide +kernel
theorem dX8_holdAt_1 : decode cX8_holdAt 1 = .ok (.istore_n 3, 1) := by decide +kernel
theorem dX8_holdAt_2 : decode cX8_holdAt 2 = .ok (.iload_n 3, 1) := by decide +kernel
theorem dX8_holdAt_3 : decode cX8_holdAt 3 = .ok (.aload_n 0, 1) := by decide +kernel
theorem dX8_holdAt_4 : decode cX8_holdAt 4 = .ok (.getfield 7, 3) := by decide +kernel
theorem dX8_holdAt_7 : decode cX8_holdAt 7 = .ok (.iload_n 1, 1) := by decide +kernel
theorem dX8_holdAt_8 : decode cX8_holdAt 8 = .ok (.iaload, 1) := by decide +kernel
theorem dX8_holdAt_9 : decode cX8_holdAt 9 = .ok (.if_icmp .ge 25, 3) := by decide +kernel
theorem dX8_holdAt_12 : decode cX8_holdAt 12 = .ok (.aload_n 0, 1) := by decide +kernel
theorem dX8_holdAt_13 : decode cX8_holdAt 13 = .ok (.getfield 7, 3) := by decide +kernel
theorem dX8_holdAt_16 : decode cX8_holdAt 16 = .ok (.iload_n 1, 1) := by decide +kernel
theorem dX8_holdAt_17 : decode cX8_holdAt 17 = .ok (.iconst 1, 1) := by decide +kernel
theorem dX8_holdAt_18 : decode cX8_holdAt 18 = .ok (.iadd, 1) := by decide +kernel
theorem dX8_holdAt_19 : decode cX8_holdAt 19 = .ok (.iconst 2, 1) := by decide +kernel
theorem dX8_holdAt_20 : decode cX8_holdAt 20 = .ok (.iload_n 3, 1) := by decide +kernel
theorem dX8_holdAt_21 : decode cX8_holdAt 21 = .ok (.imul, 1) := by decide +kernel
theorem dX8_holdAt_22 : decode cX8_holdAt 22 = .ok (.iadd, 1) := by decide +kernel
theorem dX8_holdAt_23 : decode cX8_holdAt 23 = .ok (.iaload, 1) := by decide +kernel
theorem dX8_holdAt_24 : decode cX8_holdAt 24 = .ok (.iload_n 2, 1) := by decide +kernel
theorem dX8_holdAt_25 : decode cX8_holdAt 25 = .ok (.if_icmp .eq 9, 3) := by decide +kernel
theorem dX8_holdAt_28 : decode cX8_holdAt 28 = .ok (.iinc 3 1, 3) := by decide +kernel
theorem dX8_holdAt_31 : decode cX8_holdAt 31 = .ok (.goto (-29), 3) := by decide +kernel
theorem dX8_holdAt_34 : decode cX8_holdAt 34 = .ok (.iload_n 3, 1) := by decide +kernel
theorem dX8_holdAt_35 : decode cX8_holdAt 35 = .ok (.ireturn, 1) := by decide +kernel
theorem dX8_hold_0 : decode cX8_hold 0 = .ok (.aload_n 0, 1) := by decide +kernel
theorem dX8_hold_1 : decode cX8_hold 1 = .ok (.invokevirtual 91, 3) := by decide +kernel
theorem dX8_hold_4 : decode cX8_hold 4 = .ok (.aload_n 0, 1) := by decide +kernel
theorem dX8_hold_5 : decode cX8_hold 5 = .ok (.iload_n 1, 1) := by decide +kernel
theorem dX8_hold_6 : decode cX8_hold 6 = .ok (.iload_n 2, 1) := by decide +kernel
theorem dX8_hold_7 : decode cX8_hold 7 = .ok (.invokevirtual 101, 3) := by decide +kernel
theorem dX8_hold_10 : decode cX8_hold 10 = .ok (.istore 4, 2) := by decide +kernel
theorem dX8_hold_12 : decode cX8_hold 12 = .ok (.aload_n 0, 1) := by decide +kernel
theorem dX8_hold_13 : decode cX8_hold 13 = .ok (.getfield 7, 3) := by decide +kernel
theorem dX8_hold_16 : decode cX8_hold 16 = .ok (.iload_n 1, 1) := by decide +kernel
theorem dX8_hold_17 : decode cX8_hold 17 = .ok (.dup2, 1) := by decide +kernel
theorem dX8_hold_18 : decode cX8_hold 18 = .ok (.iaload, 1) := by decide +kernel
theorem dX8_hold_19 : decode cX8_hold 19 = .ok (.iload 4, 2) := by decide +kernel
theorem dX8_hold_21 : decode cX8_hold 21 = .ok (.aload_n 0, 1) := by decide +kernel
theorem dX8_hold_22 : decode cX8_hold 22 = .ok (.getfield 7, 3) := by decide +kernel
theorem dX8_hold_25 : decode cX8_hold 25 = .ok (.iload_n 1, 1) := by decide +kernel
theorem dX8_hold_26 : decode cX8_hold 26 = .ok (.iaload, 1) := by decide +kernel
theorem dX8_hold_27 : decode cX8_hold 27 = .ok (.if_icmp .ne 7, 3) := by decide +kernel
theorem dX8_hold_30 : decode cX8_hold 30 = .ok (.iconst 1, 1) := by decide +kernel
theorem dX8_hold_31 : decode cX8_hold 31 = .ok (.goto 4, 3) := by decide +kernel
theorem dX8_hold_34 : decode cX8_hold 34 = .ok (.iconst 0, 1) := by decide +kernel
theorem dX8_hold_35 : decode cX8_hold 35 = .ok (.iadd, 1) := by decide +kernel
theorem dX8_hold_36 : decode cX8_hold 36 = .ok (.iastore, 1) := by decide +kernel
theorem dX8_hold_37 : decode cX8_hold 37 = .ok (.aload_n 0, 1) := by decide +kernel
theorem dX8_hold_38 : decode cX8_hold 38 = .ok (.getfield 7, 3) := by decide +kernel
theorem dX8_hold_41 : decode cX8_hold 41 = .ok (.iload_n 1, 1) := by decide +kernel
theorem dX8_hold_42 : decode cX8_hold 42 = .ok (.iconst 1, 1) := by decide +kernel
theorem dX8_hold_43 : decode cX8_hold 43 = .ok (.iadd, 1) := by decide +kernel
theorem dX8_hold_44 : decode cX8_hold 44 = .ok (.iconst 2, 1) := by decide +kernel
theorem dX8_hold_45 : decode cX8_hold 45 = .ok (.iload 4, 2) := by decide +kernel
theorem dX8_hold_47 : decode cX8_hold 47 = .ok (.imul, 1) := by decide +kernel
theorem dX8_hold_48 : decode cX8_hold 48 = .ok (.iadd, 1) := by decide +kernel
theorem dX8_hold_49 : decode cX8_hold 49 = .ok (.iload_n 2, 1) := by decide +kernel
theorem dX8_hold_50 : decode cX8_hold 50 = .ok (.iastore, 1) := by decide +kernel
theorem dX8_hold_51 : decode cX8_hold 51 = .ok (.aload_n 0, 1) := by decide +kernel
theorem dX8_hold_52 : decode cX8_hold 52 = .ok (.getfield 7, 3) := by decide +kernel
theorem dX8_hold_55 : decode cX8_hold 55 = .ok (.iload_n 1, 1) := by decide +kernel
theorem dX8_hold_56 : decode cX8_hold 56 = .ok (.iconst 2, 1) := by decide +kernel
theorem dX8_hold_57 : decode cX8_hold 57 = .ok (.iadd, 1) := by decide +kernel
theorem dX8_hold_58 : decode cX8_hold 58 = .ok (.iconst 2, 1) := by decide +kernel
theorem dX8_hold_59 : decode cX8_hold 59 = .ok (.iload 4, 2) := by decide +kernel
theorem dX8_hold_61 : decode cX8_hold 61 = .ok (.imul, 1) := by decide +kernel
theorem dX8_hold_62 : decode cX8_hold 62 = .ok (.iadd, 1) := by decide +kernel
theorem dX8_hold_63 : decode cX8_hold 63 = .ok (.iload_n 3, 1) := by decide +kernel
theorem dX8_hold_64 : decode cX8_hold 64 = .ok (.iastore, 1) := by decide +kernel
theorem dX8_hold_65 : decode cX8_hold 65 = .ok (.aload_n 0, 1) := by decide +kernel
theorem dX8_hold_66 : decode cX8_hold 66 = .ok (.getfield 7, 3) := by decide +kernel
theorem dX8_hold_69 : decode cX8_hold 69 = .ok (.iload_n 1, 1) := by decide +kernel
theorem dX8_hold_70 : decode cX8_hold 70 = .ok (.iaload, 1) := by decide +kernel
theorem dX8_hold_71 : decode cX8_hold 71 = .ok (.ireturn, 1) := by decide +kernel
theorem dX8_crank_0 : decode cX8_crank 0 = .ok (.iload_n 1, 1) := by decide +kernel
theorem dX8_crank_1 : decode cX8_crank 1 = .ok (.invokestatic 42, 3) := by decide +kernel
theorem dX8_crank_4 : decode cX8_crank 4 = .ok (.ifCond .ne 10, 3) := by decide +kernel
theorem dX8_crank_7 : decode cX8_crank 7 = .ok (.aload_n 0, 1) := by decide +kernel
theorem dX8_crank_8 : decode cX8_crank 8 = .ok (.iconst 1, 1) := by decide +kernel
theorem dX8_crank_9 : decode cX8_crank 9 = .ok (.putfield 34, 3) := by decide +kernel
theorem dX8_crank_12 : decode cX8_crank 12 = .ok (.iconst 0, 1) := by decide +kernel
theorem dX8_crank_13 : decode cX8_crank 13 = .ok (.ireturn, 1) := by decide +kernel
theorem dX8_crank_14 : decode cX8_crank 14 = .ok (.bipush 67, 2) := by decide +kernel
theorem dX8_crank_16 : decode cX8_crank 16 = .ok (.iload_n 1, 1) := by decide +kernel
theorem dX8_crank_17 : decode cX8_crank 17 = .ok (.imul, 1) := by decide +kernel
theorem dX8_crank_18 : decode cX8_crank 18 = .ok (.bipush 41, 2) := by decide +kernel
theorem dX8_crank_20 : decode cX8_crank 20 = .ok (.iadd, 1) := by decide +kernel
theorem dX8_crank_21 : decode cX8_crank 21 = .ok (.istore 4, 2) := by decide +kernel
theorem dX8_crank_23 : decode cX8_crank 23 = .ok (.iload_n 2, 1) := by decide +kernel
theorem dX8_crank_24 : decode cX8_crank 24 = .ok (.iconst 0, 1) := by decide +kernel
theorem dX8_crank_25 : decode cX8_crank 25 = .ok (.sipush 9000, 3) := by decide +kernel
theorem dX8_crank_28 : decode cX8_crank 28 = .ok (.invokestatic 38, 3) := by decide +kernel
theorem dX8_crank_31 : decode cX8_crank 31 = .ok (.ifCond .eq 18, 3) := by decide +kernel
theorem dX8_crank_34 : decode cX8_crank 34 = .ok (.iload_n 3, 1) := by decide +kernel
theorem dX8_crank_35 : decode cX8_crank 35 = .ok (.bipush 10, 2) := by decide +kernel
theorem dX8_crank_37 : decode cX8_crank 37 = .ok (.bipush 30, 2) := by decide +kernel
theorem dX8_crank_39 : decode cX8_crank 39 = .ok (.invokestatic 38, 3) := by decide +kernel
theorem dX8_crank_42 : decode cX8_crank 42 = .ok (.ifCond .eq 7, 3) := by decide +kernel
theorem dX8_crank_45 : decode cX8_crank 45 = .ok (.iconst 1, 1) := by decide +kernel
theorem dX8_crank_46 : decode cX8_crank 46 = .ok (.goto 4, 3) := by decide +kernel
theorem dX8_crank_49 : decode cX8_crank 49 = .ok (.iconst 0, 1) := by decide +kernel
theorem dX8_crank_50 : decode cX8_crank 50 = .ok (.istore 5, 2) := by decide +kernel
theorem dX8_crank_52 : decode cX8_crank 52 = .ok (.aload_n 0, 1) := by decide +kernel
theorem dX8_crank_53 : decode cX8_crank 53 = .ok (.iload 5, 2) := by decide +kernel
theorem dX8_crank_55 : decode cX8_crank 55 = .ok (.ifCond .ne 7, 3) := by decide +kernel
theorem dX8_crank_58 : decode cX8_crank 58 = .ok (.iconst 2, 1) := by decide +kernel
theorem dX8_crank_59 : decode cX8_crank 59 = .ok (.goto 20, 3) := by decide +kernel
theorem dX8_crank_62 : decode cX8_crank 62 = .ok (.aload_n 0, 1) := by decide +kernel
theorem dX8_crank_63 : decode cX8_crank 63 = .ok (.iload 4, 2) := by decide +kernel
theorem dX8_crank_65 : decode cX8_crank 65 = .ok (.iload_n 2, 1) := by decide +kernel
theorem dX8_crank_66 : decode cX8_crank 66 = .ok (.invokevirtual 101, 3) := by decide +kernel
theorem dX8_crank_69 : decode cX8_crank 69 = .ok (.bipush 6, 2) := by decide +kernel
theorem dX8_crank_71 : decode cX8_crank 71 = .ok (.if_icmp .ne 7, 3) := by decide +kernel
theorem dX8_crank_74 : decode cX8_crank 74 = .ok (.iconst 3, 1) := by decide +kernel
theorem dX8_crank_75 : decode cX8_crank 75 = .ok (.goto 4, 3) := by decide +kernel
theorem dX8_crank_78 : decode cX8_crank 78 = .ok (.iconst 0, 1) := by decide +kernel
theorem dX8_crank_79 : decode cX8_crank 79 = .ok (.putfield 34, 3) := by decide +kernel
theorem dX8_crank_82 : decode cX8_crank 82 = .ok (.aload_n 0, 1) := by decide +kernel
theorem dX8_crank_83 : decode cX8_crank 83 = .ok (.getfield 34, 3) := by decide +kernel
theorem dX8_crank_86 : decode cX8_crank 86 = .ok (.ifCond .le 7, 3) := by decide +kernel
theorem dX8_crank_89 : decode cX8_crank 89 = .ok (.iconst 0, 1) := by decide +kernel
theorem dX8_crank_90 : decode cX8_crank 90 = .ok (.goto 11, 3) := by decide +kernel
theorem dX8_crank_93 : decode cX8_crank 93 = .ok (.aload_n 0, 1) := by decide +kernel
theorem dX8_crank_94 : decode cX8_crank 94 = .ok (.iload 4, 2) := by decide +kernel
theorem dX8_crank_96 : decode cX8_crank 96 = .ok (.iload_n 2, 1) := by decide +kernel
theorem dX8_crank_97 : decode cX8_crank 97 = .ok (.iload_n 3, 1) := by decide +kernel
theorem dX8_crank_98 : decode cX8_crank 98 = .ok (.invokevirtual 104, 3) := by decide +kernel
theorem dX8_crank_101 : decode cX8_crank 101 = .ok (.ireturn, 1) := by decide +kernel
theorem dX8_drop_0 : decode cX8_drop 0 = .ok (.aload_n 0, 1) := by decide +kernel
theorem dX8_drop_1 : decode cX8_drop 1 = .ok (.invokevirtual 91, 3) := by decide +kernel
theorem dX8_drop_4 : decode cX8_drop 4 = .ok (.aload_n 0, 1) := by decide +kernel
theorem dX8_drop_5 : decode cX8_drop 5 = .ok (.iload_n 1, 1) := by decide +kernel
theorem dX8_drop_6 : decode cX8_drop 6 = .ok (.iload_n 2, 1) := by decide +kernel
theorem dX8_drop_7 : decode cX8_drop 7 = .ok (.invokevirtual 101, 3) := by decide +kernel
theorem dX8_drop_10 : decode cX8_drop 10 = .ok (.istore_n 3, 1) := by decide +kernel
theorem dX8_drop_11 : decode cX8_drop 11 = .ok (.iload_n 3, 1) := by decide +kernel
theorem dX8_drop_12 : decode cX8_drop 12 = .ok (.aload_n 0, 1) := by decide +kernel
theorem dX8_drop_13 : decode cX8_drop 13 = .ok (.getfield 7, 3) := by decide +kernel
theorem dX8_drop_16 : decode cX8_drop 16 = .ok (.iload_n 1, 1) := by decide +kernel
theorem dX8_drop_17 : decode cX8_drop 17 = .ok (.iaload, 1) := by decide +kernel
theorem dX8_drop_18 : decode cX8_drop 18 = .ok (.if_icmp .ge 61, 3) := by decide +kernel
theorem dX8_drop_21 : decode cX8_drop 21 = .ok (.aload_n 0, 1) := by decide +kernel
theorem dX8_drop_22 : decode cX8_drop 22 = .ok (.getfield 7, 3) := by decide +kernel
theorem dX8_drop_25 : decode cX8_drop 25 = .ok (.iload_n 1, 1) := by decide +kernel
theorem dX8_drop_26 : decode cX8_drop 26 = .ok (.dup2, 1) := by decide +kernel
theorem dX8_drop_27 : decode cX8_drop 27 = .ok (.iaload, 1) := by decide +kernel
theorem dX8_drop_28 : decode cX8_drop 28 = .ok (.iconst 1, 1) := by decide +kernel
theorem dX8_drop_29 : decode cX8_drop 29 = .ok (.isub, 1) := by decide +kernel
theorem dX8_drop_30 : decode cX8_drop 30 = .ok (.iastore, 1) := by decide +kernel
theorem dX8_drop_31 : decode cX8_drop 31 = .ok (.iload_n 1, 1) := by decide +kernel
theorem dX8_drop_32 : decode cX8_drop 32 = .ok (.iconst 1, 1) := by decide +kernel
theorem dX8_drop_33 : decode cX8_drop 33 = .ok (.iadd, 1) := by decide +kernel
theorem dX8_drop_34 : decode cX8_drop 34 = .ok (.iconst 2, 1) := by decide +kernel
theorem dX8_drop_35 : decode cX8_drop 35 = .ok (.iload_n 3, 1) := by decide +kernel
theorem dX8_drop_36 : decode cX8_drop 36 = .ok (.imul, 1) := by decide +kernel
theorem dX8_drop_37 : decode cX8_drop 37 = .ok (.iadd, 1) := by decide +kernel
theorem dX8_drop_38 : decode cX8_drop 38 = .ok (.istore 4, 2) := by decide +kernel
theorem dX8_drop_40 : decode cX8_drop 40 = .ok (.iload 4, 2) := by decide +kernel
theorem dX8_drop_42 : decode cX8_drop 42 = .ok (.iload_n 1, 1) := by decide +kernel
theorem dX8_drop_43 : decode cX8_drop 43 = .ok (.iconst 1, 1) := by decide +kernel
theorem dX8_drop_44 : decode cX8_drop 44 = .ok (.iadd, 1) := by decide +kernel
theorem dX8_drop_45 : decode cX8_drop 45 = .ok (.iconst 2, 1) := by decide +kernel
theorem dX8_drop_46 : decode cX8_drop 46 = .ok (.aload_n 0, 1) := by decide +kernel
theorem dX8_drop_47 : decode cX8_drop 47 = .ok (.getfield 7, 3) := by decide +kernel
theorem dX8_drop_50 : decode cX8_drop 50 = .ok (.iload_n 1, 1) := by decide +kernel
theorem dX8_drop_51 : decode cX8_drop 51 = .ok (.iaload, 1) := by decide +kernel
theorem dX8_drop_52 : decode cX8_drop 52 = .ok (.imul, 1) := by decide +kernel
theorem dX8_drop_53 : decode cX8_drop 53 = .ok (.iadd, 1) := by decide +kernel
theorem dX8_drop_54 : decode cX8_drop 54 = .ok (.if_icmp .ge 25, 3) := by decide +kernel
theorem dX8_drop_57 : decode cX8_drop 57 = .ok (.aload_n 0, 1) := by decide +kernel
theorem dX8_drop_58 : decode cX8_drop 58 = .ok (.getfield 7, 3) := by decide +kernel
theorem dX8_drop_61 : decode cX8_drop 61 = .ok (.iload 4, 2) := by decide +kernel
theorem dX8_drop_63 : decode cX8_drop 63 = .ok (.aload_n 0, 1) := by decide +kernel
theorem dX8_drop_64 : decode cX8_drop 64 = .ok (.getfield 7, 3) := by decide +kernel
theorem dX8_drop_67 : decode cX8_drop 67 = .ok (.iload 4, 2) := by decide +kernel
theorem dX8_drop_69 : decode cX8_drop 69 = .ok (.iconst 2, 1) := by decide +kernel
theorem dX8_drop_70 : decode cX8_drop 70 = .ok (.iadd, 1) := by decide +kernel
theorem dX8_drop_71 : decode cX8_drop 71 = .ok (.iaload, 1) := by decide +kernel
theorem dX8_drop_72 : decode cX8_drop 72 = .ok (.iastore, 1) := by decide +kernel
theorem dX8_drop_73 : decode cX8_drop 73 = .ok (.iinc 4 1, 3) := by decide +kernel
theorem dX8_drop_76 : decode cX8_drop 76 = .ok (.goto (-36), 3) := by decide +kernel
theorem dX8_drop_79 : decode cX8_drop 79 = .ok (.aload_n 0, 1) := by decide +kernel
theorem dX8_drop_80 : decode cX8_drop 80 = .ok (.getfield 7, 3) := by decide +kernel
theorem dX8_drop_83 : decode cX8_drop 83 = .ok (.iload_n 1, 1) := by decide +kernel
theorem dX8_drop_84 : decode cX8_drop 84 = .ok (.iaload, 1) := by decide +kernel
theorem dX8_drop_85 : decode cX8_drop 85 = .ok (.ireturn, 1) := by decide +kernel
theorem dX8_splice_0 : decode cX8_splice 0 = .ok (.iload_n 1, 1) := by decide +kernel
theorem dX8_splice_1 : decode cX8_splice 1 = .ok (.invokestatic 42, 3) := by decide +kernel
theorem dX8_splice_4 : decode cX8_splice 4 = .ok (.ifCond .ne 10, 3) := by decide +kernel
theorem dX8_splice_7 : decode cX8_splice 7 = .ok (.aload_n 0, 1) := by decide +kernel
theorem dX8_splice_8 : decode cX8_splice 8 = .ok (.iconst 1, 1) := by decide +kernel
theorem dX8_splice_9 : decode cX8_splice 9 = .ok (.putfield 34, 3) := by decide +kernel
theorem dX8_splice_12 : decode cX8_splice 12 = .ok (.iconst 0, 1) := by decide +kernel
theorem dX8_splice_13 : decode cX8_splice 13 = .ok (.ireturn, 1) := by decide +kernel
theorem dX8_splice_14 : decode cX8_splice 14 = .ok (.bipush 67, 2) := by decide +kernel
theorem dX8_splice_16 : decode cX8_splice 16 = .ok (.iload_n 1, 1) := by decide +kernel
theorem dX8_splice_17 : decode cX8_splice 17 = .ok (.imul, 1) := by decide +kernel
theorem dX8_splice_18 : decode cX8_splice 18 = .ok (.bipush 54, 2) := by decide +kernel
theorem dX8_splice_20 : decode cX8_splice 20 = .ok (.iadd, 1) := by decide +kernel
theorem dX8_splice_21 : decode cX8_splice 21 = .ok (.istore 4, 2) := by decide +kernel
theorem dX8_splice_23 : decode cX8_splice 23 = .ok (.iload_n 2, 1) := by decide +kernel
theorem dX8_splice_24 : decode cX8_splice 24 = .ok (.iconst 0, 1) := by decide +kernel
theorem dX8_splice_25 : decode cX8_splice 25 = .ok (.sipush 9000, 3) := by decide +kernel
theorem dX8_splice_28 : decode cX8_splice 28 = .ok (.invokestatic 38, 3) := by decide +kernel
theorem dX8_splice_31 : decode cX8_splice 31 = .ok (.ifCond .eq 17, 3) := by decide +kernel
theorem dX8_splice_34 : decode cX8_splice 34 = .ok (.iload_n 3, 1) := by decide +kernel
theorem dX8_splice_35 : decode cX8_splice 35 = .ok (.iconst 0, 1) := by decide +kernel
theorem dX8_splice_36 : decode cX8_splice 36 = .ok (.bipush 50, 2) := by decide +kernel
theorem dX8_splice_38 : decode cX8_splice 38 = .ok (.invokestatic 38, 3) := by decide +kernel
theorem dX8_splice_41 : decode cX8_splice 41 = .ok (.ifCond .eq 7, 3) := by decide +kernel
theorem dX8_splice_44 : decode cX8_splice 44 = .ok (.iconst 1, 1) := by decide +kernel
theorem dX8_splice_45 : decode cX8_splice 45 = .ok (.goto 4, 3) := by decide +kernel
theorem dX8_splice_48 : decode cX8_splice 48 = .ok (.iconst 0, 1) := by decide +kernel
theorem dX8_splice_49 : decode cX8_splice 49 = .ok (.istore 5, 2) := by decide +kernel
theorem dX8_splice_51 : decode cX8_splice 51 = .ok (.aload_n 0, 1) := by decide +kernel
theorem dX8_splice_52 : decode cX8_splice 52 = .ok (.iload 5, 2) := by decide +kernel
theorem dX8_splice_54 : decode cX8_splice 54 = .ok (.ifCond .ne 7, 3) := by decide +kernel
theorem dX8_splice_57 : decode cX8_splice 57 = .ok (.iconst 2, 1) := by decide +kernel
theorem dX8_splice_58 : decode cX8_splice 58 = .ok (.goto 24, 3) := by decide +kernel
theorem dX8_splice_61 : decode cX8_splice 61 = .ok (.iload_n 3, 1) := by decide +kernel
theorem dX8_splice_62 : decode cX8_splice 62 = .ok (.ifCond .le 19, 3) := by decide +kernel
theorem dX8_splice_65 : decode cX8_splice 65 = .ok (.aload_n 0, 1) := by decide +kernel
theorem dX8_splice_66 : decode cX8_splice 66 = .ok (.iload 4, 2) := by decide +kernel
theorem dX8_splice_68 : decode cX8_splice 68 = .ok (.iload_n 2, 1) := by decide +kernel
theorem dX8_splice_69 : decode cX8_splice 69 = .ok (.invokevirtual 101, 3) := by decide +kernel
theorem dX8_splice_72 : decode cX8_splice 72 = .ok (.bipush 6, 2) := by decide +kernel
theorem dX8_splice_74 : decode cX8_splice 74 = .ok (.if_icmp .ne 7, 3) := by decide +kernel
theorem dX8_splice_77 : decode cX8_splice 77 = .ok (.iconst 3, 1) := by decide +kernel
theorem dX8_splice_78 : decode cX8_splice 78 = .ok (.goto 4, 3) := by decide +kernel
theorem dX8_splice_81 : decode cX8_splice 81 = .ok (.iconst 0, 1) := by decide +kernel
theorem dX8_splice_82 : decode cX8_splice 82 = .ok (.putfield 34, 3) := by decide +kernel
theorem dX8_splice_85 : decode cX8_splice 85 = .ok (.aload_n 0, 1) := by decide +kernel
theorem dX8_splice_86 : decode cX8_splice 86 = .ok (.getfield 34, 3) := by decide +kernel
theorem dX8_splice_89 : decode cX8_splice 89 = .ok (.ifCond .le 5, 3) := by decide +kernel
theorem dX8_splice_92 : decode cX8_splice 92 = .ok (.iconst 0, 1) := by decide +kernel
theorem dX8_splice_93 : decode cX8_splice 93 = .ok (.ireturn, 1) := by decide +kernel
theorem dX8_splice_94 : decode cX8_splice 94 = .ok (.iload_n 3, 1) := by decide +kernel
theorem dX8_splice_95 : decode cX8_splice 95 = .ok (.ifCond .ne 13, 3) := by decide +kernel
theorem dX8_splice_98 : decode cX8_splice 98 = .ok (.aload_n 0, 1) := by decide +kernel
theorem dX8_splice_99 : decode cX8_splice 99 = .ok (.iload 4, 2) := by decide +kernel
theorem dX8_splice_101 : decode cX8_splice 101 = .ok (.iload_n 2, 1) := by decide +kernel
theorem dX8_splice_102 : decode cX8_splice 102 = .ok (.invokevirtual 107, 3) := by decide +kernel
theorem dX8_splice_105 : decode cX8_splice 105 = .ok (.goto 11, 3) := by decide +kernel
theorem dX8_splice_108 : decode cX8_splice 108 = .ok (.aload_n 0, 1) := by decide +kernel
theorem dX8_splice_109 : decode cX8_splice 109 = .ok (.iload 4, 2) := by decide +kernel
theorem dX8_splice_111 : decode cX8_splice 111 = .ok (.iload_n 2, 1) := by decide +kernel
theorem dX8_splice_112 : decode cX8_splice 112 = .ok (.iload_n 3, 1) := by decide +kernel
theorem dX8_splice_113 : decode cX8_splice 113 = .ok (.invokevirtual 104, 3) := by decide +kernel
theorem dX8_splice_116 : decode cX8_splice 116 = .ok (.ireturn, 1) := by decide +kernel
theorem dX8_addPiece_0 : decode cX8_addPiece 0 = .ok (.iload_n 1, 1) := by decide +kernel
theorem dX8_addPiece_1 : decode cX8_addPiece 1 = .ok (.iconst 0, 1) := by decide +kernel
theorem dX8_addPiece_2 : decode cX8_addPiece 2 = .ok (.sipush 600, 3) := by decide +kernel
theorem dX8_addPiece_5 : decode cX8_addPiece 5 = .ok (.invokestatic 38, 3) := by decide +kernel
theorem dX8_addPiece_8 : decode cX8_addPiece 8 = .ok (.ifCond .eq 30, 3) := by decide +kernel
theorem dX8_addPiece_11 : decode cX8_addPiece 11 = .ok (.iload_n 2, 1) := by decide +kernel
theorem dX8_addPiece_12 : decode cX8_addPiece 12 = .ok (.bipush 10, 2) := by decide +kernel
theorem dX8_addPiece_14 : decode cX8_addPiece 14 = .ok (.sipush 1200, 3) := by decide +kernel
theorem dX8_addPiece_17 : decode cX8_addPiece 17 = .ok (.invokestatic 38, 3) := by decide +kernel
theorem dX8_addPiece_20 : decode cX8_addPiece 20 = .ok (.ifCond .eq 18, 3) := by decide +kernel
theorem dX8_addPiece_23 : decode cX8_addPiece 23 = .ok (.iload_n 3, 1) := by decide +kernel
theorem dX8_addPiece_24 : decode cX8_addPiece 24 = .ok (.iconst 0, 1) := by decide +kernel
theorem dX8_addPiece_25 : decode cX8_addPiece 25 = .ok (.sipush 600, 3) := by decide +kernel
theorem dX8_addPiece_28 : decode cX8_addPiece 28 = .ok (.invokestatic 38, 3) := by decide +kernel
theorem dX8_addPiece_31 : decode cX8_addPiece 31 = .ok (.ifCond .eq 7, 3) := by decide +kernel
theorem dX8_addPiece_34 : decode cX8_addPiece 34 = .ok (.iconst 1, 1) := by decide +kernel
theorem dX8_addPiece_35 : decode cX8_addPiece 35 = .ok (.goto 4, 3) := by decide +kernel
theorem dX8_addPiece_38 : decode cX8_addPiece 38 = .ok (.iconst 0, 1) := by decide +kernel
theorem dX8_addPiece_39 : decode cX8_addPiece 39 = .ok (.istore 4, 2) := by decide +kernel
theorem dX8_addPiece_41 : decode cX8_addPiece 41 = .ok (.aload_n 0, 1) := by decide +kernel
theorem dX8_addPiece_42 : decode cX8_addPiece 42 = .ok (.iload 4, 2) := by decide +kernel
theorem dX8_addPiece_44 : decode cX8_addPiece 44 = .ok (.ifCond .ne 7, 3) := by decide +kernel
theorem dX8_addPiece_47 : decode cX8_addPiece 47 = .ok (.iconst 1, 1) := by decide +kernel
theorem dX8_addPiece_48 : decode cX8_addPiece 48 = .ok (.goto 21, 3) := by decide +kernel
theorem dX8_addPiece_51 : decode cX8_addPiece 51 = .ok (.aload_n 0, 1) := by decide +kernel
theorem dX8_addPiece_52 : decode cX8_addPiece 52 = .ok (.getfield 7, 3) := by decide +kernel
theorem dX8_addPiece_55 : decode cX8_addPiece 55 = .ok (.sipush 201, 3) := by decide +kernel
theorem dX8_addPiece_58 : decode cX8_addPiece 58 = .ok (.iaload, 1) := by decide +kernel
theorem dX8_addPiece_59 : decode cX8_addPiece 59 = .ok (.bipush 8, 2) := by decide +kernel
theorem dX8_addPiece_61 : decode cX8_addPiece 61 = .ok (.if_icmp .ne 7, 3) := by decide +kernel
theorem dX8_addPiece_64 : decode cX8_addPiece 64 = .ok (.iconst 2, 1) := by decide +kernel
theorem dX8_addPiece_65 : decode cX8_addPiece 65 = .ok (.goto 4, 3) := by decide +kernel
theorem dX8_addPiece_68 : decode cX8_addPiece 68 = .ok (.iconst 0, 1) := by decide +kernel
theorem dX8_addPiece_69 : decode cX8_addPiece 69 = .ok (.putfield 34, 3) := by decide +kernel
theorem dX8_addPiece_72 : decode cX8_addPiece 72 = .ok (.aload_n 0, 1) := by decide +kernel
theorem dX8_addPiece_73 : decode cX8_addPiece 73 = .ok (.getfield 34, 3) := by decide +kernel
theorem dX8_addPiece_76 : decode cX8_addPiece 76 = .ok (.ifCond .le 5, 3) := by decide +kernel
theorem dX8_addPiece_79 : decode cX8_addPiece 79 = .ok (.iconst 0, 1) := by decide +kernel
theorem dX8_addPiece_80 : decode cX8_addPiece 80 = .ok (.ireturn, 1) := by decide +kernel
theorem dX8_addPiece_81 : decode cX8_addPiece 81 = .ok (.aload_n 0, 1) := by decide +kernel
theorem dX8_addPiece_82 : decode cX8_addPiece 82 = .ok (.invokevirtual 91, 3) := by decide +kernel
theorem dX8_addPiece_85 : decode cX8_addPiece 85 = .ok (.sipush 202, 3) := by decide +kernel
theorem dX8_addPiece_88 : decode cX8_addPiece 88 = .ok (.iconst 3, 1) := by decide +kernel
theorem dX8_addPiece_89 : decode cX8_addPiece 89 = .ok (.aload_n 0, 1) := by decide +kernel
theorem dX8_addPiece_90 : decode cX8_addPiece 90 = .ok (.getfield 7, 3) := by decide +kernel
theorem dX8_addPiece_93 : decode cX8_addPiece 93 = .ok (.sipush 201, 3) := by decide +kernel
theorem dX8_addPiece_96 : decode cX8_addPiece 96 = .ok (.iaload, 1) := by decide +kernel
theorem dX8_addPiece_97 : decode cX8_addPiece 97 = .ok (.imul, 1) := by decide +kernel
theorem dX8_addPiece_98 : decode cX8_addPiece 98 = .ok (.iadd, 1) := by decide +kernel
theorem dX8_addPiece_99 : decode cX8_addPiece 99 = .ok (.istore 5, 2) := by decide +kernel
theorem dX8_addPiece_101 : decode cX8_addPiece 101 = .ok (.aload_n 0, 1) := by decide +kernel
theorem dX8_addPiece_102 : decode cX8_addPiece 102 = .ok (.getfield 7, 3) := by decide +kernel
theorem dX8_addPiece_105 : decode cX8_addPiece 105 = .ok (.iload 5, 2) := by decide +kernel
theorem dX8_addPiece_107 : decode cX8_addPiece 107 = .ok (.iload_n 1, 1) := by decide +kernel
theorem dX8_addPiece_108 : decode cX8_addPiece 108 = .ok (.iastore, 1) := by decide +kernel
theorem dX8_addPiece_109 : decode cX8_addPiece 109 = .ok (.aload_n 0, 1) := by decide +kernel
theorem dX8_addPiece_110 : decode cX8_addPiece 110 = .ok (.getfield 7, 3) := by decide +kernel
theorem dX8_addPiece_113 : decode cX8_addPiece 113 = .ok (.iload 5, 2) := by decide +kernel
theorem dX8_addPiece_115 : decode cX8_addPiece 115 = .ok (.iconst 1, 1) := by decide +kernel
theorem dX8_addPiece_116 : decode cX8_addPiece 116 = .ok (.iadd, 1) := by decide +kernel
theorem dX8_addPiece_117 : decode cX8_addPiece 117 = .ok (.iload_n 2, 1) := by decide +kernel
theorem dX8_addPiece_118 : decode cX8_addPiece 118 = .ok (.iastore, 1) := by decide +kernel
theorem dX8_addPiece_119 : decode cX8_addPiece 119 = .ok (.aload_n 0, 1) := by decide +kernel
theorem dX8_addPiece_120 : decode cX8_addPiece 120 = .ok (.getfield 7, 3) := by decide +kernel
theorem dX8_addPiece_123 : decode cX8_addPiece 123 = .ok (.iload 5, 2) := by decide +kernel
theorem dX8_addPiece_125 : decode cX8_addPiece 125 = .ok (.iconst 2, 1) := by decide +kernel
theorem dX8_addPiece_126 : decode cX8_addPiece 126 = .ok (.iadd, 1) := by decide +kernel
theorem dX8_addPiece_127 : decode cX8_addPiece 127 = .ok (.iload_n 3, 1) := by decide +kernel
theorem dX8_addPiece_128 : decode cX8_addPiece 128 = .ok (.iastore, 1) := by decide +kernel
theorem dX8_addPiece_129 : decode cX8_addPiece 129 = .ok (.aload_n 0, 1) := by decide +kernel
theorem dX8_addPiece_130 : decode cX8_addPiece 130 = .ok (.getfield 7, 3) := by decide +kernel
theorem dX8_addPiece_133 : decode cX8_addPiece 133 = .ok (.sipush 201, 3) := by decide +kernel
theorem dX8_addPiece_136 : decode cX8_addPiece 136 = .ok (.dup2, 1) := by decide +kernel
theorem dX8_addPiece_137 : decode cX8_addPiece 137 = .ok (.iaload, 1) := by decide +kernel
theorem dX8_addPiece_138 : decode cX8_addPiece 138 = .ok (.iconst 1, 1) := by decide +kernel
theorem dX8_addPiece_139 : decode cX8_addPiece 139 = .ok (.iadd, 1) := by decide +kernel
theorem dX8_addPiece_140 : decode cX8_addPiece 140 = .ok (.iastore, 1) := by decide +kernel
theorem dX8_addPiece_141 : decode cX8_addPiece 141 = .ok (.aload_n 0, 1) := by decide +kernel
theorem dX8_addPiece_142 : decode cX8_addPiece 142 = .ok (.getfield 7, 3) := by decide +kernel
theorem dX8_addPiece_145 : decode cX8_addPiece 145 = .ok (.sipush 201, 3) := by decide +kernel
theorem dX8_addPiece_148 : decode cX8_addPiece 148 = .ok (.iaload, 1) := by decide +kernel
theorem dX8_addPiece_149 : decode cX8_addPiece 149 = .ok (.iconst 1, 1) := by decide +kernel
theorem dX8_addPiece_150 : decode cX8_addPiece 150 = .ok (.isub, 1) := by decide +kernel
theorem dX8_addPiece_151 : decode cX8_addPiece 151 = .ok (.ireturn, 1) := by decide +kernel
theorem dX8_setCue_0 : decode cX8_setCue 0 = .ok (.aload_n 0, 1) := by decide +kernel
theorem dX8_setCue_1 : decode cX8_setCue 1 = .ok (.iload_n 1, 1) := by decide +kernel
theorem dX8_setCue_2 : decode cX8_setCue 2 = .ok (.iload_n 2, 1) := by decide +kernel
theorem dX8_setCue_3 : decode cX8_setCue 3 = .ok (.invokevirtual 98, 3) := by decide +kernel
theorem dX8_setCue_6 : decode cX8_setCue 6 = .ok (.ifCond .eq 21, 3) := by decide +kernel
theorem dX8_setCue_9 : decode cX8_setCue 9 = .ok (.iload_n 3, 1) := by decide +kernel
theorem dX8_setCue_10 : decode cX8_setCue 10 = .ok (.ldc 62, 2) := by decide +kernel
theorem dX8_setCue_12 : decode cX8_setCue 12 = .ok (.if_icmp .eq 11, 3) := by decide +kernel
theorem dX8_setCue_15 : decode cX8_setCue 15 = .ok (.aload_n 0, 1) := by decide +kernel
theorem dX8_setCue_16 : decode cX8_setCue 16 = .ok (.iload_n 3, 1) := by decide +kernel
theorem dX8_setCue_17 : decode cX8_setCue 17 = .ok (.invokevirtual 110, 3) := by decide +kernel
theorem dX8_setCue_20 : decode cX8_setCue 20 = .ok (.ifCond .eq 7, 3) := by decide +kernel
theorem dX8_setCue_23 : decode cX8_setCue 23 = .ok (.iconst 1, 1) := by decide +kernel
theorem dX8_setCue_24 : decode cX8_setCue 24 = .ok (.goto 4, 3) := by decide +kernel
theorem dX8_setCue_27 : decode cX8_setCue 27 = .ok (.iconst 0, 1) := by decide +kernel
theorem dX8_setCue_28 : decode cX8_setCue 28 = .ok (.istore 6, 2) := by decide +kernel
theorem dX8_setCue_30 : decode cX8_setCue 30 = .ok (.aload_n 0, 1) := by decide +kernel
theorem dX8_setCue_31 : decode cX8_setCue 31 = .ok (.iload 6, 2) := by decide +kernel
theorem dX8_setCue_33 : decode cX8_setCue 33 = .ok (.ifCond .ne 7, 3) := by decide +kernel
theorem dX8_setCue_36 : decode cX8_setCue 36 = .ok (.iconst 1, 1) := by decide +kernel
theorem dX8_setCue_37 : decode cX8_setCue 37 = .ok (.goto 31, 3) := by decide +kernel
theorem dX8_setCue_40 : decode cX8_setCue 40 = .ok (.iload 4, 2) := by decide +kernel
theorem dX8_setCue_42 : decode cX8_setCue 42 = .ok (.iconst 1, 1) := by decide +kernel
theorem dX8_setCue_43 : decode cX8_setCue 43 = .ok (.bipush 9, 2) := by decide +kernel
theorem dX8_setCue_45 : decode cX8_setCue 45 = .ok (.invokestatic 38, 3) := by decide +kernel
theorem dX8_setCue_48 : decode cX8_setCue 48 = .ok (.ifCond .eq 19, 3) := by decide +kernel
theorem dX8_setCue_51 : decode cX8_setCue 51 = .ok (.iload 5, 2) := by decide +kernel
theorem dX8_setCue_53 : decode cX8_setCue 53 = .ok (.bipush 80, 2) := by decide +kernel
theorem dX8_setCue_55 : decode cX8_setCue 55 = .ok (.bipush 120, 2) := by decide +kernel
theorem dX8_setCue_57 : decode cX8_setCue 57 = .ok (.invokestatic 38, 3) := by decide +kernel
theorem dX8_setCue_60 : decode cX8_setCue 60 = .ok (.ifCond .eq 7, 3) := by decide +kernel
theorem dX8_setCue_63 : decode cX8_setCue 63 = .ok (.iconst 0, 1) := by decide +kernel
theorem dX8_setCue_64 : decode cX8_setCue 64 = .ok (.goto 4, 3) := by decide +kernel
theorem dX8_setCue_67 : decode cX8_setCue 67 = .ok (.iconst 2, 1) := by decide +kernel
theorem dX8_setCue_68 : decode cX8_setCue 68 = .ok (.putfield 34, 3) := by decide +kernel
theorem dX8_setCue_71 : decode cX8_setCue 71 = .ok (.aload_n 0, 1) := by decide +kernel
theorem dX8_setCue_72 : decode cX8_setCue 72 = .ok (.getfield 34, 3) := by decide +kernel
theorem dX8_setCue_75 : decode cX8_setCue 75 = .ok (.ifCond .le 5, 3) := by decide +kernel
theorem dX8_setCue_78 : decode cX8_setCue 78 = .ok (.iconst 0, 1) := by decide +kernel
theorem dX8_setCue_79 : decode cX8_setCue 79 = .ok (.ireturn, 1) := by decide +kernel
theorem dX8_setCue_80 : decode cX8_setCue 80 = .ok (.aload_n 0, 1) := by decide +kernel
theorem dX8_setCue_81 : decode cX8_setCue 81 = .ok (.invokevirtual 91, 3) := by decide +kernel
theorem dX8_setCue_84 : decode cX8_setCue 84 = .ok (.bipush 67, 2) := by decide +kernel
theorem dX8_setCue_86 : decode cX8_setCue 86 = .ok (.iload_n 1, 1) := by decide +kernel
theorem dX8_setCue_87 : decode cX8_setCue 87 = .ok (.imul, 1) := by decide +kernel
theorem dX8_setCue_88 : decode cX8_setCue 88 = .ok (.iconst 1, 1) := by decide +kernel
theorem dX8_setCue_89 : decode cX8_setCue 89 = .ok (.iadd, 1) := by decide +kernel
theorem dX8_setCue_90 : decode cX8_setCue 90 = .ok (.iconst 4, 1) := by decide +kernel
theorem dX8_setCue_91 : decode cX8_setCue 91 = .ok (.iload_n 2, 1) := by decide +kernel
theorem dX8_setCue_92 : decode cX8_setCue 92 = .ok (.imul, 1) := by decide +kernel
theorem dX8_setCue_93 : decode cX8_setCue 93 = .ok (.iadd, 1) := by decide +kernel
theorem dX8_setCue_94 : decode cX8_setCue 94 = .ok (.istore 7, 2) := by decide +kernel
theorem dX8_setCue_96 : decode cX8_setCue 96 = .ok (.aload_n 0, 1) := by decide +kernel
theorem dX8_setCue_97 : decode cX8_setCue 97 = .ok (.getfield 7, 3) := by decide +kernel
theorem dX8_setCue_100 : decode cX8_setCue 100 = .ok (.iload 7, 2) := by decide +kernel
theorem dX8_setCue_102 : decode cX8_setCue 102 = .ok (.iconst 1, 1) := by decide +kernel
theorem dX8_setCue_103 : decode cX8_setCue 103 = .ok (.iadd, 1) := by decide +kernel
theorem dX8_setCue_104 : decode cX8_setCue 104 = .ok (.iload_n 3, 1) := by decide +kernel
theorem dX8_setCue_105 : decode cX8_setCue 105 = .ok (.iastore, 1) := by decide +kernel
theorem dX8_setCue_106 : decode cX8_setCue 106 = .ok (.aload_n 0, 1) := by decide +kernel
theorem dX8_setCue_107 : decode cX8_setCue 107 = .ok (.getfield 7, 3) := by decide +kernel
theorem dX8_setCue_110 : decode cX8_setCue 110 = .ok (.iload 7, 2) := by decide +kernel
theorem dX8_setCue_112 : decode cX8_setCue 112 = .ok (.iconst 2, 1) := by decide +kernel
theorem dX8_setCue_113 : decode cX8_setCue 113 = .ok (.iadd, 1) := by decide +kernel
theorem dX8_setCue_114 : decode cX8_setCue 114 = .ok (.iload 4, 2) := by decide +kernel
theorem dX8_setCue_116 : decode cX8_setCue 116 = .ok (.iastore, 1) := by decide +kernel
theorem dX8_setCue_117 : decode cX8_setCue 117 = .ok (.aload_n 0, 1) := by decide +kernel
theorem dX8_setCue_118 : decode cX8_setCue 118 = .ok (.getfield 7, 3) := by decide +kernel
theorem dX8_setCue_121 : decode cX8_setCue 121 = .ok (.iload 7, 2) := by decide +kernel
theorem dX8_setCue_123 : decode cX8_setCue 123 = .ok (.iconst 3, 1) := by decide +kernel
theorem dX8_setCue_124 : decode cX8_setCue 124 = .ok (.iadd, 1) := by decide +kernel
theorem dX8_setCue_125 : decode cX8_setCue 125 = .ok (.iload 5, 2) := by decide +kernel
theorem dX8_setCue_127 : decode cX8_setCue 127 = .ok (.iastore, 1) := by decide +kernel
theorem dX8_setCue_128 : decode cX8_setCue 128 = .ok (.aload_n 0, 1) := by decide +kernel
theorem dX8_setCue_129 : decode cX8_setCue 129 = .ok (.iload_n 1, 1) := by decide +kernel
theorem dX8_setCue_130 : decode cX8_setCue 130 = .ok (.iconst 0, 1) := by decide +kernel
theorem dX8_setCue_131 : decode cX8_setCue 131 = .ok (.invokevirtual 113, 3) := by decide +kernel
theorem dX8_setCue_134 : decode cX8_setCue 134 = .ok (.aload_n 0, 1) := by decide +kernel
theorem dX8_setCue_135 : decode cX8_setCue 135 = .ok (.iload_n 1, 1) := by decide +kernel
theorem dX8_setCue_136 : decode cX8_setCue 136 = .ok (.iload_n 2, 1) := by decide +kernel
theorem dX8_setCue_137 : decode cX8_setCue 137 = .ok (.invokevirtual 76, 3) := by decide +kernel
theorem dX8_setCue_140 : decode cX8_setCue 140 = .ok (.ireturn, 1) := by decide +kernel
theorem dX8_fit_0 : decode cX8_fit 0 = .ok (.aload_n 0, 1) := by decide +kernel
theorem dX8_fit_1 : decode cX8_fit 1 = .ok (.iload_n 1, 1) := by decide +kernel
theorem dX8_fit_2 : decode cX8_fit 2 = .ok (.invokestatic 42, 3) := by decide +kernel
theorem dX8_fit_5 : decode cX8_fit 5 = .ok (.ifCond .eq 7, 3) := by decide +kernel
theorem dX8_fit_8 : decode cX8_fit 8 = .ok (.iconst 0, 1) := by decide +kernel
theorem dX8_fit_9 : decode cX8_fit 9 = .ok (.goto 4, 3) := by decide +kernel
theorem dX8_fit_12 : decode cX8_fit 12 = .ok (.iconst 1, 1) := by decide +kernel
theorem dX8_fit_13 : decode cX8_fit 13 = .ok (.putfield 34, 3) := by decide +kernel
theorem dX8_fit_16 : decode cX8_fit 16 = .ok (.aload_n 0, 1) := by decide +kernel
theorem dX8_fit_17 : decode cX8_fit 17 = .ok (.getfield 34, 3) := by decide +kernel
theorem dX8_fit_20 : decode cX8_fit 20 = .ok (.ifCond .le 5, 3) := by decide +kernel
theorem dX8_fit_23 : decode cX8_fit 23 = .ok (.iconst 0, 1) := by decide +kernel
theorem dX8_fit_24 : decode cX8_fit 24 = .ok (.ireturn, 1) := by decide +kernel
theorem dX8_fit_25 : decode cX8_fit 25 = .ok (.aload_n 0, 1) := by decide +kernel
theorem dX8_fit_26 : decode cX8_fit 26 = .ok (.invokevirtual 91, 3) := by decide +kernel
theorem dX8_fit_29 : decode cX8_fit 29 = .ok (.aload_n 0, 1) := by decide +kernel
theorem dX8_fit_30 : decode cX8_fit 30 = .ok (.iload_n 1, 1) := by decide +kernel
theorem dX8_fit_31 : decode cX8_fit 31 = .ok (.iconst 0, 1) := by decide +kernel
theorem dX8_fit_32 : decode cX8_fit 32 = .ok (.invokevirtual 113, 3) := by decide +kernel
theorem dX8_fit_35 : decode cX8_fit 35 = .ok (.iconst 0, 1) := by decide +kernel
theorem dX8_fit_36 : decode cX8_fit 36 = .ok (.istore_n 2, 1) := by decide +kernel
theorem dX8_fit_37 : decode cX8_fit 37 = .ok (.iconst 0, 1) := by decide +kernel
theorem dX8_fit_38 : decode cX8_fit 38 = .ok (.istore_n 3, 1) := by decide +kernel
theorem dX8_fit_39 : decode cX8_fit 39 = .ok (.iload_n 3, 1) := by decide +kernel
theorem dX8_fit_40 : decode cX8_fit 40 = .ok (.aload_n 0, 1) := by decide +kernel
theorem dX8_fit_41 : decode cX8_fit 41 = .ok (.iload_n 1, 1) := by decide +kernel
theorem dX8_fit_42 : decode cX8_fit 42 = .ok (.invokevirtual 46, 3) := by decide +kernel
theorem dX8_fit_45 : decode cX8_fit 45 = .ok (.if_icmp .ge 120, 3) := by decide +kernel
theorem dX8_fit_48 : decode cX8_fit 48 = .ok (.aload_n 0, 1) := by decide +kernel
theorem dX8_fit_49 : decode cX8_fit 49 = .ok (.iload_n 1, 1) := by decide +kernel
theorem dX8_fit_50 : decode cX8_fit 50 = .ok (.iload_n 3, 1) := by decide +kernel
theorem dX8_fit_51 : decode cX8_fit 51 = .ok (.iconst 1, 1) := by decide +kernel
theorem dX8_fit_52 : decode cX8_fit 52 = .ok (.invokevirtual 50, 3) := by decide +kernel
theorem dX8_fit_55 : decode cX8_fit 55 = .ok (.ldc 62, 2) := by decide +kernel
theorem dX8_fit_57 : decode cX8_fit 57 = .ok (.if_icmp .eq 102, 3) := by decide +kernel
theorem dX8_fit_60 : decode cX8_fit 60 = .ok (.aload_n 0, 1) := by decide +kernel
theorem dX8_fit_61 : decode cX8_fit 61 = .ok (.iload_n 1, 1) := by decide +kernel
theorem dX8_fit_62 : decode cX8_fit 62 = .ok (.iload_n 3, 1) := by decide +kernel
theorem dX8_fit_63 : decode cX8_fit 63 = .ok (.aload_n 0, 1) := by decide +kernel
theorem dX8_fit_64 : decode cX8_fit 64 = .ok (.iload_n 1, 1) := by decide +kernel
theorem dX8_fit_65 : decode cX8_fit 65 = .ok (.iload_n 3, 1) := by decide +kernel
theorem dX8_fit_66 : decode cX8_fit 66 = .ok (.iconst 1, 1) := by decide +kernel
theorem dX8_fit_67 : decode cX8_fit 67 = .ok (.invokevirtual 50, 3) := by decide +kernel
theorem dX8_fit_70 : decode cX8_fit 70 = .ok (.invokevirtual 116, 3) := by decide +kernel
theorem dX8_fit_73 : decode cX8_fit 73 = .ok (.istore 4, 2) := by decide +kernel
theorem dX8_fit_75 : decode cX8_fit 75 = .ok (.iload_n 2, 1) := by decide +kernel
theorem dX8_fit_76 : decode cX8_fit 76 = .ok (.iload 4, 2) := by decide +kernel
theorem dX8_fit_78 : decode cX8_fit 78 = .ok (.sipush 1000, 3) := by decide +kernel
theorem dX8_fit_81 : decode cX8_fit 81 = .ok (.aload_n 0, 1) := by decide +kernel
theorem dX8_fit_82 : decode cX8_fit 82 = .ok (.iload_n 1, 1) := by decide +kernel
theorem dX8_fit_83 : decode cX8_fit 83 = .ok (.iload_n 3, 1) := by decide +kernel
theorem dX8_fit_84 : decode cX8_fit 84 = .ok (.iconst 2, 1) := by decide +kernel
theorem dX8_fit_85 : decode cX8_fit 85 = .ok (.invokevirtual 50, 3) := by decide +kernel
theorem dX8_fit_88 : decode cX8_fit 88 = .ok (.imul, 1) := by decide +kernel
theorem dX8_fit_89 : decode cX8_fit 89 = .ok (.aload_n 0, 1) := by decide +kernel
theorem dX8_fit_90 : decode cX8_fit 90 = .ok (.iload_n 1, 1) := by decide +kernel
theorem dX8_fit_91 : decode cX8_fit 91 = .ok (.iload_n 3, 1) := by decide +kernel
theorem dX8_fit_92 : decode cX8_fit 92 = .ok (.iconst 3, 1) := by decide +kernel
theorem dX8_fit_93 : decode cX8_fit 93 = .ok (.invokevirtual 50, 3) := by decide +kernel
theorem dX8_fit_96 : decode cX8_fit 96 = .ok (.iadd, 1) := by decide +kernel
theorem dX8_fit_97 : decode cX8_fit 97 = .ok (.if_icmp .ne 7, 3) := by decide +kernel
theorem dX8_fit_100 : decode cX8_fit 100 = .ok (.iconst 0, 1) := by decide +kernel
theorem dX8_fit_101 : decode cX8_fit 101 = .ok (.goto 4, 3) := by decide +kernel
theorem dX8_fit_104 : decode cX8_fit 104 = .ok (.iconst 1, 1) := by decide +kernel
theorem dX8_fit_105 : decode cX8_fit 105 = .ok (.iadd, 1) := by decide +kernel
theorem dX8_fit_106 : decode cX8_fit 106 = .ok (.istore_n 2, 1) := by decide +kernel
theorem dX8_fit_107 : decode cX8_fit 107 = .ok (.aload_n 0, 1) := by decide +kernel
theorem dX8_fit_108 : decode cX8_fit 108 = .ok (.getfield 7, 3) := by decide +kernel
theorem dX8_fit_111 : decode cX8_fit 111 = .ok (.bipush 67, 2) := by decide +kernel
theorem dX8_fit_113 : decode cX8_fit 113 = .ok (.iload_n 1, 1) := by decide +kernel
theorem dX8_fit_114 : decode cX8_fit 114 = .ok (.imul, 1) := by decide +kernel
theorem dX8_fit_115 : decode cX8_fit 115 = .ok (.iconst 1, 1) := by decide +kernel
theorem dX8_fit_116 : decode cX8_fit 116 = .ok (.iadd, 1) := by decide +kernel
theorem dX8_fit_117 : decode cX8_fit 117 = .ok (.iconst 4, 1) := by decide +kernel
theorem dX8_fit_118 : decode cX8_fit 118 = .ok (.iload_n 3, 1) := by decide +kernel
theorem dX8_fit_119 : decode cX8_fit 119 = .ok (.imul, 1) := by decide +kernel
theorem dX8_fit_120 : decode cX8_fit 120 = .ok (.iadd, 1) := by decide +kernel
theorem dX8_fit_121 : decode cX8_fit 121 = .ok (.iconst 2, 1) := by decide +kernel
theorem dX8_fit_122 : decode cX8_fit 122 = .ok (.iadd, 1) := by decide +kernel
theorem dX8_fit_123 : decode cX8_fit 123 = .ok (.iload 4, 2) := by decide +kernel
theorem dX8_fit_125 : decode cX8_fit 125 = .ok (.sipush 1000, 3) := by decide +kernel
theorem dX8_fit_128 : decode cX8_fit 128 = .ok (.idiv, 1) := by decide +kernel
theorem dX8_fit_129 : decode cX8_fit 129 = .ok (.iastore, 1) := by decide +kernel
theorem dX8_fit_130 : decode cX8_fit 130 = .ok (.aload_n 0, 1) := by decide +kernel
theorem dX8_fit_131 : decode cX8_fit 131 = .ok (.getfield 7, 3) := by decide +kernel
theorem dX8_fit_134 : decode cX8_fit 134 = .ok (.bipush 67, 2) := by decide +kernel
theorem dX8_fit_136 : decode cX8_fit 136 = .ok (.iload_n 1, 1) := by decide +kernel
theorem dX8_fit_137 : decode cX8_fit 137 = .ok (.imul, 1) := by decide +kernel
theorem dX8_fit_138 : decode cX8_fit 138 = .ok (.iconst 1, 1) := by decide +kernel
theorem dX8_fit_139 : decode cX8_fit 139 = .ok (.iadd, 1) := by decide +kernel
theorem dX8_fit_140 : decode cX8_fit 140 = .ok (.iconst 4, 1) := by decide +kernel
theorem dX8_fit_141 : decode cX8_fit 141 = .ok (.iload_n 3, 1) := by decide +kernel
theorem dX8_fit_142 : decode cX8_fit 142 = .ok (.imul, 1) := by decide +kernel
theorem dX8_fit_143 : decode cX8_fit 143 = .ok (.iadd, 1) := by decide +kernel
theorem dX8_fit_144 : decode cX8_fit 144 = .ok (.iconst 3, 1) := by decide +kernel
theorem dX8_fit_145 : decode cX8_fit 145 = .ok (.iadd, 1) := by decide +kernel
theorem dX8_fit_146 : decode cX8_fit 146 = .ok (.iload 4, 2) := by decide +kernel
theorem dX8_fit_148 : decode cX8_fit 148 = .ok (.sipush 1000, 3) := by decide +kernel
theorem dX8_fit_151 : decode cX8_fit 151 = .ok (.irem, 1) := by decide +kernel
theorem dX8_fit_152 : decode cX8_fit 152 = .ok (.iastore, 1) := by decide +kernel
theorem dX8_fit_153 : decode cX8_fit 153 = .ok (.aload_n 0, 1) := by decide +kernel
theorem dX8_fit_154 : decode cX8_fit 154 = .ok (.iload_n 1, 1) := by decide +kernel
theorem dX8_fit_155 : decode cX8_fit 155 = .ok (.iload_n 3, 1) := by decide +kernel
theorem dX8_fit_156 : decode cX8_fit 156 = .ok (.invokevirtual 73, 3) := by decide +kernel
theorem dX8_fit_159 : decode cX8_fit 159 = .ok (.iinc 3 1, 3) := by decide +kernel
theorem dX8_fit_162 : decode cX8_fit 162 = .ok (.goto (-123), 3) := by decide +kernel
theorem dX8_fit_165 : decode cX8_fit 165 = .ok (.iload_n 2, 1) := by decide +kernel
theorem dX8_fit_166 : decode cX8_fit 166 = .ok (.ireturn, 1) := by decide +kernel
theorem dX8_set_0 : decode cX8_set 0 = .ok (.aload_n 0, 1) := by decide +kernel
theorem dX8_set_1 : decode cX8_set 1 = .ok (.iload_n 1, 1) := by decide +kernel
theorem dX8_set_2 : decode cX8_set 2 = .ok (.iconst 0, 1) := by decide +kernel
theorem dX8_set_3 : decode cX8_set 3 = .ok (.sipush 600, 3) := by decide +kernel
theorem dX8_set_6 : decode cX8_set 6 = .ok (.invokestatic 38, 3) := by decide +kernel
theorem dX8_set_9 : decode cX8_set 9 = .ok (.ifCond .eq 17, 3) := by decide +kernel
theorem dX8_set_12 : decode cX8_set 12 = .ok (.iload_n 2, 1) := by decide +kernel
theorem dX8_set_13 : decode cX8_set 13 = .ok (.iconst 0, 1) := by decide +kernel
theorem dX8_set_14 : decode cX8_set 14 = .ok (.bipush 20, 2) := by decide +kernel
theorem dX8_set_16 : decode cX8_set 16 = .ok (.invokestatic 38, 3) := by decide +kernel
theorem dX8_set_19 : decode cX8_set 19 = .ok (.ifCond .eq 7, 3) := by decide +kernel
theorem dX8_set_22 : decode cX8_set 22 = .ok (.iconst 0, 1) := by decide +kernel
theorem dX8_set_23 : decode cX8_set 23 = .ok (.goto 4, 3) := by decide +kernel
theorem dX8_set_26 : decode cX8_set 26 = .ok (.iconst 1, 1) := by decide +kernel
theorem dX8_set_27 : decode cX8_set 27 = .ok (.putfield 34, 3) := by decide +kernel
theorem dX8_set_30 : decode cX8_set 30 = .ok (.aload_n 0, 1) := by decide +kernel
theorem dX8_set_31 : decode cX8_set 31 = .ok (.getfield 34, 3) := by decide +kernel
theorem dX8_set_34 : decode cX8_set 34 = .ok (.ifCond .le 5, 3) := by decide +kernel
theorem dX8_set_37 : decode cX8_set 37 = .ok (.iconst 0, 1) := by decide +kernel
theorem dX8_set_38 : decode cX8_set 38 = .ok (.ireturn, 1) := by decide +kernel
theorem dX8_set_39 : decode cX8_set 39 = .ok (.aload_n 0, 1) := by decide +kernel
theorem dX8_set_40 : decode cX8_set 40 = .ok (.invokevirtual 91, 3) := by decide +kernel
theorem dX8_set_43 : decode cX8_set 43 = .ok (.bipush 100, 2) := by decide +kernel
theorem dX8_set_45 : decode cX8_set 45 = .ok (.aload_n 0, 1) := by decide +kernel
theorem dX8_set_46 : decode cX8_set 46 = .ok (.getfield 7, 3) := by decide +kernel
theorem dX8_set_49 : decode cX8_set 49 = .ok (.sipush 226, 3) := by decide +kernel
theorem dX8_set_52 : decode cX8_set 52 = .ok (.iaload, 1) := by decide +kernel
theorem dX8_set_53 : decode cX8_set 53 = .ok (.imul, 1) := by decide +kernel
theorem dX8_set_54 : decode cX8_set 54 = .ok (.aload_n 0, 1) := by decide +kernel
theorem dX8_set_55 : decode cX8_set 55 = .ok (.getfield 7, 3) := by decide +kernel
theorem dX8_set_58 : decode cX8_set 58 = .ok (.sipush 227, 3) := by decide +kernel
theorem dX8_set_61 : decode cX8_set 61 = .ok (.iaload, 1) := by decide +kernel
theorem dX8_set_62 : decode cX8_set 62 = .ok (.iadd, 1) := by decide +kernel
theorem dX8_set_63 : decode cX8_set 63 = .ok (.istore_n 3, 1) := by decide +kernel
theorem dX8_set_64 : decode cX8_set 64 = .ok (.aload_n 0, 1) := by decide +kernel
theorem dX8_set_65 : decode cX8_set 65 = .ok (.getfield 7, 3) := by decide +kernel
theorem dX8_set_68 : decode cX8_set 68 = .ok (.sipush 226, 3) := by decide +kernel
theorem dX8_set_71 : decode cX8_set 71 = .ok (.iload_n 1, 1) := by decide +kernel
theorem dX8_set_72 : decode cX8_set 72 = .ok (.iastore, 1) := by decide +kernel
theorem dX8_set_73 : decode cX8_set 73 = .ok (.aload_n 0, 1) := by decide +kernel
theorem dX8_set_74 : decode cX8_set 74 = .ok (.getfield 7, 3) := by decide +kernel
theorem dX8_set_77 : decode cX8_set 77 = .ok (.sipush 227, 3) := by decide +kernel
theorem dX8_set_80 : decode cX8_set 80 = .ok (.iload_n 2, 1) := by decide +kernel
theorem dX8_set_81 : decode cX8_set 81 = .ok (.iastore, 1) := by decide +kernel
theorem dX8_set_82 : decode cX8_set 82 = .ok (.iload_n 3, 1) := by decide +kernel
theorem dX8_set_83 : decode cX8_set 83 = .ok (.ireturn, 1) := by decide +kernel
theorem dX8_append_0 : decode cX8_append 0 = .ok (.aload_n 0, 1) := by decide +kernel
theorem dX8_append_1 : decode cX8_append 1 = .ok (.iload_n 1, 1) := by decide +kernel
theorem dX8_append_2 : decode cX8_append 2 = .ok (.bipush 33, 2) := by decide +kernel
theorem dX8_append_4 : decode cX8_append 4 = .ok (.bipush 126, 2) := by decide +kernel
theorem dX8_append_6 : decode cX8_append 6 = .ok (.invokestatic 38, 3) := by decide +kernel
theorem dX8_append_9 : decode cX8_append 9 = .ok (.ifCond .ne 7, 3) := by decide +kernel
theorem dX8_append_12 : decode cX8_append 12 = .ok (.iconst 1, 1) := by decide +kernel
theorem dX8_append_13 : decode cX8_append 13 = .ok (.goto 17, 3) := by decide +kernel
theorem dX8_append_16 : decode cX8_append 16 = .ok (.aload_n 0, 1) := by decide +kernel
theorem dX8_append_17 : decode cX8_append 17 = .ok (.getfield 119, 3) := by decide +kernel
theorem dX8_append_20 : decode cX8_append 20 = .ok (.bipush 60, 2) := by decide +kernel
theorem dX8_append_22 : decode cX8_append 22 = .ok (.if_icmp .ne 7, 3) := by decide +kernel
theorem dX8_append_25 : decode cX8_append 25 = .ok (.iconst 2, 1) := by decide +kernel
theorem dX8_append_26 : decode cX8_append 26 = .ok (.goto 4, 3) := by decide +kernel
theorem dX8_append_29 : decode cX8_append 29 = .ok (.iconst 0, 1) := by decide +kernel
theorem dX8_append_30 : decode cX8_append 30 = .ok (.putfield 34, 3) := by decide +kernel
theorem dX8_append_33 : decode cX8_append 33 = .ok (.aload_n 0, 1) := by decide +kernel
theorem dX8_append_34 : decode cX8_append 34 = .ok (.getfield 34, 3) := by decide +kernel
theorem dX8_append_37 : decode cX8_append 37 = .ok (.ifCond .le 5, 3) := by decide +kernel
theorem dX8_append_40 : decode cX8_append 40 = .ok (.iconst 0, 1) := by decide +kernel
theorem dX8_append_41 : decode cX8_append 41 = .ok (.ireturn, 1) := by decide +kernel
theorem dX8_append_42 : decode cX8_append 42 = .ok (.aload_n 0, 1) := by decide +kernel
theorem dX8_append_43 : decode cX8_append 43 = .ok (.getfield 16, 3) := by decide +kernel
theorem dX8_append_46 : decode cX8_append 46 = .ok (.aload_n 0, 1) := by decide +kernel
theorem dX8_append_47 : decode cX8_append 47 = .ok (.getfield 119, 3) := by decide +kernel
theorem dX8_append_50 : decode cX8_append 50 = .ok (.iload_n 1, 1) := by decide +kernel
theorem dX8_append_51 : decode cX8_append 51 = .ok (.iastore, 1) := by decide +kernel
theorem dX8_append_52 : decode cX8_append 52 = .ok (.aload_n 0, 1) := by decide +kernel
theorem dX8_append_53 : decode cX8_append 53 = .ok (.dup, 1) := by decide +kernel
theorem dX8_append_54 : decode cX8_append 54 = .ok (.getfield 119, 3) := by decide +kernel
theorem dX8_append_57 : decode cX8_append 57 = .ok (.iconst 1, 1) := by decide +kernel
theorem dX8_append_58 : decode cX8_append 58 = .ok (.iadd, 1) := by decide +kernel
theorem dX8_append_59 : decode cX8_append 59 = .ok (.putfield 119, 3) := by decide +kernel
theorem dX8_append_62 : decode cX8_append 62 = .ok (.aload_n 0, 1) := by decide +kernel
theorem dX8_append_63 : decode cX8_append 63 = .ok (.getfield 119, 3) := by decide +kernel
theorem dX8_append_66 : decode cX8_append 66 = .ok (.ireturn, 1) := by decide +kernel
theorem dX8_clearBuffer_0 : decode cX8_clearBuffer 0 = .ok (.aload_n 0, 1) := by decide +kernel
