theorem dX8_clearBuffer_1 : decode cX8_clearBuffer 1 = .ok (.iconst 0, 1) := by decide +kernel
theorem dX8_clearBuffer_2 : decode cX8_clearBuffer 2 = .ok (.putfield 34, 3) := by decide +kernel
theorem dX8_clearBuffer_5 : decode cX8_clearBuffer 5 = .ok (.aload_n 0, 1) := by decide +kernel
theorem dX8_clearBuffer_6 : decode cX8_clearBuffer 6 = .ok (.getfield 119, 3) := by decide +kernel
theorem dX8_clearBuffer_9 : decode cX8_clearBuffer 9 = .ok (.istore_n 1, 1) := by decide +kernel
theorem dX8_clearBuffer_10 : decode cX8_clearBuffer 10 = .ok (.aload_n 0, 1) := by decide +kernel
theorem dX8_clearBuffer_11 : decode cX8_clearBuffer 11 = .ok (.iconst 0, 1) := by decide +kernel
theorem dX8_clearBuffer_12 : decode cX8_clearBuffer 12 = .ok (.putfield 119, 3) := by decide +kernel
theorem dX8_clearBuffer_15 : decode cX8_clearBuffer 15 = .ok (.iload_n 1, 1) := by decide +kernel
theorem dX8_clearBuffer_16 : decode cX8_clearBuffer 16 = .ok (.ireturn, 1) := by decide +kernel
theorem dX8_beginEntry_0 : decode cX8_beginEntry 0 = .ok (.aload_n 0, 1) := by decide +kernel
theorem dX8_beginEntry_1 : decode cX8_beginEntry 1 = .ok (.iconst 0, 1) := by decide +kernel
theorem dX8_beginEntry_2 : decode cX8_beginEntry 2 = .ok (.putfield 122, 3) := by decide +kernel
theorem dX8_beginEntry_5 : decode cX8_beginEntry 5 = .ok (.aload_n 0, 1) := by decide +kernel
theorem dX8_beginEntry_6 : decode cX8_beginEntry 6 = .ok (.iconst 0, 1) := by decide +kernel
theorem dX8_beginEntry_7 : decode cX8_beginEntry 7 = .ok (.putfield 125, 3) := by decide +kernel
theorem dX8_beginEntry_10 : decode cX8_beginEntry 10 = .ok (.aload_n 0, 1) := by decide +kernel
theorem dX8_beginEntry_11 : decode cX8_beginEntry 11 = .ok (.getfield 31, 3) := by decide +kernel
theorem dX8_beginEntry_14 : decode cX8_beginEntry 14 = .ok (.iconst 4, 1) := by decide +kernel
theorem dX8_beginEntry_15 : decode cX8_beginEntry 15 = .ok (.aload_n 0, 1) := by decide +kernel
theorem dX8_beginEntry_16 : decode cX8_beginEntry 16 = .ok (.getfield 128, 3) := by decide +kernel
theorem dX8_beginEntry_19 : decode cX8_beginEntry 19 = .ok (.imul, 1) := by decide +kernel
theorem dX8_beginEntry_20 : decode cX8_beginEntry 20 = .ok (.iconst 0, 1) := by decide +kernel
theorem dX8_beginEntry_21 : decode cX8_beginEntry 21 = .ok (.iastore, 1) := by decide +kernel
theorem dX8_beginEntry_22 : decode cX8_beginEntry 22 = .ok (.aload_n 0, 1) := by decide +kernel
theorem dX8_beginEntry_23 : decode cX8_beginEntry 23 = .ok (.getfield 31, 3) := by decide +kernel
theorem dX8_beginEntry_26 : decode cX8_beginEntry 26 = .ok (.iconst 4, 1) := by decide +kernel
theorem dX8_beginEntry_27 : decode cX8_beginEntry 27 = .ok (.aload_n 0, 1) := by decide +kernel
theorem dX8_beginEntry_28 : decode cX8_beginEntry 28 = .ok (.getfield 128, 3) := by decide +kernel
theorem dX8_beginEntry_31 : decode cX8_beginEntry 31 = .ok (.imul, 1) := by decide +kernel
theorem dX8_beginEntry_32 : decode cX8_beginEntry 32 = .ok (.iconst 1, 1) := by decide +kernel
theorem dX8_beginEntry_33 : decode cX8_beginEntry 33 = .ok (.iadd, 1) := by decide +kernel
theorem dX8_beginEntry_34 : decode cX8_beginEntry 34 = .ok (.ldc 62, 2) := by decide +kernel
theorem dX8_beginEntry_36 : decode cX8_beginEntry 36 = .ok (.iastore, 1) := by decide +kernel
theorem dX8_beginEntry_37 : decode cX8_beginEntry 37 = .ok (.aload_n 0, 1) := by decide +kernel
theorem dX8_beginEntry_38 : decode cX8_beginEntry 38 = .ok (.getfield 31, 3) := by decide +kernel
theorem dX8_beginEntry_41 : decode cX8_beginEntry 41 = .ok (.iconst 4, 1) := by decide +kernel
theorem dX8_beginEntry_42 : decode cX8_beginEntry 42 = .ok (.aload_n 0, 1) := by decide +kernel
theorem dX8_beginEntry_43 : decode cX8_beginEntry 43 = .ok (.getfield 128, 3) := by decide +kernel
theorem dX8_beginEntry_46 : decode cX8_beginEntry 46 = .ok (.imul, 1) := by decide +kernel
theorem dX8_beginEntry_47 : decode cX8_beginEntry 47 = .ok (.iconst 2, 1) := by decide +kernel
theorem dX8_beginEntry_48 : decode cX8_beginEntry 48 = .ok (.iadd, 1) := by decide +kernel
theorem dX8_beginEntry_49 : decode cX8_beginEntry 49 = .ok (.iconst 0, 1) := by decide +kernel
theorem dX8_beginEntry_50 : decode cX8_beginEntry 50 = .ok (.iastore, 1) := by decide +kernel
theorem dX8_beginEntry_51 : decode cX8_beginEntry 51 = .ok (.aload_n 0, 1) := by decide +kernel
theorem dX8_beginEntry_52 : decode cX8_beginEntry 52 = .ok (.getfield 31, 3) := by decide +kernel
theorem dX8_beginEntry_55 : decode cX8_beginEntry 55 = .ok (.iconst 4, 1) := by decide +kernel
theorem dX8_beginEntry_56 : decode cX8_beginEntry 56 = .ok (.aload_n 0, 1) := by decide +kernel
theorem dX8_beginEntry_57 : decode cX8_beginEntry 57 = .ok (.getfield 128, 3) := by decide +kernel
theorem dX8_beginEntry_60 : decode cX8_beginEntry 60 = .ok (.imul, 1) := by decide +kernel
theorem dX8_beginEntry_61 : decode cX8_beginEntry 61 = .ok (.iconst 3, 1) := by decide +kernel
theorem dX8_beginEntry_62 : decode cX8_beginEntry 62 = .ok (.iadd, 1) := by decide +kernel
theorem dX8_beginEntry_63 : decode cX8_beginEntry 63 = .ok (.iconst 0, 1) := by decide +kernel
theorem dX8_beginEntry_64 : decode cX8_beginEntry 64 = .ok (.iastore, 1) := by decide +kernel
theorem dX8_beginEntry_65 : decode cX8_beginEntry 65 = .ok (.return_, 1) := by decide +kernel
theorem dX8_goes_0 : decode cX8_goes 0 = .ok (.aload_n 0, 1) := by decide +kernel
theorem dX8_goes_1 : decode cX8_goes 1 = .ok (.iload_n 1, 1) := by decide +kernel
theorem dX8_goes_2 : decode cX8_goes 2 = .ok (.ifCond .eq 7, 3) := by decide +kernel
theorem dX8_goes_5 : decode cX8_goes 5 = .ok (.iload_n 2, 1) := by decide +kernel
theorem dX8_goes_6 : decode cX8_goes 6 = .ok (.goto 7, 3) := by decide +kernel
theorem dX8_goes_9 : decode cX8_goes 9 = .ok (.aload_n 0, 1) := by decide +kernel
theorem dX8_goes_10 : decode cX8_goes 10 = .ok (.getfield 122, 3) := by decide +kernel
theorem dX8_goes_13 : decode cX8_goes 13 = .ok (.putfield 122, 3) := by decide +kernel
theorem dX8_goes_16 : decode cX8_goes 16 = .ok (.aload_n 0, 1) := by decide +kernel
theorem dX8_goes_17 : decode cX8_goes 17 = .ok (.iload_n 1, 1) := by decide +kernel
theorem dX8_goes_18 : decode cX8_goes 18 = .ok (.ifCond .eq 7, 3) := by decide +kernel
theorem dX8_goes_21 : decode cX8_goes 21 = .ok (.iconst 0, 1) := by decide +kernel
theorem dX8_goes_22 : decode cX8_goes 22 = .ok (.goto 7, 3) := by decide +kernel
theorem dX8_goes_25 : decode cX8_goes 25 = .ok (.aload_n 0, 1) := by decide +kernel
theorem dX8_goes_26 : decode cX8_goes 26 = .ok (.getfield 125, 3) := by decide +kernel
theorem dX8_goes_29 : decode cX8_goes 29 = .ok (.putfield 125, 3) := by decide +kernel
theorem dX8_goes_32 : decode cX8_goes 32 = .ok (.iload_n 1, 1) := by decide +kernel
theorem dX8_goes_33 : decode cX8_goes 33 = .ok (.ireturn, 1) := by decide +kernel
theorem dX8_takesLength_0 : decode cX8_takesLength 0 = .ok (.bipush 10, 2) := by decide +kernel
theorem dX8_takesLength_2 : decode cX8_takesLength 2 = .ok (.aload_n 0, 1) := by decide +kernel
theorem dX8_takesLength_3 : decode cX8_takesLength 3 = .ok (.getfield 31, 3) := by decide +kernel
theorem dX8_takesLength_6 : decode cX8_takesLength 6 = .ok (.iconst 4, 1) := by decide +kernel
theorem dX8_takesLength_7 : decode cX8_takesLength 7 = .ok (.aload_n 0, 1) := by decide +kernel
theorem dX8_takesLength_8 : decode cX8_takesLength 8 = .ok (.getfield 128, 3) := by decide +kernel
theorem dX8_takesLength_11 : decode cX8_takesLength 11 = .ok (.imul, 1) := by decide +kernel
theorem dX8_takesLength_12 : decode cX8_takesLength 12 = .ok (.iaload, 1) := by decide +kernel
theorem dX8_takesLength_13 : decode cX8_takesLength 13 = .ok (.imul, 1) := by decide +kernel
theorem dX8_takesLength_14 : decode cX8_takesLength 14 = .ok (.iload_n 1, 1) := by decide +kernel
theorem dX8_takesLength_15 : decode cX8_takesLength 15 = .ok (.iadd, 1) := by decide +kernel
theorem dX8_takesLength_16 : decode cX8_takesLength 16 = .ok (.bipush 48, 2) := by decide +kernel
theorem dX8_takesLength_18 : decode cX8_takesLength 18 = .ok (.isub, 1) := by decide +kernel
theorem dX8_takesLength_19 : decode cX8_takesLength 19 = .ok (.istore_n 2, 1) := by decide +kernel
theorem dX8_takesLength_20 : decode cX8_takesLength 20 = .ok (.iload_n 1, 1) := by decide +kernel
theorem dX8_takesLength_21 : decode cX8_takesLength 21 = .ok (.bipush 48, 2) := by decide +kernel
theorem dX8_takesLength_23 : decode cX8_takesLength 23 = .ok (.bipush 57, 2) := by decide +kernel
theorem dX8_takesLength_25 : decode cX8_takesLength 25 = .ok (.invokestatic 38, 3) := by decide +kernel
theorem dX8_takesLength_28 : decode cX8_takesLength 28 = .ok (.ifCond .eq 18, 3) := by decide +kernel
theorem dX8_takesLength_31 : decode cX8_takesLength 31 = .ok (.iload_n 2, 1) := by decide +kernel
theorem dX8_takesLength_32 : decode cX8_takesLength 32 = .ok (.iconst 1, 1) := by decide +kernel
theorem dX8_takesLength_33 : decode cX8_takesLength 33 = .ok (.sipush 900, 3) := by decide +kernel
theorem dX8_takesLength_36 : decode cX8_takesLength 36 = .ok (.invokestatic 38, 3) := by decide +kernel
theorem dX8_takesLength_39 : decode cX8_takesLength 39 = .ok (.ifCond .eq 7, 3) := by decide +kernel
theorem dX8_takesLength_42 : decode cX8_takesLength 42 = .ok (.iconst 1, 1) := by decide +kernel
theorem dX8_takesLength_43 : decode cX8_takesLength 43 = .ok (.goto 4, 3) := by decide +kernel
theorem dX8_takesLength_46 : decode cX8_takesLength 46 = .ok (.iconst 0, 1) := by decide +kernel
theorem dX8_takesLength_47 : decode cX8_takesLength 47 = .ok (.istore_n 3, 1) := by decide +kernel
theorem dX8_takesLength_48 : decode cX8_takesLength 48 = .ok (.aload_n 0, 1) := by decide +kernel
theorem dX8_takesLength_49 : decode cX8_takesLength 49 = .ok (.getfield 31, 3) := by decide +kernel
theorem dX8_takesLength_52 : decode cX8_takesLength 52 = .ok (.iconst 4, 1) := by decide +kernel
theorem dX8_takesLength_53 : decode cX8_takesLength 53 = .ok (.aload_n 0, 1) := by decide +kernel
theorem dX8_takesLength_54 : decode cX8_takesLength 54 = .ok (.getfield 128, 3) := by decide +kernel
theorem dX8_takesLength_57 : decode cX8_takesLength 57 = .ok (.imul, 1) := by decide +kernel
theorem dX8_takesLength_58 : decode cX8_takesLength 58 = .ok (.iload_n 3, 1) := by decide +kernel
theorem dX8_takesLength_59 : decode cX8_takesLength 59 = .ok (.ifCond .eq 7, 3) := by decide +kernel
theorem dX8_takesLength_62 : decode cX8_takesLength 62 = .ok (.iload_n 2, 1) := by decide +kernel
theorem dX8_takesLength_63 : decode cX8_takesLength 63 = .ok (.goto 14, 3) := by decide +kernel
theorem dX8_takesLength_66 : decode cX8_takesLength 66 = .ok (.aload_n 0, 1) := by decide +kernel
theorem dX8_takesLength_67 : decode cX8_takesLength 67 = .ok (.getfield 31, 3) := by decide +kernel
theorem dX8_takesLength_70 : decode cX8_takesLength 70 = .ok (.iconst 4, 1) := by decide +kernel
theorem dX8_takesLength_71 : decode cX8_takesLength 71 = .ok (.aload_n 0, 1) := by decide +kernel
theorem dX8_takesLength_72 : decode cX8_takesLength 72 = .ok (.getfield 128, 3) := by decide +kernel
theorem dX8_takesLength_75 : decode cX8_takesLength 75 = .ok (.imul, 1) := by decide +kernel
theorem dX8_takesLength_76 : decode cX8_takesLength 76 = .ok (.iaload, 1) := by decide +kernel
theorem dX8_takesLength_77 : decode cX8_takesLength 77 = .ok (.iastore, 1) := by decide +kernel
theorem dX8_takesLength_78 : decode cX8_takesLength 78 = .ok (.aload_n 0, 1) := by decide +kernel
theorem dX8_takesLength_79 : decode cX8_takesLength 79 = .ok (.dup, 1) := by decide +kernel
theorem dX8_takesLength_80 : decode cX8_takesLength 80 = .ok (.getfield 125, 3) := by decide +kernel
theorem dX8_takesLength_83 : decode cX8_takesLength 83 = .ok (.iload_n 3, 1) := by decide +kernel
theorem dX8_takesLength_84 : decode cX8_takesLength 84 = .ok (.ifCond .eq 7, 3) := by decide +kernel
theorem dX8_takesLength_87 : decode cX8_takesLength 87 = .ok (.iconst 1, 1) := by decide +kernel
theorem dX8_takesLength_88 : decode cX8_takesLength 88 = .ok (.goto 4, 3) := by decide +kernel
theorem dX8_takesLength_91 : decode cX8_takesLength 91 = .ok (.iconst 0, 1) := by decide +kernel
theorem dX8_takesLength_92 : decode cX8_takesLength 92 = .ok (.iadd, 1) := by decide +kernel
theorem dX8_takesLength_93 : decode cX8_takesLength 93 = .ok (.putfield 125, 3) := by decide +kernel
theorem dX8_takesLength_96 : decode cX8_takesLength 96 = .ok (.iload_n 3, 1) := by decide +kernel
theorem dX8_takesLength_97 : decode cX8_takesLength 97 = .ok (.ifCond .ne 29, 3) := by decide +kernel
theorem dX8_takesLength_100 : decode cX8_takesLength 100 = .ok (.aload_n 0, 1) := by decide +kernel
theorem dX8_takesLength_101 : decode cX8_takesLength 101 = .ok (.getfield 125, 3) := by decide +kernel
theorem dX8_takesLength_104 : decode cX8_takesLength 104 = .ok (.ifCond .le 26, 3) := by decide +kernel
theorem dX8_takesLength_107 : decode cX8_takesLength 107 = .ok (.aload_n 0, 1) := by decide +kernel
theorem dX8_takesLength_108 : decode cX8_takesLength 108 = .ok (.iload_n 1, 1) := by decide +kernel
theorem dX8_takesLength_109 : decode cX8_takesLength 109 = .ok (.bipush 58, 2) := by decide +kernel
theorem dX8_takesLength_111 : decode cX8_takesLength 111 = .ok (.if_icmp .ne 7, 3) := by decide +kernel
theorem dX8_takesLength_114 : decode cX8_takesLength 114 = .ok (.iconst 1, 1) := by decide +kernel
theorem dX8_takesLength_115 : decode cX8_takesLength 115 = .ok (.goto 4, 3) := by decide +kernel
theorem dX8_takesLength_118 : decode cX8_takesLength 118 = .ok (.iconst 0, 1) := by decide +kernel
theorem dX8_takesLength_119 : decode cX8_takesLength 119 = .ok (.iconst 1, 1) := by decide +kernel
theorem dX8_takesLength_120 : decode cX8_takesLength 120 = .ok (.invokevirtual 131, 3) := by decide +kernel
theorem dX8_takesLength_123 : decode cX8_takesLength 123 = .ok (.ifCond .eq 7, 3) := by decide +kernel
theorem dX8_takesLength_126 : decode cX8_takesLength 126 = .ok (.iconst 1, 1) := by decide +kernel
theorem dX8_takesLength_127 : decode cX8_takesLength 127 = .ok (.goto 4, 3) := by decide +kernel
theorem dX8_takesLength_130 : decode cX8_takesLength 130 = .ok (.iconst 0, 1) := by decide +kernel
theorem dX8_takesLength_131 : decode cX8_takesLength 131 = .ok (.ireturn, 1) := by decide +kernel
theorem dX8_takesPace_0 : decode cX8_takesPace 0 = .ok (.aload_n 0, 1) := by decide +kernel
theorem dX8_takesPace_1 : decode cX8_takesPace 1 = .ok (.getfield 31, 3) := by decide +kernel
theorem dX8_takesPace_4 : decode cX8_takesPace 4 = .ok (.iconst 4, 1) := by decide +kernel
theorem dX8_takesPace_5 : decode cX8_takesPace 5 = .ok (.aload_n 0, 1) := by decide +kernel
theorem dX8_takesPace_6 : decode cX8_takesPace 6 = .ok (.getfield 128, 3) := by decide +kernel
theorem dX8_takesPace_9 : decode cX8_takesPace 9 = .ok (.imul, 1) := by decide +kernel
theorem dX8_takesPace_10 : decode cX8_takesPace 10 = .ok (.iconst 3, 1) := by decide +kernel
theorem dX8_takesPace_11 : decode cX8_takesPace 11 = .ok (.iadd, 1) := by decide +kernel
theorem dX8_takesPace_12 : decode cX8_takesPace 12 = .ok (.iaload, 1) := by decide +kernel
theorem dX8_takesPace_13 : decode cX8_takesPace 13 = .ok (.istore_n 2, 1) := by decide +kernel
theorem dX8_takesPace_14 : decode cX8_takesPace 14 = .ok (.bipush 10, 2) := by decide +kernel
theorem dX8_takesPace_16 : decode cX8_takesPace 16 = .ok (.iload_n 2, 1) := by decide +kernel
theorem dX8_takesPace_17 : decode cX8_takesPace 17 = .ok (.imul, 1) := by decide +kernel
theorem dX8_takesPace_18 : decode cX8_takesPace 18 = .ok (.iload_n 1, 1) := by decide +kernel
theorem dX8_takesPace_19 : decode cX8_takesPace 19 = .ok (.iadd, 1) := by decide +kernel
theorem dX8_takesPace_20 : decode cX8_takesPace 20 = .ok (.bipush 48, 2) := by decide +kernel
theorem dX8_takesPace_22 : decode cX8_takesPace 22 = .ok (.isub, 1) := by decide +kernel
theorem dX8_takesPace_23 : decode cX8_takesPace 23 = .ok (.istore_n 3, 1) := by decide +kernel
theorem dX8_takesPace_24 : decode cX8_takesPace 24 = .ok (.aload_n 0, 1) := by decide +kernel
theorem dX8_takesPace_25 : decode cX8_takesPace 25 = .ok (.getfield 125, 3) := by decide +kernel
theorem dX8_takesPace_28 : decode cX8_takesPace 28 = .ok (.ifCond .ne 22, 3) := by decide +kernel
theorem dX8_takesPace_31 : decode cX8_takesPace 31 = .ok (.iload_n 3, 1) := by decide +kernel
theorem dX8_takesPace_32 : decode cX8_takesPace 32 = .ok (.iconst 1, 1) := by decide +kernel
theorem dX8_takesPace_33 : decode cX8_takesPace 33 = .ok (.if_icmp .eq 9, 3) := by decide +kernel
theorem dX8_takesPace_36 : decode cX8_takesPace 36 = .ok (.iload_n 3, 1) := by decide +kernel
theorem dX8_takesPace_37 : decode cX8_takesPace 37 = .ok (.bipush 7, 2) := by decide +kernel
theorem dX8_takesPace_39 : decode cX8_takesPace 39 = .ok (.if_icmp .le 7, 3) := by decide +kernel
theorem dX8_takesPace_42 : decode cX8_takesPace 42 = .ok (.iconst 1, 1) := by decide +kernel
theorem dX8_takesPace_43 : decode cX8_takesPace 43 = .ok (.goto 55, 3) := by decide +kernel
theorem dX8_takesPace_46 : decode cX8_takesPace 46 = .ok (.iconst 0, 1) := by decide +kernel
theorem dX8_takesPace_47 : decode cX8_takesPace 47 = .ok (.goto 51, 3) := by decide +kernel
theorem dX8_takesPace_50 : decode cX8_takesPace 50 = .ok (.iload_n 2, 1) := by decide +kernel
theorem dX8_takesPace_51 : decode cX8_takesPace 51 = .ok (.bipush 10, 2) := by decide +kernel
theorem dX8_takesPace_53 : decode cX8_takesPace 53 = .ok (.if_icmp .ge 28, 3) := by decide +kernel
theorem dX8_takesPace_56 : decode cX8_takesPace 56 = .ok (.iload_n 3, 1) := by decide +kernel
theorem dX8_takesPace_57 : decode cX8_takesPace 57 = .ok (.bipush 10, 2) := by decide +kernel
theorem dX8_takesPace_59 : decode cX8_takesPace 59 = .ok (.bipush 12, 2) := by decide +kernel
theorem dX8_takesPace_61 : decode cX8_takesPace 61 = .ok (.invokestatic 38, 3) := by decide +kernel
theorem dX8_takesPace_64 : decode cX8_takesPace 64 = .ok (.ifCond .ne 9, 3) := by decide +kernel
theorem dX8_takesPace_67 : decode cX8_takesPace 67 = .ok (.iload_n 3, 1) := by decide +kernel
theorem dX8_takesPace_68 : decode cX8_takesPace 68 = .ok (.bipush 79, 2) := by decide +kernel
theorem dX8_takesPace_70 : decode cX8_takesPace 70 = .ok (.if_icmp .le 7, 3) := by decide +kernel
theorem dX8_takesPace_73 : decode cX8_takesPace 73 = .ok (.iconst 1, 1) := by decide +kernel
theorem dX8_takesPace_74 : decode cX8_takesPace 74 = .ok (.goto 24, 3) := by decide +kernel
theorem dX8_takesPace_77 : decode cX8_takesPace 77 = .ok (.iconst 0, 1) := by decide +kernel
theorem dX8_takesPace_78 : decode cX8_takesPace 78 = .ok (.goto 20, 3) := by decide +kernel
theorem dX8_takesPace_81 : decode cX8_takesPace 81 = .ok (.iload_n 2, 1) := by decide +kernel
theorem dX8_takesPace_82 : decode cX8_takesPace 82 = .ok (.bipush 13, 2) := by decide +kernel
theorem dX8_takesPace_84 : decode cX8_takesPace 84 = .ok (.if_icmp .ge 13, 3) := by decide +kernel
theorem dX8_takesPace_87 : decode cX8_takesPace 87 = .ok (.iload_n 3, 1) := by decide +kernel
theorem dX8_takesPace_88 : decode cX8_takesPace 88 = .ok (.bipush 120, 2) := by decide +kernel
theorem dX8_takesPace_90 : decode cX8_takesPace 90 = .ok (.if_icmp .gt 7, 3) := by decide +kernel
theorem dX8_takesPace_93 : decode cX8_takesPace 93 = .ok (.iconst 1, 1) := by decide +kernel
theorem dX8_takesPace_94 : decode cX8_takesPace 94 = .ok (.goto 4, 3) := by decide +kernel
theorem dX8_takesPace_97 : decode cX8_takesPace 97 = .ok (.iconst 0, 1) := by decide +kernel
theorem dX8_takesPace_98 : decode cX8_takesPace 98 = .ok (.istore 4, 2) := by decide +kernel
theorem dX8_takesPace_100 : decode cX8_takesPace 100 = .ok (.iload_n 1, 1) := by decide +kernel
theorem dX8_takesPace_101 : decode cX8_takesPace 101 = .ok (.bipush 48, 2) := by decide +kernel
theorem dX8_takesPace_103 : decode cX8_takesPace 103 = .ok (.bipush 57, 2) := by decide +kernel
theorem dX8_takesPace_105 : decode cX8_takesPace 105 = .ok (.invokestatic 38, 3) := by decide +kernel
theorem dX8_takesPace_108 : decode cX8_takesPace 108 = .ok (.ifCond .eq 12, 3) := by decide +kernel
theorem dX8_takesPace_111 : decode cX8_takesPace 111 = .ok (.iload 4, 2) := by decide +kernel
theorem dX8_takesPace_113 : decode cX8_takesPace 113 = .ok (.ifCond .eq 7, 3) := by decide +kernel
theorem dX8_takesPace_116 : decode cX8_takesPace 116 = .ok (.iconst 1, 1) := by decide +kernel
theorem dX8_takesPace_117 : decode cX8_takesPace 117 = .ok (.goto 4, 3) := by decide +kernel
theorem dX8_takesPace_120 : decode cX8_takesPace 120 = .ok (.iconst 0, 1) := by decide +kernel
theorem dX8_takesPace_121 : decode cX8_takesPace 121 = .ok (.istore 5, 2) := by decide +kernel
theorem dX8_takesPace_123 : decode cX8_takesPace 123 = .ok (.aload_n 0, 1) := by decide +kernel
theorem dX8_takesPace_124 : decode cX8_takesPace 124 = .ok (.getfield 31, 3) := by decide +kernel
theorem dX8_takesPace_127 : decode cX8_takesPace 127 = .ok (.iconst 4, 1) := by decide +kernel
theorem dX8_takesPace_128 : decode cX8_takesPace 128 = .ok (.aload_n 0, 1) := by decide +kernel
theorem dX8_takesPace_129 : decode cX8_takesPace 129 = .ok (.getfield 128, 3) := by decide +kernel
theorem dX8_takesPace_132 : decode cX8_takesPace 132 = .ok (.imul, 1) := by decide +kernel
theorem dX8_takesPace_133 : decode cX8_takesPace 133 = .ok (.iconst 3, 1) := by decide +kernel
theorem dX8_takesPace_134 : decode cX8_takesPace 134 = .ok (.iadd, 1) := by decide +kernel
theorem dX8_takesPace_135 : decode cX8_takesPace 135 = .ok (.iload 5, 2) := by decide +kernel
theorem dX8_takesPace_137 : decode cX8_takesPace 137 = .ok (.ifCond .eq 7, 3) := by decide +kernel
theorem dX8_takesPace_140 : decode cX8_takesPace 140 = .ok (.iload_n 3, 1) := by decide +kernel
theorem dX8_takesPace_141 : decode cX8_takesPace 141 = .ok (.goto 4, 3) := by decide +kernel
theorem dX8_takesPace_144 : decode cX8_takesPace 144 = .ok (.iload_n 2, 1) := by decide +kernel
theorem dX8_takesPace_145 : decode cX8_takesPace 145 = .ok (.iastore, 1) := by decide +kernel
theorem dX8_takesPace_146 : decode cX8_takesPace 146 = .ok (.aload_n 0, 1) := by decide +kernel
theorem dX8_takesPace_147 : decode cX8_takesPace 147 = .ok (.dup, 1) := by decide +kernel
theorem dX8_takesPace_148 : decode cX8_takesPace 148 = .ok (.getfield 125, 3) := by decide +kernel
theorem dX8_takesPace_151 : decode cX8_takesPace 151 = .ok (.iload 5, 2) := by decide +kernel
theorem dX8_takesPace_153 : decode cX8_takesPace 153 = .ok (.ifCond .eq 7, 3) := by decide +kernel
theorem dX8_takesPace_156 : decode cX8_takesPace 156 = .ok (.iconst 1, 1) := by decide +kernel
theorem dX8_takesPace_157 : decode cX8_takesPace 157 = .ok (.goto 4, 3) := by decide +kernel
theorem dX8_takesPace_160 : decode cX8_takesPace 160 = .ok (.iconst 0, 1) := by decide +kernel
theorem dX8_takesPace_161 : decode cX8_takesPace 161 = .ok (.iadd, 1) := by decide +kernel
theorem dX8_takesPace_162 : decode cX8_takesPace 162 = .ok (.putfield 125, 3) := by decide +kernel
theorem dX8_takesPace_165 : decode cX8_takesPace 165 = .ok (.iload 5, 2) := by decide +kernel
theorem dX8_takesPace_167 : decode cX8_takesPace 167 = .ok (.ireturn, 1) := by decide +kernel
theorem dX8_isOver_0 : decode cX8_isOver 0 = .ok (.aload_n 0, 1) := by decide +kernel
theorem dX8_isOver_1 : decode cX8_isOver 1 = .ok (.getfield 122, 3) := by decide +kernel
theorem dX8_isOver_4 : decode cX8_isOver 4 = .ok (.ifCond .ne 18, 3) := by decide +kernel
theorem dX8_isOver_7 : decode cX8_isOver 7 = .ok (.aload_n 0, 1) := by decide +kernel
theorem dX8_isOver_8 : decode cX8_isOver 8 = .ok (.getfield 125, 3) := by decide +kernel
theorem dX8_isOver_11 : decode cX8_isOver 11 = .ok (.ifCond .le 7, 3) := by decide +kernel
theorem dX8_isOver_14 : decode cX8_isOver 14 = .ok (.iconst 1, 1) := by decide +kernel
theorem dX8_isOver_15 : decode cX8_isOver 15 = .ok (.goto 46, 3) := by decide +kernel
theorem dX8_isOver_18 : decode cX8_isOver 18 = .ok (.iconst 0, 1) := by decide +kernel
theorem dX8_isOver_19 : decode cX8_isOver 19 = .ok (.goto 42, 3) := by decide +kernel
theorem dX8_isOver_22 : decode cX8_isOver 22 = .ok (.aload_n 0, 1) := by decide +kernel
theorem dX8_isOver_23 : decode cX8_isOver 23 = .ok (.getfield 122, 3) := by decide +kernel
theorem dX8_isOver_26 : decode cX8_isOver 26 = .ok (.iconst 4, 1) := by decide +kernel
theorem dX8_isOver_27 : decode cX8_isOver 27 = .ok (.if_icmp .eq 29, 3) := by decide +kernel
theorem dX8_isOver_30 : decode cX8_isOver 30 = .ok (.aload_n 0, 1) := by decide +kernel
theorem dX8_isOver_31 : decode cX8_isOver 31 = .ok (.getfield 122, 3) := by decide +kernel
theorem dX8_isOver_34 : decode cX8_isOver 34 = .ok (.iconst 5, 1) := by decide +kernel
theorem dX8_isOver_35 : decode cX8_isOver 35 = .ok (.if_icmp .ne 25, 3) := by decide +kernel
theorem dX8_isOver_38 : decode cX8_isOver 38 = .ok (.aload_n 0, 1) := by decide +kernel
theorem dX8_isOver_39 : decode cX8_isOver 39 = .ok (.getfield 31, 3) := by decide +kernel
theorem dX8_isOver_42 : decode cX8_isOver 42 = .ok (.iconst 4, 1) := by decide +kernel
theorem dX8_isOver_43 : decode cX8_isOver 43 = .ok (.aload_n 0, 1) := by decide +kernel
theorem dX8_isOver_44 : decode cX8_isOver 44 = .ok (.getfield 128, 3) := by decide +kernel
theorem dX8_isOver_47 : decode cX8_isOver 47 = .ok (.imul, 1) := by decide +kernel
theorem dX8_isOver_48 : decode cX8_isOver 48 = .ok (.iconst 3, 1) := by decide +kernel
theorem dX8_isOver_49 : decode cX8_isOver 49 = .ok (.iadd, 1) := by decide +kernel
theorem dX8_isOver_50 : decode cX8_isOver 50 = .ok (.iaload, 1) := by decide +kernel
theorem dX8_isOver_51 : decode cX8_isOver 51 = .ok (.bipush 80, 2) := by decide +kernel
theorem dX8_isOver_53 : decode cX8_isOver 53 = .ok (.if_icmp .lt 7, 3) := by decide +kernel
theorem dX8_isOver_56 : decode cX8_isOver 56 = .ok (.iconst 1, 1) := by decide +kernel
theorem dX8_isOver_57 : decode cX8_isOver 57 = .ok (.goto 4, 3) := by decide +kernel
theorem dX8_isOver_60 : decode cX8_isOver 60 = .ok (.iconst 0, 1) := by decide +kernel
theorem dX8_isOver_61 : decode cX8_isOver 61 = .ok (.ireturn, 1) := by decide +kernel
theorem dX8_takesPart_0 : decode cX8_takesPart 0 = .ok (.aload_n 0, 1) := by decide +kernel
theorem dX8_takesPart_1 : decode cX8_takesPart 1 = .ok (.getfield 122, 3) := by decide +kernel
theorem dX8_takesPart_4 : decode cX8_takesPart 4 = .ok (.tableswitch 178 0 4 #[36, 42, 73, 90, 136], 36) := by decide +kernel
theorem dX8_takesPart_40 : decode cX8_takesPart 40 = .ok (.aload_n 0, 1) := by decide +kernel
theorem dX8_takesPart_41 : decode cX8_takesPart 41 = .ok (.iload_n 1, 1) := by decide +kernel
theorem dX8_takesPart_42 : decode cX8_takesPart 42 = .ok (.invokevirtual 135, 3) := by decide +kernel
theorem dX8_takesPart_45 : decode cX8_takesPart 45 = .ok (.ireturn, 1) := by decide +kernel
theorem dX8_takesPart_46 : decode cX8_takesPart 46 = .ok (.aload_n 0, 1) := by decide +kernel
theorem dX8_takesPart_47 : decode cX8_takesPart 47 = .ok (.getfield 31, 3) := by decide +kernel
theorem dX8_takesPart_50 : decode cX8_takesPart 50 = .ok (.iconst 4, 1) := by decide +kernel
theorem dX8_takesPart_51 : decode cX8_takesPart 51 = .ok (.aload_n 0, 1) := by decide +kernel
theorem dX8_takesPart_52 : decode cX8_takesPart 52 = .ok (.getfield 128, 3) := by decide +kernel
theorem dX8_takesPart_55 : decode cX8_takesPart 55 = .ok (.imul, 1) := by decide +kernel
theorem dX8_takesPart_56 : decode cX8_takesPart 56 = .ok (.iconst 1, 1) := by decide +kernel
theorem dX8_takesPart_57 : decode cX8_takesPart 57 = .ok (.iadd, 1) := by decide +kernel
theorem dX8_takesPart_58 : decode cX8_takesPart 58 = .ok (.iload_n 1, 1) := by decide +kernel
theorem dX8_takesPart_59 : decode cX8_takesPart 59 = .ok (.bipush 48, 2) := by decide +kernel
theorem dX8_takesPart_61 : decode cX8_takesPart 61 = .ok (.isub, 1) := by decide +kernel
theorem dX8_takesPart_62 : decode cX8_takesPart 62 = .ok (.iastore, 1) := by decide +kernel
theorem dX8_takesPart_63 : decode cX8_takesPart 63 = .ok (.aload_n 0, 1) := by decide +kernel
theorem dX8_takesPart_64 : decode cX8_takesPart 64 = .ok (.iload_n 1, 1) := by decide +kernel
theorem dX8_takesPart_65 : decode cX8_takesPart 65 = .ok (.bipush 48, 2) := by decide +kernel
theorem dX8_takesPart_67 : decode cX8_takesPart 67 = .ok (.bipush 55, 2) := by decide +kernel
theorem dX8_takesPart_69 : decode cX8_takesPart 69 = .ok (.invokestatic 38, 3) := by decide +kernel
theorem dX8_takesPart_72 : decode cX8_takesPart 72 = .ok (.iconst 2, 1) := by decide +kernel
theorem dX8_takesPart_73 : decode cX8_takesPart 73 = .ok (.invokevirtual 131, 3) := by decide +kernel
theorem dX8_takesPart_76 : decode cX8_takesPart 76 = .ok (.ireturn, 1) := by decide +kernel
theorem dX8_takesPart_77 : decode cX8_takesPart 77 = .ok (.aload_n 0, 1) := by decide +kernel
theorem dX8_takesPart_78 : decode cX8_takesPart 78 = .ok (.iload_n 1, 1) := by decide +kernel
theorem dX8_takesPart_79 : decode cX8_takesPart 79 = .ok (.bipush 120, 2) := by decide +kernel
theorem dX8_takesPart_81 : decode cX8_takesPart 81 = .ok (.if_icmp .ne 7, 3) := by decide +kernel
theorem dX8_takesPart_84 : decode cX8_takesPart 84 = .ok (.iconst 1, 1) := by decide +kernel
theorem dX8_takesPart_85 : decode cX8_takesPart 85 = .ok (.goto 4, 3) := by decide +kernel
theorem dX8_takesPart_88 : decode cX8_takesPart 88 = .ok (.iconst 0, 1) := by decide +kernel
theorem dX8_takesPart_89 : decode cX8_takesPart 89 = .ok (.iconst 3, 1) := by decide +kernel
theorem dX8_takesPart_90 : decode cX8_takesPart 90 = .ok (.invokevirtual 131, 3) := by decide +kernel
theorem dX8_takesPart_93 : decode cX8_takesPart 93 = .ok (.ireturn, 1) := by decide +kernel
theorem dX8_takesPart_94 : decode cX8_takesPart 94 = .ok (.aload_n 0, 1) := by decide +kernel
theorem dX8_takesPart_95 : decode cX8_takesPart 95 = .ok (.getfield 31, 3) := by decide +kernel
theorem dX8_takesPart_98 : decode cX8_takesPart 98 = .ok (.iconst 4, 1) := by decide +kernel
theorem dX8_takesPart_99 : decode cX8_takesPart 99 = .ok (.aload_n 0, 1) := by decide +kernel
theorem dX8_takesPart_100 : decode cX8_takesPart 100 = .ok (.getfield 128, 3) := by decide +kernel
theorem dX8_takesPart_103 : decode cX8_takesPart 103 = .ok (.imul, 1) := by decide +kernel
theorem dX8_takesPart_104 : decode cX8_takesPart 104 = .ok (.iconst 2, 1) := by decide +kernel
theorem dX8_takesPart_105 : decode cX8_takesPart 105 = .ok (.iadd, 1) := by decide +kernel
theorem dX8_takesPart_106 : decode cX8_takesPart 106 = .ok (.iload_n 1, 1) := by decide +kernel
theorem dX8_takesPart_107 : decode cX8_takesPart 107 = .ok (.bipush 48, 2) := by decide +kernel
theorem dX8_takesPart_109 : decode cX8_takesPart 109 = .ok (.isub, 1) := by decide +kernel
theorem dX8_takesPart_110 : decode cX8_takesPart 110 = .ok (.iastore, 1) := by decide +kernel
theorem dX8_takesPart_111 : decode cX8_takesPart 111 = .ok (.aload_n 0, 1) := by decide +kernel
theorem dX8_takesPart_112 : decode cX8_takesPart 112 = .ok (.getfield 31, 3) := by decide +kernel
theorem dX8_takesPart_115 : decode cX8_takesPart 115 = .ok (.iconst 4, 1) := by decide +kernel
theorem dX8_takesPart_116 : decode cX8_takesPart 116 = .ok (.aload_n 0, 1) := by decide +kernel
theorem dX8_takesPart_117 : decode cX8_takesPart 117 = .ok (.getfield 128, 3) := by decide +kernel
theorem dX8_takesPart_120 : decode cX8_takesPart 120 = .ok (.imul, 1) := by decide +kernel
theorem dX8_takesPart_121 : decode cX8_takesPart 121 = .ok (.iconst 3, 1) := by decide +kernel
theorem dX8_takesPart_122 : decode cX8_takesPart 122 = .ok (.iadd, 1) := by decide +kernel
theorem dX8_takesPart_123 : decode cX8_takesPart 123 = .ok (.bipush 100, 2) := by decide +kernel
theorem dX8_takesPart_125 : decode cX8_takesPart 125 = .ok (.iastore, 1) := by decide +kernel
theorem dX8_takesPart_126 : decode cX8_takesPart 126 = .ok (.aload_n 0, 1) := by decide +kernel
theorem dX8_takesPart_127 : decode cX8_takesPart 127 = .ok (.iload_n 1, 1) := by decide +kernel
theorem dX8_takesPart_128 : decode cX8_takesPart 128 = .ok (.bipush 49, 2) := by decide +kernel
theorem dX8_takesPart_130 : decode cX8_takesPart 130 = .ok (.bipush 57, 2) := by decide +kernel
theorem dX8_takesPart_132 : decode cX8_takesPart 132 = .ok (.invokestatic 38, 3) := by decide +kernel
theorem dX8_takesPart_135 : decode cX8_takesPart 135 = .ok (.iconst 4, 1) := by decide +kernel
theorem dX8_takesPart_136 : decode cX8_takesPart 136 = .ok (.invokevirtual 131, 3) := by decide +kernel
theorem dX8_takesPart_139 : decode cX8_takesPart 139 = .ok (.ireturn, 1) := by decide +kernel
theorem dX8_takesPart_140 : decode cX8_takesPart 140 = .ok (.aload_n 0, 1) := by decide +kernel
theorem dX8_takesPart_141 : decode cX8_takesPart 141 = .ok (.getfield 31, 3) := by decide +kernel
theorem dX8_takesPart_144 : decode cX8_takesPart 144 = .ok (.iconst 4, 1) := by decide +kernel
theorem dX8_takesPart_145 : decode cX8_takesPart 145 = .ok (.aload_n 0, 1) := by decide +kernel
theorem dX8_takesPart_146 : decode cX8_takesPart 146 = .ok (.getfield 128, 3) := by decide +kernel
theorem dX8_takesPart_149 : decode cX8_takesPart 149 = .ok (.imul, 1) := by decide +kernel
theorem dX8_takesPart_150 : decode cX8_takesPart 150 = .ok (.iconst 3, 1) := by decide +kernel
theorem dX8_takesPart_151 : decode cX8_takesPart 151 = .ok (.iadd, 1) := by decide +kernel
theorem dX8_takesPart_152 : decode cX8_takesPart 152 = .ok (.iload_n 1, 1) := by decide +kernel
theorem dX8_takesPart_153 : decode cX8_takesPart 153 = .ok (.bipush 64, 2) := by decide +kernel
theorem dX8_takesPart_155 : decode cX8_takesPart 155 = .ok (.if_icmp .ne 7, 3) := by decide +kernel
theorem dX8_takesPart_158 : decode cX8_takesPart 158 = .ok (.iconst 0, 1) := by decide +kernel
theorem dX8_takesPart_159 : decode cX8_takesPart 159 = .ok (.goto 5, 3) := by decide +kernel
theorem dX8_takesPart_162 : decode cX8_takesPart 162 = .ok (.bipush 100, 2) := by decide +kernel
theorem dX8_takesPart_164 : decode cX8_takesPart 164 = .ok (.iastore, 1) := by decide +kernel
theorem dX8_takesPart_165 : decode cX8_takesPart 165 = .ok (.aload_n 0, 1) := by decide +kernel
theorem dX8_takesPart_166 : decode cX8_takesPart 166 = .ok (.iload_n 1, 1) := by decide +kernel
theorem dX8_takesPart_167 : decode cX8_takesPart 167 = .ok (.bipush 64, 2) := by decide +kernel
theorem dX8_takesPart_169 : decode cX8_takesPart 169 = .ok (.if_icmp .ne 7, 3) := by decide +kernel
theorem dX8_takesPart_172 : decode cX8_takesPart 172 = .ok (.iconst 1, 1) := by decide +kernel
theorem dX8_takesPart_173 : decode cX8_takesPart 173 = .ok (.goto 4, 3) := by decide +kernel
theorem dX8_takesPart_176 : decode cX8_takesPart 176 = .ok (.iconst 0, 1) := by decide +kernel
theorem dX8_takesPart_177 : decode cX8_takesPart 177 = .ok (.iconst 5, 1) := by decide +kernel
theorem dX8_takesPart_178 : decode cX8_takesPart 178 = .ok (.invokevirtual 131, 3) := by decide +kernel
theorem dX8_takesPart_181 : decode cX8_takesPart 181 = .ok (.ireturn, 1) := by decide +kernel
theorem dX8_takesPart_182 : decode cX8_takesPart 182 = .ok (.aload_n 0, 1) := by decide +kernel
theorem dX8_takesPart_183 : decode cX8_takesPart 183 = .ok (.iload_n 1, 1) := by decide +kernel
theorem dX8_takesPart_184 : decode cX8_takesPart 184 = .ok (.invokevirtual 138, 3) := by decide +kernel
theorem dX8_takesPart_187 : decode cX8_takesPart 187 = .ok (.ireturn, 1) := by decide +kernel
theorem dX8_takes_0 : decode cX8_takes 0 = .ok (.iload_n 1, 1) := by decide +kernel
theorem dX8_takes_1 : decode cX8_takes 1 = .ok (.bipush 44, 2) := by decide +kernel
theorem dX8_takes_3 : decode cX8_takes 3 = .ok (.if_icmp .ne 26, 3) := by decide +kernel
theorem dX8_takes_6 : decode cX8_takes 6 = .ok (.aload_n 0, 1) := by decide +kernel
theorem dX8_takes_7 : decode cX8_takes 7 = .ok (.invokevirtual 141, 3) := by decide +kernel
theorem dX8_takes_10 : decode cX8_takes 10 = .ok (.ifCond .eq 19, 3) := by decide +kernel
theorem dX8_takes_13 : decode cX8_takes 13 = .ok (.aload_n 0, 1) := by decide +kernel
theorem dX8_takes_14 : decode cX8_takes 14 = .ok (.dup, 1) := by decide +kernel
theorem dX8_takes_15 : decode cX8_takes 15 = .ok (.getfield 128, 3) := by decide +kernel
theorem dX8_takes_18 : decode cX8_takes 18 = .ok (.iconst 1, 1) := by decide +kernel
theorem dX8_takes_19 : decode cX8_takes 19 = .ok (.iadd, 1) := by decide +kernel
theorem dX8_takes_20 : decode cX8_takes 20 = .ok (.putfield 128, 3) := by decide +kernel
theorem dX8_takes_23 : decode cX8_takes 23 = .ok (.aload_n 0, 1) := by decide +kernel
theorem dX8_takes_24 : decode cX8_takes 24 = .ok (.invokevirtual 145, 3) := by decide +kernel
theorem dX8_takes_27 : decode cX8_takes 27 = .ok (.iconst 1, 1) := by decide +kernel
theorem dX8_takes_28 : decode cX8_takes 28 = .ok (.ireturn, 1) := by decide +kernel
theorem dX8_takes_29 : decode cX8_takes 29 = .ok (.aload_n 0, 1) := by decide +kernel
theorem dX8_takes_30 : decode cX8_takes 30 = .ok (.iload_n 1, 1) := by decide +kernel
theorem dX8_takes_31 : decode cX8_takes 31 = .ok (.invokevirtual 148, 3) := by decide +kernel
theorem dX8_takes_34 : decode cX8_takes 34 = .ok (.ireturn, 1) := by decide +kernel
theorem dX8_readText_0 : decode cX8_readText 0 = .ok (.aload_n 0, 1) := by decide +kernel
theorem dX8_readText_1 : decode cX8_readText 1 = .ok (.iconst 0, 1) := by decide +kernel
theorem dX8_readText_2 : decode cX8_readText 2 = .ok (.putfield 128, 3) := by decide +kernel
theorem dX8_readText_5 : decode cX8_readText 5 = .ok (.aload_n 0, 1) := by decide +kernel
theorem dX8_readText_6 : decode cX8_readText 6 = .ok (.invokevirtual 145, 3) := by decide +kernel
theorem dX8_readText_9 : decode cX8_readText 9 = .ok (.iconst 0, 1) := by decide +kernel
theorem dX8_readText_10 : decode cX8_readText 10 = .ok (.istore_n 1, 1) := by decide +kernel
theorem dX8_readText_11 : decode cX8_readText 11 = .ok (.iload_n 1, 1) := by decide +kernel
theorem dX8_readText_12 : decode cX8_readText 12 = .ok (.aload_n 0, 1) := by decide +kernel
theorem dX8_readText_13 : decode cX8_readText 13 = .ok (.getfield 119, 3) := by decide +kernel
theorem dX8_readText_16 : decode cX8_readText 16 = .ok (.if_icmp .ge 22, 3) := by decide +kernel
theorem dX8_readText_19 : decode cX8_readText 19 = .ok (.aload_n 0, 1) := by decide +kernel
theorem dX8_readText_20 : decode cX8_readText 20 = .ok (.aload_n 0, 1) := by decide +kernel
theorem dX8_readText_21 : decode cX8_readText 21 = .ok (.getfield 16, 3) := by decide +kernel
theorem dX8_readText_24 : decode cX8_readText 24 = .ok (.iload_n 1, 1) := by decide +kernel
theorem dX8_readText_25 : decode cX8_readText 25 = .ok (.iaload, 1) := by decide +kernel
theorem dX8_readText_26 : decode cX8_readText 26 = .ok (.invokevirtual 151, 3) := by decide +kernel
theorem dX8_readText_29 : decode cX8_readText 29 = .ok (.ifCond .eq 9, 3) := by decide +kernel
theorem dX8_readText_32 : decode cX8_readText 32 = .ok (.iinc 1 1, 3) := by decide +kernel
theorem dX8_readText_35 : decode cX8_readText 35 = .ok (.goto (-24), 3) := by decide +kernel
theorem dX8_readText_38 : decode cX8_readText 38 = .ok (.iload_n 1, 1) := by decide +kernel
theorem dX8_readText_39 : decode cX8_readText 39 = .ok (.ireturn, 1) := by decide +kernel
theorem dX8_firstError_0 : decode cX8_firstError 0 = .ok (.aload_n 0, 1) := by decide +kernel
theorem dX8_firstError_1 : decode cX8_firstError 1 = .ok (.iconst 0, 1) := by decide +kernel
theorem dX8_firstError_2 : decode cX8_firstError 2 = .ok (.putfield 34, 3) := by decide +kernel
theorem dX8_firstError_5 : decode cX8_firstError 5 = .ok (.aload_n 0, 1) := by decide +kernel
theorem dX8_firstError_6 : decode cX8_firstError 6 = .ok (.invokevirtual 154, 3) := by decide +kernel
theorem dX8_firstError_9 : decode cX8_firstError 9 = .ok (.ireturn, 1) := by decide +kernel
theorem dX8_canBring_0 : decode cX8_canBring 0 = .ok (.aload_n 0, 1) := by decide +kernel
theorem dX8_canBring_1 : decode cX8_canBring 1 = .ok (.iload_n 1, 1) := by decide +kernel
theorem dX8_canBring_2 : decode cX8_canBring 2 = .ok (.invokevirtual 46, 3) := by decide +kernel
theorem dX8_canBring_5 : decode cX8_canBring 5 = .ok (.aload_n 0, 1) := by decide +kernel
theorem dX8_canBring_6 : decode cX8_canBring 6 = .ok (.getfield 128, 3) := by decide +kernel
theorem dX8_canBring_9 : decode cX8_canBring 9 = .ok (.iadd, 1) := by decide +kernel
theorem dX8_canBring_10 : decode cX8_canBring 10 = .ok (.bipush 10, 2) := by decide +kernel
theorem dX8_canBring_12 : decode cX8_canBring 12 = .ok (.if_icmp .ge 7, 3) := by decide +kernel
theorem dX8_canBring_15 : decode cX8_canBring 15 = .ok (.iconst 1, 1) := by decide +kernel
theorem dX8_canBring_16 : decode cX8_canBring 16 = .ok (.goto 4, 3) := by decide +kernel
theorem dX8_canBring_19 : decode cX8_canBring 19 = .ok (.iconst 0, 1) := by decide +kernel
theorem dX8_canBring_20 : decode cX8_canBring 20 = .ok (.istore_n 2, 1) := by decide +kernel
theorem dX8_canBring_21 : decode cX8_canBring 21 = .ok (.iconst 0, 1) := by decide +kernel
theorem dX8_canBring_22 : decode cX8_canBring 22 = .ok (.istore_n 3, 1) := by decide +kernel
theorem dX8_canBring_23 : decode cX8_canBring 23 = .ok (.iload_n 3, 1) := by decide +kernel
theorem dX8_canBring_24 : decode cX8_canBring 24 = .ok (.aload_n 0, 1) := by decide +kernel
theorem dX8_canBring_25 : decode cX8_canBring 25 = .ok (.getfield 128, 3) := by decide +kernel
theorem dX8_canBring_28 : decode cX8_canBring 28 = .ok (.if_icmp .gt 51, 3) := by decide +kernel
theorem dX8_canBring_31 : decode cX8_canBring 31 = .ok (.iload_n 2, 1) := by decide +kernel
theorem dX8_canBring_32 : decode cX8_canBring 32 = .ok (.ifCond .eq 39, 3) := by decide +kernel
theorem dX8_canBring_35 : decode cX8_canBring 35 = .ok (.aload_n 0, 1) := by decide +kernel
theorem dX8_canBring_36 : decode cX8_canBring 36 = .ok (.getfield 31, 3) := by decide +kernel
theorem dX8_canBring_39 : decode cX8_canBring 39 = .ok (.iconst 4, 1) := by decide +kernel
theorem dX8_canBring_40 : decode cX8_canBring 40 = .ok (.iload_n 3, 1) := by decide +kernel
theorem dX8_canBring_41 : decode cX8_canBring 41 = .ok (.imul, 1) := by decide +kernel
theorem dX8_canBring_42 : decode cX8_canBring 42 = .ok (.iconst 1, 1) := by decide +kernel
theorem dX8_canBring_43 : decode cX8_canBring 43 = .ok (.iadd, 1) := by decide +kernel
theorem dX8_canBring_44 : decode cX8_canBring 44 = .ok (.iaload, 1) := by decide +kernel
theorem dX8_canBring_45 : decode cX8_canBring 45 = .ok (.ldc 62, 2) := by decide +kernel
theorem dX8_canBring_47 : decode cX8_canBring 47 = .ok (.if_icmp .eq 20, 3) := by decide +kernel
theorem dX8_canBring_50 : decode cX8_canBring 50 = .ok (.aload_n 0, 1) := by decide +kernel
theorem dX8_canBring_51 : decode cX8_canBring 51 = .ok (.aload_n 0, 1) := by decide +kernel
theorem dX8_canBring_52 : decode cX8_canBring 52 = .ok (.getfield 31, 3) := by decide +kernel
theorem dX8_canBring_55 : decode cX8_canBring 55 = .ok (.iconst 4, 1) := by decide +kernel
theorem dX8_canBring_56 : decode cX8_canBring 56 = .ok (.iload_n 3, 1) := by decide +kernel
theorem dX8_canBring_57 : decode cX8_canBring 57 = .ok (.imul, 1) := by decide +kernel
theorem dX8_canBring_58 : decode cX8_canBring 58 = .ok (.iconst 1, 1) := by decide +kernel
theorem dX8_canBring_59 : decode cX8_canBring 59 = .ok (.iadd, 1) := by decide +kernel
theorem dX8_canBring_60 : decode cX8_canBring 60 = .ok (.iaload, 1) := by decide +kernel
theorem dX8_canBring_61 : decode cX8_canBring 61 = .ok (.invokevirtual 110, 3) := by decide +kernel
theorem dX8_canBring_64 : decode cX8_canBring 64 = .ok (.ifCond .eq 7, 3) := by decide +kernel
theorem dX8_canBring_67 : decode cX8_canBring 67 = .ok (.iconst 1, 1) := by decide +kernel
theorem dX8_canBring_68 : decode cX8_canBring 68 = .ok (.goto 4, 3) := by decide +kernel
theorem dX8_canBring_71 : decode cX8_canBring 71 = .ok (.iconst 0, 1) := by decide +kernel
theorem dX8_canBring_72 : decode cX8_canBring 72 = .ok (.istore_n 2, 1) := by decide +kernel
theorem dX8_canBring_73 : decode cX8_canBring 73 = .ok (.iinc 3 1, 3) := by decide +kernel
theorem dX8_canBring_76 : decode cX8_canBring 76 = .ok (.goto (-53), 3) := by decide +kernel
theorem dX8_canBring_79 : decode cX8_canBring 79 = .ok (.iload_n 2, 1) := by decide +kernel
theorem dX8_canBring_80 : decode cX8_canBring 80 = .ok (.ireturn, 1) := by decide +kernel
theorem dX8_load_0 : decode cX8_load 0 = .ok (.iload_n 1, 1) := by decide +kernel
theorem dX8_load_1 : decode cX8_load 1 = .ok (.invokestatic 42, 3) := by decide +kernel
theorem dX8_load_4 : decode cX8_load 4 = .ok (.ifCond .ne 10, 3) := by decide +kernel
theorem dX8_load_7 : decode cX8_load 7 = .ok (.aload_n 0, 1) := by decide +kernel
theorem dX8_load_8 : decode cX8_load 8 = .ok (.iconst 1, 1) := by decide +kernel
theorem dX8_load_9 : decode cX8_load 9 = .ok (.putfield 34, 3) := by decide +kernel
theorem dX8_load_12 : decode cX8_load 12 = .ok (.iconst 0, 1) := by decide +kernel
theorem dX8_load_13 : decode cX8_load 13 = .ok (.ireturn, 1) := by decide +kernel
theorem dX8_load_14 : decode cX8_load 14 = .ok (.aload_n 0, 1) := by decide +kernel
theorem dX8_load_15 : decode cX8_load 15 = .ok (.invokevirtual 154, 3) := by decide +kernel
theorem dX8_load_18 : decode cX8_load 18 = .ok (.aload_n 0, 1) := by decide +kernel
theorem dX8_load_19 : decode cX8_load 19 = .ok (.getfield 119, 3) := by decide +kernel
theorem dX8_load_22 : decode cX8_load 22 = .ok (.if_icmp .ne 14, 3) := by decide +kernel
theorem dX8_load_25 : decode cX8_load 25 = .ok (.aload_n 0, 1) := by decide +kernel
theorem dX8_load_26 : decode cX8_load 26 = .ok (.invokevirtual 141, 3) := by decide +kernel
theorem dX8_load_29 : decode cX8_load 29 = .ok (.ifCond .eq 7, 3) := by decide +kernel
theorem dX8_load_32 : decode cX8_load 32 = .ok (.iconst 1, 1) := by decide +kernel
theorem dX8_load_33 : decode cX8_load 33 = .ok (.goto 4, 3) := by decide +kernel
theorem dX8_load_36 : decode cX8_load 36 = .ok (.iconst 0, 1) := by decide +kernel
theorem dX8_load_37 : decode cX8_load 37 = .ok (.istore_n 2, 1) := by decide +kernel
theorem dX8_load_38 : decode cX8_load 38 = .ok (.aload_n 0, 1) := by decide +kernel
theorem dX8_load_39 : decode cX8_load 39 = .ok (.iload_n 2, 1) := by decide +kernel
theorem dX8_load_40 : decode cX8_load 40 = .ok (.ifCond .ne 7, 3) := by decide +kernel
theorem dX8_load_43 : decode cX8_load 43 = .ok (.iconst 2, 1) := by decide +kernel
theorem dX8_load_44 : decode cX8_load 44 = .ok (.goto 16, 3) := by decide +kernel
theorem dX8_load_47 : decode cX8_load 47 = .ok (.aload_n 0, 1) := by decide +kernel
theorem dX8_load_48 : decode cX8_load 48 = .ok (.iload_n 1, 1) := by decide +kernel
theorem dX8_load_49 : decode cX8_load 49 = .ok (.invokevirtual 158, 3) := by decide +kernel
theorem dX8_load_52 : decode cX8_load 52 = .ok (.ifCond .eq 7, 3) := by decide +kernel
theorem dX8_load_55 : decode cX8_load 55 = .ok (.iconst 0, 1) := by decide +kernel
theorem dX8_load_56 : decode cX8_load 56 = .ok (.goto 4, 3) := by decide +kernel
theorem dX8_load_59 : decode cX8_load 59 = .ok (.iconst 3, 1) := by decide +kernel
theorem dX8_load_60 : decode cX8_load 60 = .ok (.putfield 34, 3) := by decide +kernel
theorem dX8_load_63 : decode cX8_load 63 = .ok (.aload_n 0, 1) := by decide +kernel
theorem dX8_load_64 : decode cX8_load 64 = .ok (.getfield 34, 3) := by decide +kernel
theorem dX8_load_67 : decode cX8_load 67 = .ok (.ifCond .le 5, 3) := by decide +kernel
theorem dX8_load_70 : decode cX8_load 70 = .ok (.iconst 0, 1) := by decide +kernel
theorem dX8_load_71 : decode cX8_load 71 = .ok (.ireturn, 1) := by decide +kernel
theorem dX8_load_72 : decode cX8_load 72 = .ok (.aload_n 0, 1) := by decide +kernel
theorem dX8_load_73 : decode cX8_load 73 = .ok (.invokevirtual 91, 3) := by decide +kernel
theorem dX8_load_76 : decode cX8_load 76 = .ok (.iconst 0, 1) := by decide +kernel
theorem dX8_load_77 : decode cX8_load 77 = .ok (.istore_n 3, 1) := by decide +kernel
theorem dX8_load_78 : decode cX8_load 78 = .ok (.iload_n 3, 1) := by decide +kernel
theorem dX8_load_79 : decode cX8_load 79 = .ok (.aload_n 0, 1) := by decide +kernel
theorem dX8_load_80 : decode cX8_load 80 = .ok (.getfield 128, 3) := by decide +kernel
theorem dX8_load_83 : decode cX8_load 83 = .ok (.if_icmp .gt 52, 3) := by decide +kernel
theorem dX8_load_86 : decode cX8_load 86 = .ok (.aload_n 0, 1) := by decide +kernel
theorem dX8_load_87 : decode cX8_load 87 = .ok (.iload_n 1, 1) := by decide +kernel
theorem dX8_load_88 : decode cX8_load 88 = .ok (.aload_n 0, 1) := by decide +kernel
theorem dX8_load_89 : decode cX8_load 89 = .ok (.getfield 31, 3) := by decide +kernel
theorem dX8_load_92 : decode cX8_load 92 = .ok (.iconst 4, 1) := by decide +kernel
theorem dX8_load_93 : decode cX8_load 93 = .ok (.iload_n 3, 1) := by decide +kernel
theorem dX8_load_94 : decode cX8_load 94 = .ok (.imul, 1) := by decide +kernel
theorem dX8_load_95 : decode cX8_load 95 = .ok (.iaload, 1) := by decide +kernel
theorem dX8_load_96 : decode cX8_load 96 = .ok (.aload_n 0, 1) := by decide +kernel
theorem dX8_load_97 : decode cX8_load 97 = .ok (.getfield 31, 3) := by decide +kernel
theorem dX8_load_100 : decode cX8_load 100 = .ok (.iconst 4, 1) := by decide +kernel
theorem dX8_load_101 : decode cX8_load 101 = .ok (.iload_n 3, 1) := by decide +kernel
theorem dX8_load_102 : decode cX8_load 102 = .ok (.imul, 1) := by decide +kernel
theorem dX8_load_103 : decode cX8_load 103 = .ok (.iconst 1, 1) := by decide +kernel
theorem dX8_load_104 : decode cX8_load 104 = .ok (.iadd, 1) := by decide +kernel
theorem dX8_load_105 : decode cX8_load 105 = .ok (.iaload, 1) := by decide +kernel
theorem dX8_load_106 : decode cX8_load 106 = .ok (.aload_n 0, 1) := by decide +kernel
theorem dX8_load_107 : decode cX8_load 107 = .ok (.getfield 31, 3) := by decide +kernel
theorem dX8_load_110 : decode cX8_load 110 = .ok (.iconst 4, 1) := by decide +kernel
theorem dX8_load_111 : decode cX8_load 111 = .ok (.iload_n 3, 1) := by decide +kernel
theorem dX8_load_112 : decode cX8_load 112 = .ok (.imul, 1) := by decide +kernel
theorem dX8_load_113 : decode cX8_load 113 = .ok (.iconst 2, 1) := by decide +kernel
theorem dX8_load_114 : decode cX8_load 114 = .ok (.iadd, 1) := by decide +kernel
theorem dX8_load_115 : decode cX8_load 115 = .ok (.iaload, 1) := by decide +kernel
theorem dX8_load_116 : decode cX8_load 116 = .ok (.aload_n 0, 1) := by decide +kernel
theorem dX8_load_117 : decode cX8_load 117 = .ok (.getfield 31, 3) := by decide +kernel
theorem dX8_load_120 : decode cX8_load 120 = .ok (.iconst 4, 1) := by decide +kernel
theorem dX8_load_121 : decode cX8_load 121 = .ok (.iload_n 3, 1) := by decide +kernel
theorem dX8_load_122 : decode cX8_load 122 = .ok (.imul, 1) := by decide +kernel
theorem dX8_load_123 : decode cX8_load 123 = .ok (.iconst 3, 1) := by decide +kernel
theorem dX8_load_124 : decode cX8_load 124 = .ok (.iadd, 1) := by decide +kernel
theorem dX8_load_125 : decode cX8_load 125 = .ok (.iaload, 1) := by decide +kernel
theorem dX8_load_126 : decode cX8_load 126 = .ok (.invokevirtual 94, 3) := by decide +kernel
theorem dX8_load_129 : decode cX8_load 129 = .ok (.iinc 3 1, 3) := by decide +kernel
theorem dX8_load_132 : decode cX8_load 132 = .ok (.goto (-54), 3) := by decide +kernel
theorem dX8_load_135 : decode cX8_load 135 = .ok (.aload_n 0, 1) := by decide +kernel
theorem dX8_load_136 : decode cX8_load 136 = .ok (.iconst 0, 1) := by decide +kernel
theorem dX8_load_137 : decode cX8_load 137 = .ok (.putfield 119, 3) := by decide +kernel
theorem dX8_load_140 : decode cX8_load 140 = .ok (.aload_n 0, 1) := by decide +kernel
theorem dX8_load_141 : decode cX8_load 141 = .ok (.iload_n 1, 1) := by decide +kernel
theorem dX8_load_142 : decode cX8_load 142 = .ok (.invokevirtual 46, 3) := by decide +kernel
theorem dX8_load_145 : decode cX8_load 145 = .ok (.ireturn, 1) := by decide +kernel
theorem dX8_sceneNow_0 : decode cX8_sceneNow 0 = .ok (.aload_n 0, 1) := by decide +kernel
theorem dX8_sceneNow_1 : decode cX8_sceneNow 1 = .ok (.iload_n 1, 1) := by decide +kernel
theorem dX8_sceneNow_2 : decode cX8_sceneNow 2 = .ok (.iload_n 2, 1) := by decide +kernel
theorem dX8_sceneNow_3 : decode cX8_sceneNow 3 = .ok (.iconst 1, 1) := by decide +kernel
theorem dX8_sceneNow_4 : decode cX8_sceneNow 4 = .ok (.invokevirtual 50, 3) := by decide +kernel
theorem dX8_sceneNow_7 : decode cX8_sceneNow 7 = .ok (.ldc 62, 2) := by decide +kernel
theorem dX8_sceneNow_9 : decode cX8_sceneNow 9 = .ok (.if_icmp .eq 7, 3) := by decide +kernel
theorem dX8_sceneNow_12 : decode cX8_sceneNow 12 = .ok (.iconst 1, 1) := by decide +kernel
theorem dX8_sceneNow_13 : decode cX8_sceneNow 13 = .ok (.goto 4, 3) := by decide +kernel
theorem dX8_sceneNow_16 : decode cX8_sceneNow 16 = .ok (.iconst 0, 1) := by decide +kernel
theorem dX8_sceneNow_17 : decode cX8_sceneNow 17 = .ok (.istore 4, 2) := by decide +kernel
theorem dX8_sceneNow_19 : decode cX8_sceneNow 19 = .ok (.iload_n 3, 1) := by decide +kernel
theorem dX8_sceneNow_20 : decode cX8_sceneNow 20 = .ok (.tableswitch 186 0 10 #[60, 68, 75, 82, 98, 105, 113, 130, 147, 163, 179], 60) := by decide +kernel
theorem dX8_sceneNow_80 : decode cX8_sceneNow 80 = .ok (.aload_n 0, 1) := by decide +kernel
theorem dX8_sceneNow_81 : decode cX8_sceneNow 81 = .ok (.iload_n 1, 1) := by decide +kernel
theorem dX8_sceneNow_82 : decode cX8_sceneNow 82 = .ok (.iload_n 2, 1) := by decide +kernel
theorem dX8_sceneNow_83 : decode cX8_sceneNow 83 = .ok (.iconst 0, 1) := by decide +kernel
theorem dX8_sceneNow_84 : decode cX8_sceneNow 84 = .ok (.invokevirtual 50, 3) := by decide +kernel
theorem dX8_sceneNow_87 : decode cX8_sceneNow 87 = .ok (.ireturn, 1) := by decide +kernel
theorem dX8_sceneNow_88 : decode cX8_sceneNow 88 = .ok (.aload_n 0, 1) := by decide +kernel
theorem dX8_sceneNow_89 : decode cX8_sceneNow 89 = .ok (.iload_n 1, 1) := by decide +kernel
theorem dX8_sceneNow_90 : decode cX8_sceneNow 90 = .ok (.iload_n 2, 1) := by decide +kernel
theorem dX8_sceneNow_91 : decode cX8_sceneNow 91 = .ok (.invokevirtual 161, 3) := by decide +kernel
theorem dX8_sceneNow_94 : decode cX8_sceneNow 94 = .ok (.ireturn, 1) := by decide +kernel
theorem dX8_sceneNow_95 : decode cX8_sceneNow 95 = .ok (.aload_n 0, 1) := by decide +kernel
theorem dX8_sceneNow_96 : decode cX8_sceneNow 96 = .ok (.getfield 22, 3) := by decide +kernel
theorem dX8_sceneNow_99 : decode cX8_sceneNow 99 = .ok (.iload_n 2, 1) := by decide +kernel
theorem dX8_sceneNow_100 : decode cX8_sceneNow 100 = .ok (.iaload, 1) := by decide +kernel
theorem dX8_sceneNow_101 : decode cX8_sceneNow 101 = .ok (.ireturn, 1) := by decide +kernel
theorem dX8_sceneNow_102 : decode cX8_sceneNow 102 = .ok (.aload_n 0, 1) := by decide +kernel
theorem dX8_sceneNow_103 : decode cX8_sceneNow 103 = .ok (.getfield 19, 3) := by decide +kernel
theorem dX8_sceneNow_106 : decode cX8_sceneNow 106 = .ok (.iload_n 2, 1) := by decide +kernel
theorem dX8_sceneNow_107 : decode cX8_sceneNow 107 = .ok (.iconst 1, 1) := by decide +kernel
theorem dX8_sceneNow_108 : decode cX8_sceneNow 108 = .ok (.iadd, 1) := by decide +kernel
theorem dX8_sceneNow_109 : decode cX8_sceneNow 109 = .ok (.iaload, 1) := by decide +kernel
theorem dX8_sceneNow_110 : decode cX8_sceneNow 110 = .ok (.aload_n 0, 1) := by decide +kernel
theorem dX8_sceneNow_111 : decode cX8_sceneNow 111 = .ok (.getfield 19, 3) := by decide +kernel
theorem dX8_sceneNow_114 : decode cX8_sceneNow 114 = .ok (.iload_n 2, 1) := by decide +kernel
theorem dX8_sceneNow_115 : decode cX8_sceneNow 115 = .ok (.iaload, 1) := by decide +kernel
theorem dX8_sceneNow_116 : decode cX8_sceneNow 116 = .ok (.isub, 1) := by decide +kernel
theorem dX8_sceneNow_117 : decode cX8_sceneNow 117 = .ok (.ireturn, 1) := by decide +kernel
theorem dX8_sceneNow_118 : decode cX8_sceneNow 118 = .ok (.aload_n 0, 1) := by decide +kernel
theorem dX8_sceneNow_119 : decode cX8_sceneNow 119 = .ok (.getfield 19, 3) := by decide +kernel
theorem dX8_sceneNow_122 : decode cX8_sceneNow 122 = .ok (.iload_n 2, 1) := by decide +kernel
theorem dX8_sceneNow_123 : decode cX8_sceneNow 123 = .ok (.iaload, 1) := by decide +kernel
theorem dX8_sceneNow_124 : decode cX8_sceneNow 124 = .ok (.ireturn, 1) := by decide +kernel
theorem dX8_sceneNow_125 : decode cX8_sceneNow 125 = .ok (.aload_n 0, 1) := by decide +kernel
theorem dX8_sceneNow_126 : decode cX8_sceneNow 126 = .ok (.iload_n 1, 1) := by decide +kernel
theorem dX8_sceneNow_127 : decode cX8_sceneNow 127 = .ok (.iload_n 2, 1) := by decide +kernel
theorem dX8_sceneNow_128 : decode cX8_sceneNow 128 = .ok (.iconst 1, 1) := by decide +kernel
theorem dX8_sceneNow_129 : decode cX8_sceneNow 129 = .ok (.invokevirtual 50, 3) := by decide +kernel
theorem dX8_sceneNow_132 : decode cX8_sceneNow 132 = .ok (.ireturn, 1) := by decide +kernel
theorem dX8_sceneNow_133 : decode cX8_sceneNow 133 = .ok (.iload 4, 2) := by decide +kernel
theorem dX8_sceneNow_135 : decode cX8_sceneNow 135 = .ok (.ifCond .eq 13, 3) := by decide +kernel
theorem dX8_sceneNow_138 : decode cX8_sceneNow 138 = .ok (.aload_n 0, 1) := by decide +kernel
theorem dX8_sceneNow_139 : decode cX8_sceneNow 139 = .ok (.iload_n 1, 1) := by decide +kernel
theorem dX8_sceneNow_140 : decode cX8_sceneNow 140 = .ok (.iload_n 2, 1) := by decide +kernel
theorem dX8_sceneNow_141 : decode cX8_sceneNow 141 = .ok (.iconst 2, 1) := by decide +kernel
theorem dX8_sceneNow_142 : decode cX8_sceneNow 142 = .ok (.invokevirtual 50, 3) := by decide +kernel
theorem dX8_sceneNow_145 : decode cX8_sceneNow 145 = .ok (.goto 4, 3) := by decide +kernel
theorem dX8_sceneNow_148 : decode cX8_sceneNow 148 = .ok (.iconst 0, 1) := by decide +kernel
theorem dX8_sceneNow_149 : decode cX8_sceneNow 149 = .ok (.ireturn, 1) := by decide +kernel
theorem dX8_sceneNow_150 : decode cX8_sceneNow 150 = .ok (.iload 4, 2) := by decide +kernel
theorem dX8_sceneNow_152 : decode cX8_sceneNow 152 = .ok (.ifCond .eq 13, 3) := by decide +kernel
theorem dX8_sceneNow_155 : decode cX8_sceneNow 155 = .ok (.aload_n 0, 1) := by decide +kernel
theorem dX8_sceneNow_156 : decode cX8_sceneNow 156 = .ok (.iload_n 1, 1) := by decide +kernel
theorem dX8_sceneNow_157 : decode cX8_sceneNow 157 = .ok (.iload_n 2, 1) := by decide +kernel
theorem dX8_sceneNow_158 : decode cX8_sceneNow 158 = .ok (.iconst 3, 1) := by decide +kernel
theorem dX8_sceneNow_159 : decode cX8_sceneNow 159 = .ok (.invokevirtual 50, 3) := by decide +kernel
theorem dX8_sceneNow_162 : decode cX8_sceneNow 162 = .ok (.goto 4, 3) := by decide +kernel
theorem dX8_sceneNow_165 : decode cX8_sceneNow 165 = .ok (.iconst 0, 1) := by decide +kernel
theorem dX8_sceneNow_166 : decode cX8_sceneNow 166 = .ok (.ireturn, 1) := by decide +kernel
theorem dX8_sceneNow_167 : decode cX8_sceneNow 167 = .ok (.iload 4, 2) := by decide +kernel
theorem dX8_sceneNow_169 : decode cX8_sceneNow 169 = .ok (.ifCond .eq 12, 3) := by decide +kernel
theorem dX8_sceneNow_172 : decode cX8_sceneNow 172 = .ok (.aload_n 0, 1) := by decide +kernel
theorem dX8_sceneNow_173 : decode cX8_sceneNow 173 = .ok (.getfield 25, 3) := by decide +kernel
theorem dX8_sceneNow_176 : decode cX8_sceneNow 176 = .ok (.iload_n 2, 1) := by decide +kernel
theorem dX8_sceneNow_177 : decode cX8_sceneNow 177 = .ok (.iaload, 1) := by decide +kernel
theorem dX8_sceneNow_178 : decode cX8_sceneNow 178 = .ok (.goto 4, 3) := by decide +kernel
theorem dX8_sceneNow_181 : decode cX8_sceneNow 181 = .ok (.iconst 0, 1) := by decide +kernel
theorem dX8_sceneNow_182 : decode cX8_sceneNow 182 = .ok (.ireturn, 1) := by decide +kernel
theorem dX8_sceneNow_183 : decode cX8_sceneNow 183 = .ok (.iload 4, 2) := by decide +kernel
theorem dX8_sceneNow_185 : decode cX8_sceneNow 185 = .ok (.ifCond .eq 12, 3) := by decide +kernel
theorem dX8_sceneNow_188 : decode cX8_sceneNow 188 = .ok (.aload_n 0, 1) := by decide +kernel
theorem dX8_sceneNow_189 : decode cX8_sceneNow 189 = .ok (.getfield 28, 3) := by decide +kernel
theorem dX8_sceneNow_192 : decode cX8_sceneNow 192 = .ok (.iload_n 2, 1) := by decide +kernel
theorem dX8_sceneNow_193 : decode cX8_sceneNow 193 = .ok (.iaload, 1) := by decide +kernel
theorem dX8_sceneNow_194 : decode cX8_sceneNow 194 = .ok (.goto 4, 3) := by decide +kernel
theorem dX8_sceneNow_197 : decode cX8_sceneNow 197 = .ok (.iconst 0, 1) := by decide +kernel
theorem dX8_sceneNow_198 : decode cX8_sceneNow 198 = .ok (.ireturn, 1) := by decide +kernel
theorem dX8_sceneNow_199 : decode cX8_sceneNow 199 = .ok (.aload_n 0, 1) := by decide +kernel
theorem dX8_sceneNow_200 : decode cX8_sceneNow 200 = .ok (.iload_n 1, 1) := by decide +kernel
theorem dX8_sceneNow_201 : decode cX8_sceneNow 201 = .ok (.iload_n 2, 1) := by decide +kernel
theorem dX8_sceneNow_202 : decode cX8_sceneNow 202 = .ok (.invokevirtual 76, 3) := by decide +kernel
theorem dX8_sceneNow_205 : decode cX8_sceneNow 205 = .ok (.ireturn, 1) := by decide +kernel
theorem dX8_sceneNow_206 : decode cX8_sceneNow 206 = .ok (.aload_n 0, 1) := by decide +kernel
theorem dX8_sceneNow_207 : decode cX8_sceneNow 207 = .ok (.iload_n 1, 1) := by decide +kernel
theorem dX8_sceneNow_208 : decode cX8_sceneNow 208 = .ok (.iload_n 2, 1) := by decide +kernel
theorem dX8_sceneNow_209 : decode cX8_sceneNow 209 = .ok (.invokevirtual 82, 3) := by decide +kernel
theorem dX8_sceneNow_212 : decode cX8_sceneNow 212 = .ok (.ifCond .eq 7, 3) := by decide +kernel
theorem dX8_sceneNow_215 : decode cX8_sceneNow 215 = .ok (.iconst 1, 1) := by decide +kernel
theorem dX8_sceneNow_216 : decode cX8_sceneNow 216 = .ok (.goto 4, 3) := by decide +kernel
theorem dX8_sceneNow_219 : decode cX8_sceneNow 219 = .ok (.iconst 0, 1) := by decide +kernel
theorem dX8_sceneNow_220 : decode cX8_sceneNow 220 = .ok (.ireturn, 1) := by decide +kernel
theorem dX8_scene_0 : decode cX8_scene 0 = .ok (.aload_n 0, 1) := by decide +kernel
theorem dX8_scene_1 : decode cX8_scene 1 = .ok (.aload_n 0, 1) := by decide +kernel
theorem dX8_scene_2 : decode cX8_scene 2 = .ok (.iload_n 1, 1) := by decide +kernel
theorem dX8_scene_3 : decode cX8_scene 3 = .ok (.iload_n 2, 1) := by decide +kernel
theorem dX8_scene_4 : decode cX8_scene 4 = .ok (.invokevirtual 98, 3) := by decide +kernel
theorem dX8_scene_7 : decode cX8_scene 7 = .ok (.ifCond .ne 7, 3) := by decide +kernel
theorem dX8_scene_10 : decode cX8_scene 10 = .ok (.iconst 1, 1) := by decide +kernel
theorem dX8_scene_11 : decode cX8_scene 11 = .ok (.goto 18, 3) := by decide +kernel
theorem dX8_scene_14 : decode cX8_scene 14 = .ok (.iload_n 3, 1) := by decide +kernel
theorem dX8_scene_15 : decode cX8_scene 15 = .ok (.iconst 0, 1) := by decide +kernel
theorem dX8_scene_16 : decode cX8_scene 16 = .ok (.bipush 11, 2) := by decide +kernel
theorem dX8_scene_18 : decode cX8_scene 18 = .ok (.invokestatic 38, 3) := by decide +kernel
theorem dX8_scene_21 : decode cX8_scene 21 = .ok (.ifCond .eq 7, 3) := by decide +kernel
theorem dX8_scene_24 : decode cX8_scene 24 = .ok (.iconst 0, 1) := by decide +kernel
theorem dX8_scene_25 : decode cX8_scene 25 = .ok (.goto 4, 3) := by decide +kernel
theorem dX8_scene_28 : decode cX8_scene 28 = .ok (.iconst 2, 1) := by decide +kernel
theorem dX8_scene_29 : decode cX8_scene 29 = .ok (.putfield 34, 3) := by decide +kernel
theorem dX8_scene_32 : decode cX8_scene 32 = .ok (.aload_n 0, 1) := by decide +kernel
theorem dX8_scene_33 : decode cX8_scene 33 = .ok (.getfield 34, 3) := by decide +kernel
theorem dX8_scene_36 : decode cX8_scene 36 = .ok (.ifCond .le 5, 3) := by decide +kernel
theorem dX8_scene_39 : decode cX8_scene 39 = .ok (.iconst 0, 1) := by decide +kernel
theorem dX8_scene_40 : decode cX8_scene 40 = .ok (.ireturn, 1) := by decide +kernel
theorem dX8_scene_41 : decode cX8_scene 41 = .ok (.aload_n 0, 1) := by decide +kernel
theorem dX8_scene_42 : decode cX8_scene 42 = .ok (.iload_n 1, 1) := by decide +kernel
theorem dX8_scene_43 : decode cX8_scene 43 = .ok (.iconst 0, 1) := by decide +kernel
theorem dX8_scene_44 : decode cX8_scene 44 = .ok (.invokevirtual 113, 3) := by decide +kernel
theorem dX8_scene_47 : decode cX8_scene 47 = .ok (.aload_n 0, 1) := by decide +kernel
theorem dX8_scene_48 : decode cX8_scene 48 = .ok (.iload_n 1, 1) := by decide +kernel
theorem dX8_scene_49 : decode cX8_scene 49 = .ok (.iload_n 2, 1) := by decide +kernel
theorem dX8_scene_50 : decode cX8_scene 50 = .ok (.iload_n 3, 1) := by decide +kernel
theorem dX8_scene_51 : decode cX8_scene 51 = .ok (.invokevirtual 164, 3) := by decide +kernel
theorem dX8_scene_54 : decode cX8_scene 54 = .ok (.ireturn, 1) := by decide +kernel
theorem dX8_lostFeet_0 : decode cX8_lostFeet 0 = .ok (.iconst 0, 1) := by decide +kernel
theorem dX8_lostFeet_1 : decode cX8_lostFeet 1 = .ok (.istore_n 2, 1) := by decide +kernel
theorem dX8_lostFeet_2 : decode cX8_lostFeet 2 = .ok (.iconst 0, 1) := by decide +kernel
theorem dX8_lostFeet_3 : decode cX8_lostFeet 3 = .ok (.istore_n 3, 1) := by decide +kernel
theorem dX8_lostFeet_4 : decode cX8_lostFeet 4 = .ok (.iload_n 3, 1) := by decide +kernel
theorem dX8_lostFeet_5 : decode cX8_lostFeet 5 = .ok (.aload_n 0, 1) := by decide +kernel
theorem dX8_lostFeet_6 : decode cX8_lostFeet 6 = .ok (.iload_n 1, 1) := by decide +kernel
theorem dX8_lostFeet_7 : decode cX8_lostFeet 7 = .ok (.invokevirtual 46, 3) := by decide +kernel
theorem dX8_lostFeet_10 : decode cX8_lostFeet 10 = .ok (.if_icmp .ge 18, 3) := by decide +kernel
theorem dX8_lostFeet_13 : decode cX8_lostFeet 13 = .ok (.iload_n 2, 1) := by decide +kernel
theorem dX8_lostFeet_14 : decode cX8_lostFeet 14 = .ok (.aload_n 0, 1) := by decide +kernel
theorem dX8_lostFeet_15 : decode cX8_lostFeet 15 = .ok (.getfield 22, 3) := by decide +kernel
theorem dX8_lostFeet_18 : decode cX8_lostFeet 18 = .ok (.iload_n 3, 1) := by decide +kernel
theorem dX8_lostFeet_19 : decode cX8_lostFeet 19 = .ok (.iaload, 1) := by decide +kernel
theorem dX8_lostFeet_20 : decode cX8_lostFeet 20 = .ok (.iadd, 1) := by decide +kernel
theorem dX8_lostFeet_21 : decode cX8_lostFeet 21 = .ok (.istore_n 2, 1) := by decide +kernel
theorem dX8_lostFeet_22 : decode cX8_lostFeet 22 = .ok (.iinc 3 1, 3) := by decide +kernel
theorem dX8_lostFeet_25 : decode cX8_lostFeet 25 = .ok (.goto (-21), 3) := by decide +kernel
theorem dX8_lostFeet_28 : decode cX8_lostFeet 28 = .ok (.iload_n 2, 1) := by decide +kernel
theorem dX8_lostFeet_29 : decode cX8_lostFeet 29 = .ok (.ireturn, 1) := by decide +kernel
theorem dX8_cues_0 : decode cX8_cues 0 = .ok (.iconst 0, 1) := by decide +kernel
theorem dX8_cues_1 : decode cX8_cues 1 = .ok (.istore_n 2, 1) := by decide +kernel
theorem dX8_cues_2 : decode cX8_cues 2 = .ok (.iconst 0, 1) := by decide +kernel
theorem dX8_cues_3 : decode cX8_cues 3 = .ok (.istore_n 3, 1) := by decide +kernel
theorem dX8_cues_4 : decode cX8_cues 4 = .ok (.iload_n 3, 1) := by decide +kernel
theorem dX8_cues_5 : decode cX8_cues 5 = .ok (.aload_n 0, 1) := by decide +kernel
theorem dX8_cues_6 : decode cX8_cues 6 = .ok (.iload_n 1, 1) := by decide +kernel
theorem dX8_cues_7 : decode cX8_cues 7 = .ok (.invokevirtual 46, 3) := by decide +kernel
theorem dX8_cues_10 : decode cX8_cues 10 = .ok (.if_icmp .ge 29, 3) := by decide +kernel
theorem dX8_cues_13 : decode cX8_cues 13 = .ok (.iload_n 2, 1) := by decide +kernel
theorem dX8_cues_14 : decode cX8_cues 14 = .ok (.aload_n 0, 1) := by decide +kernel
theorem dX8_cues_15 : decode cX8_cues 15 = .ok (.iload_n 1, 1) := by decide +kernel
theorem dX8_cues_16 : decode cX8_cues 16 = .ok (.iload_n 3, 1) := by decide +kernel
theorem dX8_cues_17 : decode cX8_cues 17 = .ok (.iconst 1, 1) := by decide +kernel
theorem dX8_cues_18 : decode cX8_cues 18 = .ok (.invokevirtual 50, 3) := by decide +kernel
theorem dX8_cues_21 : decode cX8_cues 21 = .ok (.ldc 62, 2) := by decide +kernel
theorem dX8_cues_23 : decode cX8_cues 23 = .ok (.if_icmp .ne 7, 3) := by decide +kernel
theorem dX8_cues_26 : decode cX8_cues 26 = .ok (.iconst 0, 1) := by decide +kernel
theorem dX8_cues_27 : decode cX8_cues 27 = .ok (.goto 4, 3) := by decide +kernel
theorem dX8_cues_30 : decode cX8_cues 30 = .ok (.iconst 1, 1) := by decide +kernel
theorem dX8_cues_31 : decode cX8_cues 31 = .ok (.iadd, 1) := by decide +kernel
theorem dX8_cues_32 : decode cX8_cues 32 = .ok (.istore_n 2, 1) := by decide +kernel
theorem dX8_cues_33 : decode cX8_cues 33 = .ok (.iinc 3 1, 3) := by decide +kernel
theorem dX8_cues_36 : decode cX8_cues 36 = .ok (.goto (-32), 3) := by decide +kernel
theorem dX8_cues_39 : decode cX8_cues 39 = .ok (.iload_n 2, 1) := by decide +kernel
theorem dX8_cues_40 : decode cX8_cues 40 = .ok (.ireturn, 1) := by decide +kernel
theorem dX8_silence_0 : decode cX8_silence 0 = .ok (.aload_n 0, 1) := by decide +kernel
theorem dX8_silence_1 : decode cX8_silence 1 = .ok (.getfield 19, 3) := by decide +kernel
theorem dX8_silence_4 : decode cX8_silence 4 = .ok (.aload_n 0, 1) := by decide +kernel
theorem dX8_silence_5 : decode cX8_silence 5 = .ok (.iload_n 1, 1) := by decide +kernel
theorem dX8_silence_6 : decode cX8_silence 6 = .ok (.invokevirtual 46, 3) := by decide +kernel
theorem dX8_silence_9 : decode cX8_silence 9 = .ok (.iaload, 1) := by decide +kernel
theorem dX8_silence_10 : decode cX8_silence 10 = .ok (.istore_n 2, 1) := by decide +kernel
theorem dX8_silence_11 : decode cX8_silence 11 = .ok (.iload_n 2, 1) := by decide +kernel
theorem dX8_silence_12 : decode cX8_silence 12 = .ok (.istore_n 3, 1) := by decide +kernel
theorem dX8_silence_13 : decode cX8_silence 13 = .ok (.iconst 0, 1) := by decide +kernel
theorem dX8_silence_14 : decode cX8_silence 14 = .ok (.istore 4, 2) := by decide +kernel
theorem dX8_silence_16 : decode cX8_silence 16 = .ok (.iload 4, 2) := by decide +kernel
theorem dX8_silence_18 : decode cX8_silence 18 = .ok (.aload_n 0, 1) := by decide +kernel
theorem dX8_silence_19 : decode cX8_silence 19 = .ok (.iload_n 1, 1) := by decide +kernel
theorem dX8_silence_20 : decode cX8_silence 20 = .ok (.invokevirtual 46, 3) := by decide +kernel
theorem dX8_silence_23 : decode cX8_silence 23 = .ok (.if_icmp .ge 66, 3) := by decide +kernel
theorem dX8_silence_26 : decode cX8_silence 26 = .ok (.aload_n 0, 1) := by decide +kernel
theorem dX8_silence_27 : decode cX8_silence 27 = .ok (.iload_n 1, 1) := by decide +kernel
theorem dX8_silence_28 : decode cX8_silence 28 = .ok (.iload 4, 2) := by decide +kernel
theorem dX8_silence_30 : decode cX8_silence 30 = .ok (.iconst 1, 1) := by decide +kernel
theorem dX8_silence_31 : decode cX8_silence 31 = .ok (.invokevirtual 50, 3) := by decide +kernel
theorem dX8_silence_34 : decode cX8_silence 34 = .ok (.ldc 62, 2) := by decide +kernel
theorem dX8_silence_36 : decode cX8_silence 36 = .ok (.if_icmp .eq 47, 3) := by decide +kernel
theorem dX8_silence_39 : decode cX8_silence 39 = .ok (.aload_n 0, 1) := by decide +kernel
theorem dX8_silence_40 : decode cX8_silence 40 = .ok (.getfield 25, 3) := by decide +kernel
theorem dX8_silence_43 : decode cX8_silence 43 = .ok (.iload 4, 2) := by decide +kernel
theorem dX8_silence_45 : decode cX8_silence 45 = .ok (.iaload, 1) := by decide +kernel
theorem dX8_silence_46 : decode cX8_silence 46 = .ok (.iload_n 2, 1) := by decide +kernel
theorem dX8_silence_47 : decode cX8_silence 47 = .ok (.if_icmp .ge 36, 3) := by decide +kernel
theorem dX8_silence_50 : decode cX8_silence 50 = .ok (.iload_n 3, 1) := by decide +kernel
theorem dX8_silence_51 : decode cX8_silence 51 = .ok (.aload_n 0, 1) := by decide +kernel
theorem dX8_silence_52 : decode cX8_silence 52 = .ok (.getfield 28, 3) := by decide +kernel
theorem dX8_silence_55 : decode cX8_silence 55 = .ok (.iload 4, 2) := by decide +kernel
theorem dX8_silence_57 : decode cX8_silence 57 = .ok (.iaload, 1) := by decide +kernel
theorem dX8_silence_58 : decode cX8_silence 58 = .ok (.iload_n 2, 1) := by decide +kernel
theorem dX8_silence_59 : decode cX8_silence 59 = .ok (.if_icmp .ge 13, 3) := by decide +kernel
theorem dX8_silence_62 : decode cX8_silence 62 = .ok (.aload_n 0, 1) := by decide +kernel
theorem dX8_silence_63 : decode cX8_silence 63 = .ok (.getfield 28, 3) := by decide +kernel
theorem dX8_silence_66 : decode cX8_silence 66 = .ok (.iload 4, 2) := by decide +kernel
theorem dX8_silence_68 : decode cX8_silence 68 = .ok (.iaload, 1) := by decide +kernel
theorem dX8_silence_69 : decode cX8_silence 69 = .ok (.goto 4, 3) := by decide +kernel
theorem dX8_silence_72 : decode cX8_silence 72 = .ok (.iload_n 2, 1) := by decide +kernel
theorem dX8_silence_73 : decode cX8_silence 73 = .ok (.aload_n 0, 1) := by decide +kernel
theorem dX8_silence_74 : decode cX8_silence 74 = .ok (.getfield 25, 3) := by decide +kernel
theorem dX8_silence_77 : decode cX8_silence 77 = .ok (.iload 4, 2) := by decide +kernel
theorem dX8_silence_79 : decode cX8_silence 79 = .ok (.iaload, 1) := by decide +kernel
theorem dX8_silence_80 : decode cX8_silence 80 = .ok (.isub, 1) := by decide +kernel
theorem dX8_silence_81 : decode cX8_silence 81 = .ok (.isub, 1) := by decide +kernel
theorem dX8_silence_82 : decode cX8_silence 82 = .ok (.istore_n 3, 1) := by decide +kernel
theorem dX8_silence_83 : decode cX8_silence 83 = .ok (.iinc 4 1, 3) := by decide +kernel
theorem dX8_silence_86 : decode cX8_silence 86 = .ok (.goto (-70), 3) := by decide +kernel
theorem dX8_silence_89 : decode cX8_silence 89 = .ok (.iload_n 3, 1) := by decide +kernel
theorem dX8_silence_90 : decode cX8_silence 90 = .ok (.ireturn, 1) := by decide +kernel
theorem dX8_lastEnd_0 : decode cX8_lastEnd 0 = .ok (.iconst 0, 1) := by decide +kernel
theorem dX8_lastEnd_1 : decode cX8_lastEnd 1 = .ok (.istore_n 2, 1) := by decide +kernel
theorem dX8_lastEnd_2 : decode cX8_lastEnd 2 = .ok (.iconst 0, 1) := by decide +kernel
theorem dX8_lastEnd_3 : decode cX8_lastEnd 3 = .ok (.istore_n 3, 1) := by decide +kernel
theorem dX8_lastEnd_4 : decode cX8_lastEnd 4 = .ok (.iload_n 3, 1) := by decide +kernel
theorem dX8_lastEnd_5 : decode cX8_lastEnd 5 = .ok (.aload_n 0, 1) := by decide +kernel
theorem dX8_lastEnd_6 : decode cX8_lastEnd 6 = .ok (.iload_n 1, 1) := by decide +kernel
theorem dX8_lastEnd_7 : decode cX8_lastEnd 7 = .ok (.invokevirtual 46, 3) := by decide +kernel
theorem dX8_lastEnd_10 : decode cX8_lastEnd 10 = .ok (.if_icmp .ge 32, 3) := by decide +kernel
theorem dX8_lastEnd_13 : decode cX8_lastEnd 13 = .ok (.aload_n 0, 1) := by decide +kernel
theorem dX8_lastEnd_14 : decode cX8_lastEnd 14 = .ok (.iload_n 1, 1) := by decide +kernel
theorem dX8_lastEnd_15 : decode cX8_lastEnd 15 = .ok (.iload_n 3, 1) := by decide +kernel
theorem dX8_lastEnd_16 : decode cX8_lastEnd 16 = .ok (.iconst 1, 1) := by decide +kernel
theorem dX8_lastEnd_17 : decode cX8_lastEnd 17 = .ok (.invokevirtual 50, 3) := by decide +kernel
theorem dX8_lastEnd_20 : decode cX8_lastEnd 20 = .ok (.ldc 62, 2) := by decide +kernel
theorem dX8_lastEnd_22 : decode cX8_lastEnd 22 = .ok (.if_icmp .eq 12, 3) := by decide +kernel
theorem dX8_lastEnd_25 : decode cX8_lastEnd 25 = .ok (.aload_n 0, 1) := by decide +kernel
theorem dX8_lastEnd_26 : decode cX8_lastEnd 26 = .ok (.getfield 28, 3) := by decide +kernel
theorem dX8_lastEnd_29 : decode cX8_lastEnd 29 = .ok (.iload_n 3, 1) := by decide +kernel
theorem dX8_lastEnd_30 : decode cX8_lastEnd 30 = .ok (.iaload, 1) := by decide +kernel
theorem dX8_lastEnd_31 : decode cX8_lastEnd 31 = .ok (.goto 4, 3) := by decide +kernel
theorem dX8_lastEnd_34 : decode cX8_lastEnd 34 = .ok (.iload_n 2, 1) := by decide +kernel
theorem dX8_lastEnd_35 : decode cX8_lastEnd 35 = .ok (.istore_n 2, 1) := by decide +kernel
theorem dX8_lastEnd_36 : decode cX8_lastEnd 36 = .ok (.iinc 3 1, 3) := by decide +kernel
theorem dX8_lastEnd_39 : decode cX8_lastEnd 39 = .ok (.goto (-35), 3) := by decide +kernel
theorem dX8_lastEnd_42 : decode cX8_lastEnd 42 = .ok (.iload_n 2, 1) := by decide +kernel
theorem dX8_lastEnd_43 : decode cX8_lastEnd 43 = .ok (.ireturn, 1) := by decide +kernel
theorem dX8_reelNow_0 : decode cX8_reelNow 0 = .ok (.iload_n 2, 1) := by decide +kernel
theorem dX8_reelNow_1 : decode cX8_reelNow 1 = .ok (.tableswitch 139 0 9 #[55, 61, 72, 78, 89, 102, 115, 121, 127, 133], 55) := by decide +kernel
theorem dX8_reelNow_56 : decode cX8_reelNow 56 = .ok (.aload_n 0, 1) := by decide +kernel
theorem dX8_reelNow_57 : decode cX8_reelNow 57 = .ok (.iload_n 1, 1) := by decide +kernel
theorem dX8_reelNow_58 : decode cX8_reelNow 58 = .ok (.invokevirtual 46, 3) := by decide +kernel
theorem dX8_reelNow_61 : decode cX8_reelNow 61 = .ok (.ireturn, 1) := by decide +kernel
theorem dX8_reelNow_62 : decode cX8_reelNow 62 = .ok (.aload_n 0, 1) := by decide +kernel
theorem dX8_reelNow_63 : decode cX8_reelNow 63 = .ok (.iload_n 1, 1) := by decide +kernel
theorem dX8_reelNow_64 : decode cX8_reelNow 64 = .ok (.aload_n 0, 1) := by decide +kernel
theorem dX8_reelNow_65 : decode cX8_reelNow 65 = .ok (.iload_n 1, 1) := by decide +kernel
theorem dX8_reelNow_66 : decode cX8_reelNow 66 = .ok (.invokevirtual 46, 3) := by decide +kernel
theorem dX8_reelNow_69 : decode cX8_reelNow 69 = .ok (.invokevirtual 161, 3) := by decide +kernel
theorem dX8_reelNow_72 : decode cX8_reelNow 72 = .ok (.ireturn, 1) := by decide +kernel
theorem dX8_reelNow_73 : decode cX8_reelNow 73 = .ok (.aload_n 0, 1) := by decide +kernel
theorem dX8_reelNow_74 : decode cX8_reelNow 74 = .ok (.iload_n 1, 1) := by decide +kernel
theorem dX8_reelNow_75 : decode cX8_reelNow 75 = .ok (.invokevirtual 167, 3) := by decide +kernel
theorem dX8_reelNow_78 : decode cX8_reelNow 78 = .ok (.ireturn, 1) := by decide +kernel
theorem dX8_reelNow_79 : decode cX8_reelNow 79 = .ok (.aload_n 0, 1) := by decide +kernel
theorem dX8_reelNow_80 : decode cX8_reelNow 80 = .ok (.getfield 19, 3) := by decide +kernel
theorem dX8_reelNow_83 : decode cX8_reelNow 83 = .ok (.aload_n 0, 1) := by decide +kernel
theorem dX8_reelNow_84 : decode cX8_reelNow 84 = .ok (.iload_n 1, 1) := by decide +kernel
theorem dX8_reelNow_85 : decode cX8_reelNow 85 = .ok (.invokevirtual 46, 3) := by decide +kernel
theorem dX8_reelNow_88 : decode cX8_reelNow 88 = .ok (.iaload, 1) := by decide +kernel
theorem dX8_reelNow_89 : decode cX8_reelNow 89 = .ok (.ireturn, 1) := by decide +kernel
theorem dX8_reelNow_90 : decode cX8_reelNow 90 = .ok (.aload_n 0, 1) := by decide +kernel
theorem dX8_reelNow_91 : decode cX8_reelNow 91 = .ok (.getfield 7, 3) := by decide +kernel
theorem dX8_reelNow_94 : decode cX8_reelNow 94 = .ok (.bipush 67, 2) := by decide +kernel
theorem dX8_reelNow_96 : decode cX8_reelNow 96 = .ok (.iload_n 1, 1) := by decide +kernel
theorem dX8_reelNow_97 : decode cX8_reelNow 97 = .ok (.imul, 1) := by decide +kernel
theorem dX8_reelNow_98 : decode cX8_reelNow 98 = .ok (.bipush 41, 2) := by decide +kernel
theorem dX8_reelNow_100 : decode cX8_reelNow 100 = .ok (.iadd, 1) := by decide +kernel
theorem dX8_reelNow_101 : decode cX8_reelNow 101 = .ok (.iaload, 1) := by decide +kernel
theorem dX8_reelNow_102 : decode cX8_reelNow 102 = .ok (.ireturn, 1) := by decide +kernel
theorem dX8_reelNow_103 : decode cX8_reelNow 103 = .ok (.aload_n 0, 1) := by decide +kernel
theorem dX8_reelNow_104 : decode cX8_reelNow 104 = .ok (.getfield 7, 3) := by decide +kernel
theorem dX8_reelNow_107 : decode cX8_reelNow 107 = .ok (.bipush 67, 2) := by decide +kernel
theorem dX8_reelNow_109 : decode cX8_reelNow 109 = .ok (.iload_n 1, 1) := by decide +kernel
theorem dX8_reelNow_110 : decode cX8_reelNow 110 = .ok (.imul, 1) := by decide +kernel
theorem dX8_reelNow_111 : decode cX8_reelNow 111 = .ok (.bipush 54, 2) := by decide +kernel
theorem dX8_reelNow_113 : decode cX8_reelNow 113 = .ok (.iadd, 1) := by decide +kernel
theorem dX8_reelNow_114 : decode cX8_reelNow 114 = .ok (.iaload, 1) := by decide +kernel
theorem dX8_reelNow_115 : decode cX8_reelNow 115 = .ok (.ireturn, 1) := by decide +kernel
theorem dX8_reelNow_116 : decode cX8_reelNow 116 = .ok (.aload_n 0, 1) := by decide +kernel
theorem dX8_reelNow_117 : decode cX8_reelNow 117 = .ok (.iload_n 1, 1) := by decide +kernel
theorem dX8_reelNow_118 : decode cX8_reelNow 118 = .ok (.invokevirtual 170, 3) := by decide +kernel
theorem dX8_reelNow_121 : decode cX8_reelNow 121 = .ok (.ireturn, 1) := by decide +kernel
theorem dX8_reelNow_122 : decode cX8_reelNow 122 = .ok (.aload_n 0, 1) := by decide +kernel
theorem dX8_reelNow_123 : decode cX8_reelNow 123 = .ok (.iload_n 1, 1) := by decide +kernel
theorem dX8_reelNow_124 : decode cX8_reelNow 124 = .ok (.invokevirtual 173, 3) := by decide +kernel
theorem dX8_reelNow_127 : decode cX8_reelNow 127 = .ok (.ireturn, 1) := by decide +kernel
theorem dX8_reelNow_128 : decode cX8_reelNow 128 = .ok (.aload_n 0, 1) := by decide +kernel
theorem dX8_reelNow_129 : decode cX8_reelNow 129 = .ok (.iload_n 1, 1) := by decide +kernel
theorem dX8_reelNow_130 : decode cX8_reelNow 130 = .ok (.invokevirtual 176, 3) := by decide +kernel
theorem dX8_reelNow_133 : decode cX8_reelNow 133 = .ok (.ireturn, 1) := by decide +kernel
theorem dX8_reelNow_134 : decode cX8_reelNow 134 = .ok (.aload_n 0, 1) := by decide +kernel
theorem dX8_reelNow_135 : decode cX8_reelNow 135 = .ok (.iload_n 1, 1) := by decide +kernel
theorem dX8_reelNow_136 : decode cX8_reelNow 136 = .ok (.invokevirtual 179, 3) := by decide +kernel
theorem dX8_reelNow_139 : decode cX8_reelNow 139 = .ok (.ireturn, 1) := by decide +kernel
theorem dX8_reelNow_140 : decode cX8_reelNow 140 = .ok (.aload_n 0, 1) := by decide +kernel
theorem dX8_reelNow_141 : decode cX8_reelNow 141 = .ok (.iload_n 1, 1) := by decide +kernel
theorem dX8_reelNow_142 : decode cX8_reelNow 142 = .ok (.invokevirtual 182, 3) := by decide +kernel
theorem dX8_reelNow_145 : decode cX8_reelNow 145 = .ok (.ireturn, 1) := by decide +kernel
theorem dX8_reel_0 : decode cX8_reel 0 = .ok (.aload_n 0, 1) := by decide +kernel
theorem dX8_reel_1 : decode cX8_reel 1 = .ok (.iload_n 1, 1) := by decide +kernel
theorem dX8_reel_2 : decode cX8_reel 2 = .ok (.invokestatic 42, 3) := by decide +kernel
theorem dX8_reel_5 : decode cX8_reel 5 = .ok (.ifCond .ne 7, 3) := by decide +kernel
theorem dX8_reel_8 : decode cX8_reel 8 = .ok (.iconst 1, 1) := by decide +kernel
theorem dX8_reel_9 : decode cX8_reel 9 = .ok (.goto 18, 3) := by decide +kernel
theorem dX8_reel_12 : decode cX8_reel 12 = .ok (.iload_n 2, 1) := by decide +kernel
theorem dX8_reel_13 : decode cX8_reel 13 = .ok (.iconst 0, 1) := by decide +kernel
theorem dX8_reel_14 : decode cX8_reel 14 = .ok (.bipush 10, 2) := by decide +kernel
theorem dX8_reel_16 : decode cX8_reel 16 = .ok (.invokestatic 38, 3) := by decide +kernel
theorem dX8_reel_19 : decode cX8_reel 19 = .ok (.ifCond .eq 7, 3) := by decide +kernel
theorem dX8_reel_22 : decode cX8_reel 22 = .ok (.iconst 0, 1) := by decide +kernel
theorem dX8_reel_23 : decode cX8_reel 23 = .ok (.goto 4, 3) := by decide +kernel
theorem dX8_reel_26 : decode cX8_reel 26 = .ok (.iconst 2, 1) := by decide +kernel
theorem dX8_reel_27 : decode cX8_reel 27 = .ok (.putfield 34, 3) := by decide +kernel
theorem dX8_reel_30 : decode cX8_reel 30 = .ok (.aload_n 0, 1) := by decide +kernel
theorem dX8_reel_31 : decode cX8_reel 31 = .ok (.getfield 34, 3) := by decide +kernel
theorem dX8_reel_34 : decode cX8_reel 34 = .ok (.ifCond .le 5, 3) := by decide +kernel
theorem dX8_reel_37 : decode cX8_reel 37 = .ok (.iconst 0, 1) := by decide +kernel
theorem dX8_reel_38 : decode cX8_reel 38 = .ok (.ireturn, 1) := by decide +kernel
theorem dX8_reel_39 : decode cX8_reel 39 = .ok (.aload_n 0, 1) := by decide +kernel
theorem dX8_reel_40 : decode cX8_reel 40 = .ok (.iload_n 1, 1) := by decide +kernel
theorem dX8_reel_41 : decode cX8_reel 41 = .ok (.iconst 0, 1) := by decide +kernel
theorem dX8_reel_42 : decode cX8_reel 42 = .ok (.invokevirtual 113, 3) := by decide +kernel
theorem dX8_reel_45 : decode cX8_reel 45 = .ok (.aload_n 0, 1) := by decide +kernel
theorem dX8_reel_46 : decode cX8_reel 46 = .ok (.iload_n 1, 1) := by decide +kernel
theorem dX8_reel_47 : decode cX8_reel 47 = .ok (.iload_n 2, 1) := by decide +kernel
theorem dX8_reel_48 : decode cX8_reel 48 = .ok (.invokevirtual 185, 3) := by decide +kernel
theorem dX8_reel_51 : decode cX8_reel 51 = .ok (.ireturn, 1) := by decide +kernel
theorem dX8_speedAt_0 : decode cX8_speedAt 0 = .ok (.aload_n 0, 1) := by decide +kernel
theorem dX8_speedAt_1 : decode cX8_speedAt 1 = .ok (.iload_n 1, 1) := by decide +kernel
theorem dX8_speedAt_2 : decode cX8_speedAt 2 = .ok (.invokestatic 42, 3) := by decide +kernel
theorem dX8_speedAt_5 : decode cX8_speedAt 5 = .ok (.ifCond .ne 7, 3) := by decide +kernel
theorem dX8_speedAt_8 : decode cX8_speedAt 8 = .ok (.iconst 1, 1) := by decide +kernel
theorem dX8_speedAt_9 : decode cX8_speedAt 9 = .ok (.goto 19, 3) := by decide +kernel
theorem dX8_speedAt_12 : decode cX8_speedAt 12 = .ok (.iload_n 2, 1) := by decide +kernel
theorem dX8_speedAt_13 : decode cX8_speedAt 13 = .ok (.iconst 0, 1) := by decide +kernel
theorem dX8_speedAt_14 : decode cX8_speedAt 14 = .ok (.sipush 9000, 3) := by decide +kernel
theorem dX8_speedAt_17 : decode cX8_speedAt 17 = .ok (.invokestatic 38, 3) := by decide +kernel
theorem dX8_speedAt_20 : decode cX8_speedAt 20 = .ok (.ifCond .eq 7, 3) := by decide +kernel
theorem dX8_speedAt_23 : decode cX8_speedAt 23 = .ok (.iconst 0, 1) := by decide +kernel
theorem dX8_speedAt_24 : decode cX8_speedAt 24 = .ok (.goto 4, 3) := by decide +kernel
theorem dX8_speedAt_27 : decode cX8_speedAt 27 = .ok (.iconst 2, 1) := by decide +kernel
theorem dX8_speedAt_28 : decode cX8_speedAt 28 = .ok (.putfield 34, 3) := by decide +kernel
theorem dX8_speedAt_31 : decode cX8_speedAt 31 = .ok (.aload_n 0, 1) := by decide +kernel
theorem dX8_speedAt_32 : decode cX8_speedAt 32 = .ok (.getfield 34, 3) := by decide +kernel
theorem dX8_speedAt_35 : decode cX8_speedAt 35 = .ok (.ifCond .le 7, 3) := by decide +kernel
theorem dX8_speedAt_38 : decode cX8_speedAt 38 = .ok (.iconst 0, 1) := by decide +kernel
theorem dX8_speedAt_39 : decode cX8_speedAt 39 = .ok (.goto 9, 3) := by decide +kernel
theorem dX8_speedAt_42 : decode cX8_speedAt 42 = .ok (.aload_n 0, 1) := by decide +kernel
theorem dX8_speedAt_43 : decode cX8_speedAt 43 = .ok (.iload_n 1, 1) := by decide +kernel
theorem dX8_speedAt_44 : decode cX8_speedAt 44 = .ok (.iload_n 2, 1) := by decide +kernel
theorem dX8_speedAt_45 : decode cX8_speedAt 45 = .ok (.invokevirtual 58, 3) := by decide +kernel
theorem dX8_speedAt_48 : decode cX8_speedAt 48 = .ok (.ireturn, 1) := by decide +kernel
theorem dX8_usesOf_0 : decode cX8_usesOf 0 = .ok (.iconst 0, 1) := by decide +kernel
theorem dX8_usesOf_1 : decode cX8_usesOf 1 = .ok (.istore_n 2, 1) := by decide +kernel
theorem dX8_usesOf_2 : decode cX8_usesOf 2 = .ok (.iconst 0, 1) := by decide +kernel
theorem dX8_usesOf_3 : decode cX8_usesOf 3 = .ok (.istore_n 3, 1) := by decide +kernel
theorem dX8_usesOf_4 : decode cX8_usesOf 4 = .ok (.iload_n 3, 1) := by decide +kernel
theorem dX8_usesOf_5 : decode cX8_usesOf 5 = .ok (.iconst 3, 1) := by decide +kernel
theorem dX8_usesOf_6 : decode cX8_usesOf 6 = .ok (.if_icmp .ge 48, 3) := by decide +kernel
theorem dX8_usesOf_9 : decode cX8_usesOf 9 = .ok (.iconst 0, 1) := by decide +kernel
theorem dX8_usesOf_10 : decode cX8_usesOf 10 = .ok (.istore 4, 2) := by decide +kernel
theorem dX8_usesOf_12 : decode cX8_usesOf 12 = .ok (.iload 4, 2) := by decide +kernel
theorem dX8_usesOf_14 : decode cX8_usesOf 14 = .ok (.aload_n 0, 1) := by decide +kernel
theorem dX8_usesOf_15 : decode cX8_usesOf 15 = .ok (.iload_n 3, 1) := by decide +kernel
theorem dX8_usesOf_16 : decode cX8_usesOf 16 = .ok (.invokevirtual 46, 3) := by decide +kernel
theorem dX8_usesOf_19 : decode cX8_usesOf 19 = .ok (.if_icmp .ge 29, 3) := by decide +kernel
theorem dX8_usesOf_22 : decode cX8_usesOf 22 = .ok (.iload_n 2, 1) := by decide +kernel
theorem dX8_usesOf_23 : decode cX8_usesOf 23 = .ok (.aload_n 0, 1) := by decide +kernel
theorem dX8_usesOf_24 : decode cX8_usesOf 24 = .ok (.iload_n 3, 1) := by decide +kernel
theorem dX8_usesOf_25 : decode cX8_usesOf 25 = .ok (.iload 4, 2) := by decide +kernel
theorem dX8_usesOf_27 : decode cX8_usesOf 27 = .ok (.iconst 1, 1) := by decide +kernel
theorem dX8_usesOf_28 : decode cX8_usesOf 28 = .ok (.invokevirtual 50, 3) := by decide +kernel
theorem dX8_usesOf_31 : decode cX8_usesOf 31 = .ok (.iload_n 1, 1) := by decide +kernel
theorem dX8_usesOf_32 : decode cX8_usesOf 32 = .ok (.if_icmp .ne 7, 3) := by decide +kernel
theorem dX8_usesOf_35 : decode cX8_usesOf 35 = .ok (.iconst 1, 1) := by decide +kernel
theorem dX8_usesOf_36 : decode cX8_usesOf 36 = .ok (.goto 4, 3) := by decide +kernel
theorem dX8_usesOf_39 : decode cX8_usesOf 39 = .ok (.iconst 0, 1) := by decide +kernel
theorem dX8_usesOf_40 : decode cX8_usesOf 40 = .ok (.iadd, 1) := by decide +kernel
theorem dX8_usesOf_41 : decode cX8_usesOf 41 = .ok (.istore_n 2, 1) := by decide +kernel
theorem dX8_usesOf_42 : decode cX8_usesOf 42 = .ok (.iinc 4 1, 3) := by decide +kernel
theorem dX8_usesOf_45 : decode cX8_usesOf 45 = .ok (.goto (-33), 3) := by decide +kernel
theorem dX8_usesOf_48 : decode cX8_usesOf 48 = .ok (.iinc 3 1, 3) := by decide +kernel
theorem dX8_usesOf_51 : decode cX8_usesOf 51 = .ok (.goto (-47), 3) := by decide +kernel
theorem dX8_usesOf_54 : decode cX8_usesOf 54 = .ok (.iload_n 2, 1) := by decide +kernel
theorem dX8_usesOf_55 : decode cX8_usesOf 55 = .ok (.ireturn, 1) := by decide +kernel
theorem dX8_pieceNow_0 : decode cX8_pieceNow 0 = .ok (.iload_n 2, 1) := by decide +kernel
theorem dX8_pieceNow_1 : decode cX8_pieceNow 1 = .ok (.iconst 3, 1) := by decide +kernel
theorem dX8_pieceNow_2 : decode cX8_pieceNow 2 = .ok (.if_icmp .ge 20, 3) := by decide +kernel
theorem dX8_pieceNow_5 : decode cX8_pieceNow 5 = .ok (.aload_n 0, 1) := by decide +kernel
theorem dX8_pieceNow_6 : decode cX8_pieceNow 6 = .ok (.getfield 7, 3) := by decide +kernel
theorem dX8_pieceNow_9 : decode cX8_pieceNow 9 = .ok (.sipush 202, 3) := by decide +kernel
theorem dX8_pieceNow_12 : decode cX8_pieceNow 12 = .ok (.iconst 3, 1) := by decide +kernel
theorem dX8_pieceNow_13 : decode cX8_pieceNow 13 = .ok (.iload_n 1, 1) := by decide +kernel
theorem dX8_pieceNow_14 : decode cX8_pieceNow 14 = .ok (.imul, 1) := by decide +kernel
theorem dX8_pieceNow_15 : decode cX8_pieceNow 15 = .ok (.iadd, 1) := by decide +kernel
theorem dX8_pieceNow_16 : decode cX8_pieceNow 16 = .ok (.iload_n 2, 1) := by decide +kernel
theorem dX8_pieceNow_17 : decode cX8_pieceNow 17 = .ok (.iadd, 1) := by decide +kernel
theorem dX8_pieceNow_18 : decode cX8_pieceNow 18 = .ok (.iaload, 1) := by decide +kernel
theorem dX8_pieceNow_19 : decode cX8_pieceNow 19 = .ok (.goto 8, 3) := by decide +kernel
theorem dX8_pieceNow_22 : decode cX8_pieceNow 22 = .ok (.aload_n 0, 1) := by decide +kernel
theorem dX8_pieceNow_23 : decode cX8_pieceNow 23 = .ok (.iload_n 1, 1) := by decide +kernel
theorem dX8_pieceNow_24 : decode cX8_pieceNow 24 = .ok (.invokevirtual 188, 3) := by decide +kernel
theorem dX8_pieceNow_27 : decode cX8_pieceNow 27 = .ok (.ireturn, 1) := by decide +kernel
theorem dX8_piece_0 : decode cX8_piece 0 = .ok (.aload_n 0, 1) := by decide +kernel
theorem dX8_piece_1 : decode cX8_piece 1 = .ok (.aload_n 0, 1) := by decide +kernel
theorem dX8_piece_2 : decode cX8_piece 2 = .ok (.iload_n 1, 1) := by decide +kernel
theorem dX8_piece_3 : decode cX8_piece 3 = .ok (.invokevirtual 110, 3) := by decide +kernel
theorem dX8_piece_6 : decode cX8_piece 6 = .ok (.ifCond .ne 7, 3) := by decide +kernel
theorem dX8_piece_9 : decode cX8_piece 9 = .ok (.iconst 1, 1) := by decide +kernel
theorem dX8_piece_10 : decode cX8_piece 10 = .ok (.goto 17, 3) := by decide +kernel
theorem dX8_piece_13 : decode cX8_piece 13 = .ok (.iload_n 2, 1) := by decide +kernel
theorem dX8_piece_14 : decode cX8_piece 14 = .ok (.iconst 0, 1) := by decide +kernel
theorem dX8_piece_15 : decode cX8_piece 15 = .ok (.iconst 3, 1) := by decide +kernel
theorem dX8_piece_16 : decode cX8_piece 16 = .ok (.invokestatic 38, 3) := by decide +kernel
theorem dX8_piece_19 : decode cX8_piece 19 = .ok (.ifCond .eq 7, 3) := by decide +kernel
theorem dX8_piece_22 : decode cX8_piece 22 = .ok (.iconst 0, 1) := by decide +kernel
theorem dX8_piece_23 : decode cX8_piece 23 = .ok (.goto 4, 3) := by decide +kernel
theorem dX8_piece_26 : decode cX8_piece 26 = .ok (.iconst 2, 1) := by decide +kernel
theorem dX8_piece_27 : decode cX8_piece 27 = .ok (.putfield 34, 3) := by decide +kernel
theorem dX8_piece_30 : decode cX8_piece 30 = .ok (.aload_n 0, 1) := by decide +kernel
theorem dX8_piece_31 : decode cX8_piece 31 = .ok (.getfield 34, 3) := by decide +kernel
theorem dX8_piece_34 : decode cX8_piece 34 = .ok (.ifCond .le 7, 3) := by decide +kernel
theorem dX8_piece_37 : decode cX8_piece 37 = .ok (.iconst 0, 1) := by decide +kernel
theorem dX8_piece_38 : decode cX8_piece 38 = .ok (.goto 9, 3) := by decide +kernel
theorem dX8_piece_41 : decode cX8_piece 41 = .ok (.aload_n 0, 1) := by decide +kernel
theorem dX8_piece_42 : decode cX8_piece 42 = .ok (.iload_n 1, 1) := by decide +kernel
theorem dX8_piece_43 : decode cX8_piece 43 = .ok (.iload_n 2, 1) := by decide +kernel
theorem dX8_piece_44 : decode cX8_piece 44 = .ok (.invokevirtual 191, 3) := by decide +kernel
theorem dX8_piece_47 : decode cX8_piece 47 = .ok (.ireturn, 1) := by decide +kernel
theorem dX8_overReels_0 : decode cX8_overReels 0 = .ok (.iconst 0, 1) := by decide +kernel
theorem dX8_overReels_1 : decode cX8_overReels 1 = .ok (.istore_n 2, 1) := by decide +kernel
theorem dX8_overReels_2 : decode cX8_overReels 2 = .ok (.iconst 0, 1) := by decide +kernel
theorem dX8_overReels_3 : decode cX8_overReels 3 = .ok (.istore_n 3, 1) := by decide +kernel
theorem dX8_overReels_4 : decode cX8_overReels 4 = .ok (.iload_n 3, 1) := by decide +kernel
theorem dX8_overReels_5 : decode cX8_overReels 5 = .ok (.iconst 3, 1) := by decide +kernel
theorem dX8_overReels_6 : decode cX8_overReels 6 = .ok (.if_icmp .ge 24, 3) := by decide +kernel
theorem dX8_overReels_9 : decode cX8_overReels 9 = .ok (.aload_n 0, 1) := by decide +kernel
theorem dX8_overReels_10 : decode cX8_overReels 10 = .ok (.iload_n 3, 1) := by decide +kernel
theorem dX8_overReels_11 : decode cX8_overReels 11 = .ok (.iconst 0, 1) := by decide +kernel
theorem dX8_overReels_12 : decode cX8_overReels 12 = .ok (.invokevirtual 113, 3) := by decide +kernel
theorem dX8_overReels_15 : decode cX8_overReels 15 = .ok (.iload_n 2, 1) := by decide +kernel
theorem dX8_overReels_16 : decode cX8_overReels 16 = .ok (.aload_n 0, 1) := by decide +kernel
theorem dX8_overReels_17 : decode cX8_overReels 17 = .ok (.iload_n 3, 1) := by decide +kernel
theorem dX8_overReels_18 : decode cX8_overReels 18 = .ok (.iload_n 1, 1) := by decide +kernel
theorem dX8_overReels_19 : decode cX8_overReels 19 = .ok (.invokevirtual 185, 3) := by decide +kernel
theorem dX8_overReels_22 : decode cX8_overReels 22 = .ok (.iadd, 1) := by decide +kernel
theorem dX8_overReels_23 : decode cX8_overReels 23 = .ok (.istore_n 2, 1) := by decide +kernel
theorem dX8_overReels_24 : decode cX8_overReels 24 = .ok (.iinc 3 1, 3) := by decide +kernel
theorem dX8_overReels_27 : decode cX8_overReels 27 = .ok (.goto (-23), 3) := by decide +kernel
theorem dX8_overReels_30 : decode cX8_overReels 30 = .ok (.iload_n 2, 1) := by decide +kernel
theorem dX8_overReels_31 : decode cX8_overReels 31 = .ok (.ireturn, 1) := by decide +kernel
theorem dX8_counted_0 : decode cX8_counted 0 = .ok (.iload_n 1, 1) := by decide +kernel
theorem dX8_counted_1 : decode cX8_counted 1 = .ok (.tableswitch 96 0 6 #[43, 49, 58, 65, 72, 81, 90], 43) := by decide +kernel
theorem dX8_counted_44 : decode cX8_counted 44 = .ok (.aload_n 0, 1) := by decide +kernel
theorem dX8_counted_45 : decode cX8_counted 45 = .ok (.iconst 0, 1) := by decide +kernel
theorem dX8_counted_46 : decode cX8_counted 46 = .ok (.invokevirtual 194, 3) := by decide +kernel
theorem dX8_counted_49 : decode cX8_counted 49 = .ok (.ireturn, 1) := by decide +kernel
theorem dX8_counted_50 : decode cX8_counted 50 = .ok (.aload_n 0, 1) := by decide +kernel
theorem dX8_counted_51 : decode cX8_counted 51 = .ok (.getfield 7, 3) := by decide +kernel
theorem dX8_counted_54 : decode cX8_counted 54 = .ok (.sipush 201, 3) := by decide +kernel
theorem dX8_counted_57 : decode cX8_counted 57 = .ok (.iaload, 1) := by decide +kernel
theorem dX8_counted_58 : decode cX8_counted 58 = .ok (.ireturn, 1) := by decide +kernel
theorem dX8_counted_59 : decode cX8_counted 59 = .ok (.aload_n 0, 1) := by decide +kernel
theorem dX8_counted_60 : decode cX8_counted 60 = .ok (.bipush 6, 2) := by decide +kernel
theorem dX8_counted_62 : decode cX8_counted 62 = .ok (.invokevirtual 194, 3) := by decide +kernel
theorem dX8_counted_65 : decode cX8_counted 65 = .ok (.ireturn, 1) := by decide +kernel
theorem dX8_counted_66 : decode cX8_counted 66 = .ok (.aload_n 0, 1) := by decide +kernel
theorem dX8_counted_67 : decode cX8_counted 67 = .ok (.bipush 7, 2) := by decide +kernel
theorem dX8_counted_69 : decode cX8_counted 69 = .ok (.invokevirtual 194, 3) := by decide +kernel
theorem dX8_counted_72 : decode cX8_counted 72 = .ok (.ireturn, 1) := by decide +kernel
theorem dX8_counted_73 : decode cX8_counted 73 = .ok (.aload_n 0, 1) := by decide +kernel
theorem dX8_counted_74 : decode cX8_counted 74 = .ok (.getfield 7, 3) := by decide +kernel
theorem dX8_counted_77 : decode cX8_counted 77 = .ok (.sipush 226, 3) := by decide +kernel
theorem dX8_counted_80 : decode cX8_counted 80 = .ok (.iaload, 1) := by decide +kernel
theorem dX8_counted_81 : decode cX8_counted 81 = .ok (.ireturn, 1) := by decide +kernel
theorem dX8_counted_82 : decode cX8_counted 82 = .ok (.aload_n 0, 1) := by decide +kernel
theorem dX8_counted_83 : decode cX8_counted 83 = .ok (.getfield 7, 3) := by decide +kernel
theorem dX8_counted_86 : decode cX8_counted 86 = .ok (.sipush 227, 3) := by decide +kernel
theorem dX8_counted_89 : decode cX8_counted 89 = .ok (.iaload, 1) := by decide +kernel
theorem dX8_counted_90 : decode cX8_counted 90 = .ok (.ireturn, 1) := by decide +kernel
theorem dX8_counted_91 : decode cX8_counted 91 = .ok (.aload_n 0, 1) := by decide +kernel
theorem dX8_counted_92 : decode cX8_counted 92 = .ok (.iconst 3, 1) := by decide +kernel
theorem dX8_counted_93 : decode cX8_counted 93 = .ok (.invokevirtual 194, 3) := by decide +kernel
theorem dX8_counted_96 : decode cX8_counted 96 = .ok (.ireturn, 1) := by decide +kernel
theorem dX8_counted_97 : decode cX8_counted 97 = .ok (.aload_n 0, 1) := by decide +kernel
theorem dX8_counted_98 : decode cX8_counted 98 = .ok (.getfield 88, 3) := by decide +kernel
theorem dX8_counted_101 : decode cX8_counted 101 = .ok (.ireturn, 1) := by decide +kernel
theorem dX8_count_0 : decode cX8_count 0 = .ok (.aload_n 0, 1) := by decide +kernel
theorem dX8_count_1 : decode cX8_count 1 = .ok (.iload_n 1, 1) := by decide +kernel
theorem dX8_count_2 : decode cX8_count 2 = .ok (.iconst 0, 1) := by decide +kernel
theorem dX8_count_3 : decode cX8_count 3 = .ok (.bipush 7, 2) := by decide +kernel
theorem dX8_count_5 : decode cX8_count 5 = .ok (.invokestatic 38, 3) := by decide +kernel
theorem dX8_count_8 : decode cX8_count 8 = .ok (.ifCond .eq 7, 3) := by decide +kernel
theorem dX8_count_11 : decode cX8_count 11 = .ok (.iconst 0, 1) := by decide +kernel
theorem dX8_count_12 : decode cX8_count 12 = .ok (.goto 4, 3) := by decide +kernel
theorem dX8_count_15 : decode cX8_count 15 = .ok (.iconst 1, 1) := by decide +kernel
theorem dX8_count_16 : decode cX8_count 16 = .ok (.putfield 34, 3) := by decide +kernel
theorem dX8_count_19 : decode cX8_count 19 = .ok (.aload_n 0, 1) := by decide +kernel
theorem dX8_count_20 : decode cX8_count 20 = .ok (.getfield 34, 3) := by decide +kernel
theorem dX8_count_23 : decode cX8_count 23 = .ok (.ifCond .le 7, 3) := by decide +kernel
theorem dX8_count_26 : decode cX8_count 26 = .ok (.iconst 0, 1) := by decide +kernel
theorem dX8_count_27 : decode cX8_count 27 = .ok (.goto 8, 3) := by decide +kernel
theorem dX8_count_30 : decode cX8_count 30 = .ok (.aload_n 0, 1) := by decide +kernel
theorem dX8_count_31 : decode cX8_count 31 = .ok (.iload_n 1, 1) := by decide +kernel
theorem dX8_count_32 : decode cX8_count 32 = .ok (.invokevirtual 197, 3) := by decide +kernel
theorem dX8_count_35 : decode cX8_count 35 = .ok (.ireturn, 1) := by decide +kernel
theorem dX8_bestCue_0 : decode cX8_bestCue 0 = .ok (.aload_n 0, 1) := by decide +kernel
theorem dX8_bestCue_1 : decode cX8_bestCue 1 = .ok (.aload_n 0, 1) := by decide +kernel
theorem dX8_bestCue_2 : decode cX8_bestCue 2 = .ok (.iload_n 1, 1) := by decide +kernel
theorem dX8_bestCue_3 : decode cX8_bestCue 3 = .ok (.iload_n 2, 1) := by decide +kernel
theorem dX8_bestCue_4 : decode cX8_bestCue 4 = .ok (.invokevirtual 98, 3) := by decide +kernel
theorem dX8_bestCue_7 : decode cX8_bestCue 7 = .ok (.ifCond .eq 15, 3) := by decide +kernel
theorem dX8_bestCue_10 : decode cX8_bestCue 10 = .ok (.aload_n 0, 1) := by decide +kernel
theorem dX8_bestCue_11 : decode cX8_bestCue 11 = .ok (.iload_n 3, 1) := by decide +kernel
theorem dX8_bestCue_12 : decode cX8_bestCue 12 = .ok (.invokevirtual 110, 3) := by decide +kernel
theorem dX8_bestCue_15 : decode cX8_bestCue 15 = .ok (.ifCond .eq 7, 3) := by decide +kernel
theorem dX8_bestCue_18 : decode cX8_bestCue 18 = .ok (.iconst 0, 1) := by decide +kernel
theorem dX8_bestCue_19 : decode cX8_bestCue 19 = .ok (.goto 4, 3) := by decide +kernel
theorem dX8_bestCue_22 : decode cX8_bestCue 22 = .ok (.iconst 1, 1) := by decide +kernel
theorem dX8_bestCue_23 : decode cX8_bestCue 23 = .ok (.putfield 34, 3) := by decide +kernel
theorem dX8_bestCue_26 : decode cX8_bestCue 26 = .ok (.aload_n 0, 1) := by decide +kernel
theorem dX8_bestCue_27 : decode cX8_bestCue 27 = .ok (.getfield 34, 3) := by decide +kernel
theorem dX8_bestCue_30 : decode cX8_bestCue 30 = .ok (.ifCond .le 5, 3) := by decide +kernel
theorem dX8_bestCue_33 : decode cX8_bestCue 33 = .ok (.iconst 0, 1) := by decide +kernel
theorem dX8_bestCue_34 : decode cX8_bestCue 34 = .ok (.ireturn, 1) := by decide +kernel
theorem dX8_bestCue_35 : decode cX8_bestCue 35 = .ok (.aload_n 0, 1) := by decide +kernel
theorem dX8_bestCue_36 : decode cX8_bestCue 36 = .ok (.iload_n 1, 1) := by decide +kernel
theorem dX8_bestCue_37 : decode cX8_bestCue 37 = .ok (.iconst 0, 1) := by decide +kernel
theorem dX8_bestCue_38 : decode cX8_bestCue 38 = .ok (.invokevirtual 113, 3) := by decide +kernel
theorem dX8_bestCue_41 : decode cX8_bestCue 41 = .ok (.aload_n 0, 1) := by decide +kernel
theorem dX8_bestCue_42 : decode cX8_bestCue 42 = .ok (.iload_n 1, 1) := by decide +kernel
theorem dX8_bestCue_43 : decode cX8_bestCue 43 = .ok (.iload_n 2, 1) := by decide +kernel
theorem dX8_bestCue_44 : decode cX8_bestCue 44 = .ok (.iload_n 3, 1) := by decide +kernel
theorem dX8_bestCue_45 : decode cX8_bestCue 45 = .ok (.invokevirtual 116, 3) := by decide +kernel
theorem dX8_bestCue_48 : decode cX8_bestCue 48 = .ok (.ireturn, 1) := by decide +kernel
theorem dX8_bestPieceNow_0 : decode cX8_bestPieceNow 0 = .ok (.ldc 62, 2) := by decide +kernel
theorem dX8_bestPieceNow_2 : decode cX8_bestPieceNow 2 = .ok (.istore_n 3, 1) := by decide +kernel
theorem dX8_bestPieceNow_3 : decode cX8_bestPieceNow 3 = .ok (.iconst 0, 1) := by decide +kernel
theorem dX8_bestPieceNow_4 : decode cX8_bestPieceNow 4 = .ok (.istore 4, 2) := by decide +kernel
theorem dX8_bestPieceNow_6 : decode cX8_bestPieceNow 6 = .ok (.iconst 0, 1) := by decide +kernel
theorem dX8_bestPieceNow_7 : decode cX8_bestPieceNow 7 = .ok (.istore 5, 2) := by decide +kernel
theorem dX8_bestPieceNow_9 : decode cX8_bestPieceNow 9 = .ok (.iload 5, 2) := by decide +kernel
theorem dX8_bestPieceNow_11 : decode cX8_bestPieceNow 11 = .ok (.aload_n 0, 1) := by decide +kernel
theorem dX8_bestPieceNow_12 : decode cX8_bestPieceNow 12 = .ok (.getfield 7, 3) := by decide +kernel
theorem dX8_bestPieceNow_15 : decode cX8_bestPieceNow 15 = .ok (.sipush 201, 3) := by decide +kernel
theorem dX8_bestPieceNow_18 : decode cX8_bestPieceNow 18 = .ok (.iaload, 1) := by decide +kernel
theorem dX8_bestPieceNow_19 : decode cX8_bestPieceNow 19 = .ok (.if_icmp .ge 42, 3) := by decide +kernel
theorem dX8_bestPieceNow_22 : decode cX8_bestPieceNow 22 = .ok (.aload_n 0, 1) := by decide +kernel
theorem dX8_bestPieceNow_23 : decode cX8_bestPieceNow 23 = .ok (.iload_n 1, 1) := by decide +kernel
theorem dX8_bestPieceNow_24 : decode cX8_bestPieceNow 24 = .ok (.iload_n 2, 1) := by decide +kernel
theorem dX8_bestPieceNow_25 : decode cX8_bestPieceNow 25 = .ok (.iload 5, 2) := by decide +kernel
theorem dX8_bestPieceNow_27 : decode cX8_bestPieceNow 27 = .ok (.invokevirtual 116, 3) := by decide +kernel
theorem dX8_bestPieceNow_30 : decode cX8_bestPieceNow 30 = .ok (.pop, 1) := by decide +kernel
theorem dX8_bestPieceNow_31 : decode cX8_bestPieceNow 31 = .ok (.iload_n 3, 1) := by decide +kernel
theorem dX8_bestPieceNow_32 : decode cX8_bestPieceNow 32 = .ok (.ldc 62, 2) := by decide +kernel
theorem dX8_bestPieceNow_34 : decode cX8_bestPieceNow 34 = .ok (.if_icmp .eq 12, 3) := by decide +kernel
theorem dX8_bestPieceNow_37 : decode cX8_bestPieceNow 37 = .ok (.aload_n 0, 1) := by decide +kernel
theorem dX8_bestPieceNow_38 : decode cX8_bestPieceNow 38 = .ok (.getfield 85, 3) := by decide +kernel
theorem dX8_bestPieceNow_41 : decode cX8_bestPieceNow 41 = .ok (.iload 4, 2) := by decide +kernel
theorem dX8_bestPieceNow_43 : decode cX8_bestPieceNow 43 = .ok (.if_icmp .ge 12, 3) := by decide +kernel
theorem dX8_bestPieceNow_46 : decode cX8_bestPieceNow 46 = .ok (.iload 5, 2) := by decide +kernel
theorem dX8_bestPieceNow_48 : decode cX8_bestPieceNow 48 = .ok (.istore_n 3, 1) := by decide +kernel
theorem dX8_bestPieceNow_49 : decode cX8_bestPieceNow 49 = .ok (.aload_n 0, 1) := by decide +kernel
theorem dX8_bestPieceNow_50 : decode cX8_bestPieceNow 50 = .ok (.getfield 85, 3) := by decide +kernel
theorem dX8_bestPieceNow_53 : decode cX8_bestPieceNow 53 = .ok (.istore 4, 2) := by decide +kernel
theorem dX8_bestPieceNow_55 : decode cX8_bestPieceNow 55 = .ok (.iinc 5 1, 3) := by decide +kernel
theorem dX8_bestPieceNow_58 : decode cX8_bestPieceNow 58 = .ok (.goto (-49), 3) := by decide +kernel
theorem dX8_bestPieceNow_61 : decode cX8_bestPieceNow 61 = .ok (.iload_n 3, 1) := by decide +kernel
theorem dX8_bestPieceNow_62 : decode cX8_bestPieceNow 62 = .ok (.ireturn, 1) := by decide +kernel
theorem dX8_bestPiece_0 : decode cX8_bestPiece 0 = .ok (.aload_n 0, 1) := by decide +kernel
theorem dX8_bestPiece_1 : decode cX8_bestPiece 1 = .ok (.aload_n 0, 1) := by decide +kernel
theorem dX8_bestPiece_2 : decode cX8_bestPiece 2 = .ok (.iload_n 1, 1) := by decide +kernel
theorem dX8_bestPiece_3 : decode cX8_bestPiece 3 = .ok (.iload_n 2, 1) := by decide +kernel
theorem dX8_bestPiece_4 : decode cX8_bestPiece 4 = .ok (.invokevirtual 98, 3) := by decide +kernel
theorem dX8_bestPiece_7 : decode cX8_bestPiece 7 = .ok (.ifCond .eq 7, 3) := by decide +kernel
theorem dX8_bestPiece_10 : decode cX8_bestPiece 10 = .ok (.iconst 0, 1) := by decide +kernel
theorem dX8_bestPiece_11 : decode cX8_bestPiece 11 = .ok (.goto 4, 3) := by decide +kernel
theorem dX8_bestPiece_14 : decode cX8_bestPiece 14 = .ok (.iconst 1, 1) := by decide +kernel
theorem dX8_bestPiece_15 : decode cX8_bestPiece 15 = .ok (.putfield 34, 3) := by decide +kernel
theorem dX8_bestPiece_18 : decode cX8_bestPiece 18 = .ok (.aload_n 0, 1) := by decide +kernel
theorem dX8_bestPiece_19 : decode cX8_bestPiece 19 = .ok (.getfield 34, 3) := by decide +kernel
theorem dX8_bestPiece_22 : decode cX8_bestPiece 22 = .ok (.ifCond .le 5, 3) := by decide +kernel
theorem dX8_bestPiece_25 : decode cX8_bestPiece 25 = .ok (.iconst 0, 1) := by decide +kernel
theorem dX8_bestPiece_26 : decode cX8_bestPiece 26 = .ok (.ireturn, 1) := by decide +kernel
theorem dX8_bestPiece_27 : decode cX8_bestPiece 27 = .ok (.aload_n 0, 1) := by decide +kernel
theorem dX8_bestPiece_28 : decode cX8_bestPiece 28 = .ok (.iload_n 1, 1) := by decide +kernel
theorem dX8_bestPiece_29 : decode cX8_bestPiece 29 = .ok (.iconst 0, 1) := by decide +kernel
theorem dX8_bestPiece_30 : decode cX8_bestPiece 30 = .ok (.invokevirtual 113, 3) := by decide +kernel
theorem dX8_bestPiece_33 : decode cX8_bestPiece 33 = .ok (.aload_n 0, 1) := by decide +kernel
theorem dX8_bestPiece_34 : decode cX8_bestPiece 34 = .ok (.iload_n 1, 1) := by decide +kernel
theorem dX8_bestPiece_35 : decode cX8_bestPiece 35 = .ok (.iload_n 2, 1) := by decide +kernel
theorem dX8_bestPiece_36 : decode cX8_bestPiece 36 = .ok (.invokevirtual 200, 3) := by decide +kernel
theorem dX8_bestPiece_39 : decode cX8_bestPiece 39 = .ok (.ireturn, 1) := by decide +kernel
theorem dX8_ifCranked_0 : decode cX8_ifCranked 0 = .ok (.aload_n 0, 1) := by decide +kernel
theorem dX8_ifCranked_1 : decode cX8_ifCranked 1 = .ok (.iload_n 1, 1) := by decide +kernel
theorem dX8_ifCranked_2 : decode cX8_ifCranked 2 = .ok (.invokestatic 42, 3) := by decide +kernel
theorem dX8_ifCranked_5 : decode cX8_ifCranked 5 = .ok (.ifCond .ne 7, 3) := by decide +kernel
theorem dX8_ifCranked_8 : decode cX8_ifCranked 8 = .ok (.iconst 1, 1) := by decide +kernel
theorem dX8_ifCranked_9 : decode cX8_ifCranked 9 = .ok (.goto 19, 3) := by decide +kernel
theorem dX8_ifCranked_12 : decode cX8_ifCranked 12 = .ok (.iload_n 2, 1) := by decide +kernel
theorem dX8_ifCranked_13 : decode cX8_ifCranked 13 = .ok (.bipush 10, 2) := by decide +kernel
theorem dX8_ifCranked_15 : decode cX8_ifCranked 15 = .ok (.bipush 30, 2) := by decide +kernel
theorem dX8_ifCranked_17 : decode cX8_ifCranked 17 = .ok (.invokestatic 38, 3) := by decide +kernel
theorem dX8_ifCranked_20 : decode cX8_ifCranked 20 = .ok (.ifCond .eq 7, 3) := by decide +kernel
theorem dX8_ifCranked_23 : decode cX8_ifCranked 23 = .ok (.iconst 0, 1) := by decide +kernel
theorem dX8_ifCranked_24 : decode cX8_ifCranked 24 = .ok (.goto 4, 3) := by decide +kernel
theorem dX8_ifCranked_27 : decode cX8_ifCranked 27 = .ok (.iconst 2, 1) := by decide +kernel
theorem dX8_ifCranked_28 : decode cX8_ifCranked 28 = .ok (.putfield 34, 3) := by decide +kernel
theorem dX8_ifCranked_31 : decode cX8_ifCranked 31 = .ok (.aload_n 0, 1) := by decide +kernel
theorem dX8_ifCranked_32 : decode cX8_ifCranked 32 = .ok (.getfield 34, 3) := by decide +kernel
theorem dX8_ifCranked_35 : decode cX8_ifCranked 35 = .ok (.ifCond .le 5, 3) := by decide +kernel
theorem dX8_ifCranked_38 : decode cX8_ifCranked 38 = .ok (.iconst 0, 1) := by decide +kernel
theorem dX8_ifCranked_39 : decode cX8_ifCranked 39 = .ok (.ireturn, 1) := by decide +kernel
theorem dX8_ifCranked_40 : decode cX8_ifCranked 40 = .ok (.aload_n 0, 1) := by decide +kernel
theorem dX8_ifCranked_41 : decode cX8_ifCranked 41 = .ok (.iload_n 1, 1) := by decide +kernel
theorem dX8_ifCranked_42 : decode cX8_ifCranked 42 = .ok (.iload_n 2, 1) := by decide +kernel
theorem dX8_ifCranked_43 : decode cX8_ifCranked 43 = .ok (.invokevirtual 113, 3) := by decide +kernel
theorem dX8_ifCranked_46 : decode cX8_ifCranked 46 = .ok (.aload_n 0, 1) := by decide +kernel
theorem dX8_ifCranked_47 : decode cX8_ifCranked 47 = .ok (.iload_n 1, 1) := by decide +kernel
theorem dX8_ifCranked_48 : decode cX8_ifCranked 48 = .ok (.invokevirtual 173, 3) := by decide +kernel
theorem dX8_ifCranked_51 : decode cX8_ifCranked 51 = .ok (.ireturn, 1) := by decide +kernel
theorem dX8_bestSpeedNow_0 : decode cX8_bestSpeedNow 0 = .ok (.ldc 62, 2) := by decide +kernel
theorem dX8_bestSpeedNow_2 : decode cX8_bestSpeedNow 2 = .ok (.istore_n 2, 1) := by decide +kernel
theorem dX8_bestSpeedNow_3 : decode cX8_bestSpeedNow 3 = .ok (.iconst 0, 1) := by decide +kernel
theorem dX8_bestSpeedNow_4 : decode cX8_bestSpeedNow 4 = .ok (.istore_n 3, 1) := by decide +kernel
theorem dX8_bestSpeedNow_5 : decode cX8_bestSpeedNow 5 = .ok (.bipush 10, 2) := by decide +kernel
theorem dX8_bestSpeedNow_7 : decode cX8_bestSpeedNow 7 = .ok (.istore 4, 2) := by decide +kernel
theorem dX8_bestSpeedNow_9 : decode cX8_bestSpeedNow 9 = .ok (.iload 4, 2) := by decide +kernel
theorem dX8_bestSpeedNow_11 : decode cX8_bestSpeedNow 11 = .ok (.bipush 30, 2) := by decide +kernel
theorem dX8_bestSpeedNow_13 : decode cX8_bestSpeedNow 13 = .ok (.if_icmp .gt 41, 3) := by decide +kernel
theorem dX8_bestSpeedNow_16 : decode cX8_bestSpeedNow 16 = .ok (.aload_n 0, 1) := by decide +kernel
theorem dX8_bestSpeedNow_17 : decode cX8_bestSpeedNow 17 = .ok (.iload_n 1, 1) := by decide +kernel
theorem dX8_bestSpeedNow_18 : decode cX8_bestSpeedNow 18 = .ok (.iload 4, 2) := by decide +kernel
theorem dX8_bestSpeedNow_20 : decode cX8_bestSpeedNow 20 = .ok (.invokevirtual 113, 3) := by decide +kernel
theorem dX8_bestSpeedNow_23 : decode cX8_bestSpeedNow 23 = .ok (.aload_n 0, 1) := by decide +kernel
theorem dX8_bestSpeedNow_24 : decode cX8_bestSpeedNow 24 = .ok (.iload_n 1, 1) := by decide +kernel
theorem dX8_bestSpeedNow_25 : decode cX8_bestSpeedNow 25 = .ok (.invokevirtual 176, 3) := by decide +kernel
theorem dX8_bestSpeedNow_28 : decode cX8_bestSpeedNow 28 = .ok (.istore 5, 2) := by decide +kernel
theorem dX8_bestSpeedNow_30 : decode cX8_bestSpeedNow 30 = .ok (.iload_n 2, 1) := by decide +kernel
theorem dX8_bestSpeedNow_31 : decode cX8_bestSpeedNow 31 = .ok (.ldc 62, 2) := by decide +kernel
theorem dX8_bestSpeedNow_33 : decode cX8_bestSpeedNow 33 = .ok (.if_icmp .eq 9, 3) := by decide +kernel
theorem dX8_bestSpeedNow_36 : decode cX8_bestSpeedNow 36 = .ok (.iload 5, 2) := by decide +kernel
theorem dX8_bestSpeedNow_38 : decode cX8_bestSpeedNow 38 = .ok (.iload_n 3, 1) := by decide +kernel
theorem dX8_bestSpeedNow_39 : decode cX8_bestSpeedNow 39 = .ok (.if_icmp .ge 9, 3) := by decide +kernel
theorem dX8_bestSpeedNow_42 : decode cX8_bestSpeedNow 42 = .ok (.iload 4, 2) := by decide +kernel
theorem dX8_bestSpeedNow_44 : decode cX8_bestSpeedNow 44 = .ok (.istore_n 2, 1) := by decide +kernel
theorem dX8_bestSpeedNow_45 : decode cX8_bestSpeedNow 45 = .ok (.iload 5, 2) := by decide +kernel
theorem dX8_bestSpeedNow_47 : decode cX8_bestSpeedNow 47 = .ok (.istore_n 3, 1) := by decide +kernel
theorem dX8_bestSpeedNow_48 : decode cX8_bestSpeedNow 48 = .ok (.iinc 4 1, 3) := by decide +kernel
theorem dX8_bestSpeedNow_51 : decode cX8_bestSpeedNow 51 = .ok (.goto (-42), 3) := by decide +kernel
theorem dX8_bestSpeedNow_54 : decode cX8_bestSpeedNow 54 = .ok (.iload_n 2, 1) := by decide +kernel
theorem dX8_bestSpeedNow_55 : decode cX8_bestSpeedNow 55 = .ok (.ireturn, 1) := by decide +kernel
theorem dX8_bestSpeed_0 : decode cX8_bestSpeed 0 = .ok (.aload_n 0, 1) := by decide +kernel
theorem dX8_bestSpeed_1 : decode cX8_bestSpeed 1 = .ok (.iload_n 1, 1) := by decide +kernel
theorem dX8_bestSpeed_2 : decode cX8_bestSpeed 2 = .ok (.invokestatic 42, 3) := by decide +kernel
theorem dX8_bestSpeed_5 : decode cX8_bestSpeed 5 = .ok (.ifCond .eq 7, 3) := by decide +kernel
theorem dX8_bestSpeed_8 : decode cX8_bestSpeed 8 = .ok (.iconst 0, 1) := by decide +kernel
theorem dX8_bestSpeed_9 : decode cX8_bestSpeed 9 = .ok (.goto 4, 3) := by decide +kernel
theorem dX8_bestSpeed_12 : decode cX8_bestSpeed 12 = .ok (.iconst 1, 1) := by decide +kernel
theorem dX8_bestSpeed_13 : decode cX8_bestSpeed 13 = .ok (.putfield 34, 3) := by decide +kernel
theorem dX8_bestSpeed_16 : decode cX8_bestSpeed 16 = .ok (.aload_n 0, 1) := by decide +kernel
theorem dX8_bestSpeed_17 : decode cX8_bestSpeed 17 = .ok (.getfield 34, 3) := by decide +kernel
theorem dX8_bestSpeed_20 : decode cX8_bestSpeed 20 = .ok (.ifCond .le 7, 3) := by decide +kernel
theorem dX8_bestSpeed_23 : decode cX8_bestSpeed 23 = .ok (.iconst 0, 1) := by decide +kernel
theorem dX8_bestSpeed_24 : decode cX8_bestSpeed 24 = .ok (.goto 8, 3) := by decide +kernel
theorem dX8_bestSpeed_27 : decode cX8_bestSpeed 27 = .ok (.aload_n 0, 1) := by decide +kernel
theorem dX8_bestSpeed_28 : decode cX8_bestSpeed 28 = .ok (.iload_n 1, 1) := by decide +kernel
theorem dX8_bestSpeed_29 : decode cX8_bestSpeed 29 = .ok (.invokevirtual 203, 3) := by decide +kernel
theorem dX8_bestSpeed_32 : decode cX8_bestSpeed 32 = .ok (.ireturn, 1) := by decide +kernel
theorem dX8_offNow_0 : decode cX8_offNow 0 = .ok (.aload_n 0, 1) := by decide +kernel
theorem dX8_offNow_1 : decode cX8_offNow 1 = .ok (.iload_n 1, 1) := by decide +kernel
theorem dX8_offNow_2 : decode cX8_offNow 2 = .ok (.iconst 3, 1) := by decide +kernel
theorem dX8_offNow_3 : decode cX8_offNow 3 = .ok (.invokevirtual 185, 3) := by decide +kernel
theorem dX8_offNow_6 : decode cX8_offNow 6 = .ok (.istore_n 2, 1) := by decide +kernel
theorem dX8_offNow_7 : decode cX8_offNow 7 = .ok (.iload_n 2, 1) := by decide +kernel
theorem dX8_offNow_8 : decode cX8_offNow 8 = .ok (.ifCond .ne 7, 3) := by decide +kernel
theorem dX8_offNow_11 : decode cX8_offNow 11 = .ok (.fconst 0, 1) := by decide +kernel
theorem dX8_offNow_12 : decode cX8_offNow 12 = .ok (.goto 12, 3) := by decide +kernel
theorem dX8_offNow_15 : decode cX8_offNow 15 = .ok (.aload_n 0, 1) := by decide +kernel
theorem dX8_offNow_16 : decode cX8_offNow 16 = .ok (.iload_n 1, 1) := by decide +kernel
theorem dX8_offNow_17 : decode cX8_offNow 17 = .ok (.invokevirtual 176, 3) := by decide +kernel
theorem dX8_offNow_20 : decode cX8_offNow 20 = .ok (.i2f, 1) := by decide +kernel
theorem dX8_offNow_21 : decode cX8_offNow 21 = .ok (.iload_n 2, 1) := by decide +kernel
theorem dX8_offNow_22 : decode cX8_offNow 22 = .ok (.i2f, 1) := by decide +kernel
theorem dX8_offNow_23 : decode cX8_offNow 23 = .ok (.fdiv, 1) := by decide +kernel
theorem dX8_offNow_24 : decode cX8_offNow 24 = .ok (.freturn, 1) := by decide +kernel
theorem dX8_offShare_0 : decode cX8_offShare 0 = .ok (.aload_n 0, 1) := by decide +kernel
theorem dX8_offShare_1 : decode cX8_offShare 1 = .ok (.iload_n 1, 1) := by decide +kernel
theorem dX8_offShare_2 : decode cX8_offShare 2 = .ok (.invokestatic 42, 3) := by decide +kernel
theorem dX8_offShare_5 : decode cX8_offShare 5 = .ok (.ifCond .eq 7, 3) := by decide +kernel
theorem dX8_offShare_8 : decode cX8_offShare 8 = .ok (.iconst 0, 1) := by decide +kernel
theorem dX8_offShare_9 : decode cX8_offShare 9 = .ok (.goto 4, 3) := by decide +kernel
theorem dX8_offShare_12 : decode cX8_offShare 12 = .ok (.iconst 1, 1) := by decide +kernel
theorem dX8_offShare_13 : decode cX8_offShare 13 = .ok (.putfield 34, 3) := by decide +kernel
theorem dX8_offShare_16 : decode cX8_offShare 16 = .ok (.aload_n 0, 1) := by decide +kernel
theorem dX8_offShare_17 : decode cX8_offShare 17 = .ok (.getfield 34, 3) := by decide +kernel
theorem dX8_offShare_20 : decode cX8_offShare 20 = .ok (.ifCond .le 5, 3) := by decide +kernel
theorem dX8_offShare_23 : decode cX8_offShare 23 = .ok (.fconst 0, 1) := by decide +kernel
theorem dX8_offShare_24 : decode cX8_offShare 24 = .ok (.freturn, 1) := by decide +kernel
theorem dX8_offShare_25 : decode cX8_offShare 25 = .ok (.aload_n 0, 1) := by decide +kernel
theorem dX8_offShare_26 : decode cX8_offShare 26 = .ok (.iload_n 1, 1) := by decide +kernel
theorem dX8_offShare_27 : decode cX8_offShare 27 = .ok (.iconst 0, 1) := by decide +kernel
theorem dX8_offShare_28 : decode cX8_offShare 28 = .ok (.invokevirtual 113, 3) := by decide +kernel
theorem dX8_offShare_31 : decode cX8_offShare 31 = .ok (.aload_n 0, 1) := by decide +kernel
theorem dX8_offShare_32 : decode cX8_offShare 32 = .ok (.iload_n 1, 1) := by decide +kernel
theorem dX8_offShare_33 : decode cX8_offShare 33 = .ok (.invokevirtual 206, 3) := by decide +kernel
theorem dX8_offShare_36 : decode cX8_offShare 36 = .ok (.freturn, 1) := by decide +kernel
theorem dX8_meanNow_0 : decode cX8_meanNow 0 = .ok (.aload_n 0, 1) := by decide +kernel
theorem dX8_meanNow_1 : decode cX8_meanNow 1 = .ok (.iload_n 1, 1) := by decide +kernel
theorem dX8_meanNow_2 : decode cX8_meanNow 2 = .ok (.iconst 3, 1) := by decide +kernel
theorem dX8_meanNow_3 : decode cX8_meanNow 3 = .ok (.invokevirtual 185, 3) := by decide +kernel
theorem dX8_meanNow_6 : decode cX8_meanNow 6 = .ok (.istore_n 2, 1) := by decide +kernel
theorem dX8_meanNow_7 : decode cX8_meanNow 7 = .ok (.bipush 16, 2) := by decide +kernel
theorem dX8_meanNow_9 : decode cX8_meanNow 9 = .ok (.aload_n 0, 1) := by decide +kernel
theorem dX8_meanNow_10 : decode cX8_meanNow 10 = .ok (.iload_n 1, 1) := by decide +kernel
theorem dX8_meanNow_11 : decode cX8_meanNow 11 = .ok (.iconst 1, 1) := by decide +kernel
theorem dX8_meanNow_12 : decode cX8_meanNow 12 = .ok (.invokevirtual 185, 3) := by decide +kernel
theorem dX8_meanNow_15 : decode cX8_meanNow 15 = .ok (.aload_n 0, 1) := by decide +kernel
theorem dX8_meanNow_16 : decode cX8_meanNow 16 = .ok (.iload_n 1, 1) := by decide +kernel
theorem dX8_meanNow_17 : decode cX8_meanNow 17 = .ok (.invokevirtual 167, 3) := by decide +kernel
theorem dX8_meanNow_20 : decode cX8_meanNow 20 = .ok (.isub, 1) := by decide +kernel
theorem dX8_meanNow_21 : decode cX8_meanNow 21 = .ok (.imul, 1) := by decide +kernel
theorem dX8_meanNow_22 : decode cX8_meanNow 22 = .ok (.istore_n 3, 1) := by decide +kernel
theorem dX8_meanNow_23 : decode cX8_meanNow 23 = .ok (.iload_n 2, 1) := by decide +kernel
theorem dX8_meanNow_24 : decode cX8_meanNow 24 = .ok (.ifCond .ne 7, 3) := by decide +kernel
theorem dX8_meanNow_27 : decode cX8_meanNow 27 = .ok (.dconst 0, 1) := by decide +kernel
theorem dX8_meanNow_28 : decode cX8_meanNow 28 = .ok (.goto 16, 3) := by decide +kernel
theorem dX8_meanNow_31 : decode cX8_meanNow 31 = .ok (.dconst 1, 1) := by decide +kernel
theorem dX8_meanNow_32 : decode cX8_meanNow 32 = .ok (.iload_n 3, 1) := by decide +kernel
theorem dX8_meanNow_33 : decode cX8_meanNow 33 = .ok (.i2d, 1) := by decide +kernel
theorem dX8_meanNow_34 : decode cX8_meanNow 34 = .ok (.dmul, 1) := by decide +kernel
theorem dX8_meanNow_35 : decode cX8_meanNow 35 = .ok (.dconst 1, 1) := by decide +kernel
theorem dX8_meanNow_36 : decode cX8_meanNow 36 = .ok (.iload_n 2, 1) := by decide +kernel
theorem dX8_meanNow_37 : decode cX8_meanNow 37 = .ok (.i2d, 1) := by decide +kernel
theorem dX8_meanNow_38 : decode cX8_meanNow 38 = .ok (.dmul, 1) := by decide +kernel
theorem dX8_meanNow_39 : decode cX8_meanNow 39 = .ok (.ldc2_w 210, 3) := by decide +kernel
theorem dX8_meanNow_42 : decode cX8_meanNow 42 = .ok (.ddiv, 1) := by decide +kernel
theorem dX8_meanNow_43 : decode cX8_meanNow 43 = .ok (.ddiv, 1) := by decide +kernel
theorem dX8_meanNow_44 : decode cX8_meanNow 44 = .ok (.dreturn, 1) := by decide +kernel
theorem dX8_meanSpeed_0 : decode cX8_meanSpeed 0 = .ok (.aload_n 0, 1) := by decide +kernel
theorem dX8_meanSpeed_1 : decode cX8_meanSpeed 1 = .ok (.iload_n 1, 1) := by decide +kernel
theorem dX8_meanSpeed_2 : decode cX8_meanSpeed 2 = .ok (.invokestatic 42, 3) := by decide +kernel
theorem dX8_meanSpeed_5 : decode cX8_meanSpeed 5 = .ok (.ifCond .eq 7, 3) := by decide +kernel
theorem dX8_meanSpeed_8 : decode cX8_meanSpeed 8 = .ok (.iconst 0, 1) := by decide +kernel
theorem dX8_meanSpeed_9 : decode cX8_meanSpeed 9 = .ok (.goto 4, 3) := by decide +kernel
theorem dX8_meanSpeed_12 : decode cX8_meanSpeed 12 = .ok (.iconst 1, 1) := by decide +kernel
theorem dX8_meanSpeed_13 : decode cX8_meanSpeed 13 = .ok (.putfield 34, 3) := by decide +kernel
theorem dX8_meanSpeed_16 : decode cX8_meanSpeed 16 = .ok (.aload_n 0, 1) := by decide +kernel
theorem dX8_meanSpeed_17 : decode cX8_meanSpeed 17 = .ok (.getfield 34, 3) := by decide +kernel
theorem dX8_meanSpeed_20 : decode cX8_meanSpeed 20 = .ok (.ifCond .le 5, 3) := by decide +kernel
theorem dX8_meanSpeed_23 : decode cX8_meanSpeed 23 = .ok (.dconst 0, 1) := by decide +kernel
theorem dX8_meanSpeed_24 : decode cX8_meanSpeed 24 = .ok (.dreturn, 1) := by decide +kernel
theorem dX8_meanSpeed_25 : decode cX8_meanSpeed 25 = .ok (.aload_n 0, 1) := by decide +kernel
theorem dX8_meanSpeed_26 : decode cX8_meanSpeed 26 = .ok (.iload_n 1, 1) := by decide +kernel
theorem dX8_meanSpeed_27 : decode cX8_meanSpeed 27 = .ok (.iconst 0, 1) := by decide +kernel
theorem dX8_meanSpeed_28 : decode cX8_meanSpeed 28 = .ok (.invokevirtual 113, 3) := by decide +kernel
theorem dX8_meanSpeed_31 : decode cX8_meanSpeed 31 = .ok (.aload_n 0, 1) := by decide +kernel
theorem dX8_meanSpeed_32 : decode cX8_meanSpeed 32 = .ok (.iload_n 1, 1) := by decide +kernel
theorem dX8_meanSpeed_33 : decode cX8_meanSpeed 33 = .ok (.invokevirtual 212, 3) := by decide +kernel
theorem dX8_meanSpeed_36 : decode cX8_meanSpeed 36 = .ok (.dreturn, 1) := by decide +kernel
theorem dX8_mix_0 : decode cX8_mix 0 = .ok (.aload_n 0, 1) := by decide +kernel
theorem dX8_mix_1 : decode cX8_mix 1 = .ok (.ldc2_w 216, 3) := by decide +kernel
theorem dX8_mix_4 : decode cX8_mix 4 = .ok (.aload_n 0, 1) := by decide +kernel
theorem dX8_mix_5 : decode cX8_mix 5 = .ok (.getfield 218, 3) := by decide +kernel
theorem dX8_mix_8 : decode cX8_mix 8 = .ok (.lmul, 1) := by decide +kernel
theorem dX8_mix_9 : decode cX8_mix 9 = .ok (.lload_n 1, 1) := by decide +kernel
theorem dX8_mix_10 : decode cX8_mix 10 = .ok (.ladd, 1) := by decide +kernel
theorem dX8_mix_11 : decode cX8_mix 11 = .ok (.putfield 218, 3) := by decide +kernel
theorem dX8_mix_14 : decode cX8_mix 14 = .ok (.return_, 1) := by decide +kernel
theorem dX8_mixReel_0 : decode cX8_mixReel 0 = .ok (.aload_n 0, 1) := by decide +kernel
theorem dX8_mixReel_1 : decode cX8_mixReel 1 = .ok (.iload_n 1, 1) := by decide +kernel
theorem dX8_mixReel_2 : decode cX8_mixReel 2 = .ok (.iconst 0, 1) := by decide +kernel
theorem dX8_mixReel_3 : decode cX8_mixReel 3 = .ok (.invokevirtual 113, 3) := by decide +kernel
theorem dX8_mixReel_6 : decode cX8_mixReel 6 = .ok (.iconst 0, 1) := by decide +kernel
theorem dX8_mixReel_7 : decode cX8_mixReel 7 = .ok (.istore_n 2, 1) := by decide +kernel
theorem dX8_mixReel_8 : decode cX8_mixReel 8 = .ok (.iload_n 2, 1) := by decide +kernel
theorem dX8_mixReel_9 : decode cX8_mixReel 9 = .ok (.bipush 11, 2) := by decide +kernel
theorem dX8_mixReel_11 : decode cX8_mixReel 11 = .ok (.if_icmp .ge 20, 3) := by decide +kernel
theorem dX8_mixReel_14 : decode cX8_mixReel 14 = .ok (.aload_n 0, 1) := by decide +kernel
theorem dX8_mixReel_15 : decode cX8_mixReel 15 = .ok (.aload_n 0, 1) := by decide +kernel
theorem dX8_mixReel_16 : decode cX8_mixReel 16 = .ok (.iload_n 1, 1) := by decide +kernel
theorem dX8_mixReel_17 : decode cX8_mixReel 17 = .ok (.iload_n 2, 1) := by decide +kernel
theorem dX8_mixReel_18 : decode cX8_mixReel 18 = .ok (.invokevirtual 185, 3) := by decide +kernel
theorem dX8_mixReel_21 : decode cX8_mixReel 21 = .ok (.i2l, 1) := by decide +kernel
theorem dX8_mixReel_22 : decode cX8_mixReel 22 = .ok (.invokevirtual 222, 3) := by decide +kernel
theorem dX8_mixReel_25 : decode cX8_mixReel 25 = .ok (.iinc 2 1, 3) := by decide +kernel
theorem dX8_mixReel_28 : decode cX8_mixReel 28 = .ok (.goto (-20), 3) := by decide +kernel
theorem dX8_mixReel_31 : decode cX8_mixReel 31 = .ok (.iconst 0, 1) := by decide +kernel
theorem dX8_mixReel_32 : decode cX8_mixReel 32 = .ok (.istore_n 2, 1) := by decide +kernel
theorem dX8_mixReel_33 : decode cX8_mixReel 33 = .ok (.iload_n 2, 1) := by decide +kernel
theorem dX8_mixReel_34 : decode cX8_mixReel 34 = .ok (.aload_n 0, 1) := by decide +kernel
theorem dX8_mixReel_35 : decode cX8_mixReel 35 = .ok (.iload_n 1, 1) := by decide +kernel
theorem dX8_mixReel_36 : decode cX8_mixReel 36 = .ok (.invokevirtual 46, 3) := by decide +kernel
theorem dX8_mixReel_39 : decode cX8_mixReel 39 = .ok (.if_icmp .ge 46, 3) := by decide +kernel
theorem dX8_mixReel_42 : decode cX8_mixReel 42 = .ok (.iconst 0, 1) := by decide +kernel
theorem dX8_mixReel_43 : decode cX8_mixReel 43 = .ok (.istore_n 3, 1) := by decide +kernel
theorem dX8_mixReel_44 : decode cX8_mixReel 44 = .ok (.iload_n 3, 1) := by decide +kernel
theorem dX8_mixReel_45 : decode cX8_mixReel 45 = .ok (.bipush 12, 2) := by decide +kernel
theorem dX8_mixReel_47 : decode cX8_mixReel 47 = .ok (.if_icmp .ge 21, 3) := by decide +kernel
theorem dX8_mixReel_50 : decode cX8_mixReel 50 = .ok (.aload_n 0, 1) := by decide +kernel
theorem dX8_mixReel_51 : decode cX8_mixReel 51 = .ok (.aload_n 0, 1) := by decide +kernel
theorem dX8_mixReel_52 : decode cX8_mixReel 52 = .ok (.iload_n 1, 1) := by decide +kernel
theorem dX8_mixReel_53 : decode cX8_mixReel 53 = .ok (.iload_n 2, 1) := by decide +kernel
theorem dX8_mixReel_54 : decode cX8_mixReel 54 = .ok (.iload_n 3, 1) := by decide +kernel
theorem dX8_mixReel_55 : decode cX8_mixReel 55 = .ok (.invokevirtual 164, 3) := by decide +kernel
theorem dX8_mixReel_58 : decode cX8_mixReel 58 = .ok (.i2l, 1) := by decide +kernel
theorem dX8_mixReel_59 : decode cX8_mixReel 59 = .ok (.invokevirtual 222, 3) := by decide +kernel
theorem dX8_mixReel_62 : decode cX8_mixReel 62 = .ok (.iinc 3 1, 3) := by decide +kernel
theorem dX8_mixReel_65 : decode cX8_mixReel 65 = .ok (.goto (-21), 3) := by decide +kernel
theorem dX8_mixReel_68 : decode cX8_mixReel 68 = .ok (.aload_n 0, 1) := by decide +kernel
theorem dX8_mixReel_69 : decode cX8_mixReel 69 = .ok (.aload_n 0, 1) := by decide +kernel
theorem dX8_mixReel_70 : decode cX8_mixReel 70 = .ok (.iload_n 1, 1) := by decide +kernel
theorem dX8_mixReel_71 : decode cX8_mixReel 71 = .ok (.iload_n 2, 1) := by decide +kernel
theorem dX8_mixReel_72 : decode cX8_mixReel 72 = .ok (.invokevirtual 200, 3) := by decide +kernel
theorem dX8_mixReel_75 : decode cX8_mixReel 75 = .ok (.i2l, 1) := by decide +kernel
theorem dX8_mixReel_76 : decode cX8_mixReel 76 = .ok (.invokevirtual 222, 3) := by decide +kernel
theorem dX8_mixReel_79 : decode cX8_mixReel 79 = .ok (.iinc 2 1, 3) := by decide +kernel
theorem dX8_mixReel_82 : decode cX8_mixReel 82 = .ok (.goto (-49), 3) := by decide +kernel
theorem dX8_mixReel_85 : decode cX8_mixReel 85 = .ok (.iconst 0, 1) := by decide +kernel
theorem dX8_mixReel_86 : decode cX8_mixReel 86 = .ok (.istore_n 2, 1) := by decide +kernel
theorem dX8_mixReel_87 : decode cX8_mixReel 87 = .ok (.iload_n 2, 1) := by decide +kernel
theorem dX8_mixReel_88 : decode cX8_mixReel 88 = .ok (.sipush 900, 3) := by decide +kernel
theorem dX8_mixReel_91 : decode cX8_mixReel 91 = .ok (.if_icmp .gt 20, 3) := by decide +kernel
theorem dX8_mixReel_94 : decode cX8_mixReel 94 = .ok (.aload_n 0, 1) := by decide +kernel
theorem dX8_mixReel_95 : decode cX8_mixReel 95 = .ok (.aload_n 0, 1) := by decide +kernel
theorem dX8_mixReel_96 : decode cX8_mixReel 96 = .ok (.iload_n 1, 1) := by decide +kernel
theorem dX8_mixReel_97 : decode cX8_mixReel 97 = .ok (.iload_n 2, 1) := by decide +kernel
theorem dX8_mixReel_98 : decode cX8_mixReel 98 = .ok (.invokevirtual 58, 3) := by decide +kernel
theorem dX8_mixReel_101 : decode cX8_mixReel 101 = .ok (.i2l, 1) := by decide +kernel
theorem dX8_mixReel_102 : decode cX8_mixReel 102 = .ok (.invokevirtual 222, 3) := by decide +kernel
theorem dX8_mixReel_105 : decode cX8_mixReel 105 = .ok (.iinc 2 100, 3) := by decide +kernel
theorem dX8_mixReel_108 : decode cX8_mixReel 108 = .ok (.goto (-21), 3) := by decide +kernel
theorem dX8_mixReel_111 : decode cX8_mixReel 111 = .ok (.aload_n 0, 1) := by decide +kernel
theorem dX8_mixReel_112 : decode cX8_mixReel 112 = .ok (.iload_n 1, 1) := by decide +kernel
theorem dX8_mixReel_113 : decode cX8_mixReel 113 = .ok (.invokevirtual 206, 3) := by decide +kernel
theorem dX8_mixReel_116 : decode cX8_mixReel 116 = .ok (.invokestatic 226, 3) := by decide +kernel
theorem dX8_mixReel_119 : decode cX8_mixReel 119 = .ok (.istore_n 2, 1) := by decide +kernel
theorem dX8_mixReel_120 : decode cX8_mixReel 120 = .ok (.aload_n 0, 1) := by decide +kernel
theorem dX8_mixReel_121 : decode cX8_mixReel 121 = .ok (.iload_n 1, 1) := by decide +kernel
theorem dX8_mixReel_122 : decode cX8_mixReel 122 = .ok (.invokevirtual 212, 3) := by decide +kernel
theorem dX8_mixReel_125 : decode cX8_mixReel 125 = .ok (.invokestatic 232, 3) := by decide +kernel
theorem dX8_mixReel_128 : decode cX8_mixReel 128 = .ok (.lstore_n 3, 1) := by decide +kernel
theorem dX8_mixReel_129 : decode cX8_mixReel 129 = .ok (.aload_n 0, 1) := by decide +kernel
theorem dX8_mixReel_130 : decode cX8_mixReel 130 = .ok (.aload_n 0, 1) := by decide +kernel
theorem dX8_mixReel_131 : decode cX8_mixReel 131 = .ok (.iload_n 1, 1) := by decide +kernel
theorem dX8_mixReel_132 : decode cX8_mixReel 132 = .ok (.invokevirtual 203, 3) := by decide +kernel
theorem dX8_mixReel_135 : decode cX8_mixReel 135 = .ok (.i2l, 1) := by decide +kernel
theorem dX8_mixReel_136 : decode cX8_mixReel 136 = .ok (.invokevirtual 222, 3) := by decide +kernel
theorem dX8_mixReel_139 : decode cX8_mixReel 139 = .ok (.aload_n 0, 1) := by decide +kernel
theorem dX8_mixReel_140 : decode cX8_mixReel 140 = .ok (.iload_n 2, 1) := by decide +kernel
theorem dX8_mixReel_141 : decode cX8_mixReel 141 = .ok (.i2l, 1) := by decide +kernel
theorem dX8_mixReel_142 : decode cX8_mixReel 142 = .ok (.invokevirtual 222, 3) := by decide +kernel
theorem dX8_mixReel_145 : decode cX8_mixReel 145 = .ok (.aload_n 0, 1) := by decide +kernel
theorem dX8_mixReel_146 : decode cX8_mixReel 146 = .ok (.lload_n 3, 1) := by decide +kernel
theorem dX8_mixReel_147 : decode cX8_mixReel 147 = .ok (.invokevirtual 222, 3) := by decide +kernel
theorem dX8_mixReel_150 : decode cX8_mixReel 150 = .ok (.return_, 1) := by decide +kernel
theorem dX8_digest_0 : decode cX8_digest 0 = .ok (.aload_n 0, 1) := by decide +kernel
theorem dX8_digest_1 : decode cX8_digest 1 = .ok (.iconst 0, 1) := by decide +kernel
theorem dX8_digest_2 : decode cX8_digest 2 = .ok (.putfield 34, 3) := by decide +kernel
theorem dX8_digest_5 : decode cX8_digest 5 = .ok (.aload_n 0, 1) := by decide +kernel
theorem dX8_digest_6 : decode cX8_digest 6 = .ok (.ldc2_w 238, 3) := by decide +kernel
theorem dX8_digest_9 : decode cX8_digest 9 = .ok (.putfield 218, 3) := by decide +kernel
theorem dX8_digest_12 : decode cX8_digest 12 = .ok (.iconst 0, 1) := by decide +kernel
theorem dX8_digest_13 : decode cX8_digest 13 = .ok (.istore_n 1, 1) := by decide +kernel
theorem dX8_digest_14 : decode cX8_digest 14 = .ok (.iload_n 1, 1) := by decide +kernel
theorem dX8_digest_15 : decode cX8_digest 15 = .ok (.bipush 8, 2) := by decide +kernel
theorem dX8_digest_17 : decode cX8_digest 17 = .ok (.if_icmp .ge 19, 3) := by decide +kernel
theorem dX8_digest_20 : decode cX8_digest 20 = .ok (.aload_n 0, 1) := by decide +kernel
theorem dX8_digest_21 : decode cX8_digest 21 = .ok (.aload_n 0, 1) := by decide +kernel
theorem dX8_digest_22 : decode cX8_digest 22 = .ok (.iload_n 1, 1) := by decide +kernel
theorem dX8_digest_23 : decode cX8_digest 23 = .ok (.invokevirtual 197, 3) := by decide +kernel
theorem dX8_digest_26 : decode cX8_digest 26 = .ok (.i2l, 1) := by decide +kernel
theorem dX8_digest_27 : decode cX8_digest 27 = .ok (.invokevirtual 222, 3) := by decide +kernel
theorem dX8_digest_30 : decode cX8_digest 30 = .ok (.iinc 1 1, 3) := by decide +kernel
theorem dX8_digest_33 : decode cX8_digest 33 = .ok (.goto (-19), 3) := by decide +kernel
theorem dX8_digest_36 : decode cX8_digest 36 = .ok (.iconst 0, 1) := by decide +kernel
theorem dX8_digest_37 : decode cX8_digest 37 = .ok (.istore_n 1, 1) := by decide +kernel
theorem dX8_digest_38 : decode cX8_digest 38 = .ok (.iload_n 1, 1) := by decide +kernel
theorem dX8_digest_39 : decode cX8_digest 39 = .ok (.iconst 4, 1) := by decide +kernel
theorem dX8_digest_40 : decode cX8_digest 40 = .ok (.aload_n 0, 1) := by decide +kernel
theorem dX8_digest_41 : decode cX8_digest 41 = .ok (.getfield 7, 3) := by decide +kernel
theorem dX8_digest_44 : decode cX8_digest 44 = .ok (.sipush 201, 3) := by decide +kernel
theorem dX8_digest_47 : decode cX8_digest 47 = .ok (.iaload, 1) := by decide +kernel
theorem dX8_digest_48 : decode cX8_digest 48 = .ok (.imul, 1) := by decide +kernel
theorem dX8_digest_49 : decode cX8_digest 49 = .ok (.if_icmp .ge 24, 3) := by decide +kernel
theorem dX8_digest_52 : decode cX8_digest 52 = .ok (.aload_n 0, 1) := by decide +kernel
theorem dX8_digest_53 : decode cX8_digest 53 = .ok (.aload_n 0, 1) := by decide +kernel
theorem dX8_digest_54 : decode cX8_digest 54 = .ok (.iload_n 1, 1) := by decide +kernel
theorem dX8_digest_55 : decode cX8_digest 55 = .ok (.iconst 4, 1) := by decide +kernel
theorem dX8_digest_56 : decode cX8_digest 56 = .ok (.idiv, 1) := by decide +kernel
theorem dX8_digest_57 : decode cX8_digest 57 = .ok (.iload_n 1, 1) := by decide +kernel
theorem dX8_digest_58 : decode cX8_digest 58 = .ok (.iconst 4, 1) := by decide +kernel
theorem dX8_digest_59 : decode cX8_digest 59 = .ok (.irem, 1) := by decide +kernel
theorem dX8_digest_60 : decode cX8_digest 60 = .ok (.invokevirtual 191, 3) := by decide +kernel
theorem dX8_digest_63 : decode cX8_digest 63 = .ok (.i2l, 1) := by decide +kernel
theorem dX8_digest_64 : decode cX8_digest 64 = .ok (.invokevirtual 222, 3) := by decide +kernel
theorem dX8_digest_67 : decode cX8_digest 67 = .ok (.iinc 1 1, 3) := by decide +kernel
theorem dX8_digest_70 : decode cX8_digest 70 = .ok (.goto (-32), 3) := by decide +kernel
theorem dX8_digest_73 : decode cX8_digest 73 = .ok (.iconst 0, 1) := by decide +kernel
theorem dX8_digest_74 : decode cX8_digest 74 = .ok (.istore_n 1, 1) := by decide +kernel
theorem dX8_digest_75 : decode cX8_digest 75 = .ok (.iload_n 1, 1) := by decide +kernel
theorem dX8_digest_76 : decode cX8_digest 76 = .ok (.iconst 3, 1) := by decide +kernel
theorem dX8_digest_77 : decode cX8_digest 77 = .ok (.if_icmp .ge 14, 3) := by decide +kernel
theorem dX8_digest_80 : decode cX8_digest 80 = .ok (.aload_n 0, 1) := by decide +kernel
theorem dX8_digest_81 : decode cX8_digest 81 = .ok (.iload_n 1, 1) := by decide +kernel
theorem dX8_digest_82 : decode cX8_digest 82 = .ok (.invokevirtual 240, 3) := by decide +kernel
theorem dX8_digest_85 : decode cX8_digest 85 = .ok (.iinc 1 1, 3) := by decide +kernel
theorem dX8_digest_88 : decode cX8_digest 88 = .ok (.goto (-13), 3) := by decide +kernel
theorem dX8_digest_91 : decode cX8_digest 91 = .ok (.aload_n 0, 1) := by decide +kernel
theorem dX8_digest_92 : decode cX8_digest 92 = .ok (.aload_n 0, 1) := by decide +kernel
theorem dX8_digest_93 : decode cX8_digest 93 = .ok (.getfield 119, 3) := by decide +kernel
theorem dX8_digest_96 : decode cX8_digest 96 = .ok (.i2l, 1) := by decide +kernel
theorem dX8_digest_97 : decode cX8_digest 97 = .ok (.invokevirtual 222, 3) := by decide +kernel
theorem dX8_digest_100 : decode cX8_digest 100 = .ok (.iconst 0, 1) := by decide +kernel
theorem dX8_digest_101 : decode cX8_digest 101 = .ok (.istore_n 1, 1) := by decide +kernel
theorem dX8_digest_102 : decode cX8_digest 102 = .ok (.iload_n 1, 1) := by decide +kernel
theorem dX8_digest_103 : decode cX8_digest 103 = .ok (.aload_n 0, 1) := by decide +kernel
theorem dX8_digest_104 : decode cX8_digest 104 = .ok (.getfield 119, 3) := by decide +kernel
theorem dX8_digest_107 : decode cX8_digest 107 = .ok (.if_icmp .ge 20, 3) := by decide +kernel
theorem dX8_digest_110 : decode cX8_digest 110 = .ok (.aload_n 0, 1) := by decide +kernel
theorem dX8_digest_111 : decode cX8_digest 111 = .ok (.aload_n 0, 1) := by decide +kernel
theorem dX8_digest_112 : decode cX8_digest 112 = .ok (.getfield 16, 3) := by decide +kernel
theorem dX8_digest_115 : decode cX8_digest 115 = .ok (.iload_n 1, 1) := by decide +kernel
theorem dX8_digest_116 : decode cX8_digest 116 = .ok (.iaload, 1) := by decide +kernel
theorem dX8_digest_117 : decode cX8_digest 117 = .ok (.i2l, 1) := by decide +kernel
theorem dX8_digest_118 : decode cX8_digest 118 = .ok (.invokevirtual 222, 3) := by decide +kernel
theorem dX8_digest_121 : decode cX8_digest 121 = .ok (.iinc 1 1, 3) := by decide +kernel
theorem dX8_digest_124 : decode cX8_digest 124 = .ok (.goto (-22), 3) := by decide +kernel
theorem dX8_digest_127 : decode cX8_digest 127 = .ok (.aload_n 0, 1) := by decide +kernel
theorem dX8_digest_128 : decode cX8_digest 128 = .ok (.getfield 218, 3) := by decide +kernel
theorem dX8_digest_131 : decode cX8_digest 131 = .ok (.lreturn, 1) := by decide +kernel
