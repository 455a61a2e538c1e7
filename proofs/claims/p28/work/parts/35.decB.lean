theorem dX7_init_0 : decode cX7_init 0 = .ok (.aload_n 0, 1) := by decide +kernel
theorem dX7_init_1 : decode cX7_init 1 = .ok (.invokespecial 1, 3) := by decide +kernel
theorem dX7_init_4 : decode cX7_init 4 = .ok (.aload_n 0, 1) := by decide +kernel
theorem dX7_init_5 : decode cX7_init 5 = .ok (.new 7, 3) := by decide +kernel
theorem dX7_init_8 : decode cX7_init 8 = .ok (.dup, 1) := by decide +kernel
theorem dX7_init_9 : decode cX7_init 9 = .ok (.invokespecial 9, 3) := by decide +kernel
theorem dX7_init_12 : decode cX7_init 12 = .ok (.putfield 10, 3) := by decide +kernel
theorem dX7_init_15 : decode cX7_init 15 = .ok (.aload_n 0, 1) := by decide +kernel
theorem dX7_init_16 : decode cX7_init 16 = .ok (.bipush 6, 2) := by decide +kernel
theorem dX7_init_18 : decode cX7_init 18 = .ok (.anewarray 7, 3) := by decide +kernel
theorem dX7_init_21 : decode cX7_init 21 = .ok (.putfield 16, 3) := by decide +kernel
theorem dX7_init_24 : decode cX7_init 24 = .ok (.iconst 0, 1) := by decide +kernel
theorem dX7_init_25 : decode cX7_init 25 = .ok (.istore_n 1, 1) := by decide +kernel
theorem dX7_init_26 : decode cX7_init 26 = .ok (.iload_n 1, 1) := by decide +kernel
theorem dX7_init_27 : decode cX7_init 27 = .ok (.aload_n 0, 1) := by decide +kernel
theorem dX7_init_28 : decode cX7_init 28 = .ok (.getfield 16, 3) := by decide +kernel
theorem dX7_init_31 : decode cX7_init 31 = .ok (.arraylength, 1) := by decide +kernel
theorem dX7_init_32 : decode cX7_init 32 = .ok (.if_icmp .ge 22, 3) := by decide +kernel
theorem dX7_init_35 : decode cX7_init 35 = .ok (.aload_n 0, 1) := by decide +kernel
theorem dX7_init_36 : decode cX7_init 36 = .ok (.getfield 16, 3) := by decide +kernel
theorem dX7_init_39 : decode cX7_init 39 = .ok (.iload_n 1, 1) := by decide +kernel
theorem dX7_init_40 : decode cX7_init 40 = .ok (.new 7, 3) := by decide +kernel
theorem dX7_init_43 : decode cX7_init 43 = .ok (.dup, 1) := by decide +kernel
theorem dX7_init_44 : decode cX7_init 44 = .ok (.invokespecial 9, 3) := by decide +kernel
theorem dX7_init_47 : decode cX7_init 47 = .ok (.aastore, 1) := by decide +kernel
theorem dX7_init_48 : decode cX7_init 48 = .ok (.iinc 1 1, 3) := by decide +kernel
theorem dX7_init_51 : decode cX7_init 51 = .ok (.goto (-25), 3) := by decide +kernel
theorem dX7_init_54 : decode cX7_init 54 = .ok (.aload_n 0, 1) := by decide +kernel
theorem dX7_init_55 : decode cX7_init 55 = .ok (.new 20, 3) := by decide +kernel
theorem dX7_init_58 : decode cX7_init 58 = .ok (.dup, 1) := by decide +kernel
theorem dX7_init_59 : decode cX7_init 59 = .ok (.bipush 60, 2) := by decide +kernel
theorem dX7_init_61 : decode cX7_init 61 = .ok (.invokespecial 22, 3) := by decide +kernel
theorem dX7_init_64 : decode cX7_init 64 = .ok (.putfield 25, 3) := by decide +kernel
theorem dX7_init_67 : decode cX7_init 67 = .ok (.aload_n 0, 1) := by decide +kernel
theorem dX7_init_68 : decode cX7_init 68 = .ok (.new 29, 3) := by decide +kernel
theorem dX7_init_71 : decode cX7_init 71 = .ok (.dup, 1) := by decide +kernel
theorem dX7_init_72 : decode cX7_init 72 = .ok (.invokespecial 31, 3) := by decide +kernel
theorem dX7_init_75 : decode cX7_init 75 = .ok (.putfield 32, 3) := by decide +kernel
theorem dX7_init_78 : decode cX7_init 78 = .ok (.aload_n 0, 1) := by decide +kernel
theorem dX7_init_79 : decode cX7_init 79 = .ok (.new 36, 3) := by decide +kernel
theorem dX7_init_82 : decode cX7_init 82 = .ok (.dup, 1) := by decide +kernel
theorem dX7_init_83 : decode cX7_init 83 = .ok (.invokespecial 38, 3) := by decide +kernel
theorem dX7_init_86 : decode cX7_init 86 = .ok (.putfield 39, 3) := by decide +kernel
theorem dX7_init_89 : decode cX7_init 89 = .ok (.aload_n 0, 1) := by decide +kernel
theorem dX7_init_90 : decode cX7_init 90 = .ok (.new 36, 3) := by decide +kernel
theorem dX7_init_93 : decode cX7_init 93 = .ok (.dup, 1) := by decide +kernel
theorem dX7_init_94 : decode cX7_init 94 = .ok (.invokespecial 38, 3) := by decide +kernel
theorem dX7_init_97 : decode cX7_init 97 = .ok (.putfield 43, 3) := by decide +kernel
theorem dX7_init_100 : decode cX7_init 100 = .ok (.aload_n 0, 1) := by decide +kernel
theorem dX7_init_101 : decode cX7_init 101 = .ok (.new 46, 3) := by decide +kernel
theorem dX7_init_104 : decode cX7_init 104 = .ok (.dup, 1) := by decide +kernel
theorem dX7_init_105 : decode cX7_init 105 = .ok (.invokespecial 48, 3) := by decide +kernel
theorem dX7_init_108 : decode cX7_init 108 = .ok (.putfield 49, 3) := by decide +kernel
theorem dX7_init_111 : decode cX7_init 111 = .ok (.return_, 1) := by decide +kernel
theorem dX7_addScene_0 : decode cX7_addScene 0 = .ok (.aload_n 0, 1) := by decide +kernel
theorem dX7_addScene_1 : decode cX7_addScene 1 = .ok (.iload_n 1, 1) := by decide +kernel
theorem dX7_addScene_2 : decode cX7_addScene 2 = .ok (.invokevirtual 53, 3) := by decide +kernel
theorem dX7_addScene_5 : decode cX7_addScene 5 = .ok (.iload_n 2, 1) := by decide +kernel
theorem dX7_addScene_6 : decode cX7_addScene 6 = .ok (.iconst 1, 1) := by decide +kernel
theorem dX7_addScene_7 : decode cX7_addScene 7 = .ok (.sipush 900, 3) := by decide +kernel
theorem dX7_addScene_10 : decode cX7_addScene 10 = .ok (.invokestatic 56, 3) := by decide +kernel
theorem dX7_addScene_13 : decode cX7_addScene 13 = .ok (.aload_n 0, 1) := by decide +kernel
theorem dX7_addScene_14 : decode cX7_addScene 14 = .ok (.getfield 10, 3) := by decide +kernel
theorem dX7_addScene_17 : decode cX7_addScene 17 = .ok (.iload_n 1, 1) := by decide +kernel
theorem dX7_addScene_18 : decode cX7_addScene 18 = .ok (.invokevirtual 60, 3) := by decide +kernel
theorem dX7_addScene_21 : decode cX7_addScene 21 = .ok (.astore_n 3, 1) := by decide +kernel
theorem dX7_addScene_22 : decode cX7_addScene 22 = .ok (.aload_n 3, 1) := by decide +kernel
theorem dX7_addScene_23 : decode cX7_addScene 23 = .ok (.invokevirtual 64, 3) := by decide +kernel
theorem dX7_addScene_26 : decode cX7_addScene 26 = .ok (.bipush 10, 2) := by decide +kernel
theorem dX7_addScene_28 : decode cX7_addScene 28 = .ok (.if_icmp .lt 13, 3) := by decide +kernel
theorem dX7_addScene_31 : decode cX7_addScene 31 = .ok (.new 70, 3) := by decide +kernel
theorem dX7_addScene_34 : decode cX7_addScene 34 = .ok (.dup, 1) := by decide +kernel
theorem dX7_addScene_35 : decode cX7_addScene 35 = .ok (.ldc 72, 2) := by decide +kernel
theorem dX7_addScene_37 : decode cX7_addScene 37 = .ok (.invokespecial 74, 3) := by decide +kernel
theorem dX7_addScene_40 : decode cX7_addScene 40 = .ok (.athrow, 1) := by decide +kernel
theorem dX7_addScene_41 : decode cX7_addScene 41 = .ok (.aload_n 0, 1) := by decide +kernel
theorem dX7_addScene_42 : decode cX7_addScene 42 = .ok (.invokevirtual 77, 3) := by decide +kernel
theorem dX7_addScene_45 : decode cX7_addScene 45 = .ok (.aload_n 3, 1) := by decide +kernel
theorem dX7_addScene_46 : decode cX7_addScene 46 = .ok (.iload_n 2, 1) := by decide +kernel
theorem dX7_addScene_47 : decode cX7_addScene 47 = .ok (.ldc 80, 2) := by decide +kernel
theorem dX7_addScene_49 : decode cX7_addScene 49 = .ok (.iconst 0, 1) := by decide +kernel
theorem dX7_addScene_50 : decode cX7_addScene 50 = .ok (.iconst 0, 1) := by decide +kernel
theorem dX7_addScene_51 : decode cX7_addScene 51 = .ok (.invokevirtual 81, 3) := by decide +kernel
theorem dX7_addScene_54 : decode cX7_addScene 54 = .ok (.aload_n 3, 1) := by decide +kernel
theorem dX7_addScene_55 : decode cX7_addScene 55 = .ok (.invokevirtual 64, 3) := by decide +kernel
theorem dX7_addScene_58 : decode cX7_addScene 58 = .ok (.iconst 1, 1) := by decide +kernel
theorem dX7_addScene_59 : decode cX7_addScene 59 = .ok (.isub, 1) := by decide +kernel
theorem dX7_addScene_60 : decode cX7_addScene 60 = .ok (.ireturn, 1) := by decide +kernel
theorem dX7_removeScene_0 : decode cX7_removeScene 0 = .ok (.aload_n 0, 1) := by decide +kernel
theorem dX7_removeScene_1 : decode cX7_removeScene 1 = .ok (.iload_n 1, 1) := by decide +kernel
theorem dX7_removeScene_2 : decode cX7_removeScene 2 = .ok (.iload_n 2, 1) := by decide +kernel
theorem dX7_removeScene_3 : decode cX7_removeScene 3 = .ok (.invokevirtual 85, 3) := by decide +kernel
theorem dX7_removeScene_6 : decode cX7_removeScene 6 = .ok (.aload_n 0, 1) := by decide +kernel
theorem dX7_removeScene_7 : decode cX7_removeScene 7 = .ok (.invokevirtual 77, 3) := by decide +kernel
theorem dX7_removeScene_10 : decode cX7_removeScene 10 = .ok (.aload_n 0, 1) := by decide +kernel
theorem dX7_removeScene_11 : decode cX7_removeScene 11 = .ok (.getfield 10, 3) := by decide +kernel
theorem dX7_removeScene_14 : decode cX7_removeScene 14 = .ok (.iload_n 1, 1) := by decide +kernel
theorem dX7_removeScene_15 : decode cX7_removeScene 15 = .ok (.invokevirtual 60, 3) := by decide +kernel
theorem dX7_removeScene_18 : decode cX7_removeScene 18 = .ok (.astore_n 3, 1) := by decide +kernel
theorem dX7_removeScene_19 : decode cX7_removeScene 19 = .ok (.aload_n 3, 1) := by decide +kernel
theorem dX7_removeScene_20 : decode cX7_removeScene 20 = .ok (.iload_n 2, 1) := by decide +kernel
theorem dX7_removeScene_21 : decode cX7_removeScene 21 = .ok (.invokevirtual 89, 3) := by decide +kernel
theorem dX7_removeScene_24 : decode cX7_removeScene 24 = .ok (.aload_n 3, 1) := by decide +kernel
theorem dX7_removeScene_25 : decode cX7_removeScene 25 = .ok (.invokevirtual 64, 3) := by decide +kernel
theorem dX7_removeScene_28 : decode cX7_removeScene 28 = .ok (.ireturn, 1) := by decide +kernel
theorem dX7_crank_0 : decode cX7_crank 0 = .ok (.aload_n 0, 1) := by decide +kernel
theorem dX7_crank_1 : decode cX7_crank 1 = .ok (.iload_n 1, 1) := by decide +kernel
theorem dX7_crank_2 : decode cX7_crank 2 = .ok (.invokevirtual 53, 3) := by decide +kernel
theorem dX7_crank_5 : decode cX7_crank 5 = .ok (.iload_n 2, 1) := by decide +kernel
theorem dX7_crank_6 : decode cX7_crank 6 = .ok (.iconst 0, 1) := by decide +kernel
theorem dX7_crank_7 : decode cX7_crank 7 = .ok (.sipush 9000, 3) := by decide +kernel
theorem dX7_crank_10 : decode cX7_crank 10 = .ok (.invokestatic 56, 3) := by decide +kernel
theorem dX7_crank_13 : decode cX7_crank 13 = .ok (.iload_n 3, 1) := by decide +kernel
theorem dX7_crank_14 : decode cX7_crank 14 = .ok (.bipush 10, 2) := by decide +kernel
theorem dX7_crank_16 : decode cX7_crank 16 = .ok (.bipush 30, 2) := by decide +kernel
theorem dX7_crank_18 : decode cX7_crank 18 = .ok (.invokestatic 56, 3) := by decide +kernel
theorem dX7_crank_21 : decode cX7_crank 21 = .ok (.aload_n 0, 1) := by decide +kernel
theorem dX7_crank_22 : decode cX7_crank 22 = .ok (.getfield 10, 3) := by decide +kernel
theorem dX7_crank_25 : decode cX7_crank 25 = .ok (.iload_n 1, 1) := by decide +kernel
theorem dX7_crank_26 : decode cX7_crank 26 = .ok (.invokevirtual 60, 3) := by decide +kernel
theorem dX7_crank_29 : decode cX7_crank 29 = .ok (.getfield 92, 3) := by decide +kernel
theorem dX7_crank_32 : decode cX7_crank 32 = .ok (.astore 4, 2) := by decide +kernel
theorem dX7_crank_34 : decode cX7_crank 34 = .ok (.aload 4, 2) := by decide +kernel
theorem dX7_crank_36 : decode cX7_crank 36 = .ok (.iload_n 2, 1) := by decide +kernel
theorem dX7_crank_37 : decode cX7_crank 37 = .ok (.invokevirtual 96, 3) := by decide +kernel
theorem dX7_crank_40 : decode cX7_crank 40 = .ok (.ifCond .ne 13, 3) := by decide +kernel
theorem dX7_crank_43 : decode cX7_crank 43 = .ok (.new 70, 3) := by decide +kernel
theorem dX7_crank_46 : decode cX7_crank 46 = .ok (.dup, 1) := by decide +kernel
theorem dX7_crank_47 : decode cX7_crank 47 = .ok (.ldc 102, 2) := by decide +kernel
theorem dX7_crank_49 : decode cX7_crank 49 = .ok (.invokespecial 74, 3) := by decide +kernel
theorem dX7_crank_52 : decode cX7_crank 52 = .ok (.athrow, 1) := by decide +kernel
theorem dX7_crank_53 : decode cX7_crank 53 = .ok (.aload_n 0, 1) := by decide +kernel
theorem dX7_crank_54 : decode cX7_crank 54 = .ok (.invokevirtual 77, 3) := by decide +kernel
theorem dX7_crank_57 : decode cX7_crank 57 = .ok (.aload 4, 2) := by decide +kernel
theorem dX7_crank_59 : decode cX7_crank 59 = .ok (.iload_n 2, 1) := by decide +kernel
theorem dX7_crank_60 : decode cX7_crank 60 = .ok (.iload_n 3, 1) := by decide +kernel
theorem dX7_crank_61 : decode cX7_crank 61 = .ok (.invokevirtual 104, 3) := by decide +kernel
theorem dX7_crank_64 : decode cX7_crank 64 = .ok (.aload 4, 2) := by decide +kernel
theorem dX7_crank_66 : decode cX7_crank 66 = .ok (.invokevirtual 107, 3) := by decide +kernel
theorem dX7_crank_69 : decode cX7_crank 69 = .ok (.ireturn, 1) := by decide +kernel
theorem dX7_splice_0 : decode cX7_splice 0 = .ok (.aload_n 0, 1) := by decide +kernel
theorem dX7_splice_1 : decode cX7_splice 1 = .ok (.iload_n 1, 1) := by decide +kernel
theorem dX7_splice_2 : decode cX7_splice 2 = .ok (.invokevirtual 53, 3) := by decide +kernel
theorem dX7_splice_5 : decode cX7_splice 5 = .ok (.iload_n 2, 1) := by decide +kernel
theorem dX7_splice_6 : decode cX7_splice 6 = .ok (.iconst 0, 1) := by decide +kernel
theorem dX7_splice_7 : decode cX7_splice 7 = .ok (.sipush 9000, 3) := by decide +kernel
theorem dX7_splice_10 : decode cX7_splice 10 = .ok (.invokestatic 56, 3) := by decide +kernel
theorem dX7_splice_13 : decode cX7_splice 13 = .ok (.iload_n 3, 1) := by decide +kernel
theorem dX7_splice_14 : decode cX7_splice 14 = .ok (.iconst 0, 1) := by decide +kernel
theorem dX7_splice_15 : decode cX7_splice 15 = .ok (.bipush 50, 2) := by decide +kernel
theorem dX7_splice_17 : decode cX7_splice 17 = .ok (.invokestatic 56, 3) := by decide +kernel
theorem dX7_splice_20 : decode cX7_splice 20 = .ok (.aload_n 0, 1) := by decide +kernel
theorem dX7_splice_21 : decode cX7_splice 21 = .ok (.getfield 10, 3) := by decide +kernel
theorem dX7_splice_24 : decode cX7_splice 24 = .ok (.iload_n 1, 1) := by decide +kernel
theorem dX7_splice_25 : decode cX7_splice 25 = .ok (.invokevirtual 60, 3) := by decide +kernel
theorem dX7_splice_28 : decode cX7_splice 28 = .ok (.getfield 110, 3) := by decide +kernel
theorem dX7_splice_31 : decode cX7_splice 31 = .ok (.astore 4, 2) := by decide +kernel
theorem dX7_splice_33 : decode cX7_splice 33 = .ok (.iload_n 3, 1) := by decide +kernel
theorem dX7_splice_34 : decode cX7_splice 34 = .ok (.ifCond .eq 22, 3) := by decide +kernel
theorem dX7_splice_37 : decode cX7_splice 37 = .ok (.aload 4, 2) := by decide +kernel
theorem dX7_splice_39 : decode cX7_splice 39 = .ok (.iload_n 2, 1) := by decide +kernel
theorem dX7_splice_40 : decode cX7_splice 40 = .ok (.invokevirtual 96, 3) := by decide +kernel
theorem dX7_splice_43 : decode cX7_splice 43 = .ok (.ifCond .ne 13, 3) := by decide +kernel
theorem dX7_splice_46 : decode cX7_splice 46 = .ok (.new 70, 3) := by decide +kernel
theorem dX7_splice_49 : decode cX7_splice 49 = .ok (.dup, 1) := by decide +kernel
theorem dX7_splice_50 : decode cX7_splice 50 = .ok (.ldc 113, 2) := by decide +kernel
theorem dX7_splice_52 : decode cX7_splice 52 = .ok (.invokespecial 74, 3) := by decide +kernel
theorem dX7_splice_55 : decode cX7_splice 55 = .ok (.athrow, 1) := by decide +kernel
theorem dX7_splice_56 : decode cX7_splice 56 = .ok (.aload_n 0, 1) := by decide +kernel
theorem dX7_splice_57 : decode cX7_splice 57 = .ok (.invokevirtual 77, 3) := by decide +kernel
theorem dX7_splice_60 : decode cX7_splice 60 = .ok (.iload_n 3, 1) := by decide +kernel
theorem dX7_splice_61 : decode cX7_splice 61 = .ok (.ifCond .ne 12, 3) := by decide +kernel
theorem dX7_splice_64 : decode cX7_splice 64 = .ok (.aload 4, 2) := by decide +kernel
theorem dX7_splice_66 : decode cX7_splice 66 = .ok (.iload_n 2, 1) := by decide +kernel
theorem dX7_splice_67 : decode cX7_splice 67 = .ok (.invokevirtual 115, 3) := by decide +kernel
theorem dX7_splice_70 : decode cX7_splice 70 = .ok (.goto 10, 3) := by decide +kernel
theorem dX7_splice_73 : decode cX7_splice 73 = .ok (.aload 4, 2) := by decide +kernel
theorem dX7_splice_75 : decode cX7_splice 75 = .ok (.iload_n 2, 1) := by decide +kernel
theorem dX7_splice_76 : decode cX7_splice 76 = .ok (.iload_n 3, 1) := by decide +kernel
theorem dX7_splice_77 : decode cX7_splice 77 = .ok (.invokevirtual 104, 3) := by decide +kernel
theorem dX7_splice_80 : decode cX7_splice 80 = .ok (.aload 4, 2) := by decide +kernel
theorem dX7_splice_82 : decode cX7_splice 82 = .ok (.invokevirtual 107, 3) := by decide +kernel
theorem dX7_splice_85 : decode cX7_splice 85 = .ok (.ireturn, 1) := by decide +kernel
theorem dX7_addPiece_0 : decode cX7_addPiece 0 = .ok (.iload_n 1, 1) := by decide +kernel
theorem dX7_addPiece_1 : decode cX7_addPiece 1 = .ok (.iconst 0, 1) := by decide +kernel
theorem dX7_addPiece_2 : decode cX7_addPiece 2 = .ok (.sipush 600, 3) := by decide +kernel
theorem dX7_addPiece_5 : decode cX7_addPiece 5 = .ok (.invokestatic 56, 3) := by decide +kernel
theorem dX7_addPiece_8 : decode cX7_addPiece 8 = .ok (.iload_n 2, 1) := by decide +kernel
theorem dX7_addPiece_9 : decode cX7_addPiece 9 = .ok (.bipush 10, 2) := by decide +kernel
theorem dX7_addPiece_11 : decode cX7_addPiece 11 = .ok (.sipush 1200, 3) := by decide +kernel
theorem dX7_addPiece_14 : decode cX7_addPiece 14 = .ok (.invokestatic 56, 3) := by decide +kernel
theorem dX7_addPiece_17 : decode cX7_addPiece 17 = .ok (.iload_n 3, 1) := by decide +kernel
theorem dX7_addPiece_18 : decode cX7_addPiece 18 = .ok (.iconst 0, 1) := by decide +kernel
theorem dX7_addPiece_19 : decode cX7_addPiece 19 = .ok (.sipush 600, 3) := by decide +kernel
theorem dX7_addPiece_22 : decode cX7_addPiece 22 = .ok (.invokestatic 56, 3) := by decide +kernel
theorem dX7_addPiece_25 : decode cX7_addPiece 25 = .ok (.aload_n 0, 1) := by decide +kernel
theorem dX7_addPiece_26 : decode cX7_addPiece 26 = .ok (.getfield 10, 3) := by decide +kernel
theorem dX7_addPiece_29 : decode cX7_addPiece 29 = .ok (.invokevirtual 118, 3) := by decide +kernel
theorem dX7_addPiece_32 : decode cX7_addPiece 32 = .ok (.bipush 8, 2) := by decide +kernel
theorem dX7_addPiece_34 : decode cX7_addPiece 34 = .ok (.if_icmp .lt 13, 3) := by decide +kernel
theorem dX7_addPiece_37 : decode cX7_addPiece 37 = .ok (.new 70, 3) := by decide +kernel
theorem dX7_addPiece_40 : decode cX7_addPiece 40 = .ok (.dup, 1) := by decide +kernel
theorem dX7_addPiece_41 : decode cX7_addPiece 41 = .ok (.ldc 121, 2) := by decide +kernel
theorem dX7_addPiece_43 : decode cX7_addPiece 43 = .ok (.invokespecial 74, 3) := by decide +kernel
theorem dX7_addPiece_46 : decode cX7_addPiece 46 = .ok (.athrow, 1) := by decide +kernel
theorem dX7_addPiece_47 : decode cX7_addPiece 47 = .ok (.aload_n 0, 1) := by decide +kernel
theorem dX7_addPiece_48 : decode cX7_addPiece 48 = .ok (.invokevirtual 77, 3) := by decide +kernel
theorem dX7_addPiece_51 : decode cX7_addPiece 51 = .ok (.aload_n 0, 1) := by decide +kernel
theorem dX7_addPiece_52 : decode cX7_addPiece 52 = .ok (.getfield 10, 3) := by decide +kernel
theorem dX7_addPiece_55 : decode cX7_addPiece 55 = .ok (.getfield 123, 3) := by decide +kernel
theorem dX7_addPiece_58 : decode cX7_addPiece 58 = .ok (.iload_n 1, 1) := by decide +kernel
theorem dX7_addPiece_59 : decode cX7_addPiece 59 = .ok (.invokevirtual 126, 3) := by decide +kernel
theorem dX7_addPiece_62 : decode cX7_addPiece 62 = .ok (.aload_n 0, 1) := by decide +kernel
theorem dX7_addPiece_63 : decode cX7_addPiece 63 = .ok (.getfield 10, 3) := by decide +kernel
theorem dX7_addPiece_66 : decode cX7_addPiece 66 = .ok (.getfield 129, 3) := by decide +kernel
theorem dX7_addPiece_69 : decode cX7_addPiece 69 = .ok (.iload_n 2, 1) := by decide +kernel
theorem dX7_addPiece_70 : decode cX7_addPiece 70 = .ok (.invokevirtual 126, 3) := by decide +kernel
theorem dX7_addPiece_73 : decode cX7_addPiece 73 = .ok (.aload_n 0, 1) := by decide +kernel
theorem dX7_addPiece_74 : decode cX7_addPiece 74 = .ok (.getfield 10, 3) := by decide +kernel
theorem dX7_addPiece_77 : decode cX7_addPiece 77 = .ok (.getfield 132, 3) := by decide +kernel
theorem dX7_addPiece_80 : decode cX7_addPiece 80 = .ok (.iload_n 3, 1) := by decide +kernel
theorem dX7_addPiece_81 : decode cX7_addPiece 81 = .ok (.invokevirtual 126, 3) := by decide +kernel
theorem dX7_addPiece_84 : decode cX7_addPiece 84 = .ok (.aload_n 0, 1) := by decide +kernel
theorem dX7_addPiece_85 : decode cX7_addPiece 85 = .ok (.getfield 10, 3) := by decide +kernel
theorem dX7_addPiece_88 : decode cX7_addPiece 88 = .ok (.invokevirtual 118, 3) := by decide +kernel
theorem dX7_addPiece_91 : decode cX7_addPiece 91 = .ok (.iconst 1, 1) := by decide +kernel
theorem dX7_addPiece_92 : decode cX7_addPiece 92 = .ok (.isub, 1) := by decide +kernel
theorem dX7_addPiece_93 : decode cX7_addPiece 93 = .ok (.ireturn, 1) := by decide +kernel
theorem dX7_setCue_0 : decode cX7_setCue 0 = .ok (.aload_n 0, 1) := by decide +kernel
theorem dX7_setCue_1 : decode cX7_setCue 1 = .ok (.iload_n 1, 1) := by decide +kernel
theorem dX7_setCue_2 : decode cX7_setCue 2 = .ok (.iload_n 2, 1) := by decide +kernel
theorem dX7_setCue_3 : decode cX7_setCue 3 = .ok (.invokevirtual 85, 3) := by decide +kernel
theorem dX7_setCue_6 : decode cX7_setCue 6 = .ok (.iload_n 3, 1) := by decide +kernel
theorem dX7_setCue_7 : decode cX7_setCue 7 = .ok (.ldc 80, 2) := by decide +kernel
theorem dX7_setCue_9 : decode cX7_setCue 9 = .ok (.if_icmp .eq 8, 3) := by decide +kernel
theorem dX7_setCue_12 : decode cX7_setCue 12 = .ok (.aload_n 0, 1) := by decide +kernel
theorem dX7_setCue_13 : decode cX7_setCue 13 = .ok (.iload_n 3, 1) := by decide +kernel
theorem dX7_setCue_14 : decode cX7_setCue 14 = .ok (.invokevirtual 135, 3) := by decide +kernel
theorem dX7_setCue_17 : decode cX7_setCue 17 = .ok (.iload 4, 2) := by decide +kernel
theorem dX7_setCue_19 : decode cX7_setCue 19 = .ok (.iconst 1, 1) := by decide +kernel
theorem dX7_setCue_20 : decode cX7_setCue 20 = .ok (.bipush 9, 2) := by decide +kernel
theorem dX7_setCue_22 : decode cX7_setCue 22 = .ok (.invokestatic 56, 3) := by decide +kernel
theorem dX7_setCue_25 : decode cX7_setCue 25 = .ok (.iload 5, 2) := by decide +kernel
theorem dX7_setCue_27 : decode cX7_setCue 27 = .ok (.bipush 80, 2) := by decide +kernel
theorem dX7_setCue_29 : decode cX7_setCue 29 = .ok (.bipush 120, 2) := by decide +kernel
theorem dX7_setCue_31 : decode cX7_setCue 31 = .ok (.invokestatic 56, 3) := by decide +kernel
theorem dX7_setCue_34 : decode cX7_setCue 34 = .ok (.aload_n 0, 1) := by decide +kernel
theorem dX7_setCue_35 : decode cX7_setCue 35 = .ok (.invokevirtual 77, 3) := by decide +kernel
theorem dX7_setCue_38 : decode cX7_setCue 38 = .ok (.aload_n 0, 1) := by decide +kernel
theorem dX7_setCue_39 : decode cX7_setCue 39 = .ok (.getfield 10, 3) := by decide +kernel
theorem dX7_setCue_42 : decode cX7_setCue 42 = .ok (.iload_n 1, 1) := by decide +kernel
theorem dX7_setCue_43 : decode cX7_setCue 43 = .ok (.invokevirtual 60, 3) := by decide +kernel
theorem dX7_setCue_46 : decode cX7_setCue 46 = .ok (.astore 6, 2) := by decide +kernel
theorem dX7_setCue_48 : decode cX7_setCue 48 = .ok (.iload_n 3, 1) := by decide +kernel
theorem dX7_setCue_49 : decode cX7_setCue 49 = .ok (.ldc 80, 2) := by decide +kernel
theorem dX7_setCue_51 : decode cX7_setCue 51 = .ok (.if_icmp .ne 15, 3) := by decide +kernel
theorem dX7_setCue_54 : decode cX7_setCue 54 = .ok (.aload 6, 2) := by decide +kernel
theorem dX7_setCue_56 : decode cX7_setCue 56 = .ok (.iload_n 2, 1) := by decide +kernel
theorem dX7_setCue_57 : decode cX7_setCue 57 = .ok (.ldc 80, 2) := by decide +kernel
theorem dX7_setCue_59 : decode cX7_setCue 59 = .ok (.iconst 0, 1) := by decide +kernel
theorem dX7_setCue_60 : decode cX7_setCue 60 = .ok (.iconst 0, 1) := by decide +kernel
theorem dX7_setCue_61 : decode cX7_setCue 61 = .ok (.invokevirtual 138, 3) := by decide +kernel
theorem dX7_setCue_64 : decode cX7_setCue 64 = .ok (.iconst 0, 1) := by decide +kernel
theorem dX7_setCue_65 : decode cX7_setCue 65 = .ok (.ireturn, 1) := by decide +kernel
theorem dX7_setCue_66 : decode cX7_setCue 66 = .ok (.aload 6, 2) := by decide +kernel
theorem dX7_setCue_68 : decode cX7_setCue 68 = .ok (.iload_n 2, 1) := by decide +kernel
theorem dX7_setCue_69 : decode cX7_setCue 69 = .ok (.iload_n 3, 1) := by decide +kernel
theorem dX7_setCue_70 : decode cX7_setCue 70 = .ok (.iload 4, 2) := by decide +kernel
theorem dX7_setCue_72 : decode cX7_setCue 72 = .ok (.iload 5, 2) := by decide +kernel
theorem dX7_setCue_74 : decode cX7_setCue 74 = .ok (.invokevirtual 138, 3) := by decide +kernel
theorem dX7_setCue_77 : decode cX7_setCue 77 = .ok (.aload_n 0, 1) := by decide +kernel
theorem dX7_setCue_78 : decode cX7_setCue 78 = .ok (.getfield 39, 3) := by decide +kernel
theorem dX7_setCue_81 : decode cX7_setCue 81 = .ok (.aload_n 0, 1) := by decide +kernel
theorem dX7_setCue_82 : decode cX7_setCue 82 = .ok (.getfield 10, 3) := by decide +kernel
theorem dX7_setCue_85 : decode cX7_setCue 85 = .ok (.aload 6, 2) := by decide +kernel
theorem dX7_setCue_87 : decode cX7_setCue 87 = .ok (.iconst 0, 1) := by decide +kernel
theorem dX7_setCue_88 : decode cX7_setCue 88 = .ok (.invokevirtual 141, 3) := by decide +kernel
theorem dX7_setCue_91 : decode cX7_setCue 91 = .ok (.aload_n 0, 1) := by decide +kernel
theorem dX7_setCue_92 : decode cX7_setCue 92 = .ok (.getfield 39, 3) := by decide +kernel
theorem dX7_setCue_95 : decode cX7_setCue 95 = .ok (.getfield 145, 3) := by decide +kernel
theorem dX7_setCue_98 : decode cX7_setCue 98 = .ok (.iload_n 2, 1) := by decide +kernel
theorem dX7_setCue_99 : decode cX7_setCue 99 = .ok (.invokevirtual 148, 3) := by decide +kernel
theorem dX7_setCue_102 : decode cX7_setCue 102 = .ok (.ireturn, 1) := by decide +kernel
theorem dX7_fit_0 : decode cX7_fit 0 = .ok (.aload_n 0, 1) := by decide +kernel
theorem dX7_fit_1 : decode cX7_fit 1 = .ok (.iload_n 1, 1) := by decide +kernel
theorem dX7_fit_2 : decode cX7_fit 2 = .ok (.invokevirtual 53, 3) := by decide +kernel
theorem dX7_fit_5 : decode cX7_fit 5 = .ok (.aload_n 0, 1) := by decide +kernel
theorem dX7_fit_6 : decode cX7_fit 6 = .ok (.invokevirtual 77, 3) := by decide +kernel
theorem dX7_fit_9 : decode cX7_fit 9 = .ok (.aload_n 0, 1) := by decide +kernel
theorem dX7_fit_10 : decode cX7_fit 10 = .ok (.getfield 10, 3) := by decide +kernel
theorem dX7_fit_13 : decode cX7_fit 13 = .ok (.iload_n 1, 1) := by decide +kernel
theorem dX7_fit_14 : decode cX7_fit 14 = .ok (.invokevirtual 60, 3) := by decide +kernel
theorem dX7_fit_17 : decode cX7_fit 17 = .ok (.astore_n 2, 1) := by decide +kernel
theorem dX7_fit_18 : decode cX7_fit 18 = .ok (.iconst 0, 1) := by decide +kernel
theorem dX7_fit_19 : decode cX7_fit 19 = .ok (.istore_n 3, 1) := by decide +kernel
theorem dX7_fit_20 : decode cX7_fit 20 = .ok (.iconst 0, 1) := by decide +kernel
theorem dX7_fit_21 : decode cX7_fit 21 = .ok (.istore 4, 2) := by decide +kernel
theorem dX7_fit_23 : decode cX7_fit 23 = .ok (.iload 4, 2) := by decide +kernel
theorem dX7_fit_25 : decode cX7_fit 25 = .ok (.aload_n 2, 1) := by decide +kernel
theorem dX7_fit_26 : decode cX7_fit 26 = .ok (.invokevirtual 64, 3) := by decide +kernel
theorem dX7_fit_29 : decode cX7_fit 29 = .ok (.if_icmp .ge 31, 3) := by decide +kernel
theorem dX7_fit_32 : decode cX7_fit 32 = .ok (.aload_n 2, 1) := by decide +kernel
theorem dX7_fit_33 : decode cX7_fit 33 = .ok (.iload 4, 2) := by decide +kernel
theorem dX7_fit_35 : decode cX7_fit 35 = .ok (.invokevirtual 152, 3) := by decide +kernel
theorem dX7_fit_38 : decode cX7_fit 38 = .ok (.ifCond .eq 16, 3) := by decide +kernel
theorem dX7_fit_41 : decode cX7_fit 41 = .ok (.aload_n 0, 1) := by decide +kernel
theorem dX7_fit_42 : decode cX7_fit 42 = .ok (.aload_n 2, 1) := by decide +kernel
theorem dX7_fit_43 : decode cX7_fit 43 = .ok (.iload 4, 2) := by decide +kernel
theorem dX7_fit_45 : decode cX7_fit 45 = .ok (.invokevirtual 155, 3) := by decide +kernel
theorem dX7_fit_48 : decode cX7_fit 48 = .ok (.ifCond .eq 6, 3) := by decide +kernel
theorem dX7_fit_51 : decode cX7_fit 51 = .ok (.iinc 3 1, 3) := by decide +kernel
theorem dX7_fit_54 : decode cX7_fit 54 = .ok (.iinc 4 1, 3) := by decide +kernel
theorem dX7_fit_57 : decode cX7_fit 57 = .ok (.goto (-34), 3) := by decide +kernel
theorem dX7_fit_60 : decode cX7_fit 60 = .ok (.iload_n 3, 1) := by decide +kernel
theorem dX7_fit_61 : decode cX7_fit 61 = .ok (.ireturn, 1) := by decide +kernel
theorem dX7_set_0 : decode cX7_set 0 = .ok (.iload_n 1, 1) := by decide +kernel
theorem dX7_set_1 : decode cX7_set 1 = .ok (.iconst 0, 1) := by decide +kernel
theorem dX7_set_2 : decode cX7_set 2 = .ok (.sipush 600, 3) := by decide +kernel
theorem dX7_set_5 : decode cX7_set 5 = .ok (.invokestatic 56, 3) := by decide +kernel
theorem dX7_set_8 : decode cX7_set 8 = .ok (.iload_n 2, 1) := by decide +kernel
theorem dX7_set_9 : decode cX7_set 9 = .ok (.iconst 0, 1) := by decide +kernel
theorem dX7_set_10 : decode cX7_set 10 = .ok (.bipush 20, 2) := by decide +kernel
theorem dX7_set_12 : decode cX7_set 12 = .ok (.invokestatic 56, 3) := by decide +kernel
theorem dX7_set_15 : decode cX7_set 15 = .ok (.aload_n 0, 1) := by decide +kernel
theorem dX7_set_16 : decode cX7_set 16 = .ok (.invokevirtual 77, 3) := by decide +kernel
theorem dX7_set_19 : decode cX7_set 19 = .ok (.bipush 100, 2) := by decide +kernel
theorem dX7_set_21 : decode cX7_set 21 = .ok (.aload_n 0, 1) := by decide +kernel
theorem dX7_set_22 : decode cX7_set 22 = .ok (.getfield 10, 3) := by decide +kernel
theorem dX7_set_25 : decode cX7_set 25 = .ok (.getfield 159, 3) := by decide +kernel
theorem dX7_set_28 : decode cX7_set 28 = .ok (.imul, 1) := by decide +kernel
theorem dX7_set_29 : decode cX7_set 29 = .ok (.aload_n 0, 1) := by decide +kernel
theorem dX7_set_30 : decode cX7_set 30 = .ok (.getfield 10, 3) := by decide +kernel
theorem dX7_set_33 : decode cX7_set 33 = .ok (.getfield 163, 3) := by decide +kernel
theorem dX7_set_36 : decode cX7_set 36 = .ok (.iadd, 1) := by decide +kernel
theorem dX7_set_37 : decode cX7_set 37 = .ok (.istore_n 3, 1) := by decide +kernel
theorem dX7_set_38 : decode cX7_set 38 = .ok (.aload_n 0, 1) := by decide +kernel
theorem dX7_set_39 : decode cX7_set 39 = .ok (.getfield 10, 3) := by decide +kernel
theorem dX7_set_42 : decode cX7_set 42 = .ok (.iload_n 1, 1) := by decide +kernel
theorem dX7_set_43 : decode cX7_set 43 = .ok (.putfield 159, 3) := by decide +kernel
theorem dX7_set_46 : decode cX7_set 46 = .ok (.aload_n 0, 1) := by decide +kernel
theorem dX7_set_47 : decode cX7_set 47 = .ok (.getfield 10, 3) := by decide +kernel
theorem dX7_set_50 : decode cX7_set 50 = .ok (.iload_n 2, 1) := by decide +kernel
theorem dX7_set_51 : decode cX7_set 51 = .ok (.putfield 163, 3) := by decide +kernel
theorem dX7_set_54 : decode cX7_set 54 = .ok (.iload_n 3, 1) := by decide +kernel
theorem dX7_set_55 : decode cX7_set 55 = .ok (.ireturn, 1) := by decide +kernel
theorem dX7_scene_0 : decode cX7_scene 0 = .ok (.aload_n 0, 1) := by decide +kernel
theorem dX7_scene_1 : decode cX7_scene 1 = .ok (.iload_n 1, 1) := by decide +kernel
theorem dX7_scene_2 : decode cX7_scene 2 = .ok (.iload_n 2, 1) := by decide +kernel
theorem dX7_scene_3 : decode cX7_scene 3 = .ok (.invokevirtual 85, 3) := by decide +kernel
theorem dX7_scene_6 : decode cX7_scene 6 = .ok (.iload_n 3, 1) := by decide +kernel
theorem dX7_scene_7 : decode cX7_scene 7 = .ok (.iconst 0, 1) := by decide +kernel
theorem dX7_scene_8 : decode cX7_scene 8 = .ok (.bipush 11, 2) := by decide +kernel
theorem dX7_scene_10 : decode cX7_scene 10 = .ok (.invokestatic 56, 3) := by decide +kernel
theorem dX7_scene_13 : decode cX7_scene 13 = .ok (.aload_n 0, 1) := by decide +kernel
theorem dX7_scene_14 : decode cX7_scene 14 = .ok (.getfield 10, 3) := by decide +kernel
theorem dX7_scene_17 : decode cX7_scene 17 = .ok (.iload_n 1, 1) := by decide +kernel
theorem dX7_scene_18 : decode cX7_scene 18 = .ok (.invokevirtual 60, 3) := by decide +kernel
theorem dX7_scene_21 : decode cX7_scene 21 = .ok (.astore 4, 2) := by decide +kernel
theorem dX7_scene_23 : decode cX7_scene 23 = .ok (.aload_n 0, 1) := by decide +kernel
theorem dX7_scene_24 : decode cX7_scene 24 = .ok (.getfield 39, 3) := by decide +kernel
theorem dX7_scene_27 : decode cX7_scene 27 = .ok (.aload_n 0, 1) := by decide +kernel
theorem dX7_scene_28 : decode cX7_scene 28 = .ok (.getfield 10, 3) := by decide +kernel
theorem dX7_scene_31 : decode cX7_scene 31 = .ok (.aload 4, 2) := by decide +kernel
theorem dX7_scene_33 : decode cX7_scene 33 = .ok (.iconst 0, 1) := by decide +kernel
theorem dX7_scene_34 : decode cX7_scene 34 = .ok (.invokevirtual 141, 3) := by decide +kernel
theorem dX7_scene_37 : decode cX7_scene 37 = .ok (.aload_n 0, 1) := by decide +kernel
theorem dX7_scene_38 : decode cX7_scene 38 = .ok (.aload 4, 2) := by decide +kernel
theorem dX7_scene_40 : decode cX7_scene 40 = .ok (.iload_n 2, 1) := by decide +kernel
theorem dX7_scene_41 : decode cX7_scene 41 = .ok (.iload_n 3, 1) := by decide +kernel
theorem dX7_scene_42 : decode cX7_scene 42 = .ok (.invokevirtual 212, 3) := by decide +kernel
theorem dX7_scene_45 : decode cX7_scene 45 = .ok (.ireturn, 1) := by decide +kernel
theorem dX7_reel_0 : decode cX7_reel 0 = .ok (.aload_n 0, 1) := by decide +kernel
theorem dX7_reel_1 : decode cX7_reel 1 = .ok (.iload_n 1, 1) := by decide +kernel
theorem dX7_reel_2 : decode cX7_reel 2 = .ok (.invokevirtual 53, 3) := by decide +kernel
theorem dX7_reel_5 : decode cX7_reel 5 = .ok (.iload_n 2, 1) := by decide +kernel
theorem dX7_reel_6 : decode cX7_reel 6 = .ok (.iconst 0, 1) := by decide +kernel
theorem dX7_reel_7 : decode cX7_reel 7 = .ok (.bipush 10, 2) := by decide +kernel
theorem dX7_reel_9 : decode cX7_reel 9 = .ok (.invokestatic 56, 3) := by decide +kernel
theorem dX7_reel_12 : decode cX7_reel 12 = .ok (.aload_n 0, 1) := by decide +kernel
theorem dX7_reel_13 : decode cX7_reel 13 = .ok (.getfield 10, 3) := by decide +kernel
theorem dX7_reel_16 : decode cX7_reel 16 = .ok (.iload_n 1, 1) := by decide +kernel
theorem dX7_reel_17 : decode cX7_reel 17 = .ok (.invokevirtual 60, 3) := by decide +kernel
theorem dX7_reel_20 : decode cX7_reel 20 = .ok (.astore_n 3, 1) := by decide +kernel
theorem dX7_reel_21 : decode cX7_reel 21 = .ok (.aload_n 0, 1) := by decide +kernel
theorem dX7_reel_22 : decode cX7_reel 22 = .ok (.getfield 39, 3) := by decide +kernel
theorem dX7_reel_25 : decode cX7_reel 25 = .ok (.aload_n 0, 1) := by decide +kernel
theorem dX7_reel_26 : decode cX7_reel 26 = .ok (.getfield 10, 3) := by decide +kernel
theorem dX7_reel_29 : decode cX7_reel 29 = .ok (.aload_n 3, 1) := by decide +kernel
theorem dX7_reel_30 : decode cX7_reel 30 = .ok (.iconst 0, 1) := by decide +kernel
theorem dX7_reel_31 : decode cX7_reel 31 = .ok (.invokevirtual 141, 3) := by decide +kernel
theorem dX7_reel_34 : decode cX7_reel 34 = .ok (.aload_n 0, 1) := by decide +kernel
theorem dX7_reel_35 : decode cX7_reel 35 = .ok (.aload_n 3, 1) := by decide +kernel
theorem dX7_reel_36 : decode cX7_reel 36 = .ok (.iload_n 2, 1) := by decide +kernel
theorem dX7_reel_37 : decode cX7_reel 37 = .ok (.invokevirtual 216, 3) := by decide +kernel
theorem dX7_reel_40 : decode cX7_reel 40 = .ok (.ireturn, 1) := by decide +kernel
theorem dX7_speedAt_0 : decode cX7_speedAt 0 = .ok (.aload_n 0, 1) := by decide +kernel
theorem dX7_speedAt_1 : decode cX7_speedAt 1 = .ok (.iload_n 1, 1) := by decide +kernel
theorem dX7_speedAt_2 : decode cX7_speedAt 2 = .ok (.invokevirtual 53, 3) := by decide +kernel
theorem dX7_speedAt_5 : decode cX7_speedAt 5 = .ok (.iload_n 2, 1) := by decide +kernel
theorem dX7_speedAt_6 : decode cX7_speedAt 6 = .ok (.iconst 0, 1) := by decide +kernel
theorem dX7_speedAt_7 : decode cX7_speedAt 7 = .ok (.sipush 9000, 3) := by decide +kernel
theorem dX7_speedAt_10 : decode cX7_speedAt 10 = .ok (.invokestatic 56, 3) := by decide +kernel
theorem dX7_speedAt_13 : decode cX7_speedAt 13 = .ok (.aload_n 0, 1) := by decide +kernel
theorem dX7_speedAt_14 : decode cX7_speedAt 14 = .ok (.getfield 10, 3) := by decide +kernel
theorem dX7_speedAt_17 : decode cX7_speedAt 17 = .ok (.iload_n 1, 1) := by decide +kernel
theorem dX7_speedAt_18 : decode cX7_speedAt 18 = .ok (.invokevirtual 60, 3) := by decide +kernel
theorem dX7_speedAt_21 : decode cX7_speedAt 21 = .ok (.getfield 92, 3) := by decide +kernel
theorem dX7_speedAt_24 : decode cX7_speedAt 24 = .ok (.iload_n 2, 1) := by decide +kernel
theorem dX7_speedAt_25 : decode cX7_speedAt 25 = .ok (.invokevirtual 220, 3) := by decide +kernel
theorem dX7_speedAt_28 : decode cX7_speedAt 28 = .ok (.ireturn, 1) := by decide +kernel
theorem dX7_piece_0 : decode cX7_piece 0 = .ok (.aload_n 0, 1) := by decide +kernel
theorem dX7_piece_1 : decode cX7_piece 1 = .ok (.iload_n 1, 1) := by decide +kernel
theorem dX7_piece_2 : decode cX7_piece 2 = .ok (.invokevirtual 135, 3) := by decide +kernel
theorem dX7_piece_5 : decode cX7_piece 5 = .ok (.iload_n 2, 1) := by decide +kernel
theorem dX7_piece_6 : decode cX7_piece 6 = .ok (.iconst 0, 1) := by decide +kernel
theorem dX7_piece_7 : decode cX7_piece 7 = .ok (.iconst 3, 1) := by decide +kernel
theorem dX7_piece_8 : decode cX7_piece 8 = .ok (.invokestatic 56, 3) := by decide +kernel
theorem dX7_piece_11 : decode cX7_piece 11 = .ok (.aload_n 0, 1) := by decide +kernel
theorem dX7_piece_12 : decode cX7_piece 12 = .ok (.iload_n 1, 1) := by decide +kernel
theorem dX7_piece_13 : decode cX7_piece 13 = .ok (.iload_n 2, 1) := by decide +kernel
theorem dX7_piece_14 : decode cX7_piece 14 = .ok (.invokevirtual 223, 3) := by decide +kernel
theorem dX7_piece_17 : decode cX7_piece 17 = .ok (.ireturn, 1) := by decide +kernel
theorem dX7_count_0 : decode cX7_count 0 = .ok (.iload_n 1, 1) := by decide +kernel
theorem dX7_count_1 : decode cX7_count 1 = .ok (.iconst 0, 1) := by decide +kernel
theorem dX7_count_2 : decode cX7_count 2 = .ok (.bipush 7, 2) := by decide +kernel
theorem dX7_count_4 : decode cX7_count 4 = .ok (.invokestatic 56, 3) := by decide +kernel
theorem dX7_count_7 : decode cX7_count 7 = .ok (.aload_n 0, 1) := by decide +kernel
theorem dX7_count_8 : decode cX7_count 8 = .ok (.iload_n 1, 1) := by decide +kernel
theorem dX7_count_9 : decode cX7_count 9 = .ok (.invokevirtual 227, 3) := by decide +kernel
theorem dX7_count_12 : decode cX7_count 12 = .ok (.ireturn, 1) := by decide +kernel
theorem dX7_bestCue_0 : decode cX7_bestCue 0 = .ok (.aload_n 0, 1) := by decide +kernel
theorem dX7_bestCue_1 : decode cX7_bestCue 1 = .ok (.iload_n 1, 1) := by decide +kernel
theorem dX7_bestCue_2 : decode cX7_bestCue 2 = .ok (.iload_n 2, 1) := by decide +kernel
theorem dX7_bestCue_3 : decode cX7_bestCue 3 = .ok (.invokevirtual 85, 3) := by decide +kernel
theorem dX7_bestCue_6 : decode cX7_bestCue 6 = .ok (.aload_n 0, 1) := by decide +kernel
theorem dX7_bestCue_7 : decode cX7_bestCue 7 = .ok (.iload_n 3, 1) := by decide +kernel
theorem dX7_bestCue_8 : decode cX7_bestCue 8 = .ok (.invokevirtual 135, 3) := by decide +kernel
theorem dX7_bestCue_11 : decode cX7_bestCue 11 = .ok (.aload_n 0, 1) := by decide +kernel
theorem dX7_bestCue_12 : decode cX7_bestCue 12 = .ok (.getfield 39, 3) := by decide +kernel
theorem dX7_bestCue_15 : decode cX7_bestCue 15 = .ok (.aload_n 0, 1) := by decide +kernel
theorem dX7_bestCue_16 : decode cX7_bestCue 16 = .ok (.getfield 10, 3) := by decide +kernel
theorem dX7_bestCue_19 : decode cX7_bestCue 19 = .ok (.aload_n 0, 1) := by decide +kernel
theorem dX7_bestCue_20 : decode cX7_bestCue 20 = .ok (.getfield 10, 3) := by decide +kernel
theorem dX7_bestCue_23 : decode cX7_bestCue 23 = .ok (.iload_n 1, 1) := by decide +kernel
theorem dX7_bestCue_24 : decode cX7_bestCue 24 = .ok (.invokevirtual 60, 3) := by decide +kernel
theorem dX7_bestCue_27 : decode cX7_bestCue 27 = .ok (.iconst 0, 1) := by decide +kernel
theorem dX7_bestCue_28 : decode cX7_bestCue 28 = .ok (.invokevirtual 141, 3) := by decide +kernel
theorem dX7_bestCue_31 : decode cX7_bestCue 31 = .ok (.aload_n 0, 1) := by decide +kernel
theorem dX7_bestCue_32 : decode cX7_bestCue 32 = .ok (.getfield 49, 3) := by decide +kernel
theorem dX7_bestCue_35 : decode cX7_bestCue 35 = .ok (.aload_n 0, 1) := by decide +kernel
theorem dX7_bestCue_36 : decode cX7_bestCue 36 = .ok (.getfield 10, 3) := by decide +kernel
theorem dX7_bestCue_39 : decode cX7_bestCue 39 = .ok (.iload_n 3, 1) := by decide +kernel
theorem dX7_bestCue_40 : decode cX7_bestCue 40 = .ok (.aload_n 0, 1) := by decide +kernel
theorem dX7_bestCue_41 : decode cX7_bestCue 41 = .ok (.getfield 39, 3) := by decide +kernel
theorem dX7_bestCue_44 : decode cX7_bestCue 44 = .ok (.iload_n 2, 1) := by decide +kernel
theorem dX7_bestCue_45 : decode cX7_bestCue 45 = .ok (.invokevirtual 230, 3) := by decide +kernel
theorem dX7_bestCue_48 : decode cX7_bestCue 48 = .ok (.invokevirtual 233, 3) := by decide +kernel
theorem dX7_bestCue_51 : decode cX7_bestCue 51 = .ok (.sipush 1000, 3) := by decide +kernel
theorem dX7_bestCue_54 : decode cX7_bestCue 54 = .ok (.aload_n 0, 1) := by decide +kernel
theorem dX7_bestCue_55 : decode cX7_bestCue 55 = .ok (.getfield 49, 3) := by decide +kernel
theorem dX7_bestCue_58 : decode cX7_bestCue 58 = .ok (.getfield 237, 3) := by decide +kernel
theorem dX7_bestCue_61 : decode cX7_bestCue 61 = .ok (.imul, 1) := by decide +kernel
theorem dX7_bestCue_62 : decode cX7_bestCue 62 = .ok (.aload_n 0, 1) := by decide +kernel
theorem dX7_bestCue_63 : decode cX7_bestCue 63 = .ok (.getfield 49, 3) := by decide +kernel
theorem dX7_bestCue_66 : decode cX7_bestCue 66 = .ok (.getfield 239, 3) := by decide +kernel
theorem dX7_bestCue_69 : decode cX7_bestCue 69 = .ok (.iadd, 1) := by decide +kernel
theorem dX7_bestCue_70 : decode cX7_bestCue 70 = .ok (.ireturn, 1) := by decide +kernel
theorem dX7_bestPiece_0 : decode cX7_bestPiece 0 = .ok (.aload_n 0, 1) := by decide +kernel
theorem dX7_bestPiece_1 : decode cX7_bestPiece 1 = .ok (.iload_n 1, 1) := by decide +kernel
theorem dX7_bestPiece_2 : decode cX7_bestPiece 2 = .ok (.iload_n 2, 1) := by decide +kernel
theorem dX7_bestPiece_3 : decode cX7_bestPiece 3 = .ok (.invokevirtual 85, 3) := by decide +kernel
theorem dX7_bestPiece_6 : decode cX7_bestPiece 6 = .ok (.aload_n 0, 1) := by decide +kernel
theorem dX7_bestPiece_7 : decode cX7_bestPiece 7 = .ok (.getfield 39, 3) := by decide +kernel
theorem dX7_bestPiece_10 : decode cX7_bestPiece 10 = .ok (.aload_n 0, 1) := by decide +kernel
theorem dX7_bestPiece_11 : decode cX7_bestPiece 11 = .ok (.getfield 10, 3) := by decide +kernel
theorem dX7_bestPiece_14 : decode cX7_bestPiece 14 = .ok (.aload_n 0, 1) := by decide +kernel
theorem dX7_bestPiece_15 : decode cX7_bestPiece 15 = .ok (.getfield 10, 3) := by decide +kernel
theorem dX7_bestPiece_18 : decode cX7_bestPiece 18 = .ok (.iload_n 1, 1) := by decide +kernel
theorem dX7_bestPiece_19 : decode cX7_bestPiece 19 = .ok (.invokevirtual 60, 3) := by decide +kernel
theorem dX7_bestPiece_22 : decode cX7_bestPiece 22 = .ok (.iconst 0, 1) := by decide +kernel
theorem dX7_bestPiece_23 : decode cX7_bestPiece 23 = .ok (.invokevirtual 141, 3) := by decide +kernel
theorem dX7_bestPiece_26 : decode cX7_bestPiece 26 = .ok (.aload_n 0, 1) := by decide +kernel
theorem dX7_bestPiece_27 : decode cX7_bestPiece 27 = .ok (.aload_n 0, 1) := by decide +kernel
theorem dX7_bestPiece_28 : decode cX7_bestPiece 28 = .ok (.getfield 39, 3) := by decide +kernel
theorem dX7_bestPiece_31 : decode cX7_bestPiece 31 = .ok (.iload_n 2, 1) := by decide +kernel
theorem dX7_bestPiece_32 : decode cX7_bestPiece 32 = .ok (.invokevirtual 230, 3) := by decide +kernel
theorem dX7_bestPiece_35 : decode cX7_bestPiece 35 = .ok (.invokevirtual 242, 3) := by decide +kernel
theorem dX7_bestPiece_38 : decode cX7_bestPiece 38 = .ok (.ireturn, 1) := by decide +kernel
theorem dX7_ifCranked_0 : decode cX7_ifCranked 0 = .ok (.aload_n 0, 1) := by decide +kernel
theorem dX7_ifCranked_1 : decode cX7_ifCranked 1 = .ok (.iload_n 1, 1) := by decide +kernel
theorem dX7_ifCranked_2 : decode cX7_ifCranked 2 = .ok (.invokevirtual 53, 3) := by decide +kernel
theorem dX7_ifCranked_5 : decode cX7_ifCranked 5 = .ok (.iload_n 2, 1) := by decide +kernel
theorem dX7_ifCranked_6 : decode cX7_ifCranked 6 = .ok (.bipush 10, 2) := by decide +kernel
theorem dX7_ifCranked_8 : decode cX7_ifCranked 8 = .ok (.bipush 30, 2) := by decide +kernel
theorem dX7_ifCranked_10 : decode cX7_ifCranked 10 = .ok (.invokestatic 56, 3) := by decide +kernel
theorem dX7_ifCranked_13 : decode cX7_ifCranked 13 = .ok (.aload_n 0, 1) := by decide +kernel
theorem dX7_ifCranked_14 : decode cX7_ifCranked 14 = .ok (.getfield 43, 3) := by decide +kernel
theorem dX7_ifCranked_17 : decode cX7_ifCranked 17 = .ok (.aload_n 0, 1) := by decide +kernel
theorem dX7_ifCranked_18 : decode cX7_ifCranked 18 = .ok (.getfield 10, 3) := by decide +kernel
theorem dX7_ifCranked_21 : decode cX7_ifCranked 21 = .ok (.aload_n 0, 1) := by decide +kernel
theorem dX7_ifCranked_22 : decode cX7_ifCranked 22 = .ok (.getfield 10, 3) := by decide +kernel
theorem dX7_ifCranked_25 : decode cX7_ifCranked 25 = .ok (.iload_n 1, 1) := by decide +kernel
theorem dX7_ifCranked_26 : decode cX7_ifCranked 26 = .ok (.invokevirtual 60, 3) := by decide +kernel
theorem dX7_ifCranked_29 : decode cX7_ifCranked 29 = .ok (.iload_n 2, 1) := by decide +kernel
theorem dX7_ifCranked_30 : decode cX7_ifCranked 30 = .ok (.invokevirtual 141, 3) := by decide +kernel
theorem dX7_ifCranked_33 : decode cX7_ifCranked 33 = .ok (.aload_n 0, 1) := by decide +kernel
theorem dX7_ifCranked_34 : decode cX7_ifCranked 34 = .ok (.getfield 43, 3) := by decide +kernel
theorem dX7_ifCranked_37 : decode cX7_ifCranked 37 = .ok (.getfield 245, 3) := by decide +kernel
theorem dX7_ifCranked_40 : decode cX7_ifCranked 40 = .ok (.ireturn, 1) := by decide +kernel
theorem dX7_bestSpeed_0 : decode cX7_bestSpeed 0 = .ok (.aload_n 0, 1) := by decide +kernel
theorem dX7_bestSpeed_1 : decode cX7_bestSpeed 1 = .ok (.iload_n 1, 1) := by decide +kernel
theorem dX7_bestSpeed_2 : decode cX7_bestSpeed 2 = .ok (.invokevirtual 53, 3) := by decide +kernel
theorem dX7_bestSpeed_5 : decode cX7_bestSpeed 5 = .ok (.aload_n 0, 1) := by decide +kernel
theorem dX7_bestSpeed_6 : decode cX7_bestSpeed 6 = .ok (.aload_n 0, 1) := by decide +kernel
theorem dX7_bestSpeed_7 : decode cX7_bestSpeed 7 = .ok (.getfield 10, 3) := by decide +kernel
theorem dX7_bestSpeed_10 : decode cX7_bestSpeed 10 = .ok (.iload_n 1, 1) := by decide +kernel
theorem dX7_bestSpeed_11 : decode cX7_bestSpeed 11 = .ok (.invokevirtual 60, 3) := by decide +kernel
theorem dX7_bestSpeed_14 : decode cX7_bestSpeed 14 = .ok (.invokevirtual 248, 3) := by decide +kernel
theorem dX7_bestSpeed_17 : decode cX7_bestSpeed 17 = .ok (.ireturn, 1) := by decide +kernel
theorem dX7_offShare_0 : decode cX7_offShare 0 = .ok (.aload_n 0, 1) := by decide +kernel
theorem dX7_offShare_1 : decode cX7_offShare 1 = .ok (.iload_n 1, 1) := by decide +kernel
theorem dX7_offShare_2 : decode cX7_offShare 2 = .ok (.invokevirtual 53, 3) := by decide +kernel
theorem dX7_offShare_5 : decode cX7_offShare 5 = .ok (.aload_n 0, 1) := by decide +kernel
theorem dX7_offShare_6 : decode cX7_offShare 6 = .ok (.getfield 39, 3) := by decide +kernel
theorem dX7_offShare_9 : decode cX7_offShare 9 = .ok (.aload_n 0, 1) := by decide +kernel
theorem dX7_offShare_10 : decode cX7_offShare 10 = .ok (.getfield 10, 3) := by decide +kernel
theorem dX7_offShare_13 : decode cX7_offShare 13 = .ok (.aload_n 0, 1) := by decide +kernel
theorem dX7_offShare_14 : decode cX7_offShare 14 = .ok (.getfield 10, 3) := by decide +kernel
theorem dX7_offShare_17 : decode cX7_offShare 17 = .ok (.iload_n 1, 1) := by decide +kernel
theorem dX7_offShare_18 : decode cX7_offShare 18 = .ok (.invokevirtual 60, 3) := by decide +kernel
theorem dX7_offShare_21 : decode cX7_offShare 21 = .ok (.iconst 0, 1) := by decide +kernel
theorem dX7_offShare_22 : decode cX7_offShare 22 = .ok (.invokevirtual 141, 3) := by decide +kernel
theorem dX7_offShare_25 : decode cX7_offShare 25 = .ok (.aload_n 0, 1) := by decide +kernel
theorem dX7_offShare_26 : decode cX7_offShare 26 = .ok (.invokevirtual 252, 3) := by decide +kernel
theorem dX7_offShare_29 : decode cX7_offShare 29 = .ok (.freturn, 1) := by decide +kernel
theorem dX7_meanSpeed_0 : decode cX7_meanSpeed 0 = .ok (.aload_n 0, 1) := by decide +kernel
theorem dX7_meanSpeed_1 : decode cX7_meanSpeed 1 = .ok (.iload_n 1, 1) := by decide +kernel
theorem dX7_meanSpeed_2 : decode cX7_meanSpeed 2 = .ok (.invokevirtual 53, 3) := by decide +kernel
theorem dX7_meanSpeed_5 : decode cX7_meanSpeed 5 = .ok (.aload_n 0, 1) := by decide +kernel
theorem dX7_meanSpeed_6 : decode cX7_meanSpeed 6 = .ok (.getfield 39, 3) := by decide +kernel
theorem dX7_meanSpeed_9 : decode cX7_meanSpeed 9 = .ok (.aload_n 0, 1) := by decide +kernel
theorem dX7_meanSpeed_10 : decode cX7_meanSpeed 10 = .ok (.getfield 10, 3) := by decide +kernel
theorem dX7_meanSpeed_13 : decode cX7_meanSpeed 13 = .ok (.aload_n 0, 1) := by decide +kernel
theorem dX7_meanSpeed_14 : decode cX7_meanSpeed 14 = .ok (.getfield 10, 3) := by decide +kernel
theorem dX7_meanSpeed_17 : decode cX7_meanSpeed 17 = .ok (.iload_n 1, 1) := by decide +kernel
theorem dX7_meanSpeed_18 : decode cX7_meanSpeed 18 = .ok (.invokevirtual 60, 3) := by decide +kernel
theorem dX7_meanSpeed_21 : decode cX7_meanSpeed 21 = .ok (.iconst 0, 1) := by decide +kernel
theorem dX7_meanSpeed_22 : decode cX7_meanSpeed 22 = .ok (.invokevirtual 141, 3) := by decide +kernel
theorem dX7_meanSpeed_25 : decode cX7_meanSpeed 25 = .ok (.aload_n 0, 1) := by decide +kernel
theorem dX7_meanSpeed_26 : decode cX7_meanSpeed 26 = .ok (.invokevirtual 256, 3) := by decide +kernel
theorem dX7_meanSpeed_29 : decode cX7_meanSpeed 29 = .ok (.dreturn, 1) := by decide +kernel
theorem dX7_requireReel_0 : decode cX7_requireReel 0 = .ok (.iload_n 1, 1) := by decide +kernel
theorem dX7_requireReel_1 : decode cX7_requireReel 1 = .ok (.ifCond .lt 8, 3) := by decide +kernel
theorem dX7_requireReel_4 : decode cX7_requireReel 4 = .ok (.iload_n 1, 1) := by decide +kernel
theorem dX7_requireReel_5 : decode cX7_requireReel 5 = .ok (.iconst 3, 1) := by decide +kernel
theorem dX7_requireReel_6 : decode cX7_requireReel 6 = .ok (.if_icmp .lt 14, 3) := by decide +kernel
theorem dX7_requireReel_9 : decode cX7_requireReel 9 = .ok (.new 270, 3) := by decide +kernel
theorem dX7_requireReel_12 : decode cX7_requireReel 12 = .ok (.dup, 1) := by decide +kernel
theorem dX7_requireReel_13 : decode cX7_requireReel 13 = .ok (.ldc_w 272, 3) := by decide +kernel
theorem dX7_requireReel_16 : decode cX7_requireReel 16 = .ok (.invokespecial 274, 3) := by decide +kernel
theorem dX7_requireReel_19 : decode cX7_requireReel 19 = .ok (.athrow, 1) := by decide +kernel
theorem dX7_requireReel_20 : decode cX7_requireReel 20 = .ok (.return_, 1) := by decide +kernel
theorem dX7_requireScene_0 : decode cX7_requireScene 0 = .ok (.aload_n 0, 1) := by decide +kernel
theorem dX7_requireScene_1 : decode cX7_requireScene 1 = .ok (.iload_n 1, 1) := by decide +kernel
theorem dX7_requireScene_2 : decode cX7_requireScene 2 = .ok (.invokevirtual 53, 3) := by decide +kernel
theorem dX7_requireScene_5 : decode cX7_requireScene 5 = .ok (.iload_n 2, 1) := by decide +kernel
theorem dX7_requireScene_6 : decode cX7_requireScene 6 = .ok (.ifCond .lt 18, 3) := by decide +kernel
theorem dX7_requireScene_9 : decode cX7_requireScene 9 = .ok (.iload_n 2, 1) := by decide +kernel
theorem dX7_requireScene_10 : decode cX7_requireScene 10 = .ok (.aload_n 0, 1) := by decide +kernel
theorem dX7_requireScene_11 : decode cX7_requireScene 11 = .ok (.getfield 10, 3) := by decide +kernel
theorem dX7_requireScene_14 : decode cX7_requireScene 14 = .ok (.iload_n 1, 1) := by decide +kernel
theorem dX7_requireScene_15 : decode cX7_requireScene 15 = .ok (.invokevirtual 60, 3) := by decide +kernel
theorem dX7_requireScene_18 : decode cX7_requireScene 18 = .ok (.invokevirtual 64, 3) := by decide +kernel
theorem dX7_requireScene_21 : decode cX7_requireScene 21 = .ok (.if_icmp .lt 14, 3) := by decide +kernel
theorem dX7_requireScene_24 : decode cX7_requireScene 24 = .ok (.new 270, 3) := by decide +kernel
theorem dX7_requireScene_27 : decode cX7_requireScene 27 = .ok (.dup, 1) := by decide +kernel
theorem dX7_requireScene_28 : decode cX7_requireScene 28 = .ok (.ldc_w 275, 3) := by decide +kernel
theorem dX7_requireScene_31 : decode cX7_requireScene 31 = .ok (.invokespecial 274, 3) := by decide +kernel
theorem dX7_requireScene_34 : decode cX7_requireScene 34 = .ok (.athrow, 1) := by decide +kernel
theorem dX7_requireScene_35 : decode cX7_requireScene 35 = .ok (.return_, 1) := by decide +kernel
theorem dX7_requirePiece_0 : decode cX7_requirePiece 0 = .ok (.aload_n 0, 1) := by decide +kernel
theorem dX7_requirePiece_1 : decode cX7_requirePiece 1 = .ok (.getfield 10, 3) := by decide +kernel
theorem dX7_requirePiece_4 : decode cX7_requirePiece 4 = .ok (.iload_n 1, 1) := by decide +kernel
theorem dX7_requirePiece_5 : decode cX7_requirePiece 5 = .ok (.invokevirtual 277, 3) := by decide +kernel
theorem dX7_requirePiece_8 : decode cX7_requirePiece 8 = .ok (.ifCond .ne 14, 3) := by decide +kernel
theorem dX7_requirePiece_11 : decode cX7_requirePiece 11 = .ok (.new 270, 3) := by decide +kernel
theorem dX7_requirePiece_14 : decode cX7_requirePiece 14 = .ok (.dup, 1) := by decide +kernel
theorem dX7_requirePiece_15 : decode cX7_requirePiece 15 = .ok (.ldc_w 280, 3) := by decide +kernel
theorem dX7_requirePiece_18 : decode cX7_requirePiece 18 = .ok (.invokespecial 274, 3) := by decide +kernel
theorem dX7_requirePiece_21 : decode cX7_requirePiece 21 = .ok (.athrow, 1) := by decide +kernel
theorem dX7_requirePiece_22 : decode cX7_requirePiece 22 = .ok (.return_, 1) := by decide +kernel
theorem dX7_requireRange_0 : decode cX7_requireRange 0 = .ok (.iload_n 0, 1) := by decide +kernel
theorem dX7_requireRange_1 : decode cX7_requireRange 1 = .ok (.iload_n 1, 1) := by decide +kernel
theorem dX7_requireRange_2 : decode cX7_requireRange 2 = .ok (.if_icmp .lt 8, 3) := by decide +kernel
theorem dX7_requireRange_5 : decode cX7_requireRange 5 = .ok (.iload_n 0, 1) := by decide +kernel
theorem dX7_requireRange_6 : decode cX7_requireRange 6 = .ok (.iload_n 2, 1) := by decide +kernel
theorem dX7_requireRange_7 : decode cX7_requireRange 7 = .ok (.if_icmp .le 14, 3) := by decide +kernel
theorem dX7_requireRange_10 : decode cX7_requireRange 10 = .ok (.new 179, 3) := by decide +kernel
theorem dX7_requireRange_13 : decode cX7_requireRange 13 = .ok (.dup, 1) := by decide +kernel
theorem dX7_requireRange_14 : decode cX7_requireRange 14 = .ok (.ldc_w 282, 3) := by decide +kernel
theorem dX7_requireRange_17 : decode cX7_requireRange 17 = .ok (.invokespecial 183, 3) := by decide +kernel
theorem dX7_requireRange_20 : decode cX7_requireRange 20 = .ok (.athrow, 1) := by decide +kernel
theorem dX7_requireRange_21 : decode cX7_requireRange 21 = .ok (.return_, 1) := by decide +kernel
theorem dX7_save_0 : decode cX7_save 0 = .ok (.aload_n 0, 1) := by decide +kernel
theorem dX7_save_1 : decode cX7_save 1 = .ok (.getfield 199, 3) := by decide +kernel
theorem dX7_save_4 : decode cX7_save 4 = .ok (.bipush 6, 2) := by decide +kernel
theorem dX7_save_6 : decode cX7_save 6 = .ok (.if_icmp .lt 21, 3) := by decide +kernel
theorem dX7_save_9 : decode cX7_save 9 = .ok (.aload_n 0, 1) := by decide +kernel
theorem dX7_save_10 : decode cX7_save 10 = .ok (.aload_n 0, 1) := by decide +kernel
theorem dX7_save_11 : decode cX7_save 11 = .ok (.getfield 284, 3) := by decide +kernel
theorem dX7_save_14 : decode cX7_save 14 = .ok (.iconst 1, 1) := by decide +kernel
theorem dX7_save_15 : decode cX7_save 15 = .ok (.iadd, 1) := by decide +kernel
theorem dX7_save_16 : decode cX7_save 16 = .ok (.bipush 6, 2) := by decide +kernel
theorem dX7_save_18 : decode cX7_save 18 = .ok (.irem, 1) := by decide +kernel
theorem dX7_save_19 : decode cX7_save 19 = .ok (.putfield 284, 3) := by decide +kernel
theorem dX7_save_22 : decode cX7_save 22 = .ok (.aload_n 0, 1) := by decide +kernel
theorem dX7_save_23 : decode cX7_save 23 = .ok (.iconst 5, 1) := by decide +kernel
theorem dX7_save_24 : decode cX7_save 24 = .ok (.putfield 199, 3) := by decide +kernel
theorem dX7_save_27 : decode cX7_save 27 = .ok (.aload_n 0, 1) := by decide +kernel
theorem dX7_save_28 : decode cX7_save 28 = .ok (.aload_n 0, 1) := by decide +kernel
theorem dX7_save_29 : decode cX7_save 29 = .ok (.getfield 199, 3) := by decide +kernel
theorem dX7_save_32 : decode cX7_save 32 = .ok (.invokevirtual 204, 3) := by decide +kernel
theorem dX7_save_35 : decode cX7_save 35 = .ok (.astore_n 1, 1) := by decide +kernel
theorem dX7_save_36 : decode cX7_save 36 = .ok (.aload_n 1, 1) := by decide +kernel
theorem dX7_save_37 : decode cX7_save 37 = .ok (.ifnull 21, 3) := by decide +kernel
theorem dX7_save_40 : decode cX7_save 40 = .ok (.aload_n 1, 1) := by decide +kernel
theorem dX7_save_41 : decode cX7_save 41 = .ok (.aload_n 0, 1) := by decide +kernel
theorem dX7_save_42 : decode cX7_save 42 = .ok (.getfield 10, 3) := by decide +kernel
theorem dX7_save_45 : decode cX7_save 45 = .ok (.invokevirtual 208, 3) := by decide +kernel
theorem dX7_save_48 : decode cX7_save 48 = .ok (.aload_n 0, 1) := by decide +kernel
theorem dX7_save_49 : decode cX7_save 49 = .ok (.dup, 1) := by decide +kernel
theorem dX7_save_50 : decode cX7_save 50 = .ok (.getfield 199, 3) := by decide +kernel
theorem dX7_save_53 : decode cX7_save 53 = .ok (.iconst 1, 1) := by decide +kernel
theorem dX7_save_54 : decode cX7_save 54 = .ok (.iadd, 1) := by decide +kernel
theorem dX7_save_55 : decode cX7_save 55 = .ok (.putfield 199, 3) := by decide +kernel
theorem dX7_save_58 : decode cX7_save 58 = .ok (.return_, 1) := by decide +kernel
theorem dX7_savedAt_0 : decode cX7_savedAt 0 = .ok (.aload_n 0, 1) := by decide +kernel
theorem dX7_savedAt_1 : decode cX7_savedAt 1 = .ok (.getfield 284, 3) := by decide +kernel
theorem dX7_savedAt_4 : decode cX7_savedAt 4 = .ok (.iload_n 1, 1) := by decide +kernel
theorem dX7_savedAt_5 : decode cX7_savedAt 5 = .ok (.iadd, 1) := by decide +kernel
theorem dX7_savedAt_6 : decode cX7_savedAt 6 = .ok (.bipush 6, 2) := by decide +kernel
theorem dX7_savedAt_8 : decode cX7_savedAt 8 = .ok (.irem, 1) := by decide +kernel
theorem dX7_savedAt_9 : decode cX7_savedAt 9 = .ok (.istore_n 2, 1) := by decide +kernel
theorem dX7_savedAt_10 : decode cX7_savedAt 10 = .ok (.iload_n 2, 1) := by decide +kernel
theorem dX7_savedAt_11 : decode cX7_savedAt 11 = .ok (.ifCond .lt 21, 3) := by decide +kernel
theorem dX7_savedAt_14 : decode cX7_savedAt 14 = .ok (.iload_n 2, 1) := by decide +kernel
theorem dX7_savedAt_15 : decode cX7_savedAt 15 = .ok (.aload_n 0, 1) := by decide +kernel
theorem dX7_savedAt_16 : decode cX7_savedAt 16 = .ok (.getfield 16, 3) := by decide +kernel
theorem dX7_savedAt_19 : decode cX7_savedAt 19 = .ok (.arraylength, 1) := by decide +kernel
theorem dX7_savedAt_20 : decode cX7_savedAt 20 = .ok (.if_icmp .ge 12, 3) := by decide +kernel
theorem dX7_savedAt_23 : decode cX7_savedAt 23 = .ok (.aload_n 0, 1) := by decide +kernel
theorem dX7_savedAt_24 : decode cX7_savedAt 24 = .ok (.getfield 16, 3) := by decide +kernel
theorem dX7_savedAt_27 : decode cX7_savedAt 27 = .ok (.iload_n 2, 1) := by decide +kernel
theorem dX7_savedAt_28 : decode cX7_savedAt 28 = .ok (.aaload, 1) := by decide +kernel
theorem dX7_savedAt_29 : decode cX7_savedAt 29 = .ok (.goto 4, 3) := by decide +kernel
theorem dX7_savedAt_32 : decode cX7_savedAt 32 = .ok (.aconst_null, 1) := by decide +kernel
theorem dX7_savedAt_33 : decode cX7_savedAt 33 = .ok (.areturn, 1) := by decide +kernel
theorem dX7_fitScene_0 : decode cX7_fitScene 0 = .ok (.aload_n 1, 1) := by decide +kernel
theorem dX7_fitScene_1 : decode cX7_fitScene 1 = .ok (.getfield 293, 3) := by decide +kernel
theorem dX7_fitScene_4 : decode cX7_fitScene 4 = .ok (.iload_n 2, 1) := by decide +kernel
theorem dX7_fitScene_5 : decode cX7_fitScene 5 = .ok (.invokevirtual 148, 3) := by decide +kernel
theorem dX7_fitScene_8 : decode cX7_fitScene 8 = .ok (.istore_n 3, 1) := by decide +kernel
theorem dX7_fitScene_9 : decode cX7_fitScene 9 = .ok (.aload_n 0, 1) := by decide +kernel
theorem dX7_fitScene_10 : decode cX7_fitScene 10 = .ok (.getfield 39, 3) := by decide +kernel
theorem dX7_fitScene_13 : decode cX7_fitScene 13 = .ok (.aload_n 0, 1) := by decide +kernel
theorem dX7_fitScene_14 : decode cX7_fitScene 14 = .ok (.getfield 10, 3) := by decide +kernel
theorem dX7_fitScene_17 : decode cX7_fitScene 17 = .ok (.aload_n 1, 1) := by decide +kernel
theorem dX7_fitScene_18 : decode cX7_fitScene 18 = .ok (.iconst 0, 1) := by decide +kernel
theorem dX7_fitScene_19 : decode cX7_fitScene 19 = .ok (.invokevirtual 141, 3) := by decide +kernel
theorem dX7_fitScene_22 : decode cX7_fitScene 22 = .ok (.aload_n 0, 1) := by decide +kernel
theorem dX7_fitScene_23 : decode cX7_fitScene 23 = .ok (.getfield 49, 3) := by decide +kernel
theorem dX7_fitScene_26 : decode cX7_fitScene 26 = .ok (.aload_n 0, 1) := by decide +kernel
theorem dX7_fitScene_27 : decode cX7_fitScene 27 = .ok (.getfield 10, 3) := by decide +kernel
theorem dX7_fitScene_30 : decode cX7_fitScene 30 = .ok (.iload_n 3, 1) := by decide +kernel
theorem dX7_fitScene_31 : decode cX7_fitScene 31 = .ok (.aload_n 0, 1) := by decide +kernel
theorem dX7_fitScene_32 : decode cX7_fitScene 32 = .ok (.getfield 39, 3) := by decide +kernel
theorem dX7_fitScene_35 : decode cX7_fitScene 35 = .ok (.iload_n 2, 1) := by decide +kernel
theorem dX7_fitScene_36 : decode cX7_fitScene 36 = .ok (.invokevirtual 230, 3) := by decide +kernel
theorem dX7_fitScene_39 : decode cX7_fitScene 39 = .ok (.invokevirtual 233, 3) := by decide +kernel
theorem dX7_fitScene_42 : decode cX7_fitScene 42 = .ok (.aload_n 1, 1) := by decide +kernel
theorem dX7_fitScene_43 : decode cX7_fitScene 43 = .ok (.getfield 294, 3) := by decide +kernel
theorem dX7_fitScene_46 : decode cX7_fitScene 46 = .ok (.iload_n 2, 1) := by decide +kernel
theorem dX7_fitScene_47 : decode cX7_fitScene 47 = .ok (.invokevirtual 148, 3) := by decide +kernel
theorem dX7_fitScene_50 : decode cX7_fitScene 50 = .ok (.aload_n 0, 1) := by decide +kernel
theorem dX7_fitScene_51 : decode cX7_fitScene 51 = .ok (.getfield 49, 3) := by decide +kernel
theorem dX7_fitScene_54 : decode cX7_fitScene 54 = .ok (.getfield 237, 3) := by decide +kernel
theorem dX7_fitScene_57 : decode cX7_fitScene 57 = .ok (.if_icmp .ne 21, 3) := by decide +kernel
theorem dX7_fitScene_60 : decode cX7_fitScene 60 = .ok (.aload_n 1, 1) := by decide +kernel
theorem dX7_fitScene_61 : decode cX7_fitScene 61 = .ok (.getfield 295, 3) := by decide +kernel
theorem dX7_fitScene_64 : decode cX7_fitScene 64 = .ok (.iload_n 2, 1) := by decide +kernel
theorem dX7_fitScene_65 : decode cX7_fitScene 65 = .ok (.invokevirtual 148, 3) := by decide +kernel
theorem dX7_fitScene_68 : decode cX7_fitScene 68 = .ok (.aload_n 0, 1) := by decide +kernel
theorem dX7_fitScene_69 : decode cX7_fitScene 69 = .ok (.getfield 49, 3) := by decide +kernel
theorem dX7_fitScene_72 : decode cX7_fitScene 72 = .ok (.getfield 239, 3) := by decide +kernel
theorem dX7_fitScene_75 : decode cX7_fitScene 75 = .ok (.if_icmp .eq 7, 3) := by decide +kernel
theorem dX7_fitScene_78 : decode cX7_fitScene 78 = .ok (.iconst 1, 1) := by decide +kernel
theorem dX7_fitScene_79 : decode cX7_fitScene 79 = .ok (.goto 4, 3) := by decide +kernel
theorem dX7_fitScene_82 : decode cX7_fitScene 82 = .ok (.iconst 0, 1) := by decide +kernel
theorem dX7_fitScene_83 : decode cX7_fitScene 83 = .ok (.istore 4, 2) := by decide +kernel
theorem dX7_fitScene_85 : decode cX7_fitScene 85 = .ok (.aload_n 1, 1) := by decide +kernel
theorem dX7_fitScene_86 : decode cX7_fitScene 86 = .ok (.iload_n 2, 1) := by decide +kernel
theorem dX7_fitScene_87 : decode cX7_fitScene 87 = .ok (.iload_n 3, 1) := by decide +kernel
theorem dX7_fitScene_88 : decode cX7_fitScene 88 = .ok (.aload_n 0, 1) := by decide +kernel
theorem dX7_fitScene_89 : decode cX7_fitScene 89 = .ok (.getfield 49, 3) := by decide +kernel
theorem dX7_fitScene_92 : decode cX7_fitScene 92 = .ok (.getfield 237, 3) := by decide +kernel
theorem dX7_fitScene_95 : decode cX7_fitScene 95 = .ok (.aload_n 0, 1) := by decide +kernel
theorem dX7_fitScene_96 : decode cX7_fitScene 96 = .ok (.getfield 49, 3) := by decide +kernel
theorem dX7_fitScene_99 : decode cX7_fitScene 99 = .ok (.getfield 239, 3) := by decide +kernel
theorem dX7_fitScene_102 : decode cX7_fitScene 102 = .ok (.invokevirtual 138, 3) := by decide +kernel
theorem dX7_fitScene_105 : decode cX7_fitScene 105 = .ok (.iload 4, 2) := by decide +kernel
theorem dX7_fitScene_107 : decode cX7_fitScene 107 = .ok (.ireturn, 1) := by decide +kernel
theorem dX7_pieceForRoom_0 : decode cX7_pieceForRoom 0 = .ok (.ldc 80, 2) := by decide +kernel
theorem dX7_pieceForRoom_2 : decode cX7_pieceForRoom 2 = .ok (.istore_n 2, 1) := by decide +kernel
theorem dX7_pieceForRoom_3 : decode cX7_pieceForRoom 3 = .ok (.iconst 0, 1) := by decide +kernel
theorem dX7_pieceForRoom_4 : decode cX7_pieceForRoom 4 = .ok (.istore_n 3, 1) := by decide +kernel
theorem dX7_pieceForRoom_5 : decode cX7_pieceForRoom 5 = .ok (.iconst 0, 1) := by decide +kernel
theorem dX7_pieceForRoom_6 : decode cX7_pieceForRoom 6 = .ok (.istore 4, 2) := by decide +kernel
theorem dX7_pieceForRoom_8 : decode cX7_pieceForRoom 8 = .ok (.iload 4, 2) := by decide +kernel
theorem dX7_pieceForRoom_10 : decode cX7_pieceForRoom 10 = .ok (.aload_n 0, 1) := by decide +kernel
theorem dX7_pieceForRoom_11 : decode cX7_pieceForRoom 11 = .ok (.getfield 10, 3) := by decide +kernel
theorem dX7_pieceForRoom_14 : decode cX7_pieceForRoom 14 = .ok (.invokevirtual 118, 3) := by decide +kernel
theorem dX7_pieceForRoom_17 : decode cX7_pieceForRoom 17 = .ok (.if_icmp .ge 51, 3) := by decide +kernel
theorem dX7_pieceForRoom_20 : decode cX7_pieceForRoom 20 = .ok (.aload_n 0, 1) := by decide +kernel
theorem dX7_pieceForRoom_21 : decode cX7_pieceForRoom 21 = .ok (.getfield 49, 3) := by decide +kernel
theorem dX7_pieceForRoom_24 : decode cX7_pieceForRoom 24 = .ok (.aload_n 0, 1) := by decide +kernel
theorem dX7_pieceForRoom_25 : decode cX7_pieceForRoom 25 = .ok (.getfield 10, 3) := by decide +kernel
theorem dX7_pieceForRoom_28 : decode cX7_pieceForRoom 28 = .ok (.iload 4, 2) := by decide +kernel
theorem dX7_pieceForRoom_30 : decode cX7_pieceForRoom 30 = .ok (.iload_n 1, 1) := by decide +kernel
theorem dX7_pieceForRoom_31 : decode cX7_pieceForRoom 31 = .ok (.invokevirtual 233, 3) := by decide +kernel
theorem dX7_pieceForRoom_34 : decode cX7_pieceForRoom 34 = .ok (.iload_n 2, 1) := by decide +kernel
theorem dX7_pieceForRoom_35 : decode cX7_pieceForRoom 35 = .ok (.ldc 80, 2) := by decide +kernel
theorem dX7_pieceForRoom_37 : decode cX7_pieceForRoom 37 = .ok (.if_icmp .eq 14, 3) := by decide +kernel
theorem dX7_pieceForRoom_40 : decode cX7_pieceForRoom 40 = .ok (.aload_n 0, 1) := by decide +kernel
theorem dX7_pieceForRoom_41 : decode cX7_pieceForRoom 41 = .ok (.getfield 49, 3) := by decide +kernel
theorem dX7_pieceForRoom_44 : decode cX7_pieceForRoom 44 = .ok (.getfield 296, 3) := by decide +kernel
theorem dX7_pieceForRoom_47 : decode cX7_pieceForRoom 47 = .ok (.iload_n 3, 1) := by decide +kernel
theorem dX7_pieceForRoom_48 : decode cX7_pieceForRoom 48 = .ok (.if_icmp .ge 14, 3) := by decide +kernel
theorem dX7_pieceForRoom_51 : decode cX7_pieceForRoom 51 = .ok (.iload 4, 2) := by decide +kernel
theorem dX7_pieceForRoom_53 : decode cX7_pieceForRoom 53 = .ok (.istore_n 2, 1) := by decide +kernel
theorem dX7_pieceForRoom_54 : decode cX7_pieceForRoom 54 = .ok (.aload_n 0, 1) := by decide +kernel
theorem dX7_pieceForRoom_55 : decode cX7_pieceForRoom 55 = .ok (.getfield 49, 3) := by decide +kernel
theorem dX7_pieceForRoom_58 : decode cX7_pieceForRoom 58 = .ok (.getfield 296, 3) := by decide +kernel
theorem dX7_pieceForRoom_61 : decode cX7_pieceForRoom 61 = .ok (.istore_n 3, 1) := by decide +kernel
theorem dX7_pieceForRoom_62 : decode cX7_pieceForRoom 62 = .ok (.iinc 4 1, 3) := by decide +kernel
theorem dX7_pieceForRoom_65 : decode cX7_pieceForRoom 65 = .ok (.goto (-57), 3) := by decide +kernel
theorem dX7_pieceForRoom_68 : decode cX7_pieceForRoom 68 = .ok (.iload_n 2, 1) := by decide +kernel
theorem dX7_pieceForRoom_69 : decode cX7_pieceForRoom 69 = .ok (.ireturn, 1) := by decide +kernel
theorem dX7_speedForReel_0 : decode cX7_speedForReel 0 = .ok (.bipush 10, 2) := by decide +kernel
theorem dX7_speedForReel_2 : decode cX7_speedForReel 2 = .ok (.istore_n 2, 1) := by decide +kernel
theorem dX7_speedForReel_3 : decode cX7_speedForReel 3 = .ok (.iconst 0, 1) := by decide +kernel
theorem dX7_speedForReel_4 : decode cX7_speedForReel 4 = .ok (.istore_n 3, 1) := by decide +kernel
theorem dX7_speedForReel_5 : decode cX7_speedForReel 5 = .ok (.bipush 10, 2) := by decide +kernel
theorem dX7_speedForReel_7 : decode cX7_speedForReel 7 = .ok (.istore 4, 2) := by decide +kernel
theorem dX7_speedForReel_9 : decode cX7_speedForReel 9 = .ok (.iload 4, 2) := by decide +kernel
theorem dX7_speedForReel_11 : decode cX7_speedForReel 11 = .ok (.bipush 30, 2) := by decide +kernel
theorem dX7_speedForReel_13 : decode cX7_speedForReel 13 = .ok (.if_icmp .gt 52, 3) := by decide +kernel
theorem dX7_speedForReel_16 : decode cX7_speedForReel 16 = .ok (.aload_n 0, 1) := by decide +kernel
theorem dX7_speedForReel_17 : decode cX7_speedForReel 17 = .ok (.getfield 43, 3) := by decide +kernel
theorem dX7_speedForReel_20 : decode cX7_speedForReel 20 = .ok (.aload_n 0, 1) := by decide +kernel
theorem dX7_speedForReel_21 : decode cX7_speedForReel 21 = .ok (.getfield 10, 3) := by decide +kernel
theorem dX7_speedForReel_24 : decode cX7_speedForReel 24 = .ok (.aload_n 1, 1) := by decide +kernel
theorem dX7_speedForReel_25 : decode cX7_speedForReel 25 = .ok (.iload 4, 2) := by decide +kernel
theorem dX7_speedForReel_27 : decode cX7_speedForReel 27 = .ok (.invokevirtual 141, 3) := by decide +kernel
theorem dX7_speedForReel_30 : decode cX7_speedForReel 30 = .ok (.iload 4, 2) := by decide +kernel
theorem dX7_speedForReel_32 : decode cX7_speedForReel 32 = .ok (.bipush 10, 2) := by decide +kernel
theorem dX7_speedForReel_34 : decode cX7_speedForReel 34 = .ok (.if_icmp .eq 14, 3) := by decide +kernel
theorem dX7_speedForReel_37 : decode cX7_speedForReel 37 = .ok (.aload_n 0, 1) := by decide +kernel
theorem dX7_speedForReel_38 : decode cX7_speedForReel 38 = .ok (.getfield 43, 3) := by decide +kernel
theorem dX7_speedForReel_41 : decode cX7_speedForReel 41 = .ok (.getfield 298, 3) := by decide +kernel
theorem dX7_speedForReel_44 : decode cX7_speedForReel 44 = .ok (.iload_n 3, 1) := by decide +kernel
theorem dX7_speedForReel_45 : decode cX7_speedForReel 45 = .ok (.if_icmp .ge 14, 3) := by decide +kernel
theorem dX7_speedForReel_48 : decode cX7_speedForReel 48 = .ok (.iload 4, 2) := by decide +kernel
theorem dX7_speedForReel_50 : decode cX7_speedForReel 50 = .ok (.istore_n 2, 1) := by decide +kernel
theorem dX7_speedForReel_51 : decode cX7_speedForReel 51 = .ok (.aload_n 0, 1) := by decide +kernel
theorem dX7_speedForReel_52 : decode cX7_speedForReel 52 = .ok (.getfield 43, 3) := by decide +kernel
theorem dX7_speedForReel_55 : decode cX7_speedForReel 55 = .ok (.getfield 298, 3) := by decide +kernel
theorem dX7_speedForReel_58 : decode cX7_speedForReel 58 = .ok (.istore_n 3, 1) := by decide +kernel
theorem dX7_speedForReel_59 : decode cX7_speedForReel 59 = .ok (.iinc 4 1, 3) := by decide +kernel
theorem dX7_speedForReel_62 : decode cX7_speedForReel 62 = .ok (.goto (-53), 3) := by decide +kernel
theorem dX7_speedForReel_65 : decode cX7_speedForReel 65 = .ok (.iload_n 2, 1) := by decide +kernel
theorem dX7_speedForReel_66 : decode cX7_speedForReel 66 = .ok (.ireturn, 1) := by decide +kernel
theorem dX7_sceneProperty_0 : decode cX7_sceneProperty 0 = .ok (.iload_n 3, 1) := by decide +kernel
theorem dX7_sceneProperty_1 : decode cX7_sceneProperty 1 = .ok (.tableswitch 191 0 10 #[59, 68, 80, 92, 104, 116, 125, 134, 143, 167, 179], 59) := by decide +kernel
theorem dX7_sceneProperty_60 : decode cX7_sceneProperty 60 = .ok (.aload_n 1, 1) := by decide +kernel
theorem dX7_sceneProperty_61 : decode cX7_sceneProperty 61 = .ok (.getfield 301, 3) := by decide +kernel
theorem dX7_sceneProperty_64 : decode cX7_sceneProperty 64 = .ok (.iload_n 2, 1) := by decide +kernel
theorem dX7_sceneProperty_65 : decode cX7_sceneProperty 65 = .ok (.invokevirtual 148, 3) := by decide +kernel
theorem dX7_sceneProperty_68 : decode cX7_sceneProperty 68 = .ok (.ireturn, 1) := by decide +kernel
theorem dX7_sceneProperty_69 : decode cX7_sceneProperty 69 = .ok (.aload_n 0, 1) := by decide +kernel
theorem dX7_sceneProperty_70 : decode cX7_sceneProperty 70 = .ok (.getfield 39, 3) := by decide +kernel
theorem dX7_sceneProperty_73 : decode cX7_sceneProperty 73 = .ok (.getfield 302, 3) := by decide +kernel
theorem dX7_sceneProperty_76 : decode cX7_sceneProperty 76 = .ok (.iload_n 2, 1) := by decide +kernel
theorem dX7_sceneProperty_77 : decode cX7_sceneProperty 77 = .ok (.invokevirtual 148, 3) := by decide +kernel
theorem dX7_sceneProperty_80 : decode cX7_sceneProperty 80 = .ok (.ireturn, 1) := by decide +kernel
theorem dX7_sceneProperty_81 : decode cX7_sceneProperty 81 = .ok (.aload_n 0, 1) := by decide +kernel
theorem dX7_sceneProperty_82 : decode cX7_sceneProperty 82 = .ok (.getfield 39, 3) := by decide +kernel
theorem dX7_sceneProperty_85 : decode cX7_sceneProperty 85 = .ok (.getfield 305, 3) := by decide +kernel
theorem dX7_sceneProperty_88 : decode cX7_sceneProperty 88 = .ok (.iload_n 2, 1) := by decide +kernel
theorem dX7_sceneProperty_89 : decode cX7_sceneProperty 89 = .ok (.invokevirtual 148, 3) := by decide +kernel
theorem dX7_sceneProperty_92 : decode cX7_sceneProperty 92 = .ok (.ireturn, 1) := by decide +kernel
theorem dX7_sceneProperty_93 : decode cX7_sceneProperty 93 = .ok (.aload_n 0, 1) := by decide +kernel
theorem dX7_sceneProperty_94 : decode cX7_sceneProperty 94 = .ok (.getfield 39, 3) := by decide +kernel
theorem dX7_sceneProperty_97 : decode cX7_sceneProperty 97 = .ok (.getfield 308, 3) := by decide +kernel
theorem dX7_sceneProperty_100 : decode cX7_sceneProperty 100 = .ok (.iload_n 2, 1) := by decide +kernel
theorem dX7_sceneProperty_101 : decode cX7_sceneProperty 101 = .ok (.invokevirtual 148, 3) := by decide +kernel
theorem dX7_sceneProperty_104 : decode cX7_sceneProperty 104 = .ok (.ireturn, 1) := by decide +kernel
theorem dX7_sceneProperty_105 : decode cX7_sceneProperty 105 = .ok (.aload_n 0, 1) := by decide +kernel
theorem dX7_sceneProperty_106 : decode cX7_sceneProperty 106 = .ok (.getfield 39, 3) := by decide +kernel
theorem dX7_sceneProperty_109 : decode cX7_sceneProperty 109 = .ok (.getfield 311, 3) := by decide +kernel
theorem dX7_sceneProperty_112 : decode cX7_sceneProperty 112 = .ok (.iload_n 2, 1) := by decide +kernel
theorem dX7_sceneProperty_113 : decode cX7_sceneProperty 113 = .ok (.invokevirtual 148, 3) := by decide +kernel
theorem dX7_sceneProperty_116 : decode cX7_sceneProperty 116 = .ok (.ireturn, 1) := by decide +kernel
theorem dX7_sceneProperty_117 : decode cX7_sceneProperty 117 = .ok (.aload_n 1, 1) := by decide +kernel
theorem dX7_sceneProperty_118 : decode cX7_sceneProperty 118 = .ok (.getfield 293, 3) := by decide +kernel
theorem dX7_sceneProperty_121 : decode cX7_sceneProperty 121 = .ok (.iload_n 2, 1) := by decide +kernel
theorem dX7_sceneProperty_122 : decode cX7_sceneProperty 122 = .ok (.invokevirtual 148, 3) := by decide +kernel
theorem dX7_sceneProperty_125 : decode cX7_sceneProperty 125 = .ok (.ireturn, 1) := by decide +kernel
theorem dX7_sceneProperty_126 : decode cX7_sceneProperty 126 = .ok (.aload_n 1, 1) := by decide +kernel
theorem dX7_sceneProperty_127 : decode cX7_sceneProperty 127 = .ok (.getfield 294, 3) := by decide +kernel
theorem dX7_sceneProperty_130 : decode cX7_sceneProperty 130 = .ok (.iload_n 2, 1) := by decide +kernel
theorem dX7_sceneProperty_131 : decode cX7_sceneProperty 131 = .ok (.invokevirtual 148, 3) := by decide +kernel
theorem dX7_sceneProperty_134 : decode cX7_sceneProperty 134 = .ok (.ireturn, 1) := by decide +kernel
theorem dX7_sceneProperty_135 : decode cX7_sceneProperty 135 = .ok (.aload_n 1, 1) := by decide +kernel
theorem dX7_sceneProperty_136 : decode cX7_sceneProperty 136 = .ok (.getfield 295, 3) := by decide +kernel
theorem dX7_sceneProperty_139 : decode cX7_sceneProperty 139 = .ok (.iload_n 2, 1) := by decide +kernel
theorem dX7_sceneProperty_140 : decode cX7_sceneProperty 140 = .ok (.invokevirtual 148, 3) := by decide +kernel
theorem dX7_sceneProperty_143 : decode cX7_sceneProperty 143 = .ok (.ireturn, 1) := by decide +kernel
theorem dX7_sceneProperty_144 : decode cX7_sceneProperty 144 = .ok (.aload_n 1, 1) := by decide +kernel
theorem dX7_sceneProperty_145 : decode cX7_sceneProperty 145 = .ok (.iload_n 2, 1) := by decide +kernel
theorem dX7_sceneProperty_146 : decode cX7_sceneProperty 146 = .ok (.invokevirtual 152, 3) := by decide +kernel
theorem dX7_sceneProperty_149 : decode cX7_sceneProperty 149 = .ok (.ifCond .eq 17, 3) := by decide +kernel
theorem dX7_sceneProperty_152 : decode cX7_sceneProperty 152 = .ok (.aload_n 0, 1) := by decide +kernel
theorem dX7_sceneProperty_153 : decode cX7_sceneProperty 153 = .ok (.getfield 39, 3) := by decide +kernel
theorem dX7_sceneProperty_156 : decode cX7_sceneProperty 156 = .ok (.getfield 314, 3) := by decide +kernel
theorem dX7_sceneProperty_159 : decode cX7_sceneProperty 159 = .ok (.iload_n 2, 1) := by decide +kernel
theorem dX7_sceneProperty_160 : decode cX7_sceneProperty 160 = .ok (.invokevirtual 148, 3) := by decide +kernel
theorem dX7_sceneProperty_163 : decode cX7_sceneProperty 163 = .ok (.goto 4, 3) := by decide +kernel
theorem dX7_sceneProperty_166 : decode cX7_sceneProperty 166 = .ok (.iconst 0, 1) := by decide +kernel
theorem dX7_sceneProperty_167 : decode cX7_sceneProperty 167 = .ok (.ireturn, 1) := by decide +kernel
theorem dX7_sceneProperty_168 : decode cX7_sceneProperty 168 = .ok (.aload_n 0, 1) := by decide +kernel
theorem dX7_sceneProperty_169 : decode cX7_sceneProperty 169 = .ok (.getfield 39, 3) := by decide +kernel
theorem dX7_sceneProperty_172 : decode cX7_sceneProperty 172 = .ok (.getfield 317, 3) := by decide +kernel
theorem dX7_sceneProperty_175 : decode cX7_sceneProperty 175 = .ok (.iload_n 2, 1) := by decide +kernel
theorem dX7_sceneProperty_176 : decode cX7_sceneProperty 176 = .ok (.invokevirtual 148, 3) := by decide +kernel
theorem dX7_sceneProperty_179 : decode cX7_sceneProperty 179 = .ok (.ireturn, 1) := by decide +kernel
theorem dX7_sceneProperty_180 : decode cX7_sceneProperty 180 = .ok (.aload_n 0, 1) := by decide +kernel
theorem dX7_sceneProperty_181 : decode cX7_sceneProperty 181 = .ok (.getfield 39, 3) := by decide +kernel
theorem dX7_sceneProperty_184 : decode cX7_sceneProperty 184 = .ok (.getfield 145, 3) := by decide +kernel
theorem dX7_sceneProperty_187 : decode cX7_sceneProperty 187 = .ok (.iload_n 2, 1) := by decide +kernel
theorem dX7_sceneProperty_188 : decode cX7_sceneProperty 188 = .ok (.invokevirtual 148, 3) := by decide +kernel
theorem dX7_sceneProperty_191 : decode cX7_sceneProperty 191 = .ok (.ireturn, 1) := by decide +kernel
theorem dX7_sceneProperty_192 : decode cX7_sceneProperty 192 = .ok (.aload_n 0, 1) := by decide +kernel
theorem dX7_sceneProperty_193 : decode cX7_sceneProperty 193 = .ok (.getfield 10, 3) := by decide +kernel
theorem dX7_sceneProperty_196 : decode cX7_sceneProperty 196 = .ok (.aload_n 0, 1) := by decide +kernel
theorem dX7_sceneProperty_197 : decode cX7_sceneProperty 197 = .ok (.getfield 39, 3) := by decide +kernel
theorem dX7_sceneProperty_200 : decode cX7_sceneProperty 200 = .ok (.getfield 145, 3) := by decide +kernel
theorem dX7_sceneProperty_203 : decode cX7_sceneProperty 203 = .ok (.iload_n 2, 1) := by decide +kernel
theorem dX7_sceneProperty_204 : decode cX7_sceneProperty 204 = .ok (.invokevirtual 148, 3) := by decide +kernel
theorem dX7_sceneProperty_207 : decode cX7_sceneProperty 207 = .ok (.invokevirtual 320, 3) := by decide +kernel
theorem dX7_sceneProperty_210 : decode cX7_sceneProperty 210 = .ok (.ifCond .eq 7, 3) := by decide +kernel
theorem dX7_sceneProperty_213 : decode cX7_sceneProperty 213 = .ok (.iconst 1, 1) := by decide +kernel
theorem dX7_sceneProperty_214 : decode cX7_sceneProperty 214 = .ok (.goto 4, 3) := by decide +kernel
theorem dX7_sceneProperty_217 : decode cX7_sceneProperty 217 = .ok (.iconst 0, 1) := by decide +kernel
theorem dX7_sceneProperty_218 : decode cX7_sceneProperty 218 = .ok (.ireturn, 1) := by decide +kernel
theorem dX7_reelProperty_0 : decode cX7_reelProperty 0 = .ok (.iload_n 2, 1) := by decide +kernel
theorem dX7_reelProperty_1 : decode cX7_reelProperty 1 = .ok (.tableswitch 133 0 9 #[55, 60, 68, 76, 84, 92, 100, 108, 116, 124], 55) := by decide +kernel
theorem dX7_reelProperty_56 : decode cX7_reelProperty 56 = .ok (.aload_n 1, 1) := by decide +kernel
theorem dX7_reelProperty_57 : decode cX7_reelProperty 57 = .ok (.invokevirtual 64, 3) := by decide +kernel
theorem dX7_reelProperty_60 : decode cX7_reelProperty 60 = .ok (.ireturn, 1) := by decide +kernel
theorem dX7_reelProperty_61 : decode cX7_reelProperty 61 = .ok (.aload_n 0, 1) := by decide +kernel
theorem dX7_reelProperty_62 : decode cX7_reelProperty 62 = .ok (.getfield 39, 3) := by decide +kernel
theorem dX7_reelProperty_65 : decode cX7_reelProperty 65 = .ok (.getfield 323, 3) := by decide +kernel
theorem dX7_reelProperty_68 : decode cX7_reelProperty 68 = .ok (.ireturn, 1) := by decide +kernel
theorem dX7_reelProperty_69 : decode cX7_reelProperty 69 = .ok (.aload_n 0, 1) := by decide +kernel
theorem dX7_reelProperty_70 : decode cX7_reelProperty 70 = .ok (.getfield 39, 3) := by decide +kernel
theorem dX7_reelProperty_73 : decode cX7_reelProperty 73 = .ok (.getfield 326, 3) := by decide +kernel
theorem dX7_reelProperty_76 : decode cX7_reelProperty 76 = .ok (.ireturn, 1) := by decide +kernel
theorem dX7_reelProperty_77 : decode cX7_reelProperty 77 = .ok (.aload_n 0, 1) := by decide +kernel
theorem dX7_reelProperty_78 : decode cX7_reelProperty 78 = .ok (.getfield 39, 3) := by decide +kernel
theorem dX7_reelProperty_81 : decode cX7_reelProperty 81 = .ok (.getfield 329, 3) := by decide +kernel
theorem dX7_reelProperty_84 : decode cX7_reelProperty 84 = .ok (.ireturn, 1) := by decide +kernel
theorem dX7_reelProperty_85 : decode cX7_reelProperty 85 = .ok (.aload_n 1, 1) := by decide +kernel
theorem dX7_reelProperty_86 : decode cX7_reelProperty 86 = .ok (.getfield 92, 3) := by decide +kernel
theorem dX7_reelProperty_89 : decode cX7_reelProperty 89 = .ok (.invokevirtual 107, 3) := by decide +kernel
theorem dX7_reelProperty_92 : decode cX7_reelProperty 92 = .ok (.ireturn, 1) := by decide +kernel
theorem dX7_reelProperty_93 : decode cX7_reelProperty 93 = .ok (.aload_n 1, 1) := by decide +kernel
theorem dX7_reelProperty_94 : decode cX7_reelProperty 94 = .ok (.getfield 110, 3) := by decide +kernel
theorem dX7_reelProperty_97 : decode cX7_reelProperty 97 = .ok (.invokevirtual 107, 3) := by decide +kernel
theorem dX7_reelProperty_100 : decode cX7_reelProperty 100 = .ok (.ireturn, 1) := by decide +kernel
theorem dX7_reelProperty_101 : decode cX7_reelProperty 101 = .ok (.aload_n 0, 1) := by decide +kernel
theorem dX7_reelProperty_102 : decode cX7_reelProperty 102 = .ok (.getfield 39, 3) := by decide +kernel
theorem dX7_reelProperty_105 : decode cX7_reelProperty 105 = .ok (.getfield 332, 3) := by decide +kernel
theorem dX7_reelProperty_108 : decode cX7_reelProperty 108 = .ok (.ireturn, 1) := by decide +kernel
theorem dX7_reelProperty_109 : decode cX7_reelProperty 109 = .ok (.aload_n 0, 1) := by decide +kernel
theorem dX7_reelProperty_110 : decode cX7_reelProperty 110 = .ok (.getfield 39, 3) := by decide +kernel
theorem dX7_reelProperty_113 : decode cX7_reelProperty 113 = .ok (.getfield 245, 3) := by decide +kernel
theorem dX7_reelProperty_116 : decode cX7_reelProperty 116 = .ok (.ireturn, 1) := by decide +kernel
theorem dX7_reelProperty_117 : decode cX7_reelProperty 117 = .ok (.aload_n 0, 1) := by decide +kernel
theorem dX7_reelProperty_118 : decode cX7_reelProperty 118 = .ok (.getfield 39, 3) := by decide +kernel
theorem dX7_reelProperty_121 : decode cX7_reelProperty 121 = .ok (.getfield 298, 3) := by decide +kernel
theorem dX7_reelProperty_124 : decode cX7_reelProperty 124 = .ok (.ireturn, 1) := by decide +kernel
theorem dX7_reelProperty_125 : decode cX7_reelProperty 125 = .ok (.aload_n 0, 1) := by decide +kernel
theorem dX7_reelProperty_126 : decode cX7_reelProperty 126 = .ok (.getfield 39, 3) := by decide +kernel
theorem dX7_reelProperty_129 : decode cX7_reelProperty 129 = .ok (.aload_n 1, 1) := by decide +kernel
theorem dX7_reelProperty_130 : decode cX7_reelProperty 130 = .ok (.invokevirtual 335, 3) := by decide +kernel
theorem dX7_reelProperty_133 : decode cX7_reelProperty 133 = .ok (.ireturn, 1) := by decide +kernel
theorem dX7_reelProperty_134 : decode cX7_reelProperty 134 = .ok (.aload_n 0, 1) := by decide +kernel
theorem dX7_reelProperty_135 : decode cX7_reelProperty 135 = .ok (.getfield 39, 3) := by decide +kernel
theorem dX7_reelProperty_138 : decode cX7_reelProperty 138 = .ok (.getfield 338, 3) := by decide +kernel
theorem dX7_reelProperty_141 : decode cX7_reelProperty 141 = .ok (.ireturn, 1) := by decide +kernel
theorem dX7_pieceProperty_0 : decode cX7_pieceProperty 0 = .ok (.iload_n 2, 1) := by decide +kernel
theorem dX7_pieceProperty_1 : decode cX7_pieceProperty 1 = .ok (.tableswitch 63 0 2 #[27, 39, 51], 27) := by decide +kernel
theorem dX7_pieceProperty_28 : decode cX7_pieceProperty 28 = .ok (.aload_n 0, 1) := by decide +kernel
theorem dX7_pieceProperty_29 : decode cX7_pieceProperty 29 = .ok (.getfield 10, 3) := by decide +kernel
theorem dX7_pieceProperty_32 : decode cX7_pieceProperty 32 = .ok (.getfield 123, 3) := by decide +kernel
theorem dX7_pieceProperty_35 : decode cX7_pieceProperty 35 = .ok (.iload_n 1, 1) := by decide +kernel
theorem dX7_pieceProperty_36 : decode cX7_pieceProperty 36 = .ok (.invokevirtual 148, 3) := by decide +kernel
theorem dX7_pieceProperty_39 : decode cX7_pieceProperty 39 = .ok (.ireturn, 1) := by decide +kernel
theorem dX7_pieceProperty_40 : decode cX7_pieceProperty 40 = .ok (.aload_n 0, 1) := by decide +kernel
theorem dX7_pieceProperty_41 : decode cX7_pieceProperty 41 = .ok (.getfield 10, 3) := by decide +kernel
theorem dX7_pieceProperty_44 : decode cX7_pieceProperty 44 = .ok (.getfield 129, 3) := by decide +kernel
theorem dX7_pieceProperty_47 : decode cX7_pieceProperty 47 = .ok (.iload_n 1, 1) := by decide +kernel
theorem dX7_pieceProperty_48 : decode cX7_pieceProperty 48 = .ok (.invokevirtual 148, 3) := by decide +kernel
theorem dX7_pieceProperty_51 : decode cX7_pieceProperty 51 = .ok (.ireturn, 1) := by decide +kernel
theorem dX7_pieceProperty_52 : decode cX7_pieceProperty 52 = .ok (.aload_n 0, 1) := by decide +kernel
theorem dX7_pieceProperty_53 : decode cX7_pieceProperty 53 = .ok (.getfield 10, 3) := by decide +kernel
theorem dX7_pieceProperty_56 : decode cX7_pieceProperty 56 = .ok (.getfield 132, 3) := by decide +kernel
theorem dX7_pieceProperty_59 : decode cX7_pieceProperty 59 = .ok (.iload_n 1, 1) := by decide +kernel
theorem dX7_pieceProperty_60 : decode cX7_pieceProperty 60 = .ok (.invokevirtual 148, 3) := by decide +kernel
theorem dX7_pieceProperty_63 : decode cX7_pieceProperty 63 = .ok (.ireturn, 1) := by decide +kernel
theorem dX7_pieceProperty_64 : decode cX7_pieceProperty 64 = .ok (.aload_n 0, 1) := by decide +kernel
theorem dX7_pieceProperty_65 : decode cX7_pieceProperty 65 = .ok (.getfield 10, 3) := by decide +kernel
theorem dX7_pieceProperty_68 : decode cX7_pieceProperty 68 = .ok (.iload_n 1, 1) := by decide +kernel
theorem dX7_pieceProperty_69 : decode cX7_pieceProperty 69 = .ok (.invokevirtual 341, 3) := by decide +kernel
theorem dX7_pieceProperty_72 : decode cX7_pieceProperty 72 = .ok (.ireturn, 1) := by decide +kernel
theorem dX7_countProperty_0 : decode cX7_countProperty 0 = .ok (.iload_n 1, 1) := by decide +kernel
theorem dX7_countProperty_1 : decode cX7_countProperty 1 = .ok (.tableswitch 72 1 7 #[43, 72, 72, 51, 59, 72, 67], 43) := by decide +kernel
theorem dX7_countProperty_44 : decode cX7_countProperty 44 = .ok (.aload_n 0, 1) := by decide +kernel
theorem dX7_countProperty_45 : decode cX7_countProperty 45 = .ok (.getfield 10, 3) := by decide +kernel
theorem dX7_countProperty_48 : decode cX7_countProperty 48 = .ok (.invokevirtual 118, 3) := by decide +kernel
theorem dX7_countProperty_51 : decode cX7_countProperty 51 = .ok (.ireturn, 1) := by decide +kernel
theorem dX7_countProperty_52 : decode cX7_countProperty 52 = .ok (.aload_n 0, 1) := by decide +kernel
theorem dX7_countProperty_53 : decode cX7_countProperty 53 = .ok (.getfield 10, 3) := by decide +kernel
theorem dX7_countProperty_56 : decode cX7_countProperty 56 = .ok (.getfield 159, 3) := by decide +kernel
theorem dX7_countProperty_59 : decode cX7_countProperty 59 = .ok (.ireturn, 1) := by decide +kernel
theorem dX7_countProperty_60 : decode cX7_countProperty 60 = .ok (.aload_n 0, 1) := by decide +kernel
theorem dX7_countProperty_61 : decode cX7_countProperty 61 = .ok (.getfield 10, 3) := by decide +kernel
theorem dX7_countProperty_64 : decode cX7_countProperty 64 = .ok (.getfield 163, 3) := by decide +kernel
theorem dX7_countProperty_67 : decode cX7_countProperty 67 = .ok (.ireturn, 1) := by decide +kernel
theorem dX7_countProperty_68 : decode cX7_countProperty 68 = .ok (.aload_n 0, 1) := by decide +kernel
theorem dX7_countProperty_69 : decode cX7_countProperty 69 = .ok (.getfield 199, 3) := by decide +kernel
theorem dX7_countProperty_72 : decode cX7_countProperty 72 = .ok (.ireturn, 1) := by decide +kernel
theorem dX7_countProperty_73 : decode cX7_countProperty 73 = .ok (.aload_n 0, 1) := by decide +kernel
theorem dX7_countProperty_74 : decode cX7_countProperty 74 = .ok (.iload_n 1, 1) := by decide +kernel
theorem dX7_countProperty_75 : decode cX7_countProperty 75 = .ok (.invokevirtual 344, 3) := by decide +kernel
theorem dX7_countProperty_78 : decode cX7_countProperty 78 = .ok (.ireturn, 1) := by decide +kernel
theorem dX7_sumOverReels_0 : decode cX7_sumOverReels 0 = .ok (.iconst 0, 1) := by decide +kernel
theorem dX7_sumOverReels_1 : decode cX7_sumOverReels 1 = .ok (.istore_n 2, 1) := by decide +kernel
theorem dX7_sumOverReels_2 : decode cX7_sumOverReels 2 = .ok (.iconst 0, 1) := by decide +kernel
theorem dX7_sumOverReels_3 : decode cX7_sumOverReels 3 = .ok (.istore_n 3, 1) := by decide +kernel
theorem dX7_sumOverReels_4 : decode cX7_sumOverReels 4 = .ok (.iload_n 3, 1) := by decide +kernel
theorem dX7_sumOverReels_5 : decode cX7_sumOverReels 5 = .ok (.iconst 3, 1) := by decide +kernel
theorem dX7_sumOverReels_6 : decode cX7_sumOverReels 6 = .ok (.if_icmp .ge 111, 3) := by decide +kernel
theorem dX7_sumOverReels_9 : decode cX7_sumOverReels 9 = .ok (.aload_n 0, 1) := by decide +kernel
theorem dX7_sumOverReels_10 : decode cX7_sumOverReels 10 = .ok (.getfield 10, 3) := by decide +kernel
theorem dX7_sumOverReels_13 : decode cX7_sumOverReels 13 = .ok (.iload_n 3, 1) := by decide +kernel
theorem dX7_sumOverReels_14 : decode cX7_sumOverReels 14 = .ok (.invokevirtual 60, 3) := by decide +kernel
theorem dX7_sumOverReels_17 : decode cX7_sumOverReels 17 = .ok (.astore 4, 2) := by decide +kernel
theorem dX7_sumOverReels_19 : decode cX7_sumOverReels 19 = .ok (.aload_n 0, 1) := by decide +kernel
theorem dX7_sumOverReels_20 : decode cX7_sumOverReels 20 = .ok (.getfield 39, 3) := by decide +kernel
theorem dX7_sumOverReels_23 : decode cX7_sumOverReels 23 = .ok (.aload_n 0, 1) := by decide +kernel
theorem dX7_sumOverReels_24 : decode cX7_sumOverReels 24 = .ok (.getfield 10, 3) := by decide +kernel
theorem dX7_sumOverReels_27 : decode cX7_sumOverReels 27 = .ok (.aload 4, 2) := by decide +kernel
theorem dX7_sumOverReels_29 : decode cX7_sumOverReels 29 = .ok (.iconst 0, 1) := by decide +kernel
theorem dX7_sumOverReels_30 : decode cX7_sumOverReels 30 = .ok (.invokevirtual 141, 3) := by decide +kernel
theorem dX7_sumOverReels_33 : decode cX7_sumOverReels 33 = .ok (.iload_n 1, 1) := by decide +kernel
theorem dX7_sumOverReels_34 : decode cX7_sumOverReels 34 = .ok (.tableswitch 67 0 3 #[30, 67, 41, 54], 30) := by decide +kernel
theorem dX7_sumOverReels_64 : decode cX7_sumOverReels 64 = .ok (.iload_n 2, 1) := by decide +kernel
theorem dX7_sumOverReels_65 : decode cX7_sumOverReels 65 = .ok (.aload 4, 2) := by decide +kernel
theorem dX7_sumOverReels_67 : decode cX7_sumOverReels 67 = .ok (.invokevirtual 64, 3) := by decide +kernel
theorem dX7_sumOverReels_70 : decode cX7_sumOverReels 70 = .ok (.iadd, 1) := by decide +kernel
theorem dX7_sumOverReels_71 : decode cX7_sumOverReels 71 = .ok (.istore_n 2, 1) := by decide +kernel
theorem dX7_sumOverReels_72 : decode cX7_sumOverReels 72 = .ok (.goto 39, 3) := by decide +kernel
theorem dX7_sumOverReels_75 : decode cX7_sumOverReels 75 = .ok (.iload_n 2, 1) := by decide +kernel
theorem dX7_sumOverReels_76 : decode cX7_sumOverReels 76 = .ok (.aload_n 0, 1) := by decide +kernel
theorem dX7_sumOverReels_77 : decode cX7_sumOverReels 77 = .ok (.getfield 39, 3) := by decide +kernel
theorem dX7_sumOverReels_80 : decode cX7_sumOverReels 80 = .ok (.getfield 332, 3) := by decide +kernel
theorem dX7_sumOverReels_83 : decode cX7_sumOverReels 83 = .ok (.iadd, 1) := by decide +kernel
theorem dX7_sumOverReels_84 : decode cX7_sumOverReels 84 = .ok (.istore_n 2, 1) := by decide +kernel
theorem dX7_sumOverReels_85 : decode cX7_sumOverReels 85 = .ok (.goto 26, 3) := by decide +kernel
theorem dX7_sumOverReels_88 : decode cX7_sumOverReels 88 = .ok (.iload_n 2, 1) := by decide +kernel
theorem dX7_sumOverReels_89 : decode cX7_sumOverReels 89 = .ok (.aload_n 0, 1) := by decide +kernel
theorem dX7_sumOverReels_90 : decode cX7_sumOverReels 90 = .ok (.getfield 39, 3) := by decide +kernel
theorem dX7_sumOverReels_93 : decode cX7_sumOverReels 93 = .ok (.getfield 245, 3) := by decide +kernel
theorem dX7_sumOverReels_96 : decode cX7_sumOverReels 96 = .ok (.iadd, 1) := by decide +kernel
theorem dX7_sumOverReels_97 : decode cX7_sumOverReels 97 = .ok (.istore_n 2, 1) := by decide +kernel
theorem dX7_sumOverReels_98 : decode cX7_sumOverReels 98 = .ok (.goto 13, 3) := by decide +kernel
theorem dX7_sumOverReels_101 : decode cX7_sumOverReels 101 = .ok (.iload_n 2, 1) := by decide +kernel
theorem dX7_sumOverReels_102 : decode cX7_sumOverReels 102 = .ok (.aload_n 0, 1) := by decide +kernel
theorem dX7_sumOverReels_103 : decode cX7_sumOverReels 103 = .ok (.getfield 39, 3) := by decide +kernel
theorem dX7_sumOverReels_106 : decode cX7_sumOverReels 106 = .ok (.getfield 329, 3) := by decide +kernel
theorem dX7_sumOverReels_109 : decode cX7_sumOverReels 109 = .ok (.iadd, 1) := by decide +kernel
theorem dX7_sumOverReels_110 : decode cX7_sumOverReels 110 = .ok (.istore_n 2, 1) := by decide +kernel
theorem dX7_sumOverReels_111 : decode cX7_sumOverReels 111 = .ok (.iinc 3 1, 3) := by decide +kernel
theorem dX7_sumOverReels_114 : decode cX7_sumOverReels 114 = .ok (.goto (-110), 3) := by decide +kernel
theorem dX7_sumOverReels_117 : decode cX7_sumOverReels 117 = .ok (.iload_n 2, 1) := by decide +kernel
theorem dX7_sumOverReels_118 : decode cX7_sumOverReels 118 = .ok (.ireturn, 1) := by decide +kernel
theorem dX7_measuredOffShare_0 : decode cX7_measuredOffShare 0 = .ok (.aload_n 0, 1) := by decide +kernel
theorem dX7_measuredOffShare_1 : decode cX7_measuredOffShare 1 = .ok (.getfield 39, 3) := by decide +kernel
theorem dX7_measuredOffShare_4 : decode cX7_measuredOffShare 4 = .ok (.getfield 329, 3) := by decide +kernel
theorem dX7_measuredOffShare_7 : decode cX7_measuredOffShare 7 = .ok (.ifCond .ne 7, 3) := by decide +kernel
theorem dX7_measuredOffShare_10 : decode cX7_measuredOffShare 10 = .ok (.fconst 0, 1) := by decide +kernel
theorem dX7_measuredOffShare_11 : decode cX7_measuredOffShare 11 = .ok (.goto 20, 3) := by decide +kernel
theorem dX7_measuredOffShare_14 : decode cX7_measuredOffShare 14 = .ok (.aload_n 0, 1) := by decide +kernel
theorem dX7_measuredOffShare_15 : decode cX7_measuredOffShare 15 = .ok (.getfield 39, 3) := by decide +kernel
theorem dX7_measuredOffShare_18 : decode cX7_measuredOffShare 18 = .ok (.getfield 298, 3) := by decide +kernel
theorem dX7_measuredOffShare_21 : decode cX7_measuredOffShare 21 = .ok (.i2f, 1) := by decide +kernel
theorem dX7_measuredOffShare_22 : decode cX7_measuredOffShare 22 = .ok (.aload_n 0, 1) := by decide +kernel
theorem dX7_measuredOffShare_23 : decode cX7_measuredOffShare 23 = .ok (.getfield 39, 3) := by decide +kernel
theorem dX7_measuredOffShare_26 : decode cX7_measuredOffShare 26 = .ok (.getfield 329, 3) := by decide +kernel
theorem dX7_measuredOffShare_29 : decode cX7_measuredOffShare 29 = .ok (.i2f, 1) := by decide +kernel
theorem dX7_measuredOffShare_30 : decode cX7_measuredOffShare 30 = .ok (.fdiv, 1) := by decide +kernel
theorem dX7_measuredOffShare_31 : decode cX7_measuredOffShare 31 = .ok (.freturn, 1) := by decide +kernel
theorem dX7_measuredMeanSpeed_0 : decode cX7_measuredMeanSpeed 0 = .ok (.aload_n 0, 1) := by decide +kernel
theorem dX7_measuredMeanSpeed_1 : decode cX7_measuredMeanSpeed 1 = .ok (.getfield 39, 3) := by decide +kernel
theorem dX7_measuredMeanSpeed_4 : decode cX7_measuredMeanSpeed 4 = .ok (.getfield 329, 3) := by decide +kernel
theorem dX7_measuredMeanSpeed_7 : decode cX7_measuredMeanSpeed 7 = .ok (.ifCond .ne 5, 3) := by decide +kernel
theorem dX7_measuredMeanSpeed_10 : decode cX7_measuredMeanSpeed 10 = .ok (.dconst 0, 1) := by decide +kernel
theorem dX7_measuredMeanSpeed_11 : decode cX7_measuredMeanSpeed 11 = .ok (.dreturn, 1) := by decide +kernel
theorem dX7_measuredMeanSpeed_12 : decode cX7_measuredMeanSpeed 12 = .ok (.aload_n 0, 1) := by decide +kernel
theorem dX7_measuredMeanSpeed_13 : decode cX7_measuredMeanSpeed 13 = .ok (.getfield 39, 3) := by decide +kernel
theorem dX7_measuredMeanSpeed_16 : decode cX7_measuredMeanSpeed 16 = .ok (.getfield 323, 3) := by decide +kernel
theorem dX7_measuredMeanSpeed_19 : decode cX7_measuredMeanSpeed 19 = .ok (.aload_n 0, 1) := by decide +kernel
theorem dX7_measuredMeanSpeed_20 : decode cX7_measuredMeanSpeed 20 = .ok (.getfield 39, 3) := by decide +kernel
theorem dX7_measuredMeanSpeed_23 : decode cX7_measuredMeanSpeed 23 = .ok (.getfield 326, 3) := by decide +kernel
theorem dX7_measuredMeanSpeed_26 : decode cX7_measuredMeanSpeed 26 = .ok (.isub, 1) := by decide +kernel
theorem dX7_measuredMeanSpeed_27 : decode cX7_measuredMeanSpeed 27 = .ok (.bipush 16, 2) := by decide +kernel
theorem dX7_measuredMeanSpeed_29 : decode cX7_measuredMeanSpeed 29 = .ok (.imul, 1) := by decide +kernel
theorem dX7_measuredMeanSpeed_30 : decode cX7_measuredMeanSpeed 30 = .ok (.i2d, 1) := by decide +kernel
theorem dX7_measuredMeanSpeed_31 : decode cX7_measuredMeanSpeed 31 = .ok (.dstore_n 1, 1) := by decide +kernel
theorem dX7_measuredMeanSpeed_32 : decode cX7_measuredMeanSpeed 32 = .ok (.dload_n 1, 1) := by decide +kernel
theorem dX7_measuredMeanSpeed_33 : decode cX7_measuredMeanSpeed 33 = .ok (.aload_n 0, 1) := by decide +kernel
theorem dX7_measuredMeanSpeed_34 : decode cX7_measuredMeanSpeed 34 = .ok (.getfield 39, 3) := by decide +kernel
theorem dX7_measuredMeanSpeed_37 : decode cX7_measuredMeanSpeed 37 = .ok (.getfield 329, 3) := by decide +kernel
theorem dX7_measuredMeanSpeed_40 : decode cX7_measuredMeanSpeed 40 = .ok (.i2d, 1) := by decide +kernel
theorem dX7_measuredMeanSpeed_41 : decode cX7_measuredMeanSpeed 41 = .ok (.ldc2_w 347, 3) := by decide +kernel
theorem dX7_measuredMeanSpeed_44 : decode cX7_measuredMeanSpeed 44 = .ok (.ddiv, 1) := by decide +kernel
theorem dX7_measuredMeanSpeed_45 : decode cX7_measuredMeanSpeed 45 = .ok (.ddiv, 1) := by decide +kernel
theorem dX7_measuredMeanSpeed_46 : decode cX7_measuredMeanSpeed 46 = .ok (.dreturn, 1) := by decide +kernel
