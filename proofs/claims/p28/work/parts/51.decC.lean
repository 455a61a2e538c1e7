theorem dL_cell_0 : decode cL_cell 0 = .ok (.iload_n 1, 1) := by decide +kernel
theorem dL_cell_1 : decode cL_cell 1 = .ok (.aload_n 0, 1) := by decide +kernel
theorem dL_cell_2 : decode cL_cell 2 = .ok (.arraylength, 1) := by decide +kernel
theorem dL_cell_3 : decode cL_cell 3 = .ok (.if_icmp .ge 9, 3) := by decide +kernel
theorem dL_cell_6 : decode cL_cell 6 = .ok (.aload_n 0, 1) := by decide +kernel
theorem dL_cell_7 : decode cL_cell 7 = .ok (.iload_n 1, 1) := by decide +kernel
theorem dL_cell_8 : decode cL_cell 8 = .ok (.iaload, 1) := by decide +kernel
theorem dL_cell_9 : decode cL_cell 9 = .ok (.goto 9, 3) := by decide +kernel
theorem dL_cell_12 : decode cL_cell 12 = .ok (.ldc 7, 2) := by decide +kernel
theorem dL_cell_14 : decode cL_cell 14 = .ok (.iload_n 1, 1) := by decide +kernel
theorem dL_cell_15 : decode cL_cell 15 = .ok (.iconst 1, 1) := by decide +kernel
theorem dL_cell_16 : decode cL_cell 16 = .ok (.iadd, 1) := by decide +kernel
theorem dL_cell_17 : decode cL_cell 17 = .ok (.imul, 1) := by decide +kernel
theorem dL_cell_18 : decode cL_cell 18 = .ok (.ireturn, 1) := by decide +kernel
theorem dL_at_0 : decode cL_at 0 = .ok (.iload_n 0, 1) := by decide +kernel
theorem dL_at_1 : decode cL_at 1 = .ok (.iconst 1, 1) := by decide +kernel
theorem dL_at_2 : decode cL_at 2 = .ok (.iushr, 1) := by decide +kernel
theorem dL_at_3 : decode cL_at 3 = .ok (.iload_n 1, 1) := by decide +kernel
theorem dL_at_4 : decode cL_at 4 = .ok (.irem, 1) := by decide +kernel
theorem dL_at_5 : decode cL_at 5 = .ok (.ireturn, 1) := by decide +kernel
theorem dL_abs_0 : decode cL_abs 0 = .ok (.iload_n 0, 1) := by decide +kernel
theorem dL_abs_1 : decode cL_abs 1 = .ok (.ifCond .ge 8, 3) := by decide +kernel
theorem dL_abs_4 : decode cL_abs 4 = .ok (.iload_n 0, 1) := by decide +kernel
theorem dL_abs_5 : decode cL_abs 5 = .ok (.ineg, 1) := by decide +kernel
theorem dL_abs_6 : decode cL_abs 6 = .ok (.goto 4, 3) := by decide +kernel
theorem dL_abs_9 : decode cL_abs 9 = .ok (.iload_n 0, 1) := by decide +kernel
theorem dL_abs_10 : decode cL_abs 10 = .ok (.ireturn, 1) := by decide +kernel
theorem dL_speed_0 : decode cL_speed 0 = .ok (.iconst (-1), 1) := by decide +kernel
theorem dL_speed_1 : decode cL_speed 1 = .ok (.istore_n 2, 1) := by decide +kernel
theorem dL_speed_2 : decode cL_speed 2 = .ok (.iconst 0, 1) := by decide +kernel
theorem dL_speed_3 : decode cL_speed 3 = .ok (.istore_n 3, 1) := by decide +kernel
theorem dL_speed_4 : decode cL_speed 4 = .ok (.iload_n 3, 1) := by decide +kernel
theorem dL_speed_5 : decode cL_speed 5 = .ok (.aload_n 1, 1) := by decide +kernel
theorem dL_speed_6 : decode cL_speed 6 = .ok (.bipush 30, 2) := by decide +kernel
theorem dL_speed_8 : decode cL_speed 8 = .ok (.iaload, 1) := by decide +kernel
theorem dL_speed_9 : decode cL_speed 9 = .ok (.if_icmp .ge 46, 3) := by decide +kernel
theorem dL_speed_12 : decode cL_speed 12 = .ok (.aload_n 1, 1) := by decide +kernel
theorem dL_speed_13 : decode cL_speed 13 = .ok (.bipush 31, 2) := by decide +kernel
theorem dL_speed_15 : decode cL_speed 15 = .ok (.iconst 2, 1) := by decide +kernel
theorem dL_speed_16 : decode cL_speed 16 = .ok (.iload_n 3, 1) := by decide +kernel
theorem dL_speed_17 : decode cL_speed 17 = .ok (.imul, 1) := by decide +kernel
theorem dL_speed_18 : decode cL_speed 18 = .ok (.iadd, 1) := by decide +kernel
theorem dL_speed_19 : decode cL_speed 19 = .ok (.iaload, 1) := by decide +kernel
theorem dL_speed_20 : decode cL_speed 20 = .ok (.iload_n 0, 1) := by decide +kernel
theorem dL_speed_21 : decode cL_speed 21 = .ok (.if_icmp .gt 28, 3) := by decide +kernel
theorem dL_speed_24 : decode cL_speed 24 = .ok (.iload_n 2, 1) := by decide +kernel
theorem dL_speed_25 : decode cL_speed 25 = .ok (.ifCond .lt 22, 3) := by decide +kernel
theorem dL_speed_28 : decode cL_speed 28 = .ok (.aload_n 1, 1) := by decide +kernel
theorem dL_speed_29 : decode cL_speed 29 = .ok (.bipush 31, 2) := by decide +kernel
theorem dL_speed_31 : decode cL_speed 31 = .ok (.iconst 2, 1) := by decide +kernel
theorem dL_speed_32 : decode cL_speed 32 = .ok (.iload_n 3, 1) := by decide +kernel
theorem dL_speed_33 : decode cL_speed 33 = .ok (.imul, 1) := by decide +kernel
theorem dL_speed_34 : decode cL_speed 34 = .ok (.iadd, 1) := by decide +kernel
theorem dL_speed_35 : decode cL_speed 35 = .ok (.iaload, 1) := by decide +kernel
theorem dL_speed_36 : decode cL_speed 36 = .ok (.aload_n 1, 1) := by decide +kernel
theorem dL_speed_37 : decode cL_speed 37 = .ok (.bipush 31, 2) := by decide +kernel
theorem dL_speed_39 : decode cL_speed 39 = .ok (.iconst 2, 1) := by decide +kernel
theorem dL_speed_40 : decode cL_speed 40 = .ok (.iload_n 2, 1) := by decide +kernel
theorem dL_speed_41 : decode cL_speed 41 = .ok (.imul, 1) := by decide +kernel
theorem dL_speed_42 : decode cL_speed 42 = .ok (.iadd, 1) := by decide +kernel
theorem dL_speed_43 : decode cL_speed 43 = .ok (.iaload, 1) := by decide +kernel
theorem dL_speed_44 : decode cL_speed 44 = .ok (.if_icmp .le 5, 3) := by decide +kernel
theorem dL_speed_47 : decode cL_speed 47 = .ok (.iload_n 3, 1) := by decide +kernel
theorem dL_speed_48 : decode cL_speed 48 = .ok (.istore_n 2, 1) := by decide +kernel
theorem dL_speed_49 : decode cL_speed 49 = .ok (.iinc 3 1, 3) := by decide +kernel
theorem dL_speed_52 : decode cL_speed 52 = .ok (.goto (-48), 3) := by decide +kernel
theorem dL_speed_55 : decode cL_speed 55 = .ok (.aload_n 1, 1) := by decide +kernel
theorem dL_speed_56 : decode cL_speed 56 = .ok (.bipush 32, 2) := by decide +kernel
theorem dL_speed_58 : decode cL_speed 58 = .ok (.iconst 2, 1) := by decide +kernel
theorem dL_speed_59 : decode cL_speed 59 = .ok (.iload_n 2, 1) := by decide +kernel
theorem dL_speed_60 : decode cL_speed 60 = .ok (.imul, 1) := by decide +kernel
theorem dL_speed_61 : decode cL_speed 61 = .ok (.iadd, 1) := by decide +kernel
theorem dL_speed_62 : decode cL_speed 62 = .ok (.iaload, 1) := by decide +kernel
theorem dL_speed_63 : decode cL_speed 63 = .ok (.ireturn, 1) := by decide +kernel
theorem dL_lost_0 : decode cL_lost 0 = .ok (.iconst 0, 1) := by decide +kernel
theorem dL_lost_1 : decode cL_lost 1 = .ok (.istore_n 2, 1) := by decide +kernel
theorem dL_lost_2 : decode cL_lost 2 = .ok (.iload_n 2, 1) := by decide +kernel
theorem dL_lost_3 : decode cL_lost 3 = .ok (.aload_n 1, 1) := by decide +kernel
theorem dL_lost_4 : decode cL_lost 4 = .ok (.bipush 45, 2) := by decide +kernel
theorem dL_lost_6 : decode cL_lost 6 = .ok (.iaload, 1) := by decide +kernel
theorem dL_lost_7 : decode cL_lost 7 = .ok (.if_icmp .ge 44, 3) := by decide +kernel
theorem dL_lost_10 : decode cL_lost 10 = .ok (.iload_n 0, 1) := by decide +kernel
theorem dL_lost_11 : decode cL_lost 11 = .ok (.aload_n 1, 1) := by decide +kernel
theorem dL_lost_12 : decode cL_lost 12 = .ok (.bipush 46, 2) := by decide +kernel
theorem dL_lost_14 : decode cL_lost 14 = .ok (.iconst 2, 1) := by decide +kernel
theorem dL_lost_15 : decode cL_lost 15 = .ok (.iload_n 2, 1) := by decide +kernel
theorem dL_lost_16 : decode cL_lost 16 = .ok (.imul, 1) := by decide +kernel
theorem dL_lost_17 : decode cL_lost 17 = .ok (.iadd, 1) := by decide +kernel
theorem dL_lost_18 : decode cL_lost 18 = .ok (.iaload, 1) := by decide +kernel
theorem dL_lost_19 : decode cL_lost 19 = .ok (.if_icmp .lt 26, 3) := by decide +kernel
theorem dL_lost_22 : decode cL_lost 22 = .ok (.iload_n 0, 1) := by decide +kernel
theorem dL_lost_23 : decode cL_lost 23 = .ok (.aload_n 1, 1) := by decide +kernel
theorem dL_lost_24 : decode cL_lost 24 = .ok (.bipush 46, 2) := by decide +kernel
theorem dL_lost_26 : decode cL_lost 26 = .ok (.iconst 2, 1) := by decide +kernel
theorem dL_lost_27 : decode cL_lost 27 = .ok (.iload_n 2, 1) := by decide +kernel
theorem dL_lost_28 : decode cL_lost 28 = .ok (.imul, 1) := by decide +kernel
theorem dL_lost_29 : decode cL_lost 29 = .ok (.iadd, 1) := by decide +kernel
theorem dL_lost_30 : decode cL_lost 30 = .ok (.iaload, 1) := by decide +kernel
theorem dL_lost_31 : decode cL_lost 31 = .ok (.aload_n 1, 1) := by decide +kernel
theorem dL_lost_32 : decode cL_lost 32 = .ok (.bipush 47, 2) := by decide +kernel
theorem dL_lost_34 : decode cL_lost 34 = .ok (.iconst 2, 1) := by decide +kernel
theorem dL_lost_35 : decode cL_lost 35 = .ok (.iload_n 2, 1) := by decide +kernel
theorem dL_lost_36 : decode cL_lost 36 = .ok (.imul, 1) := by decide +kernel
theorem dL_lost_37 : decode cL_lost 37 = .ok (.iadd, 1) := by decide +kernel
theorem dL_lost_38 : decode cL_lost 38 = .ok (.iaload, 1) := by decide +kernel
theorem dL_lost_39 : decode cL_lost 39 = .ok (.iadd, 1) := by decide +kernel
theorem dL_lost_40 : decode cL_lost 40 = .ok (.if_icmp .ge 5, 3) := by decide +kernel
theorem dL_lost_43 : decode cL_lost 43 = .ok (.iconst 1, 1) := by decide +kernel
theorem dL_lost_44 : decode cL_lost 44 = .ok (.ireturn, 1) := by decide +kernel
theorem dL_lost_45 : decode cL_lost 45 = .ok (.iinc 2 1, 3) := by decide +kernel
theorem dL_lost_48 : decode cL_lost 48 = .ok (.goto (-46), 3) := by decide +kernel
theorem dL_lost_51 : decode cL_lost 51 = .ok (.iconst 0, 1) := by decide +kernel
theorem dL_lost_52 : decode cL_lost 52 = .ok (.ireturn, 1) := by decide +kernel
theorem dL_feet_0 : decode cL_feet 0 = .ok (.iconst 0, 1) := by decide +kernel
theorem dL_feet_1 : decode cL_feet 1 = .ok (.istore 5, 2) := by decide +kernel
theorem dL_feet_3 : decode cL_feet 3 = .ok (.iload_n 0, 1) := by decide +kernel
theorem dL_feet_4 : decode cL_feet 4 = .ok (.istore 6, 2) := by decide +kernel
theorem dL_feet_6 : decode cL_feet 6 = .ok (.iload 6, 2) := by decide +kernel
theorem dL_feet_8 : decode cL_feet 8 = .ok (.iload_n 1, 1) := by decide +kernel
theorem dL_feet_9 : decode cL_feet 9 = .ok (.if_icmp .ge 51, 3) := by decide +kernel
theorem dL_feet_12 : decode cL_feet 12 = .ok (.iload 5, 2) := by decide +kernel
theorem dL_feet_14 : decode cL_feet 14 = .ok (.iload 6, 2) := by decide +kernel
theorem dL_feet_16 : decode cL_feet 16 = .ok (.aload 4, 2) := by decide +kernel
theorem dL_feet_18 : decode cL_feet 18 = .ok (.invokestatic 8, 3) := by decide +kernel
theorem dL_feet_21 : decode cL_feet 21 = .ok (.ifCond .eq 9, 3) := by decide +kernel
theorem dL_feet_24 : decode cL_feet 24 = .ok (.iconst 1, 1) := by decide +kernel
theorem dL_feet_25 : decode cL_feet 25 = .ok (.iload_n 2, 1) := by decide +kernel
theorem dL_feet_26 : decode cL_feet 26 = .ok (.isub, 1) := by decide +kernel
theorem dL_feet_27 : decode cL_feet 27 = .ok (.goto 24, 3) := by decide +kernel
theorem dL_feet_30 : decode cL_feet 30 = .ok (.iload_n 2, 1) := by decide +kernel
theorem dL_feet_31 : decode cL_feet 31 = .ok (.sipush 160, 3) := by decide +kernel
theorem dL_feet_34 : decode cL_feet 34 = .ok (.iload_n 3, 1) := by decide +kernel
theorem dL_feet_35 : decode cL_feet 35 = .ok (.ifCond .le 7, 3) := by decide +kernel
theorem dL_feet_38 : decode cL_feet 38 = .ok (.iload_n 3, 1) := by decide +kernel
theorem dL_feet_39 : decode cL_feet 39 = .ok (.goto 10, 3) := by decide +kernel
theorem dL_feet_42 : decode cL_feet 42 = .ok (.iload 6, 2) := by decide +kernel
theorem dL_feet_44 : decode cL_feet 44 = .ok (.aload 4, 2) := by decide +kernel
theorem dL_feet_46 : decode cL_feet 46 = .ok (.invokestatic 14, 3) := by decide +kernel
theorem dL_feet_49 : decode cL_feet 49 = .ok (.idiv, 1) := by decide +kernel
theorem dL_feet_50 : decode cL_feet 50 = .ok (.imul, 1) := by decide +kernel
theorem dL_feet_51 : decode cL_feet 51 = .ok (.iadd, 1) := by decide +kernel
theorem dL_feet_52 : decode cL_feet 52 = .ok (.istore 5, 2) := by decide +kernel
theorem dL_feet_54 : decode cL_feet 54 = .ok (.iinc 6 1, 3) := by decide +kernel
theorem dL_feet_57 : decode cL_feet 57 = .ok (.goto (-51), 3) := by decide +kernel
theorem dL_feet_60 : decode cL_feet 60 = .ok (.iload 5, 2) := by decide +kernel
theorem dL_feet_62 : decode cL_feet 62 = .ok (.ireturn, 1) := by decide +kernel
theorem dL_start_0 : decode cL_start 0 = .ok (.iload_n 0, 1) := by decide +kernel
theorem dL_start_1 : decode cL_start 1 = .ok (.ifCond .ne 7, 3) := by decide +kernel
theorem dL_start_4 : decode cL_start 4 = .ok (.iconst 0, 1) := by decide +kernel
theorem dL_start_5 : decode cL_start 5 = .ok (.goto 8, 3) := by decide +kernel
theorem dL_start_8 : decode cL_start 8 = .ok (.iload_n 0, 1) := by decide +kernel
theorem dL_start_9 : decode cL_start 9 = .ok (.aload_n 1, 1) := by decide +kernel
theorem dL_start_10 : decode cL_start 10 = .ok (.invokestatic 18, 3) := by decide +kernel
theorem dL_start_13 : decode cL_start 13 = .ok (.ireturn, 1) := by decide +kernel
theorem dL_start1_0 : decode cL_start1 0 = .ok (.iconst 0, 1) := by decide +kernel
theorem dL_start1_1 : decode cL_start1 1 = .ok (.istore_n 2, 1) := by decide +kernel
theorem dL_start1_2 : decode cL_start1 2 = .ok (.iconst 0, 1) := by decide +kernel
theorem dL_start1_3 : decode cL_start1 3 = .ok (.istore_n 3, 1) := by decide +kernel
theorem dL_start1_4 : decode cL_start1 4 = .ok (.iload_n 3, 1) := by decide +kernel
theorem dL_start1_5 : decode cL_start1 5 = .ok (.iload_n 0, 1) := by decide +kernel
theorem dL_start1_6 : decode cL_start1 6 = .ok (.if_icmp .ge 19, 3) := by decide +kernel
theorem dL_start1_9 : decode cL_start1 9 = .ok (.iload_n 2, 1) := by decide +kernel
theorem dL_start1_10 : decode cL_start1 10 = .ok (.aload_n 1, 1) := by decide +kernel
theorem dL_start1_11 : decode cL_start1 11 = .ok (.iconst 1, 1) := by decide +kernel
theorem dL_start1_12 : decode cL_start1 12 = .ok (.iconst 4, 1) := by decide +kernel
theorem dL_start1_13 : decode cL_start1 13 = .ok (.iload_n 3, 1) := by decide +kernel
theorem dL_start1_14 : decode cL_start1 14 = .ok (.imul, 1) := by decide +kernel
theorem dL_start1_15 : decode cL_start1 15 = .ok (.iadd, 1) := by decide +kernel
theorem dL_start1_16 : decode cL_start1 16 = .ok (.iaload, 1) := by decide +kernel
theorem dL_start1_17 : decode cL_start1 17 = .ok (.iadd, 1) := by decide +kernel
theorem dL_start1_18 : decode cL_start1 18 = .ok (.istore_n 2, 1) := by decide +kernel
theorem dL_start1_19 : decode cL_start1 19 = .ok (.iinc 3 1, 3) := by decide +kernel
theorem dL_start1_22 : decode cL_start1 22 = .ok (.goto (-18), 3) := by decide +kernel
theorem dL_start1_25 : decode cL_start1 25 = .ok (.iload_n 2, 1) := by decide +kernel
theorem dL_start1_26 : decode cL_start1 26 = .ok (.ireturn, 1) := by decide +kernel
theorem dL_music_0 : decode cL_music 0 = .ok (.bipush 100, 2) := by decide +kernel
theorem dL_music_2 : decode cL_music 2 = .ok (.aload_n 3, 1) := by decide +kernel
theorem dL_music_3 : decode cL_music 3 = .ok (.iconst 3, 1) := by decide +kernel
theorem dL_music_4 : decode cL_music 4 = .ok (.iload_n 0, 1) := by decide +kernel
theorem dL_music_5 : decode cL_music 5 = .ok (.imul, 1) := by decide +kernel
theorem dL_music_6 : decode cL_music 6 = .ok (.iaload, 1) := by decide +kernel
theorem dL_music_7 : decode cL_music 7 = .ok (.aload_n 3, 1) := by decide +kernel
theorem dL_music_8 : decode cL_music 8 = .ok (.iconst 3, 1) := by decide +kernel
theorem dL_music_9 : decode cL_music 9 = .ok (.iload_n 0, 1) := by decide +kernel
theorem dL_music_10 : decode cL_music 10 = .ok (.imul, 1) := by decide +kernel
theorem dL_music_11 : decode cL_music 11 = .ok (.iconst 1, 1) := by decide +kernel
theorem dL_music_12 : decode cL_music 12 = .ok (.iadd, 1) := by decide +kernel
theorem dL_music_13 : decode cL_music 13 = .ok (.iaload, 1) := by decide +kernel
theorem dL_music_14 : decode cL_music 14 = .ok (.iload_n 1, 1) := by decide +kernel
theorem dL_music_15 : decode cL_music 15 = .ok (.imul, 1) := by decide +kernel
theorem dL_music_16 : decode cL_music 16 = .ok (.iadd, 1) := by decide +kernel
theorem dL_music_17 : decode cL_music 17 = .ok (.aload_n 3, 1) := by decide +kernel
theorem dL_music_18 : decode cL_music 18 = .ok (.iconst 3, 1) := by decide +kernel
theorem dL_music_19 : decode cL_music 19 = .ok (.iload_n 0, 1) := by decide +kernel
theorem dL_music_20 : decode cL_music 20 = .ok (.imul, 1) := by decide +kernel
theorem dL_music_21 : decode cL_music 21 = .ok (.iconst 2, 1) := by decide +kernel
theorem dL_music_22 : decode cL_music 22 = .ok (.iadd, 1) := by decide +kernel
theorem dL_music_23 : decode cL_music 23 = .ok (.iaload, 1) := by decide +kernel
theorem dL_music_24 : decode cL_music 24 = .ok (.iadd, 1) := by decide +kernel
theorem dL_music_25 : decode cL_music 25 = .ok (.imul, 1) := by decide +kernel
theorem dL_music_26 : decode cL_music 26 = .ok (.iload_n 2, 1) := by decide +kernel
theorem dL_music_27 : decode cL_music 27 = .ok (.idiv, 1) := by decide +kernel
theorem dL_music_28 : decode cL_music 28 = .ok (.ireturn, 1) := by decide +kernel
theorem dL_lay_0 : decode cL_lay 0 = .ok (.iconst 0, 1) := by decide +kernel
theorem dL_lay_1 : decode cL_lay 1 = .ok (.istore 5, 2) := by decide +kernel
theorem dL_lay_3 : decode cL_lay 3 = .ok (.iconst 0, 1) := by decide +kernel
theorem dL_lay_4 : decode cL_lay 4 = .ok (.istore 6, 2) := by decide +kernel
theorem dL_lay_6 : decode cL_lay 6 = .ok (.iconst 0, 1) := by decide +kernel
theorem dL_lay_7 : decode cL_lay 7 = .ok (.istore 7, 2) := by decide +kernel
theorem dL_lay_9 : decode cL_lay 9 = .ok (.iload 7, 2) := by decide +kernel
theorem dL_lay_11 : decode cL_lay 11 = .ok (.aload_n 1, 1) := by decide +kernel
theorem dL_lay_12 : decode cL_lay 12 = .ok (.iconst 0, 1) := by decide +kernel
theorem dL_lay_13 : decode cL_lay 13 = .ok (.iaload, 1) := by decide +kernel
theorem dL_lay_14 : decode cL_lay 14 = .ok (.if_icmp .ge 121, 3) := by decide +kernel
theorem dL_lay_17 : decode cL_lay 17 = .ok (.aload_n 3, 1) := by decide +kernel
theorem dL_lay_18 : decode cL_lay 18 = .ok (.iconst 2, 1) := by decide +kernel
theorem dL_lay_19 : decode cL_lay 19 = .ok (.iload 7, 2) := by decide +kernel
theorem dL_lay_21 : decode cL_lay 21 = .ok (.imul, 1) := by decide +kernel
theorem dL_lay_22 : decode cL_lay 22 = .ok (.iload 5, 2) := by decide +kernel
theorem dL_lay_24 : decode cL_lay 24 = .ok (.iload 6, 2) := by decide +kernel
theorem dL_lay_26 : decode cL_lay 26 = .ok (.if_icmp .le 8, 3) := by decide +kernel
theorem dL_lay_29 : decode cL_lay 29 = .ok (.iload 5, 2) := by decide +kernel
theorem dL_lay_31 : decode cL_lay 31 = .ok (.goto 5, 3) := by decide +kernel
theorem dL_lay_34 : decode cL_lay 34 = .ok (.iload 6, 2) := by decide +kernel
theorem dL_lay_36 : decode cL_lay 36 = .ok (.iastore, 1) := by decide +kernel
theorem dL_lay_37 : decode cL_lay 37 = .ok (.aload_n 1, 1) := by decide +kernel
theorem dL_lay_38 : decode cL_lay 38 = .ok (.iconst 2, 1) := by decide +kernel
theorem dL_lay_39 : decode cL_lay 39 = .ok (.iconst 4, 1) := by decide +kernel
theorem dL_lay_40 : decode cL_lay 40 = .ok (.iload 7, 2) := by decide +kernel
theorem dL_lay_42 : decode cL_lay 42 = .ok (.imul, 1) := by decide +kernel
theorem dL_lay_43 : decode cL_lay 43 = .ok (.iadd, 1) := by decide +kernel
theorem dL_lay_44 : decode cL_lay 44 = .ok (.iaload, 1) := by decide +kernel
theorem dL_lay_45 : decode cL_lay 45 = .ok (.ldc 21, 2) := by decide +kernel
theorem dL_lay_47 : decode cL_lay 47 = .ok (.if_icmp .eq 40, 3) := by decide +kernel
theorem dL_lay_50 : decode cL_lay 50 = .ok (.aload_n 3, 1) := by decide +kernel
theorem dL_lay_51 : decode cL_lay 51 = .ok (.iconst 2, 1) := by decide +kernel
theorem dL_lay_52 : decode cL_lay 52 = .ok (.iload 7, 2) := by decide +kernel
theorem dL_lay_54 : decode cL_lay 54 = .ok (.imul, 1) := by decide +kernel
theorem dL_lay_55 : decode cL_lay 55 = .ok (.iaload, 1) := by decide +kernel
theorem dL_lay_56 : decode cL_lay 56 = .ok (.aload_n 1, 1) := by decide +kernel
theorem dL_lay_57 : decode cL_lay 57 = .ok (.iconst 2, 1) := by decide +kernel
theorem dL_lay_58 : decode cL_lay 58 = .ok (.iconst 4, 1) := by decide +kernel
theorem dL_lay_59 : decode cL_lay 59 = .ok (.iload 7, 2) := by decide +kernel
theorem dL_lay_61 : decode cL_lay 61 = .ok (.imul, 1) := by decide +kernel
theorem dL_lay_62 : decode cL_lay 62 = .ok (.iadd, 1) := by decide +kernel
theorem dL_lay_63 : decode cL_lay 63 = .ok (.iaload, 1) := by decide +kernel
theorem dL_lay_64 : decode cL_lay 64 = .ok (.aload_n 1, 1) := by decide +kernel
theorem dL_lay_65 : decode cL_lay 65 = .ok (.iconst 3, 1) := by decide +kernel
theorem dL_lay_66 : decode cL_lay 66 = .ok (.iconst 4, 1) := by decide +kernel
theorem dL_lay_67 : decode cL_lay 67 = .ok (.iload 7, 2) := by decide +kernel
theorem dL_lay_69 : decode cL_lay 69 = .ok (.imul, 1) := by decide +kernel
theorem dL_lay_70 : decode cL_lay 70 = .ok (.iadd, 1) := by decide +kernel
theorem dL_lay_71 : decode cL_lay 71 = .ok (.iaload, 1) := by decide +kernel
theorem dL_lay_72 : decode cL_lay 72 = .ok (.aload_n 1, 1) := by decide +kernel
theorem dL_lay_73 : decode cL_lay 73 = .ok (.iconst 4, 1) := by decide +kernel
theorem dL_lay_74 : decode cL_lay 74 = .ok (.iconst 4, 1) := by decide +kernel
theorem dL_lay_75 : decode cL_lay 75 = .ok (.iload 7, 2) := by decide +kernel
theorem dL_lay_77 : decode cL_lay 77 = .ok (.imul, 1) := by decide +kernel
theorem dL_lay_78 : decode cL_lay 78 = .ok (.iadd, 1) := by decide +kernel
theorem dL_lay_79 : decode cL_lay 79 = .ok (.iaload, 1) := by decide +kernel
theorem dL_lay_80 : decode cL_lay 80 = .ok (.aload_n 2, 1) := by decide +kernel
theorem dL_lay_81 : decode cL_lay 81 = .ok (.invokestatic 22, 3) := by decide +kernel
theorem dL_lay_84 : decode cL_lay 84 = .ok (.iadd, 1) := by decide +kernel
theorem dL_lay_85 : decode cL_lay 85 = .ok (.istore 5, 2) := by decide +kernel
theorem dL_lay_87 : decode cL_lay 87 = .ok (.aload_n 3, 1) := by decide +kernel
theorem dL_lay_88 : decode cL_lay 88 = .ok (.iconst 2, 1) := by decide +kernel
theorem dL_lay_89 : decode cL_lay 89 = .ok (.iload 7, 2) := by decide +kernel
theorem dL_lay_91 : decode cL_lay 91 = .ok (.imul, 1) := by decide +kernel
theorem dL_lay_92 : decode cL_lay 92 = .ok (.iconst 1, 1) := by decide +kernel
theorem dL_lay_93 : decode cL_lay 93 = .ok (.iadd, 1) := by decide +kernel
theorem dL_lay_94 : decode cL_lay 94 = .ok (.iload 5, 2) := by decide +kernel
theorem dL_lay_96 : decode cL_lay 96 = .ok (.iastore, 1) := by decide +kernel
theorem dL_lay_97 : decode cL_lay 97 = .ok (.iload 6, 2) := by decide +kernel
theorem dL_lay_99 : decode cL_lay 99 = .ok (.iload 7, 2) := by decide +kernel
theorem dL_lay_101 : decode cL_lay 101 = .ok (.aload_n 1, 1) := by decide +kernel
theorem dL_lay_102 : decode cL_lay 102 = .ok (.invokestatic 26, 3) := by decide +kernel
theorem dL_lay_105 : decode cL_lay 105 = .ok (.iload 7, 2) := by decide +kernel
theorem dL_lay_107 : decode cL_lay 107 = .ok (.iconst 1, 1) := by decide +kernel
theorem dL_lay_108 : decode cL_lay 108 = .ok (.iadd, 1) := by decide +kernel
theorem dL_lay_109 : decode cL_lay 109 = .ok (.aload_n 1, 1) := by decide +kernel
theorem dL_lay_110 : decode cL_lay 110 = .ok (.invokestatic 26, 3) := by decide +kernel
theorem dL_lay_113 : decode cL_lay 113 = .ok (.iconst 1, 1) := by decide +kernel
theorem dL_lay_114 : decode cL_lay 114 = .ok (.iload_n 0, 1) := by decide +kernel
theorem dL_lay_115 : decode cL_lay 115 = .ok (.aload_n 1, 1) := by decide +kernel
theorem dL_lay_116 : decode cL_lay 116 = .ok (.invokestatic 29, 3) := by decide +kernel
theorem dL_lay_119 : decode cL_lay 119 = .ok (.iadd, 1) := by decide +kernel
theorem dL_lay_120 : decode cL_lay 120 = .ok (.istore 6, 2) := by decide +kernel
theorem dL_lay_122 : decode cL_lay 122 = .ok (.aload 4, 2) := by decide +kernel
theorem dL_lay_124 : decode cL_lay 124 = .ok (.iload 7, 2) := by decide +kernel
theorem dL_lay_126 : decode cL_lay 126 = .ok (.iload 6, 2) := by decide +kernel
theorem dL_lay_128 : decode cL_lay 128 = .ok (.iastore, 1) := by decide +kernel
theorem dL_lay_129 : decode cL_lay 129 = .ok (.iinc 7 1, 3) := by decide +kernel
theorem dL_lay_132 : decode cL_lay 132 = .ok (.goto (-123), 3) := by decide +kernel
theorem dL_lay_135 : decode cL_lay 135 = .ok (.return_, 1) := by decide +kernel
theorem dL_drift_0 : decode cL_drift 0 = .ok (.aload_n 1, 1) := by decide +kernel
theorem dL_drift_1 : decode cL_drift 1 = .ok (.iconst 2, 1) := by decide +kernel
theorem dL_drift_2 : decode cL_drift 2 = .ok (.iconst 4, 1) := by decide +kernel
theorem dL_drift_3 : decode cL_drift 3 = .ok (.iload_n 0, 1) := by decide +kernel
theorem dL_drift_4 : decode cL_drift 4 = .ok (.imul, 1) := by decide +kernel
theorem dL_drift_5 : decode cL_drift 5 = .ok (.iadd, 1) := by decide +kernel
theorem dL_drift_6 : decode cL_drift 6 = .ok (.iaload, 1) := by decide +kernel
theorem dL_drift_7 : decode cL_drift 7 = .ok (.ldc 21, 2) := by decide +kernel
theorem dL_drift_9 : decode cL_drift 9 = .ok (.if_icmp .ne 7, 3) := by decide +kernel
theorem dL_drift_12 : decode cL_drift 12 = .ok (.iconst 0, 1) := by decide +kernel
theorem dL_drift_13 : decode cL_drift 13 = .ok (.goto 14, 3) := by decide +kernel
theorem dL_drift_16 : decode cL_drift 16 = .ok (.aload_n 2, 1) := by decide +kernel
theorem dL_drift_17 : decode cL_drift 17 = .ok (.iconst 2, 1) := by decide +kernel
theorem dL_drift_18 : decode cL_drift 18 = .ok (.iload_n 0, 1) := by decide +kernel
theorem dL_drift_19 : decode cL_drift 19 = .ok (.imul, 1) := by decide +kernel
theorem dL_drift_20 : decode cL_drift 20 = .ok (.iconst 1, 1) := by decide +kernel
theorem dL_drift_21 : decode cL_drift 21 = .ok (.iadd, 1) := by decide +kernel
theorem dL_drift_22 : decode cL_drift 22 = .ok (.iaload, 1) := by decide +kernel
theorem dL_drift_23 : decode cL_drift 23 = .ok (.aload_n 3, 1) := by decide +kernel
theorem dL_drift_24 : decode cL_drift 24 = .ok (.iload_n 0, 1) := by decide +kernel
theorem dL_drift_25 : decode cL_drift 25 = .ok (.iaload, 1) := by decide +kernel
theorem dL_drift_26 : decode cL_drift 26 = .ok (.isub, 1) := by decide +kernel
theorem dL_drift_27 : decode cL_drift 27 = .ok (.ireturn, 1) := by decide +kernel
theorem dL_bads_0 : decode cL_bads 0 = .ok (.iconst 0, 1) := by decide +kernel
theorem dL_bads_1 : decode cL_bads 1 = .ok (.istore 4, 2) := by decide +kernel
theorem dL_bads_3 : decode cL_bads 3 = .ok (.iconst 0, 1) := by decide +kernel
theorem dL_bads_4 : decode cL_bads 4 = .ok (.istore 5, 2) := by decide +kernel
theorem dL_bads_6 : decode cL_bads 6 = .ok (.iload 5, 2) := by decide +kernel
theorem dL_bads_8 : decode cL_bads 8 = .ok (.aload_n 0, 1) := by decide +kernel
theorem dL_bads_9 : decode cL_bads 9 = .ok (.iconst 0, 1) := by decide +kernel
theorem dL_bads_10 : decode cL_bads 10 = .ok (.iaload, 1) := by decide +kernel
theorem dL_bads_11 : decode cL_bads 11 = .ok (.if_icmp .ge 36, 3) := by decide +kernel
theorem dL_bads_14 : decode cL_bads 14 = .ok (.iload 4, 2) := by decide +kernel
theorem dL_bads_16 : decode cL_bads 16 = .ok (.iload 5, 2) := by decide +kernel
theorem dL_bads_18 : decode cL_bads 18 = .ok (.aload_n 0, 1) := by decide +kernel
theorem dL_bads_19 : decode cL_bads 19 = .ok (.aload_n 1, 1) := by decide +kernel
theorem dL_bads_20 : decode cL_bads 20 = .ok (.aload_n 2, 1) := by decide +kernel
theorem dL_bads_21 : decode cL_bads 21 = .ok (.invokestatic 33, 3) := by decide +kernel
theorem dL_bads_24 : decode cL_bads 24 = .ok (.invokestatic 37, 3) := by decide +kernel
theorem dL_bads_27 : decode cL_bads 27 = .ok (.aload_n 3, 1) := by decide +kernel
theorem dL_bads_28 : decode cL_bads 28 = .ok (.iconst 1, 1) := by decide +kernel
theorem dL_bads_29 : decode cL_bads 29 = .ok (.iaload, 1) := by decide +kernel
theorem dL_bads_30 : decode cL_bads 30 = .ok (.if_icmp .le 7, 3) := by decide +kernel
theorem dL_bads_33 : decode cL_bads 33 = .ok (.iconst 1, 1) := by decide +kernel
theorem dL_bads_34 : decode cL_bads 34 = .ok (.goto 4, 3) := by decide +kernel
theorem dL_bads_37 : decode cL_bads 37 = .ok (.iconst 0, 1) := by decide +kernel
theorem dL_bads_38 : decode cL_bads 38 = .ok (.iadd, 1) := by decide +kernel
theorem dL_bads_39 : decode cL_bads 39 = .ok (.istore 4, 2) := by decide +kernel
theorem dL_bads_41 : decode cL_bads 41 = .ok (.iinc 5 1, 3) := by decide +kernel
theorem dL_bads_44 : decode cL_bads 44 = .ok (.goto (-38), 3) := by decide +kernel
theorem dL_bads_47 : decode cL_bads 47 = .ok (.iload 4, 2) := by decide +kernel
theorem dL_bads_49 : decode cL_bads 49 = .ok (.ireturn, 1) := by decide +kernel
theorem dL_drifts_0 : decode cL_drifts 0 = .ok (.iconst 0, 1) := by decide +kernel
theorem dL_drifts_1 : decode cL_drifts 1 = .ok (.istore_n 3, 1) := by decide +kernel
theorem dL_drifts_2 : decode cL_drifts 2 = .ok (.iconst 0, 1) := by decide +kernel
theorem dL_drifts_3 : decode cL_drifts 3 = .ok (.istore 4, 2) := by decide +kernel
theorem dL_drifts_5 : decode cL_drifts 5 = .ok (.iload 4, 2) := by decide +kernel
theorem dL_drifts_7 : decode cL_drifts 7 = .ok (.aload_n 0, 1) := by decide +kernel
theorem dL_drifts_8 : decode cL_drifts 8 = .ok (.iconst 0, 1) := by decide +kernel
theorem dL_drifts_9 : decode cL_drifts 9 = .ok (.iaload, 1) := by decide +kernel
theorem dL_drifts_10 : decode cL_drifts 10 = .ok (.if_icmp .ge 23, 3) := by decide +kernel
theorem dL_drifts_13 : decode cL_drifts 13 = .ok (.iload_n 3, 1) := by decide +kernel
theorem dL_drifts_14 : decode cL_drifts 14 = .ok (.iload 4, 2) := by decide +kernel
theorem dL_drifts_16 : decode cL_drifts 16 = .ok (.aload_n 0, 1) := by decide +kernel
theorem dL_drifts_17 : decode cL_drifts 17 = .ok (.aload_n 1, 1) := by decide +kernel
theorem dL_drifts_18 : decode cL_drifts 18 = .ok (.aload_n 2, 1) := by decide +kernel
theorem dL_drifts_19 : decode cL_drifts 19 = .ok (.invokestatic 33, 3) := by decide +kernel
theorem dL_drifts_22 : decode cL_drifts 22 = .ok (.invokestatic 37, 3) := by decide +kernel
theorem dL_drifts_25 : decode cL_drifts 25 = .ok (.iadd, 1) := by decide +kernel
theorem dL_drifts_26 : decode cL_drifts 26 = .ok (.istore_n 3, 1) := by decide +kernel
theorem dL_drifts_27 : decode cL_drifts 27 = .ok (.iinc 4 1, 3) := by decide +kernel
theorem dL_drifts_30 : decode cL_drifts 30 = .ok (.goto (-25), 3) := by decide +kernel
theorem dL_drifts_33 : decode cL_drifts 33 = .ok (.iload_n 3, 1) := by decide +kernel
theorem dL_drifts_34 : decode cL_drifts 34 = .ok (.ireturn, 1) := by decide +kernel
theorem dL_best_0 : decode cL_best 0 = .ok (.iconst 0, 1) := by decide +kernel
theorem dL_best_1 : decode cL_best 1 = .ok (.istore 7, 2) := by decide +kernel
theorem dL_best_3 : decode cL_best 3 = .ok (.ldc2_w 41, 3) := by decide +kernel
theorem dL_best_6 : decode cL_best 6 = .ok (.lstore 8, 2) := by decide +kernel
theorem dL_best_8 : decode cL_best 8 = .ok (.iconst 1, 1) := by decide +kernel
theorem dL_best_9 : decode cL_best 9 = .ok (.istore 10, 2) := by decide +kernel
theorem dL_best_11 : decode cL_best 11 = .ok (.iload 10, 2) := by decide +kernel
theorem dL_best_13 : decode cL_best 13 = .ok (.bipush 10, 2) := by decide +kernel
theorem dL_best_15 : decode cL_best 15 = .ok (.if_icmp .ge 133, 3) := by decide +kernel
theorem dL_best_18 : decode cL_best 18 = .ok (.bipush 100, 2) := by decide +kernel
theorem dL_best_20 : decode cL_best 20 = .ok (.aload 6, 2) := by decide +kernel
theorem dL_best_22 : decode cL_best 22 = .ok (.iconst 2, 1) := by decide +kernel
theorem dL_best_23 : decode cL_best 23 = .ok (.iaload, 1) := by decide +kernel
theorem dL_best_24 : decode cL_best 24 = .ok (.isub, 1) := by decide +kernel
theorem dL_best_25 : decode cL_best 25 = .ok (.istore 11, 2) := by decide +kernel
theorem dL_best_27 : decode cL_best 27 = .ok (.iload 11, 2) := by decide +kernel
theorem dL_best_29 : decode cL_best 29 = .ok (.bipush 100, 2) := by decide +kernel
theorem dL_best_31 : decode cL_best 31 = .ok (.aload 6, 2) := by decide +kernel
theorem dL_best_33 : decode cL_best 33 = .ok (.iconst 2, 1) := by decide +kernel
theorem dL_best_34 : decode cL_best 34 = .ok (.iaload, 1) := by decide +kernel
theorem dL_best_35 : decode cL_best 35 = .ok (.iadd, 1) := by decide +kernel
theorem dL_best_36 : decode cL_best 36 = .ok (.if_icmp .gt 106, 3) := by decide +kernel
theorem dL_best_39 : decode cL_best 39 = .ok (.aload 4, 2) := by decide +kernel
theorem dL_best_41 : decode cL_best 41 = .ok (.iconst 2, 1) := by decide +kernel
theorem dL_best_42 : decode cL_best 42 = .ok (.iload_n 0, 1) := by decide +kernel
theorem dL_best_43 : decode cL_best 43 = .ok (.imul, 1) := by decide +kernel
theorem dL_best_44 : decode cL_best 44 = .ok (.iaload, 1) := by decide +kernel
theorem dL_best_45 : decode cL_best 45 = .ok (.iload_n 1, 1) := by decide +kernel
theorem dL_best_46 : decode cL_best 46 = .ok (.iload 10, 2) := by decide +kernel
theorem dL_best_48 : decode cL_best 48 = .ok (.iload 11, 2) := by decide +kernel
theorem dL_best_50 : decode cL_best 50 = .ok (.aload_n 3, 1) := by decide +kernel
theorem dL_best_51 : decode cL_best 51 = .ok (.invokestatic 22, 3) := by decide +kernel
theorem dL_best_54 : decode cL_best 54 = .ok (.iadd, 1) := by decide +kernel
theorem dL_best_55 : decode cL_best 55 = .ok (.aload 5, 2) := by decide +kernel
theorem dL_best_57 : decode cL_best 57 = .ok (.iload_n 0, 1) := by decide +kernel
theorem dL_best_58 : decode cL_best 58 = .ok (.iaload, 1) := by decide +kernel
theorem dL_best_59 : decode cL_best 59 = .ok (.isub, 1) := by decide +kernel
theorem dL_best_60 : decode cL_best 60 = .ok (.invokestatic 37, 3) := by decide +kernel
theorem dL_best_63 : decode cL_best 63 = .ok (.i2l, 1) := by decide +kernel
theorem dL_best_64 : decode cL_best 64 = .ok (.lstore 12, 2) := by decide +kernel
theorem dL_best_66 : decode cL_best 66 = .ok (.lload 12, 2) := by decide +kernel
theorem dL_best_68 : decode cL_best 68 = .ok (.ldc2_w 43, 3) := by decide +kernel
theorem dL_best_71 : decode cL_best 71 = .ok (.lmul, 1) := by decide +kernel
theorem dL_best_72 : decode cL_best 72 = .ok (.iload 11, 2) := by decide +kernel
theorem dL_best_74 : decode cL_best 74 = .ok (.bipush 100, 2) := by decide +kernel
theorem dL_best_76 : decode cL_best 76 = .ok (.isub, 1) := by decide +kernel
theorem dL_best_77 : decode cL_best 77 = .ok (.invokestatic 37, 3) := by decide +kernel
theorem dL_best_80 : decode cL_best 80 = .ok (.i2l, 1) := by decide +kernel
theorem dL_best_81 : decode cL_best 81 = .ok (.ladd, 1) := by decide +kernel
theorem dL_best_82 : decode cL_best 82 = .ok (.ldc2_w 45, 3) := by decide +kernel
theorem dL_best_85 : decode cL_best 85 = .ok (.lmul, 1) := by decide +kernel
theorem dL_best_86 : decode cL_best 86 = .ok (.iload 10, 2) := by decide +kernel
theorem dL_best_88 : decode cL_best 88 = .ok (.i2l, 1) := by decide +kernel
theorem dL_best_89 : decode cL_best 89 = .ok (.ladd, 1) := by decide +kernel
theorem dL_best_90 : decode cL_best 90 = .ok (.ldc2_w 47, 3) := by decide +kernel
theorem dL_best_93 : decode cL_best 93 = .ok (.lmul, 1) := by decide +kernel
theorem dL_best_94 : decode cL_best 94 = .ok (.iload 11, 2) := by decide +kernel
theorem dL_best_96 : decode cL_best 96 = .ok (.bipush 100, 2) := by decide +kernel
theorem dL_best_98 : decode cL_best 98 = .ok (.if_icmp .le 7, 3) := by decide +kernel
theorem dL_best_101 : decode cL_best 101 = .ok (.iconst 1, 1) := by decide +kernel
theorem dL_best_102 : decode cL_best 102 = .ok (.goto 4, 3) := by decide +kernel
theorem dL_best_105 : decode cL_best 105 = .ok (.iconst 0, 1) := by decide +kernel
theorem dL_best_106 : decode cL_best 106 = .ok (.i2l, 1) := by decide +kernel
theorem dL_best_107 : decode cL_best 107 = .ok (.ladd, 1) := by decide +kernel
theorem dL_best_108 : decode cL_best 108 = .ok (.lstore 12, 2) := by decide +kernel
theorem dL_best_110 : decode cL_best 110 = .ok (.lload 12, 2) := by decide +kernel
theorem dL_best_112 : decode cL_best 112 = .ok (.lload 8, 2) := by decide +kernel
theorem dL_best_114 : decode cL_best 114 = .ok (.lcmp, 1) := by decide +kernel
theorem dL_best_115 : decode cL_best 115 = .ok (.ifCond .lt 6, 3) := by decide +kernel
theorem dL_best_118 : decode cL_best 118 = .ok (.goto 18, 3) := by decide +kernel
theorem dL_best_121 : decode cL_best 121 = .ok (.lload 12, 2) := by decide +kernel
theorem dL_best_123 : decode cL_best 123 = .ok (.lstore 8, 2) := by decide +kernel
theorem dL_best_125 : decode cL_best 125 = .ok (.sipush 1000, 3) := by decide +kernel
theorem dL_best_128 : decode cL_best 128 = .ok (.iload 10, 2) := by decide +kernel
theorem dL_best_130 : decode cL_best 130 = .ok (.imul, 1) := by decide +kernel
theorem dL_best_131 : decode cL_best 131 = .ok (.iload 11, 2) := by decide +kernel
theorem dL_best_133 : decode cL_best 133 = .ok (.iadd, 1) := by decide +kernel
theorem dL_best_134 : decode cL_best 134 = .ok (.istore 7, 2) := by decide +kernel
theorem dL_best_136 : decode cL_best 136 = .ok (.iinc 11 1, 3) := by decide +kernel
theorem dL_best_139 : decode cL_best 139 = .ok (.goto (-112), 3) := by decide +kernel
theorem dL_best_142 : decode cL_best 142 = .ok (.iinc 10 1, 3) := by decide +kernel
theorem dL_best_145 : decode cL_best 145 = .ok (.goto (-134), 3) := by decide +kernel
theorem dL_best_148 : decode cL_best 148 = .ok (.iload 7, 2) := by decide +kernel
theorem dL_best_150 : decode cL_best 150 = .ok (.ireturn, 1) := by decide +kernel
theorem dL_toldReel_0 : decode cL_toldReel 0 = .ok (.bipush 10, 2) := by decide +kernel
theorem dL_toldReel_2 : decode cL_toldReel 2 = .ok (.newarray .int, 2) := by decide +kernel
theorem dL_toldReel_4 : decode cL_toldReel 4 = .ok (.astore 6, 2) := by decide +kernel
theorem dL_toldReel_6 : decode cL_toldReel 6 = .ok (.iconst 5, 1) := by decide +kernel
theorem dL_toldReel_7 : decode cL_toldReel 7 = .ok (.newarray .int, 2) := by decide +kernel
theorem dL_toldReel_9 : decode cL_toldReel 9 = .ok (.astore 7, 2) := by decide +kernel
theorem dL_toldReel_11 : decode cL_toldReel 11 = .ok (.iconst 0, 1) := by decide +kernel
theorem dL_toldReel_12 : decode cL_toldReel 12 = .ok (.aload_n 3, 1) := by decide +kernel
theorem dL_toldReel_13 : decode cL_toldReel 13 = .ok (.aload 4, 2) := by decide +kernel
theorem dL_toldReel_15 : decode cL_toldReel 15 = .ok (.aload 6, 2) := by decide +kernel
theorem dL_toldReel_17 : decode cL_toldReel 17 = .ok (.aload 7, 2) := by decide +kernel
theorem dL_toldReel_19 : decode cL_toldReel 19 = .ok (.invokestatic 49, 3) := by decide +kernel
theorem dL_toldReel_22 : decode cL_toldReel 22 = .ok (.iconst 0, 1) := by decide +kernel
theorem dL_toldReel_23 : decode cL_toldReel 23 = .ok (.istore 8, 2) := by decide +kernel
theorem dL_toldReel_25 : decode cL_toldReel 25 = .ok (.iconst 0, 1) := by decide +kernel
theorem dL_toldReel_26 : decode cL_toldReel 26 = .ok (.istore 9, 2) := by decide +kernel
theorem dL_toldReel_28 : decode cL_toldReel 28 = .ok (.iconst 0, 1) := by decide +kernel
theorem dL_toldReel_29 : decode cL_toldReel 29 = .ok (.istore 10, 2) := by decide +kernel
theorem dL_toldReel_31 : decode cL_toldReel 31 = .ok (.aload_n 3, 1) := by decide +kernel
theorem dL_toldReel_32 : decode cL_toldReel 32 = .ok (.iconst 0, 1) := by decide +kernel
theorem dL_toldReel_33 : decode cL_toldReel 33 = .ok (.iaload, 1) := by decide +kernel
theorem dL_toldReel_34 : decode cL_toldReel 34 = .ok (.ifCond .ne 7, 3) := by decide +kernel
theorem dL_toldReel_37 : decode cL_toldReel 37 = .ok (.iconst 0, 1) := by decide +kernel
theorem dL_toldReel_38 : decode cL_toldReel 38 = .ok (.goto 11, 3) := by decide +kernel
theorem dL_toldReel_41 : decode cL_toldReel 41 = .ok (.aload 7, 2) := by decide +kernel
theorem dL_toldReel_43 : decode cL_toldReel 43 = .ok (.aload_n 3, 1) := by decide +kernel
theorem dL_toldReel_44 : decode cL_toldReel 44 = .ok (.iconst 0, 1) := by decide +kernel
theorem dL_toldReel_45 : decode cL_toldReel 45 = .ok (.iaload, 1) := by decide +kernel
theorem dL_toldReel_46 : decode cL_toldReel 46 = .ok (.iconst 1, 1) := by decide +kernel
theorem dL_toldReel_47 : decode cL_toldReel 47 = .ok (.isub, 1) := by decide +kernel
theorem dL_toldReel_48 : decode cL_toldReel 48 = .ok (.iaload, 1) := by decide +kernel
theorem dL_toldReel_49 : decode cL_toldReel 49 = .ok (.istore 11, 2) := by decide +kernel
theorem dL_toldReel_51 : decode cL_toldReel 51 = .ok (.iconst 0, 1) := by decide +kernel
theorem dL_toldReel_52 : decode cL_toldReel 52 = .ok (.istore 12, 2) := by decide +kernel
theorem dL_toldReel_54 : decode cL_toldReel 54 = .ok (.iconst 0, 1) := by decide +kernel
theorem dL_toldReel_55 : decode cL_toldReel 55 = .ok (.istore 13, 2) := by decide +kernel
theorem dL_toldReel_57 : decode cL_toldReel 57 = .ok (.iload 13, 2) := by decide +kernel
theorem dL_toldReel_59 : decode cL_toldReel 59 = .ok (.aload_n 3, 1) := by decide +kernel
theorem dL_toldReel_60 : decode cL_toldReel 60 = .ok (.iconst 0, 1) := by decide +kernel
theorem dL_toldReel_61 : decode cL_toldReel 61 = .ok (.iaload, 1) := by decide +kernel
theorem dL_toldReel_62 : decode cL_toldReel 62 = .ok (.if_icmp .ge 384, 3) := by decide +kernel
theorem dL_toldReel_65 : decode cL_toldReel 65 = .ok (.aload_n 3, 1) := by decide +kernel
theorem dL_toldReel_66 : decode cL_toldReel 66 = .ok (.iconst 2, 1) := by decide +kernel
theorem dL_toldReel_67 : decode cL_toldReel 67 = .ok (.iconst 4, 1) := by decide +kernel
theorem dL_toldReel_68 : decode cL_toldReel 68 = .ok (.iload 13, 2) := by decide +kernel
theorem dL_toldReel_70 : decode cL_toldReel 70 = .ok (.imul, 1) := by decide +kernel
theorem dL_toldReel_71 : decode cL_toldReel 71 = .ok (.iadd, 1) := by decide +kernel
theorem dL_toldReel_72 : decode cL_toldReel 72 = .ok (.iaload, 1) := by decide +kernel
theorem dL_toldReel_73 : decode cL_toldReel 73 = .ok (.ldc 21, 2) := by decide +kernel
theorem dL_toldReel_75 : decode cL_toldReel 75 = .ok (.if_icmp .eq 7, 3) := by decide +kernel
theorem dL_toldReel_78 : decode cL_toldReel 78 = .ok (.iconst 1, 1) := by decide +kernel
theorem dL_toldReel_79 : decode cL_toldReel 79 = .ok (.goto 4, 3) := by decide +kernel
theorem dL_toldReel_82 : decode cL_toldReel 82 = .ok (.iconst 0, 1) := by decide +kernel
theorem dL_toldReel_83 : decode cL_toldReel 83 = .ok (.istore 14, 2) := by decide +kernel
theorem dL_toldReel_85 : decode cL_toldReel 85 = .ok (.iload 13, 2) := by decide +kernel
theorem dL_toldReel_87 : decode cL_toldReel 87 = .ok (.ifCond .ne 7, 3) := by decide +kernel
theorem dL_toldReel_90 : decode cL_toldReel 90 = .ok (.iconst 0, 1) := by decide +kernel
theorem dL_toldReel_91 : decode cL_toldReel 91 = .ok (.goto 10, 3) := by decide +kernel
theorem dL_toldReel_94 : decode cL_toldReel 94 = .ok (.aload 7, 2) := by decide +kernel
theorem dL_toldReel_96 : decode cL_toldReel 96 = .ok (.iload 13, 2) := by decide +kernel
theorem dL_toldReel_98 : decode cL_toldReel 98 = .ok (.iconst 1, 1) := by decide +kernel
theorem dL_toldReel_99 : decode cL_toldReel 99 = .ok (.isub, 1) := by decide +kernel
theorem dL_toldReel_100 : decode cL_toldReel 100 = .ok (.iaload, 1) := by decide +kernel
theorem dL_toldReel_101 : decode cL_toldReel 101 = .ok (.istore 15, 2) := by decide +kernel
theorem dL_toldReel_103 : decode cL_toldReel 103 = .ok (.iload 13, 2) := by decide +kernel
theorem dL_toldReel_105 : decode cL_toldReel 105 = .ok (.aload_n 3, 1) := by decide +kernel
theorem dL_toldReel_106 : decode cL_toldReel 106 = .ok (.invokestatic 26, 3) := by decide +kernel
theorem dL_toldReel_109 : decode cL_toldReel 109 = .ok (.iload 13, 2) := by decide +kernel
theorem dL_toldReel_111 : decode cL_toldReel 111 = .ok (.iconst 1, 1) := by decide +kernel
theorem dL_toldReel_112 : decode cL_toldReel 112 = .ok (.iadd, 1) := by decide +kernel
theorem dL_toldReel_113 : decode cL_toldReel 113 = .ok (.aload_n 3, 1) := by decide +kernel
theorem dL_toldReel_114 : decode cL_toldReel 114 = .ok (.invokestatic 26, 3) := by decide +kernel
theorem dL_toldReel_117 : decode cL_toldReel 117 = .ok (.iconst 0, 1) := by decide +kernel
theorem dL_toldReel_118 : decode cL_toldReel 118 = .ok (.iconst 0, 1) := by decide +kernel
theorem dL_toldReel_119 : decode cL_toldReel 119 = .ok (.aload_n 3, 1) := by decide +kernel
theorem dL_toldReel_120 : decode cL_toldReel 120 = .ok (.invokestatic 29, 3) := by decide +kernel
theorem dL_toldReel_123 : decode cL_toldReel 123 = .ok (.istore 16, 2) := by decide +kernel
theorem dL_toldReel_125 : decode cL_toldReel 125 = .ok (.iload 13, 2) := by decide +kernel
theorem dL_toldReel_127 : decode cL_toldReel 127 = .ok (.aload_n 3, 1) := by decide +kernel
theorem dL_toldReel_128 : decode cL_toldReel 128 = .ok (.aload 6, 2) := by decide +kernel
theorem dL_toldReel_130 : decode cL_toldReel 130 = .ok (.aload 7, 2) := by decide +kernel
theorem dL_toldReel_132 : decode cL_toldReel 132 = .ok (.invokestatic 33, 3) := by decide +kernel
theorem dL_toldReel_135 : decode cL_toldReel 135 = .ok (.istore 17, 2) := by decide +kernel
theorem dL_toldReel_137 : decode cL_toldReel 137 = .ok (.iload 8, 2) := by decide +kernel
theorem dL_toldReel_139 : decode cL_toldReel 139 = .ok (.iload 16, 2) := by decide +kernel
theorem dL_toldReel_141 : decode cL_toldReel 141 = .ok (.iadd, 1) := by decide +kernel
theorem dL_toldReel_142 : decode cL_toldReel 142 = .ok (.istore 8, 2) := by decide +kernel
theorem dL_toldReel_144 : decode cL_toldReel 144 = .ok (.iload 9, 2) := by decide +kernel
theorem dL_toldReel_146 : decode cL_toldReel 146 = .ok (.iload 14, 2) := by decide +kernel
theorem dL_toldReel_148 : decode cL_toldReel 148 = .ok (.ifCond .eq 7, 3) := by decide +kernel
theorem dL_toldReel_151 : decode cL_toldReel 151 = .ok (.iconst 1, 1) := by decide +kernel
theorem dL_toldReel_152 : decode cL_toldReel 152 = .ok (.goto 4, 3) := by decide +kernel
theorem dL_toldReel_155 : decode cL_toldReel 155 = .ok (.iconst 0, 1) := by decide +kernel
theorem dL_toldReel_156 : decode cL_toldReel 156 = .ok (.iadd, 1) := by decide +kernel
theorem dL_toldReel_157 : decode cL_toldReel 157 = .ok (.istore 9, 2) := by decide +kernel
theorem dL_toldReel_159 : decode cL_toldReel 159 = .ok (.iload 14, 2) := by decide +kernel
theorem dL_toldReel_161 : decode cL_toldReel 161 = .ok (.ifCond .eq 60, 3) := by decide +kernel
theorem dL_toldReel_164 : decode cL_toldReel 164 = .ok (.aload 6, 2) := by decide +kernel
theorem dL_toldReel_166 : decode cL_toldReel 166 = .ok (.iconst 2, 1) := by decide +kernel
theorem dL_toldReel_167 : decode cL_toldReel 167 = .ok (.iload 13, 2) := by decide +kernel
theorem dL_toldReel_169 : decode cL_toldReel 169 = .ok (.imul, 1) := by decide +kernel
theorem dL_toldReel_170 : decode cL_toldReel 170 = .ok (.iaload, 1) := by decide +kernel
theorem dL_toldReel_171 : decode cL_toldReel 171 = .ok (.iload 11, 2) := by decide +kernel
theorem dL_toldReel_173 : decode cL_toldReel 173 = .ok (.if_icmp .ge 48, 3) := by decide +kernel
theorem dL_toldReel_176 : decode cL_toldReel 176 = .ok (.iload 10, 2) := by decide +kernel
theorem dL_toldReel_178 : decode cL_toldReel 178 = .ok (.aload 6, 2) := by decide +kernel
theorem dL_toldReel_180 : decode cL_toldReel 180 = .ok (.iconst 2, 1) := by decide +kernel
theorem dL_toldReel_181 : decode cL_toldReel 181 = .ok (.iload 13, 2) := by decide +kernel
theorem dL_toldReel_183 : decode cL_toldReel 183 = .ok (.imul, 1) := by decide +kernel
theorem dL_toldReel_184 : decode cL_toldReel 184 = .ok (.iaload, 1) := by decide +kernel
theorem dL_toldReel_185 : decode cL_toldReel 185 = .ok (.iload 12, 2) := by decide +kernel
theorem dL_toldReel_187 : decode cL_toldReel 187 = .ok (.isub, 1) := by decide +kernel
theorem dL_toldReel_188 : decode cL_toldReel 188 = .ok (.iadd, 1) := by decide +kernel
theorem dL_toldReel_189 : decode cL_toldReel 189 = .ok (.istore 10, 2) := by decide +kernel
theorem dL_toldReel_191 : decode cL_toldReel 191 = .ok (.aload 6, 2) := by decide +kernel
theorem dL_toldReel_193 : decode cL_toldReel 193 = .ok (.iconst 2, 1) := by decide +kernel
theorem dL_toldReel_194 : decode cL_toldReel 194 = .ok (.iload 13, 2) := by decide +kernel
theorem dL_toldReel_196 : decode cL_toldReel 196 = .ok (.imul, 1) := by decide +kernel
theorem dL_toldReel_197 : decode cL_toldReel 197 = .ok (.iconst 1, 1) := by decide +kernel
theorem dL_toldReel_198 : decode cL_toldReel 198 = .ok (.iadd, 1) := by decide +kernel
theorem dL_toldReel_199 : decode cL_toldReel 199 = .ok (.iaload, 1) := by decide +kernel
theorem dL_toldReel_200 : decode cL_toldReel 200 = .ok (.iload 11, 2) := by decide +kernel
theorem dL_toldReel_202 : decode cL_toldReel 202 = .ok (.if_icmp .ge 15, 3) := by decide +kernel
theorem dL_toldReel_205 : decode cL_toldReel 205 = .ok (.aload 6, 2) := by decide +kernel
theorem dL_toldReel_207 : decode cL_toldReel 207 = .ok (.iconst 2, 1) := by decide +kernel
theorem dL_toldReel_208 : decode cL_toldReel 208 = .ok (.iload 13, 2) := by decide +kernel
theorem dL_toldReel_210 : decode cL_toldReel 210 = .ok (.imul, 1) := by decide +kernel
theorem dL_toldReel_211 : decode cL_toldReel 211 = .ok (.iconst 1, 1) := by decide +kernel
theorem dL_toldReel_212 : decode cL_toldReel 212 = .ok (.iadd, 1) := by decide +kernel
theorem dL_toldReel_213 : decode cL_toldReel 213 = .ok (.iaload, 1) := by decide +kernel
theorem dL_toldReel_214 : decode cL_toldReel 214 = .ok (.goto 5, 3) := by decide +kernel
theorem dL_toldReel_217 : decode cL_toldReel 217 = .ok (.iload 11, 2) := by decide +kernel
theorem dL_toldReel_219 : decode cL_toldReel 219 = .ok (.istore 12, 2) := by decide +kernel
theorem dL_toldReel_221 : decode cL_toldReel 221 = .ok (.aload_n 0, 1) := by decide +kernel
theorem dL_toldReel_222 : decode cL_toldReel 222 = .ok (.iload_n 1, 1) := by decide +kernel
theorem dL_toldReel_223 : decode cL_toldReel 223 = .ok (.iload 13, 2) := by decide +kernel
theorem dL_toldReel_225 : decode cL_toldReel 225 = .ok (.iconst 0, 1) := by decide +kernel
theorem dL_toldReel_226 : decode cL_toldReel 226 = .ok (.invokevirtual 53, 3) := by decide +kernel
theorem dL_toldReel_229 : decode cL_toldReel 229 = .ok (.aload_n 3, 1) := by decide +kernel
theorem dL_toldReel_230 : decode cL_toldReel 230 = .ok (.iconst 1, 1) := by decide +kernel
theorem dL_toldReel_231 : decode cL_toldReel 231 = .ok (.iconst 4, 1) := by decide +kernel
theorem dL_toldReel_232 : decode cL_toldReel 232 = .ok (.iload 13, 2) := by decide +kernel
theorem dL_toldReel_234 : decode cL_toldReel 234 = .ok (.imul, 1) := by decide +kernel
theorem dL_toldReel_235 : decode cL_toldReel 235 = .ok (.iadd, 1) := by decide +kernel
theorem dL_toldReel_236 : decode cL_toldReel 236 = .ok (.iaload, 1) := by decide +kernel
theorem dL_toldReel_237 : decode cL_toldReel 237 = .ok (.if_icmp .ne 84, 3) := by decide +kernel
theorem dL_toldReel_240 : decode cL_toldReel 240 = .ok (.aload_n 0, 1) := by decide +kernel
theorem dL_toldReel_241 : decode cL_toldReel 241 = .ok (.iload_n 1, 1) := by decide +kernel
theorem dL_toldReel_242 : decode cL_toldReel 242 = .ok (.iload 13, 2) := by decide +kernel
theorem dL_toldReel_244 : decode cL_toldReel 244 = .ok (.iconst 1, 1) := by decide +kernel
theorem dL_toldReel_245 : decode cL_toldReel 245 = .ok (.invokevirtual 53, 3) := by decide +kernel
theorem dL_toldReel_248 : decode cL_toldReel 248 = .ok (.iload 13, 2) := by decide +kernel
theorem dL_toldReel_250 : decode cL_toldReel 250 = .ok (.aload_n 3, 1) := by decide +kernel
theorem dL_toldReel_251 : decode cL_toldReel 251 = .ok (.invokestatic 26, 3) := by decide +kernel
theorem dL_toldReel_254 : decode cL_toldReel 254 = .ok (.if_icmp .ne 67, 3) := by decide +kernel
theorem dL_toldReel_257 : decode cL_toldReel 257 = .ok (.aload_n 0, 1) := by decide +kernel
theorem dL_toldReel_258 : decode cL_toldReel 258 = .ok (.iload_n 1, 1) := by decide +kernel
theorem dL_toldReel_259 : decode cL_toldReel 259 = .ok (.iload 13, 2) := by decide +kernel
theorem dL_toldReel_261 : decode cL_toldReel 261 = .ok (.iconst 2, 1) := by decide +kernel
theorem dL_toldReel_262 : decode cL_toldReel 262 = .ok (.invokevirtual 53, 3) := by decide +kernel
theorem dL_toldReel_265 : decode cL_toldReel 265 = .ok (.iload 16, 2) := by decide +kernel
theorem dL_toldReel_267 : decode cL_toldReel 267 = .ok (.if_icmp .ne 54, 3) := by decide +kernel
theorem dL_toldReel_270 : decode cL_toldReel 270 = .ok (.aload_n 0, 1) := by decide +kernel
theorem dL_toldReel_271 : decode cL_toldReel 271 = .ok (.iload_n 1, 1) := by decide +kernel
theorem dL_toldReel_272 : decode cL_toldReel 272 = .ok (.iload 13, 2) := by decide +kernel
theorem dL_toldReel_274 : decode cL_toldReel 274 = .ok (.iconst 3, 1) := by decide +kernel
theorem dL_toldReel_275 : decode cL_toldReel 275 = .ok (.invokevirtual 53, 3) := by decide +kernel
theorem dL_toldReel_278 : decode cL_toldReel 278 = .ok (.aload 7, 2) := by decide +kernel
theorem dL_toldReel_280 : decode cL_toldReel 280 = .ok (.iload 13, 2) := by decide +kernel
theorem dL_toldReel_282 : decode cL_toldReel 282 = .ok (.iaload, 1) := by decide +kernel
theorem dL_toldReel_283 : decode cL_toldReel 283 = .ok (.iload 15, 2) := by decide +kernel
theorem dL_toldReel_285 : decode cL_toldReel 285 = .ok (.isub, 1) := by decide +kernel
theorem dL_toldReel_286 : decode cL_toldReel 286 = .ok (.if_icmp .ne 35, 3) := by decide +kernel
theorem dL_toldReel_289 : decode cL_toldReel 289 = .ok (.aload_n 0, 1) := by decide +kernel
theorem dL_toldReel_290 : decode cL_toldReel 290 = .ok (.iload_n 1, 1) := by decide +kernel
theorem dL_toldReel_291 : decode cL_toldReel 291 = .ok (.iload 13, 2) := by decide +kernel
theorem dL_toldReel_293 : decode cL_toldReel 293 = .ok (.iconst 4, 1) := by decide +kernel
theorem dL_toldReel_294 : decode cL_toldReel 294 = .ok (.invokevirtual 53, 3) := by decide +kernel
theorem dL_toldReel_297 : decode cL_toldReel 297 = .ok (.iload 15, 2) := by decide +kernel
theorem dL_toldReel_299 : decode cL_toldReel 299 = .ok (.if_icmp .ne 22, 3) := by decide +kernel
theorem dL_toldReel_302 : decode cL_toldReel 302 = .ok (.aload_n 0, 1) := by decide +kernel
theorem dL_toldReel_303 : decode cL_toldReel 303 = .ok (.iload_n 1, 1) := by decide +kernel
theorem dL_toldReel_304 : decode cL_toldReel 304 = .ok (.iload 13, 2) := by decide +kernel
theorem dL_toldReel_306 : decode cL_toldReel 306 = .ok (.iconst 5, 1) := by decide +kernel
theorem dL_toldReel_307 : decode cL_toldReel 307 = .ok (.invokevirtual 53, 3) := by decide +kernel
theorem dL_toldReel_310 : decode cL_toldReel 310 = .ok (.aload_n 3, 1) := by decide +kernel
theorem dL_toldReel_311 : decode cL_toldReel 311 = .ok (.iconst 2, 1) := by decide +kernel
theorem dL_toldReel_312 : decode cL_toldReel 312 = .ok (.iconst 4, 1) := by decide +kernel
theorem dL_toldReel_313 : decode cL_toldReel 313 = .ok (.iload 13, 2) := by decide +kernel
theorem dL_toldReel_315 : decode cL_toldReel 315 = .ok (.imul, 1) := by decide +kernel
theorem dL_toldReel_316 : decode cL_toldReel 316 = .ok (.iadd, 1) := by decide +kernel
theorem dL_toldReel_317 : decode cL_toldReel 317 = .ok (.iaload, 1) := by decide +kernel
theorem dL_toldReel_318 : decode cL_toldReel 318 = .ok (.if_icmp .eq 5, 3) := by decide +kernel
theorem dL_toldReel_321 : decode cL_toldReel 321 = .ok (.iconst 0, 1) := by decide +kernel
theorem dL_toldReel_322 : decode cL_toldReel 322 = .ok (.ireturn, 1) := by decide +kernel
theorem dL_toldReel_323 : decode cL_toldReel 323 = .ok (.bipush 6, 2) := by decide +kernel
theorem dL_toldReel_325 : decode cL_toldReel 325 = .ok (.istore 18, 2) := by decide +kernel
theorem dL_toldReel_327 : decode cL_toldReel 327 = .ok (.iload 18, 2) := by decide +kernel
theorem dL_toldReel_329 : decode cL_toldReel 329 = .ok (.bipush 11, 2) := by decide +kernel
theorem dL_toldReel_331 : decode cL_toldReel 331 = .ok (.if_icmp .ge 78, 3) := by decide +kernel
theorem dL_toldReel_334 : decode cL_toldReel 334 = .ok (.aload_n 0, 1) := by decide +kernel
theorem dL_toldReel_335 : decode cL_toldReel 335 = .ok (.iload_n 1, 1) := by decide +kernel
theorem dL_toldReel_336 : decode cL_toldReel 336 = .ok (.iload 13, 2) := by decide +kernel
theorem dL_toldReel_338 : decode cL_toldReel 338 = .ok (.iload 18, 2) := by decide +kernel
theorem dL_toldReel_340 : decode cL_toldReel 340 = .ok (.invokevirtual 53, 3) := by decide +kernel
theorem dL_toldReel_343 : decode cL_toldReel 343 = .ok (.iload 14, 2) := by decide +kernel
theorem dL_toldReel_345 : decode cL_toldReel 345 = .ok (.ifCond .ne 7, 3) := by decide +kernel
theorem dL_toldReel_348 : decode cL_toldReel 348 = .ok (.iconst 0, 1) := by decide +kernel
theorem dL_toldReel_349 : decode cL_toldReel 349 = .ok (.goto 49, 3) := by decide +kernel
theorem dL_toldReel_352 : decode cL_toldReel 352 = .ok (.iload 18, 2) := by decide +kernel
theorem dL_toldReel_354 : decode cL_toldReel 354 = .ok (.bipush 8, 2) := by decide +kernel
theorem dL_toldReel_356 : decode cL_toldReel 356 = .ok (.if_icmp .ge 17, 3) := by decide +kernel
theorem dL_toldReel_359 : decode cL_toldReel 359 = .ok (.aload_n 3, 1) := by decide +kernel
theorem dL_toldReel_360 : decode cL_toldReel 360 = .ok (.iconst 4, 1) := by decide +kernel
theorem dL_toldReel_361 : decode cL_toldReel 361 = .ok (.iload 13, 2) := by decide +kernel
theorem dL_toldReel_363 : decode cL_toldReel 363 = .ok (.imul, 1) := by decide +kernel
theorem dL_toldReel_364 : decode cL_toldReel 364 = .ok (.iload 18, 2) := by decide +kernel
theorem dL_toldReel_366 : decode cL_toldReel 366 = .ok (.iadd, 1) := by decide +kernel
theorem dL_toldReel_367 : decode cL_toldReel 367 = .ok (.iconst 3, 1) := by decide +kernel
theorem dL_toldReel_368 : decode cL_toldReel 368 = .ok (.isub, 1) := by decide +kernel
theorem dL_toldReel_369 : decode cL_toldReel 369 = .ok (.iaload, 1) := by decide +kernel
theorem dL_toldReel_370 : decode cL_toldReel 370 = .ok (.goto 28, 3) := by decide +kernel
theorem dL_toldReel_373 : decode cL_toldReel 373 = .ok (.iload 18, 2) := by decide +kernel
theorem dL_toldReel_375 : decode cL_toldReel 375 = .ok (.bipush 10, 2) := by decide +kernel
theorem dL_toldReel_377 : decode cL_toldReel 377 = .ok (.if_icmp .ge 19, 3) := by decide +kernel
theorem dL_toldReel_380 : decode cL_toldReel 380 = .ok (.aload 6, 2) := by decide +kernel
theorem dL_toldReel_382 : decode cL_toldReel 382 = .ok (.iconst 2, 1) := by decide +kernel
theorem dL_toldReel_383 : decode cL_toldReel 383 = .ok (.iload 13, 2) := by decide +kernel
theorem dL_toldReel_385 : decode cL_toldReel 385 = .ok (.imul, 1) := by decide +kernel
theorem dL_toldReel_386 : decode cL_toldReel 386 = .ok (.iload 18, 2) := by decide +kernel
theorem dL_toldReel_388 : decode cL_toldReel 388 = .ok (.iadd, 1) := by decide +kernel
theorem dL_toldReel_389 : decode cL_toldReel 389 = .ok (.bipush 8, 2) := by decide +kernel
theorem dL_toldReel_391 : decode cL_toldReel 391 = .ok (.isub, 1) := by decide +kernel
theorem dL_toldReel_392 : decode cL_toldReel 392 = .ok (.iaload, 1) := by decide +kernel
theorem dL_toldReel_393 : decode cL_toldReel 393 = .ok (.goto 5, 3) := by decide +kernel
theorem dL_toldReel_396 : decode cL_toldReel 396 = .ok (.iload 17, 2) := by decide +kernel
theorem dL_toldReel_398 : decode cL_toldReel 398 = .ok (.if_icmp .eq 5, 3) := by decide +kernel
theorem dL_toldReel_401 : decode cL_toldReel 401 = .ok (.iconst 0, 1) := by decide +kernel
theorem dL_toldReel_402 : decode cL_toldReel 402 = .ok (.ireturn, 1) := by decide +kernel
theorem dL_toldReel_403 : decode cL_toldReel 403 = .ok (.iinc 18 1, 3) := by decide +kernel
theorem dL_toldReel_406 : decode cL_toldReel 406 = .ok (.goto (-79), 3) := by decide +kernel
theorem dL_toldReel_409 : decode cL_toldReel 409 = .ok (.aload_n 0, 1) := by decide +kernel
theorem dL_toldReel_410 : decode cL_toldReel 410 = .ok (.iload_n 1, 1) := by decide +kernel
theorem dL_toldReel_411 : decode cL_toldReel 411 = .ok (.iload 13, 2) := by decide +kernel
theorem dL_toldReel_413 : decode cL_toldReel 413 = .ok (.bipush 11, 2) := by decide +kernel
theorem dL_toldReel_415 : decode cL_toldReel 415 = .ok (.invokevirtual 53, 3) := by decide +kernel
theorem dL_toldReel_418 : decode cL_toldReel 418 = .ok (.iload 17, 2) := by decide +kernel
theorem dL_toldReel_420 : decode cL_toldReel 420 = .ok (.invokestatic 37, 3) := by decide +kernel
theorem dL_toldReel_423 : decode cL_toldReel 423 = .ok (.aload 5, 2) := by decide +kernel
theorem dL_toldReel_425 : decode cL_toldReel 425 = .ok (.iconst 1, 1) := by decide +kernel
theorem dL_toldReel_426 : decode cL_toldReel 426 = .ok (.iaload, 1) := by decide +kernel
theorem dL_toldReel_427 : decode cL_toldReel 427 = .ok (.if_icmp .le 7, 3) := by decide +kernel
theorem dL_toldReel_430 : decode cL_toldReel 430 = .ok (.iconst 1, 1) := by decide +kernel
theorem dL_toldReel_431 : decode cL_toldReel 431 = .ok (.goto 4, 3) := by decide +kernel
theorem dL_toldReel_434 : decode cL_toldReel 434 = .ok (.iconst 0, 1) := by decide +kernel
theorem dL_toldReel_435 : decode cL_toldReel 435 = .ok (.if_icmp .eq 5, 3) := by decide +kernel
theorem dL_toldReel_438 : decode cL_toldReel 438 = .ok (.iconst 0, 1) := by decide +kernel
theorem dL_toldReel_439 : decode cL_toldReel 439 = .ok (.ireturn, 1) := by decide +kernel
theorem dL_toldReel_440 : decode cL_toldReel 440 = .ok (.iinc 13 1, 3) := by decide +kernel
theorem dL_toldReel_443 : decode cL_toldReel 443 = .ok (.goto (-386), 3) := by decide +kernel
theorem dL_toldReel_446 : decode cL_toldReel 446 = .ok (.iload 10, 2) := by decide +kernel
theorem dL_toldReel_448 : decode cL_toldReel 448 = .ok (.iload 11, 2) := by decide +kernel
theorem dL_toldReel_450 : decode cL_toldReel 450 = .ok (.iload 12, 2) := by decide +kernel
theorem dL_toldReel_452 : decode cL_toldReel 452 = .ok (.isub, 1) := by decide +kernel
theorem dL_toldReel_453 : decode cL_toldReel 453 = .ok (.iadd, 1) := by decide +kernel
theorem dL_toldReel_454 : decode cL_toldReel 454 = .ok (.istore 10, 2) := by decide +kernel
theorem dL_toldReel_456 : decode cL_toldReel 456 = .ok (.iconst 0, 1) := by decide +kernel
theorem dL_toldReel_457 : decode cL_toldReel 457 = .ok (.istore 13, 2) := by decide +kernel
theorem dL_toldReel_459 : decode cL_toldReel 459 = .ok (.iconst 0, 1) := by decide +kernel
theorem dL_toldReel_460 : decode cL_toldReel 460 = .ok (.istore 14, 2) := by decide +kernel
