theorem dX0_init_0 : decode cX0_init 0 = .ok (.aload_n 0, 1) := by decide +kernel
theorem dX0_init_1 : decode cX0_init 1 = .ok (.invokespecial 3, 3) := by decide +kernel
theorem dX0_init_4 : decode cX0_init 4 = .ok (.return_, 1) := by decide +kernel
theorem dX0_search_0 : decode cX0_search 0 = .ok (.aload_n 1, 1) := by decide +kernel
theorem dX0_search_1 : decode cX0_search 1 = .ok (.getfield 9, 3) := by decide +kernel
theorem dX0_search_4 : decode cX0_search 4 = .ok (.iload_n 2, 1) := by decide +kernel
theorem dX0_search_5 : decode cX0_search 5 = .ok (.invokevirtual 15, 3) := by decide +kernel
theorem dX0_search_8 : decode cX0_search 8 = .ok (.istore 4, 2) := by decide +kernel
theorem dX0_search_10 : decode cX0_search 10 = .ok (.aload_n 1, 1) := by decide +kernel
theorem dX0_search_11 : decode cX0_search 11 = .ok (.getfield 21, 3) := by decide +kernel
theorem dX0_search_14 : decode cX0_search 14 = .ok (.iload_n 2, 1) := by decide +kernel
theorem dX0_search_15 : decode cX0_search 15 = .ok (.invokevirtual 15, 3) := by decide +kernel
theorem dX0_search_18 : decode cX0_search 18 = .ok (.aload_n 1, 1) := by decide +kernel
theorem dX0_search_19 : decode cX0_search 19 = .ok (.getfield 24, 3) := by decide +kernel
theorem dX0_search_22 : decode cX0_search 22 = .ok (.iload_n 2, 1) := by decide +kernel
theorem dX0_search_23 : decode cX0_search 23 = .ok (.invokevirtual 15, 3) := by decide +kernel
theorem dX0_search_26 : decode cX0_search 26 = .ok (.iadd, 1) := by decide +kernel
theorem dX0_search_27 : decode cX0_search 27 = .ok (.istore 5, 2) := by decide +kernel
theorem dX0_search_29 : decode cX0_search 29 = .ok (.aload_n 0, 1) := by decide +kernel
theorem dX0_search_30 : decode cX0_search 30 = .ok (.ldc 27, 2) := by decide +kernel
theorem dX0_search_32 : decode cX0_search 32 = .ok (.putfield 28, 3) := by decide +kernel
theorem dX0_search_35 : decode cX0_search 35 = .ok (.iconst 0, 1) := by decide +kernel
theorem dX0_search_36 : decode cX0_search 36 = .ok (.istore 6, 2) := by decide +kernel
theorem dX0_search_38 : decode cX0_search 38 = .ok (.iload 6, 2) := by decide +kernel
theorem dX0_search_40 : decode cX0_search 40 = .ok (.aload_n 1, 1) := by decide +kernel
theorem dX0_search_41 : decode cX0_search 41 = .ok (.getfield 34, 3) := by decide +kernel
theorem dX0_search_44 : decode cX0_search 44 = .ok (.if_icmp .gt 27, 3) := by decide +kernel
theorem dX0_search_47 : decode cX0_search 47 = .ok (.aload_n 0, 1) := by decide +kernel
theorem dX0_search_48 : decode cX0_search 48 = .ok (.getfield 28, 3) := by decide +kernel
theorem dX0_search_51 : decode cX0_search 51 = .ok (.ifCond .le 20, 3) := by decide +kernel
theorem dX0_search_54 : decode cX0_search 54 = .ok (.aload_n 0, 1) := by decide +kernel
theorem dX0_search_55 : decode cX0_search 55 = .ok (.iload 5, 2) := by decide +kernel
theorem dX0_search_57 : decode cX0_search 57 = .ok (.iload 4, 2) := by decide +kernel
theorem dX0_search_59 : decode cX0_search 59 = .ok (.iload_n 3, 1) := by decide +kernel
theorem dX0_search_60 : decode cX0_search 60 = .ok (.iload 6, 2) := by decide +kernel
theorem dX0_search_62 : decode cX0_search 62 = .ok (.invokevirtual 37, 3) := by decide +kernel
theorem dX0_search_65 : decode cX0_search 65 = .ok (.iinc 6 1, 3) := by decide +kernel
theorem dX0_search_68 : decode cX0_search 68 = .ok (.goto (-30), 3) := by decide +kernel
theorem dX0_search_71 : decode cX0_search 71 = .ok (.return_, 1) := by decide +kernel
theorem dX0_tryPaces_0 : decode cX0_tryPaces 0 = .ok (.iconst 1, 1) := by decide +kernel
theorem dX0_tryPaces_1 : decode cX0_tryPaces 1 = .ok (.istore 5, 2) := by decide +kernel
theorem dX0_tryPaces_3 : decode cX0_tryPaces 3 = .ok (.iload 5, 2) := by decide +kernel
theorem dX0_tryPaces_5 : decode cX0_tryPaces 5 = .ok (.bipush 9, 2) := by decide +kernel
theorem dX0_tryPaces_7 : decode cX0_tryPaces 7 = .ok (.if_icmp .gt 73, 3) := by decide +kernel
theorem dX0_tryPaces_10 : decode cX0_tryPaces 10 = .ok (.iload_n 1, 1) := by decide +kernel
theorem dX0_tryPaces_11 : decode cX0_tryPaces 11 = .ok (.iload 5, 2) := by decide +kernel
theorem dX0_tryPaces_13 : decode cX0_tryPaces 13 = .ok (.iload_n 2, 1) := by decide +kernel
theorem dX0_tryPaces_14 : decode cX0_tryPaces 14 = .ok (.imul, 1) := by decide +kernel
theorem dX0_tryPaces_15 : decode cX0_tryPaces 15 = .ok (.iadd, 1) := by decide +kernel
theorem dX0_tryPaces_16 : decode cX0_tryPaces 16 = .ok (.istore 6, 2) := by decide +kernel
theorem dX0_tryPaces_18 : decode cX0_tryPaces 18 = .ok (.aload_n 0, 1) := by decide +kernel
theorem dX0_tryPaces_19 : decode cX0_tryPaces 19 = .ok (.iload 5, 2) := by decide +kernel
theorem dX0_tryPaces_21 : decode cX0_tryPaces 21 = .ok (.bipush 100, 2) := by decide +kernel
theorem dX0_tryPaces_23 : decode cX0_tryPaces 23 = .ok (.iload 4, 2) := by decide +kernel
theorem dX0_tryPaces_25 : decode cX0_tryPaces 25 = .ok (.isub, 1) := by decide +kernel
theorem dX0_tryPaces_26 : decode cX0_tryPaces 26 = .ok (.iload 6, 2) := by decide +kernel
theorem dX0_tryPaces_28 : decode cX0_tryPaces 28 = .ok (.bipush 100, 2) := by decide +kernel
theorem dX0_tryPaces_30 : decode cX0_tryPaces 30 = .ok (.iload 4, 2) := by decide +kernel
theorem dX0_tryPaces_32 : decode cX0_tryPaces 32 = .ok (.isub, 1) := by decide +kernel
theorem dX0_tryPaces_33 : decode cX0_tryPaces 33 = .ok (.invokestatic 41, 3) := by decide +kernel
theorem dX0_tryPaces_36 : decode cX0_tryPaces 36 = .ok (.iload_n 3, 1) := by decide +kernel
theorem dX0_tryPaces_37 : decode cX0_tryPaces 37 = .ok (.isub, 1) := by decide +kernel
theorem dX0_tryPaces_38 : decode cX0_tryPaces 38 = .ok (.invokevirtual 45, 3) := by decide +kernel
theorem dX0_tryPaces_41 : decode cX0_tryPaces 41 = .ok (.iload 6, 2) := by decide +kernel
theorem dX0_tryPaces_43 : decode cX0_tryPaces 43 = .ok (.bipush 100, 2) := by decide +kernel
theorem dX0_tryPaces_45 : decode cX0_tryPaces 45 = .ok (.iload 4, 2) := by decide +kernel
theorem dX0_tryPaces_47 : decode cX0_tryPaces 47 = .ok (.iadd, 1) := by decide +kernel
theorem dX0_tryPaces_48 : decode cX0_tryPaces 48 = .ok (.invokestatic 41, 3) := by decide +kernel
theorem dX0_tryPaces_51 : decode cX0_tryPaces 51 = .ok (.iload_n 3, 1) := by decide +kernel
theorem dX0_tryPaces_52 : decode cX0_tryPaces 52 = .ok (.isub, 1) := by decide +kernel
theorem dX0_tryPaces_53 : decode cX0_tryPaces 53 = .ok (.istore 7, 2) := by decide +kernel
theorem dX0_tryPaces_55 : decode cX0_tryPaces 55 = .ok (.aload_n 0, 1) := by decide +kernel
theorem dX0_tryPaces_56 : decode cX0_tryPaces 56 = .ok (.iload 5, 2) := by decide +kernel
theorem dX0_tryPaces_58 : decode cX0_tryPaces 58 = .ok (.bipush 100, 2) := by decide +kernel
theorem dX0_tryPaces_60 : decode cX0_tryPaces 60 = .ok (.iload 4, 2) := by decide +kernel
theorem dX0_tryPaces_62 : decode cX0_tryPaces 62 = .ok (.iadd, 1) := by decide +kernel
theorem dX0_tryPaces_63 : decode cX0_tryPaces 63 = .ok (.iload 7, 2) := by decide +kernel
theorem dX0_tryPaces_65 : decode cX0_tryPaces 65 = .ok (.invokevirtual 45, 3) := by decide +kernel
theorem dX0_tryPaces_68 : decode cX0_tryPaces 68 = .ok (.iload 7, 2) := by decide +kernel
theorem dX0_tryPaces_70 : decode cX0_tryPaces 70 = .ok (.ifCond .lt 4, 3) := by decide +kernel
theorem dX0_tryPaces_73 : decode cX0_tryPaces 73 = .ok (.return_, 1) := by decide +kernel
theorem dX0_tryPaces_74 : decode cX0_tryPaces 74 = .ok (.iinc 5 1, 3) := by decide +kernel
theorem dX0_tryPaces_77 : decode cX0_tryPaces 77 = .ok (.goto (-74), 3) := by decide +kernel
theorem dX0_tryPaces_80 : decode cX0_tryPaces 80 = .ok (.return_, 1) := by decide +kernel
theorem dX0_consider_0 : decode cX0_consider 0 = .ok (.iload_n 3, 1) := by decide +kernel
theorem dX0_consider_1 : decode cX0_consider 1 = .ok (.invokestatic 49, 3) := by decide +kernel
theorem dX0_consider_4 : decode cX0_consider 4 = .ok (.aload_n 0, 1) := by decide +kernel
theorem dX0_consider_5 : decode cX0_consider 5 = .ok (.getfield 28, 3) := by decide +kernel
theorem dX0_consider_8 : decode cX0_consider 8 = .ok (.if_icmp .ge 21, 3) := by decide +kernel
theorem dX0_consider_11 : decode cX0_consider 11 = .ok (.aload_n 0, 1) := by decide +kernel
theorem dX0_consider_12 : decode cX0_consider 12 = .ok (.iload_n 1, 1) := by decide +kernel
theorem dX0_consider_13 : decode cX0_consider 13 = .ok (.putfield 54, 3) := by decide +kernel
theorem dX0_consider_16 : decode cX0_consider 16 = .ok (.aload_n 0, 1) := by decide +kernel
theorem dX0_consider_17 : decode cX0_consider 17 = .ok (.iload_n 2, 1) := by decide +kernel
theorem dX0_consider_18 : decode cX0_consider 18 = .ok (.putfield 56, 3) := by decide +kernel
theorem dX0_consider_21 : decode cX0_consider 21 = .ok (.aload_n 0, 1) := by decide +kernel
theorem dX0_consider_22 : decode cX0_consider 22 = .ok (.iload_n 3, 1) := by decide +kernel
theorem dX0_consider_23 : decode cX0_consider 23 = .ok (.invokestatic 49, 3) := by decide +kernel
theorem dX0_consider_26 : decode cX0_consider 26 = .ok (.putfield 28, 3) := by decide +kernel
theorem dX0_consider_29 : decode cX0_consider 29 = .ok (.return_, 1) := by decide +kernel
theorem dX1_init_0 : decode cX1_init 0 = .ok (.aload_n 0, 1) := by decide +kernel
theorem dX1_init_1 : decode cX1_init 1 = .ok (.invokespecial 3, 3) := by decide +kernel
theorem dX1_init_4 : decode cX1_init 4 = .ok (.aload_n 0, 1) := by decide +kernel
theorem dX1_init_5 : decode cX1_init 5 = .ok (.new 9, 3) := by decide +kernel
theorem dX1_init_8 : decode cX1_init 8 = .ok (.dup, 1) := by decide +kernel
theorem dX1_init_9 : decode cX1_init 9 = .ok (.bipush 6, 2) := by decide +kernel
theorem dX1_init_11 : decode cX1_init 11 = .ok (.invokespecial 11, 3) := by decide +kernel
theorem dX1_init_14 : decode cX1_init 14 = .ok (.putfield 14, 3) := by decide +kernel
theorem dX1_init_17 : decode cX1_init 17 = .ok (.aload_n 0, 1) := by decide +kernel
theorem dX1_init_18 : decode cX1_init 18 = .ok (.new 9, 3) := by decide +kernel
theorem dX1_init_21 : decode cX1_init 21 = .ok (.dup, 1) := by decide +kernel
theorem dX1_init_22 : decode cX1_init 22 = .ok (.bipush 6, 2) := by decide +kernel
theorem dX1_init_24 : decode cX1_init 24 = .ok (.invokespecial 11, 3) := by decide +kernel
theorem dX1_init_27 : decode cX1_init 27 = .ok (.putfield 20, 3) := by decide +kernel
theorem dX1_init_30 : decode cX1_init 30 = .ok (.return_, 1) := by decide +kernel
theorem dX1_size_0 : decode cX1_size 0 = .ok (.aload_n 0, 1) := by decide +kernel
theorem dX1_size_1 : decode cX1_size 1 = .ok (.getfield 14, 3) := by decide +kernel
theorem dX1_size_4 : decode cX1_size 4 = .ok (.invokevirtual 23, 3) := by decide +kernel
theorem dX1_size_7 : decode cX1_size 7 = .ok (.ireturn, 1) := by decide +kernel
theorem dX1_placeOf_0 : decode cX1_placeOf 0 = .ok (.iconst 0, 1) := by decide +kernel
theorem dX1_placeOf_1 : decode cX1_placeOf 1 = .ok (.istore_n 2, 1) := by decide +kernel
theorem dX1_placeOf_2 : decode cX1_placeOf 2 = .ok (.iload_n 2, 1) := by decide +kernel
theorem dX1_placeOf_3 : decode cX1_placeOf 3 = .ok (.aload_n 0, 1) := by decide +kernel
theorem dX1_placeOf_4 : decode cX1_placeOf 4 = .ok (.getfield 14, 3) := by decide +kernel
theorem dX1_placeOf_7 : decode cX1_placeOf 7 = .ok (.invokevirtual 23, 3) := by decide +kernel
theorem dX1_placeOf_10 : decode cX1_placeOf 10 = .ok (.if_icmp .ge 21, 3) := by decide +kernel
theorem dX1_placeOf_13 : decode cX1_placeOf 13 = .ok (.aload_n 0, 1) := by decide +kernel
theorem dX1_placeOf_14 : decode cX1_placeOf 14 = .ok (.getfield 14, 3) := by decide +kernel
theorem dX1_placeOf_17 : decode cX1_placeOf 17 = .ok (.iload_n 2, 1) := by decide +kernel
theorem dX1_placeOf_18 : decode cX1_placeOf 18 = .ok (.invokevirtual 27, 3) := by decide +kernel
theorem dX1_placeOf_21 : decode cX1_placeOf 21 = .ok (.iload_n 1, 1) := by decide +kernel
theorem dX1_placeOf_22 : decode cX1_placeOf 22 = .ok (.if_icmp .ge 9, 3) := by decide +kernel
theorem dX1_placeOf_25 : decode cX1_placeOf 25 = .ok (.iinc 2 1, 3) := by decide +kernel
theorem dX1_placeOf_28 : decode cX1_placeOf 28 = .ok (.goto (-26), 3) := by decide +kernel
theorem dX1_placeOf_31 : decode cX1_placeOf 31 = .ok (.iload_n 2, 1) := by decide +kernel
theorem dX1_placeOf_32 : decode cX1_placeOf 32 = .ok (.ireturn, 1) := by decide +kernel
theorem dX1_isAt_0 : decode cX1_isAt 0 = .ok (.iload_n 1, 1) := by decide +kernel
theorem dX1_isAt_1 : decode cX1_isAt 1 = .ok (.aload_n 0, 1) := by decide +kernel
theorem dX1_isAt_2 : decode cX1_isAt 2 = .ok (.getfield 14, 3) := by decide +kernel
theorem dX1_isAt_5 : decode cX1_isAt 5 = .ok (.invokevirtual 23, 3) := by decide +kernel
theorem dX1_isAt_8 : decode cX1_isAt 8 = .ok (.if_icmp .ge 19, 3) := by decide +kernel
theorem dX1_isAt_11 : decode cX1_isAt 11 = .ok (.aload_n 0, 1) := by decide +kernel
theorem dX1_isAt_12 : decode cX1_isAt 12 = .ok (.getfield 14, 3) := by decide +kernel
theorem dX1_isAt_15 : decode cX1_isAt 15 = .ok (.iload_n 1, 1) := by decide +kernel
theorem dX1_isAt_16 : decode cX1_isAt 16 = .ok (.invokevirtual 27, 3) := by decide +kernel
theorem dX1_isAt_19 : decode cX1_isAt 19 = .ok (.iload_n 2, 1) := by decide +kernel
theorem dX1_isAt_20 : decode cX1_isAt 20 = .ok (.if_icmp .ne 7, 3) := by decide +kernel
theorem dX1_isAt_23 : decode cX1_isAt 23 = .ok (.iconst 1, 1) := by decide +kernel
theorem dX1_isAt_24 : decode cX1_isAt 24 = .ok (.goto 4, 3) := by decide +kernel
theorem dX1_isAt_27 : decode cX1_isAt 27 = .ok (.iconst 0, 1) := by decide +kernel
theorem dX1_isAt_28 : decode cX1_isAt 28 = .ok (.ireturn, 1) := by decide +kernel
theorem dX1_hasRoomFor_0 : decode cX1_hasRoomFor 0 = .ok (.aload_n 0, 1) := by decide +kernel
theorem dX1_hasRoomFor_1 : decode cX1_hasRoomFor 1 = .ok (.getfield 14, 3) := by decide +kernel
theorem dX1_hasRoomFor_4 : decode cX1_hasRoomFor 4 = .ok (.invokevirtual 23, 3) := by decide +kernel
theorem dX1_hasRoomFor_7 : decode cX1_hasRoomFor 7 = .ok (.bipush 6, 2) := by decide +kernel
theorem dX1_hasRoomFor_9 : decode cX1_hasRoomFor 9 = .ok (.if_icmp .lt 16, 3) := by decide +kernel
theorem dX1_hasRoomFor_12 : decode cX1_hasRoomFor 12 = .ok (.aload_n 0, 1) := by decide +kernel
theorem dX1_hasRoomFor_13 : decode cX1_hasRoomFor 13 = .ok (.aload_n 0, 1) := by decide +kernel
theorem dX1_hasRoomFor_14 : decode cX1_hasRoomFor 14 = .ok (.iload_n 1, 1) := by decide +kernel
theorem dX1_hasRoomFor_15 : decode cX1_hasRoomFor 15 = .ok (.invokevirtual 31, 3) := by decide +kernel
theorem dX1_hasRoomFor_18 : decode cX1_hasRoomFor 18 = .ok (.iload_n 1, 1) := by decide +kernel
theorem dX1_hasRoomFor_19 : decode cX1_hasRoomFor 19 = .ok (.invokevirtual 34, 3) := by decide +kernel
theorem dX1_hasRoomFor_22 : decode cX1_hasRoomFor 22 = .ok (.ifCond .eq 7, 3) := by decide +kernel
theorem dX1_hasRoomFor_25 : decode cX1_hasRoomFor 25 = .ok (.iconst 1, 1) := by decide +kernel
theorem dX1_hasRoomFor_26 : decode cX1_hasRoomFor 26 = .ok (.goto 4, 3) := by decide +kernel
theorem dX1_hasRoomFor_29 : decode cX1_hasRoomFor 29 = .ok (.iconst 0, 1) := by decide +kernel
theorem dX1_hasRoomFor_30 : decode cX1_hasRoomFor 30 = .ok (.ireturn, 1) := by decide +kernel
theorem dX1_mark_0 : decode cX1_mark 0 = .ok (.aload_n 0, 1) := by decide +kernel
theorem dX1_mark_1 : decode cX1_mark 1 = .ok (.iload_n 1, 1) := by decide +kernel
theorem dX1_mark_2 : decode cX1_mark 2 = .ok (.invokevirtual 31, 3) := by decide +kernel
theorem dX1_mark_5 : decode cX1_mark 5 = .ok (.istore_n 3, 1) := by decide +kernel
theorem dX1_mark_6 : decode cX1_mark 6 = .ok (.aload_n 0, 1) := by decide +kernel
theorem dX1_mark_7 : decode cX1_mark 7 = .ok (.iload_n 3, 1) := by decide +kernel
theorem dX1_mark_8 : decode cX1_mark 8 = .ok (.iload_n 1, 1) := by decide +kernel
theorem dX1_mark_9 : decode cX1_mark 9 = .ok (.invokevirtual 34, 3) := by decide +kernel
theorem dX1_mark_12 : decode cX1_mark 12 = .ok (.ifCond .eq 15, 3) := by decide +kernel
theorem dX1_mark_15 : decode cX1_mark 15 = .ok (.aload_n 0, 1) := by decide +kernel
theorem dX1_mark_16 : decode cX1_mark 16 = .ok (.getfield 20, 3) := by decide +kernel
theorem dX1_mark_19 : decode cX1_mark 19 = .ok (.iload_n 3, 1) := by decide +kernel
theorem dX1_mark_20 : decode cX1_mark 20 = .ok (.iload_n 2, 1) := by decide +kernel
theorem dX1_mark_21 : decode cX1_mark 21 = .ok (.invokevirtual 38, 3) := by decide +kernel
theorem dX1_mark_24 : decode cX1_mark 24 = .ok (.goto 21, 3) := by decide +kernel
theorem dX1_mark_27 : decode cX1_mark 27 = .ok (.aload_n 0, 1) := by decide +kernel
theorem dX1_mark_28 : decode cX1_mark 28 = .ok (.getfield 14, 3) := by decide +kernel
theorem dX1_mark_31 : decode cX1_mark 31 = .ok (.iload_n 3, 1) := by decide +kernel
theorem dX1_mark_32 : decode cX1_mark 32 = .ok (.iload_n 1, 1) := by decide +kernel
theorem dX1_mark_33 : decode cX1_mark 33 = .ok (.invokevirtual 42, 3) := by decide +kernel
theorem dX1_mark_36 : decode cX1_mark 36 = .ok (.aload_n 0, 1) := by decide +kernel
theorem dX1_mark_37 : decode cX1_mark 37 = .ok (.getfield 20, 3) := by decide +kernel
theorem dX1_mark_40 : decode cX1_mark 40 = .ok (.iload_n 3, 1) := by decide +kernel
theorem dX1_mark_41 : decode cX1_mark 41 = .ok (.iload_n 2, 1) := by decide +kernel
theorem dX1_mark_42 : decode cX1_mark 42 = .ok (.invokevirtual 42, 3) := by decide +kernel
theorem dX1_mark_45 : decode cX1_mark 45 = .ok (.return_, 1) := by decide +kernel
theorem dX1_unmark_0 : decode cX1_unmark 0 = .ok (.aload_n 0, 1) := by decide +kernel
theorem dX1_unmark_1 : decode cX1_unmark 1 = .ok (.iload_n 1, 1) := by decide +kernel
theorem dX1_unmark_2 : decode cX1_unmark 2 = .ok (.invokevirtual 31, 3) := by decide +kernel
theorem dX1_unmark_5 : decode cX1_unmark 5 = .ok (.istore_n 2, 1) := by decide +kernel
theorem dX1_unmark_6 : decode cX1_unmark 6 = .ok (.aload_n 0, 1) := by decide +kernel
theorem dX1_unmark_7 : decode cX1_unmark 7 = .ok (.iload_n 2, 1) := by decide +kernel
theorem dX1_unmark_8 : decode cX1_unmark 8 = .ok (.iload_n 1, 1) := by decide +kernel
theorem dX1_unmark_9 : decode cX1_unmark 9 = .ok (.invokevirtual 34, 3) := by decide +kernel
theorem dX1_unmark_12 : decode cX1_unmark 12 = .ok (.ifCond .eq 19, 3) := by decide +kernel
theorem dX1_unmark_15 : decode cX1_unmark 15 = .ok (.aload_n 0, 1) := by decide +kernel
theorem dX1_unmark_16 : decode cX1_unmark 16 = .ok (.getfield 14, 3) := by decide +kernel
theorem dX1_unmark_19 : decode cX1_unmark 19 = .ok (.iload_n 2, 1) := by decide +kernel
theorem dX1_unmark_20 : decode cX1_unmark 20 = .ok (.invokevirtual 45, 3) := by decide +kernel
theorem dX1_unmark_23 : decode cX1_unmark 23 = .ok (.aload_n 0, 1) := by decide +kernel
theorem dX1_unmark_24 : decode cX1_unmark 24 = .ok (.getfield 20, 3) := by decide +kernel
theorem dX1_unmark_27 : decode cX1_unmark 27 = .ok (.iload_n 2, 1) := by decide +kernel
theorem dX1_unmark_28 : decode cX1_unmark 28 = .ok (.invokevirtual 45, 3) := by decide +kernel
theorem dX1_unmark_31 : decode cX1_unmark 31 = .ok (.return_, 1) := by decide +kernel
theorem dX1_valueHoldingAt_0 : decode cX1_valueHoldingAt 0 = .ok (.iconst 0, 1) := by decide +kernel
theorem dX1_valueHoldingAt_1 : decode cX1_valueHoldingAt 1 = .ok (.istore_n 2, 1) := by decide +kernel
theorem dX1_valueHoldingAt_2 : decode cX1_valueHoldingAt 2 = .ok (.iconst 0, 1) := by decide +kernel
theorem dX1_valueHoldingAt_3 : decode cX1_valueHoldingAt 3 = .ok (.istore_n 3, 1) := by decide +kernel
theorem dX1_valueHoldingAt_4 : decode cX1_valueHoldingAt 4 = .ok (.iload_n 3, 1) := by decide +kernel
theorem dX1_valueHoldingAt_5 : decode cX1_valueHoldingAt 5 = .ok (.aload_n 0, 1) := by decide +kernel
theorem dX1_valueHoldingAt_6 : decode cX1_valueHoldingAt 6 = .ok (.getfield 14, 3) := by decide +kernel
theorem dX1_valueHoldingAt_9 : decode cX1_valueHoldingAt 9 = .ok (.invokevirtual 23, 3) := by decide +kernel
theorem dX1_valueHoldingAt_12 : decode cX1_valueHoldingAt 12 = .ok (.if_icmp .ge 30, 3) := by decide +kernel
theorem dX1_valueHoldingAt_15 : decode cX1_valueHoldingAt 15 = .ok (.aload_n 0, 1) := by decide +kernel
theorem dX1_valueHoldingAt_16 : decode cX1_valueHoldingAt 16 = .ok (.getfield 14, 3) := by decide +kernel
theorem dX1_valueHoldingAt_19 : decode cX1_valueHoldingAt 19 = .ok (.iload_n 3, 1) := by decide +kernel
theorem dX1_valueHoldingAt_20 : decode cX1_valueHoldingAt 20 = .ok (.invokevirtual 27, 3) := by decide +kernel
theorem dX1_valueHoldingAt_23 : decode cX1_valueHoldingAt 23 = .ok (.iload_n 1, 1) := by decide +kernel
theorem dX1_valueHoldingAt_24 : decode cX1_valueHoldingAt 24 = .ok (.if_icmp .gt 18, 3) := by decide +kernel
theorem dX1_valueHoldingAt_27 : decode cX1_valueHoldingAt 27 = .ok (.aload_n 0, 1) := by decide +kernel
theorem dX1_valueHoldingAt_28 : decode cX1_valueHoldingAt 28 = .ok (.getfield 20, 3) := by decide +kernel
theorem dX1_valueHoldingAt_31 : decode cX1_valueHoldingAt 31 = .ok (.iload_n 3, 1) := by decide +kernel
theorem dX1_valueHoldingAt_32 : decode cX1_valueHoldingAt 32 = .ok (.invokevirtual 27, 3) := by decide +kernel
theorem dX1_valueHoldingAt_35 : decode cX1_valueHoldingAt 35 = .ok (.istore_n 2, 1) := by decide +kernel
theorem dX1_valueHoldingAt_36 : decode cX1_valueHoldingAt 36 = .ok (.iinc 3 1, 3) := by decide +kernel
theorem dX1_valueHoldingAt_39 : decode cX1_valueHoldingAt 39 = .ok (.goto (-35), 3) := by decide +kernel
theorem dX1_valueHoldingAt_42 : decode cX1_valueHoldingAt 42 = .ok (.iload_n 2, 1) := by decide +kernel
theorem dX1_valueHoldingAt_43 : decode cX1_valueHoldingAt 43 = .ok (.ireturn, 1) := by decide +kernel
theorem dX1_takeFrom_0 : decode cX1_takeFrom 0 = .ok (.aload_n 0, 1) := by decide +kernel
theorem dX1_takeFrom_1 : decode cX1_takeFrom 1 = .ok (.getfield 14, 3) := by decide +kernel
theorem dX1_takeFrom_4 : decode cX1_takeFrom 4 = .ok (.aload_n 1, 1) := by decide +kernel
theorem dX1_takeFrom_5 : decode cX1_takeFrom 5 = .ok (.getfield 14, 3) := by decide +kernel
theorem dX1_takeFrom_8 : decode cX1_takeFrom 8 = .ok (.invokevirtual 48, 3) := by decide +kernel
theorem dX1_takeFrom_11 : decode cX1_takeFrom 11 = .ok (.aload_n 0, 1) := by decide +kernel
theorem dX1_takeFrom_12 : decode cX1_takeFrom 12 = .ok (.getfield 20, 3) := by decide +kernel
theorem dX1_takeFrom_15 : decode cX1_takeFrom 15 = .ok (.aload_n 1, 1) := by decide +kernel
theorem dX1_takeFrom_16 : decode cX1_takeFrom 16 = .ok (.getfield 20, 3) := by decide +kernel
theorem dX1_takeFrom_19 : decode cX1_takeFrom 19 = .ok (.invokevirtual 48, 3) := by decide +kernel
theorem dX1_takeFrom_22 : decode cX1_takeFrom 22 = .ok (.return_, 1) := by decide +kernel
theorem dX2_init_0 : decode cX2_init 0 = .ok (.aload_n 0, 1) := by decide +kernel
theorem dX2_init_1 : decode cX2_init 1 = .ok (.invokespecial 3, 3) := by decide +kernel
theorem dX2_init_4 : decode cX2_init 4 = .ok (.aload_n 0, 1) := by decide +kernel
theorem dX2_init_5 : decode cX2_init 5 = .ok (.new 9, 3) := by decide +kernel
theorem dX2_init_8 : decode cX2_init 8 = .ok (.dup, 1) := by decide +kernel
theorem dX2_init_9 : decode cX2_init 9 = .ok (.bipush 10, 2) := by decide +kernel
theorem dX2_init_11 : decode cX2_init 11 = .ok (.invokespecial 11, 3) := by decide +kernel
theorem dX2_init_14 : decode cX2_init 14 = .ok (.putfield 14, 3) := by decide +kernel
theorem dX2_init_17 : decode cX2_init 17 = .ok (.aload_n 0, 1) := by decide +kernel
theorem dX2_init_18 : decode cX2_init 18 = .ok (.new 9, 3) := by decide +kernel
theorem dX2_init_21 : decode cX2_init 21 = .ok (.dup, 1) := by decide +kernel
theorem dX2_init_22 : decode cX2_init 22 = .ok (.bipush 10, 2) := by decide +kernel
theorem dX2_init_24 : decode cX2_init 24 = .ok (.invokespecial 11, 3) := by decide +kernel
theorem dX2_init_27 : decode cX2_init 27 = .ok (.putfield 20, 3) := by decide +kernel
theorem dX2_init_30 : decode cX2_init 30 = .ok (.aload_n 0, 1) := by decide +kernel
theorem dX2_init_31 : decode cX2_init 31 = .ok (.new 9, 3) := by decide +kernel
theorem dX2_init_34 : decode cX2_init 34 = .ok (.dup, 1) := by decide +kernel
theorem dX2_init_35 : decode cX2_init 35 = .ok (.bipush 10, 2) := by decide +kernel
theorem dX2_init_37 : decode cX2_init 37 = .ok (.invokespecial 11, 3) := by decide +kernel
theorem dX2_init_40 : decode cX2_init 40 = .ok (.putfield 23, 3) := by decide +kernel
theorem dX2_init_43 : decode cX2_init 43 = .ok (.aload_n 0, 1) := by decide +kernel
theorem dX2_init_44 : decode cX2_init 44 = .ok (.new 9, 3) := by decide +kernel
theorem dX2_init_47 : decode cX2_init 47 = .ok (.dup, 1) := by decide +kernel
theorem dX2_init_48 : decode cX2_init 48 = .ok (.bipush 10, 2) := by decide +kernel
theorem dX2_init_50 : decode cX2_init 50 = .ok (.invokespecial 11, 3) := by decide +kernel
theorem dX2_init_53 : decode cX2_init 53 = .ok (.putfield 26, 3) := by decide +kernel
theorem dX2_init_56 : decode cX2_init 56 = .ok (.aload_n 0, 1) := by decide +kernel
theorem dX2_init_57 : decode cX2_init 57 = .ok (.new 29, 3) := by decide +kernel
theorem dX2_init_60 : decode cX2_init 60 = .ok (.dup, 1) := by decide +kernel
theorem dX2_init_61 : decode cX2_init 61 = .ok (.invokespecial 31, 3) := by decide +kernel
theorem dX2_init_64 : decode cX2_init 64 = .ok (.putfield 32, 3) := by decide +kernel
theorem dX2_init_67 : decode cX2_init 67 = .ok (.aload_n 0, 1) := by decide +kernel
theorem dX2_init_68 : decode cX2_init 68 = .ok (.new 29, 3) := by decide +kernel
theorem dX2_init_71 : decode cX2_init 71 = .ok (.dup, 1) := by decide +kernel
theorem dX2_init_72 : decode cX2_init 72 = .ok (.invokespecial 31, 3) := by decide +kernel
theorem dX2_init_75 : decode cX2_init 75 = .ok (.putfield 36, 3) := by decide +kernel
theorem dX2_init_78 : decode cX2_init 78 = .ok (.aload_n 0, 1) := by decide +kernel
theorem dX2_init_79 : decode cX2_init 79 = .ok (.getfield 32, 3) := by decide +kernel
theorem dX2_init_82 : decode cX2_init 82 = .ok (.iconst 0, 1) := by decide +kernel
theorem dX2_init_83 : decode cX2_init 83 = .ok (.bipush 16, 2) := by decide +kernel
theorem dX2_init_85 : decode cX2_init 85 = .ok (.invokevirtual 39, 3) := by decide +kernel
theorem dX2_init_88 : decode cX2_init 88 = .ok (.return_, 1) := by decide +kernel
theorem dX2_scenes_0 : decode cX2_scenes 0 = .ok (.aload_n 0, 1) := by decide +kernel
theorem dX2_scenes_1 : decode cX2_scenes 1 = .ok (.getfield 14, 3) := by decide +kernel
theorem dX2_scenes_4 : decode cX2_scenes 4 = .ok (.invokevirtual 43, 3) := by decide +kernel
theorem dX2_scenes_7 : decode cX2_scenes 7 = .ok (.ireturn, 1) := by decide +kernel
theorem dX2_hasCue_0 : decode cX2_hasCue 0 = .ok (.aload_n 0, 1) := by decide +kernel
theorem dX2_hasCue_1 : decode cX2_hasCue 1 = .ok (.getfield 20, 3) := by decide +kernel
theorem dX2_hasCue_4 : decode cX2_hasCue 4 = .ok (.iload_n 1, 1) := by decide +kernel
theorem dX2_hasCue_5 : decode cX2_hasCue 5 = .ok (.invokevirtual 47, 3) := by decide +kernel
theorem dX2_hasCue_8 : decode cX2_hasCue 8 = .ok (.ldc 51, 2) := by decide +kernel
theorem dX2_hasCue_10 : decode cX2_hasCue 10 = .ok (.if_icmp .eq 7, 3) := by decide +kernel
theorem dX2_hasCue_13 : decode cX2_hasCue 13 = .ok (.iconst 1, 1) := by decide +kernel
theorem dX2_hasCue_14 : decode cX2_hasCue 14 = .ok (.goto 4, 3) := by decide +kernel
theorem dX2_hasCue_17 : decode cX2_hasCue 17 = .ok (.iconst 0, 1) := by decide +kernel
theorem dX2_hasCue_18 : decode cX2_hasCue 18 = .ok (.ireturn, 1) := by decide +kernel
theorem dX2_extend_0 : decode cX2_extend 0 = .ok (.aload_n 0, 1) := by decide +kernel
theorem dX2_extend_1 : decode cX2_extend 1 = .ok (.getfield 14, 3) := by decide +kernel
theorem dX2_extend_4 : decode cX2_extend 4 = .ok (.iload_n 1, 1) := by decide +kernel
theorem dX2_extend_5 : decode cX2_extend 5 = .ok (.invokevirtual 52, 3) := by decide +kernel
theorem dX2_extend_8 : decode cX2_extend 8 = .ok (.aload_n 0, 1) := by decide +kernel
theorem dX2_extend_9 : decode cX2_extend 9 = .ok (.getfield 20, 3) := by decide +kernel
theorem dX2_extend_12 : decode cX2_extend 12 = .ok (.iload_n 2, 1) := by decide +kernel
theorem dX2_extend_13 : decode cX2_extend 13 = .ok (.invokevirtual 52, 3) := by decide +kernel
theorem dX2_extend_16 : decode cX2_extend 16 = .ok (.aload_n 0, 1) := by decide +kernel
theorem dX2_extend_17 : decode cX2_extend 17 = .ok (.getfield 23, 3) := by decide +kernel
theorem dX2_extend_20 : decode cX2_extend 20 = .ok (.iload_n 3, 1) := by decide +kernel
theorem dX2_extend_21 : decode cX2_extend 21 = .ok (.invokevirtual 52, 3) := by decide +kernel
theorem dX2_extend_24 : decode cX2_extend 24 = .ok (.aload_n 0, 1) := by decide +kernel
theorem dX2_extend_25 : decode cX2_extend 25 = .ok (.getfield 26, 3) := by decide +kernel
theorem dX2_extend_28 : decode cX2_extend 28 = .ok (.iload 4, 2) := by decide +kernel
theorem dX2_extend_30 : decode cX2_extend 30 = .ok (.invokevirtual 52, 3) := by decide +kernel
theorem dX2_extend_33 : decode cX2_extend 33 = .ok (.return_, 1) := by decide +kernel
theorem dX2_cutOut_0 : decode cX2_cutOut 0 = .ok (.aload_n 0, 1) := by decide +kernel
theorem dX2_cutOut_1 : decode cX2_cutOut 1 = .ok (.getfield 14, 3) := by decide +kernel
theorem dX2_cutOut_4 : decode cX2_cutOut 4 = .ok (.iload_n 1, 1) := by decide +kernel
theorem dX2_cutOut_5 : decode cX2_cutOut 5 = .ok (.invokevirtual 55, 3) := by decide +kernel
theorem dX2_cutOut_8 : decode cX2_cutOut 8 = .ok (.aload_n 0, 1) := by decide +kernel
theorem dX2_cutOut_9 : decode cX2_cutOut 9 = .ok (.getfield 20, 3) := by decide +kernel
theorem dX2_cutOut_12 : decode cX2_cutOut 12 = .ok (.iload_n 1, 1) := by decide +kernel
theorem dX2_cutOut_13 : decode cX2_cutOut 13 = .ok (.invokevirtual 55, 3) := by decide +kernel
theorem dX2_cutOut_16 : decode cX2_cutOut 16 = .ok (.aload_n 0, 1) := by decide +kernel
theorem dX2_cutOut_17 : decode cX2_cutOut 17 = .ok (.getfield 23, 3) := by decide +kernel
theorem dX2_cutOut_20 : decode cX2_cutOut 20 = .ok (.iload_n 1, 1) := by decide +kernel
theorem dX2_cutOut_21 : decode cX2_cutOut 21 = .ok (.invokevirtual 55, 3) := by decide +kernel
theorem dX2_cutOut_24 : decode cX2_cutOut 24 = .ok (.aload_n 0, 1) := by decide +kernel
theorem dX2_cutOut_25 : decode cX2_cutOut 25 = .ok (.getfield 26, 3) := by decide +kernel
theorem dX2_cutOut_28 : decode cX2_cutOut 28 = .ok (.iload_n 1, 1) := by decide +kernel
theorem dX2_cutOut_29 : decode cX2_cutOut 29 = .ok (.invokevirtual 55, 3) := by decide +kernel
theorem dX2_cutOut_32 : decode cX2_cutOut 32 = .ok (.return_, 1) := by decide +kernel
theorem dX2_giveCue_0 : decode cX2_giveCue 0 = .ok (.aload_n 0, 1) := by decide +kernel
theorem dX2_giveCue_1 : decode cX2_giveCue 1 = .ok (.getfield 20, 3) := by decide +kernel
theorem dX2_giveCue_4 : decode cX2_giveCue 4 = .ok (.iload_n 1, 1) := by decide +kernel
theorem dX2_giveCue_5 : decode cX2_giveCue 5 = .ok (.iload_n 2, 1) := by decide +kernel
theorem dX2_giveCue_6 : decode cX2_giveCue 6 = .ok (.invokevirtual 58, 3) := by decide +kernel
theorem dX2_giveCue_9 : decode cX2_giveCue 9 = .ok (.aload_n 0, 1) := by decide +kernel
theorem dX2_giveCue_10 : decode cX2_giveCue 10 = .ok (.getfield 23, 3) := by decide +kernel
theorem dX2_giveCue_13 : decode cX2_giveCue 13 = .ok (.iload_n 1, 1) := by decide +kernel
theorem dX2_giveCue_14 : decode cX2_giveCue 14 = .ok (.iload_n 3, 1) := by decide +kernel
theorem dX2_giveCue_15 : decode cX2_giveCue 15 = .ok (.invokevirtual 58, 3) := by decide +kernel
theorem dX2_giveCue_18 : decode cX2_giveCue 18 = .ok (.aload_n 0, 1) := by decide +kernel
theorem dX2_giveCue_19 : decode cX2_giveCue 19 = .ok (.getfield 26, 3) := by decide +kernel
theorem dX2_giveCue_22 : decode cX2_giveCue 22 = .ok (.iload_n 1, 1) := by decide +kernel
theorem dX2_giveCue_23 : decode cX2_giveCue 23 = .ok (.iload 4, 2) := by decide +kernel
theorem dX2_giveCue_25 : decode cX2_giveCue 25 = .ok (.invokevirtual 58, 3) := by decide +kernel
theorem dX2_giveCue_28 : decode cX2_giveCue 28 = .ok (.return_, 1) := by decide +kernel
theorem dX2_lostBetween_0 : decode cX2_lostBetween 0 = .ok (.iconst 0, 1) := by decide +kernel
theorem dX2_lostBetween_1 : decode cX2_lostBetween 1 = .ok (.istore_n 3, 1) := by decide +kernel
theorem dX2_lostBetween_2 : decode cX2_lostBetween 2 = .ok (.iload_n 1, 1) := by decide +kernel
theorem dX2_lostBetween_3 : decode cX2_lostBetween 3 = .ok (.istore 4, 2) := by decide +kernel
theorem dX2_lostBetween_5 : decode cX2_lostBetween 5 = .ok (.iconst 0, 1) := by decide +kernel
theorem dX2_lostBetween_6 : decode cX2_lostBetween 6 = .ok (.istore 5, 2) := by decide +kernel
theorem dX2_lostBetween_8 : decode cX2_lostBetween 8 = .ok (.iload 5, 2) := by decide +kernel
theorem dX2_lostBetween_10 : decode cX2_lostBetween 10 = .ok (.aload_n 0, 1) := by decide +kernel
theorem dX2_lostBetween_11 : decode cX2_lostBetween 11 = .ok (.getfield 36, 3) := by decide +kernel
theorem dX2_lostBetween_14 : decode cX2_lostBetween 14 = .ok (.getfield 61, 3) := by decide +kernel
theorem dX2_lostBetween_17 : decode cX2_lostBetween 17 = .ok (.invokevirtual 43, 3) := by decide +kernel
theorem dX2_lostBetween_20 : decode cX2_lostBetween 20 = .ok (.if_icmp .ge 72, 3) := by decide +kernel
theorem dX2_lostBetween_23 : decode cX2_lostBetween 23 = .ok (.aload_n 0, 1) := by decide +kernel
theorem dX2_lostBetween_24 : decode cX2_lostBetween 24 = .ok (.getfield 36, 3) := by decide +kernel
theorem dX2_lostBetween_27 : decode cX2_lostBetween 27 = .ok (.getfield 61, 3) := by decide +kernel
theorem dX2_lostBetween_30 : decode cX2_lostBetween 30 = .ok (.iload 5, 2) := by decide +kernel
theorem dX2_lostBetween_32 : decode cX2_lostBetween 32 = .ok (.invokevirtual 47, 3) := by decide +kernel
theorem dX2_lostBetween_35 : decode cX2_lostBetween 35 = .ok (.istore 6, 2) := by decide +kernel
theorem dX2_lostBetween_37 : decode cX2_lostBetween 37 = .ok (.iload 6, 2) := by decide +kernel
theorem dX2_lostBetween_39 : decode cX2_lostBetween 39 = .ok (.iload 4, 2) := by decide +kernel
theorem dX2_lostBetween_41 : decode cX2_lostBetween 41 = .ok (.invokestatic 64, 3) := by decide +kernel
theorem dX2_lostBetween_44 : decode cX2_lostBetween 44 = .ok (.istore 7, 2) := by decide +kernel
theorem dX2_lostBetween_46 : decode cX2_lostBetween 46 = .ok (.iload 6, 2) := by decide +kernel
theorem dX2_lostBetween_48 : decode cX2_lostBetween 48 = .ok (.aload_n 0, 1) := by decide +kernel
theorem dX2_lostBetween_49 : decode cX2_lostBetween 49 = .ok (.getfield 36, 3) := by decide +kernel
theorem dX2_lostBetween_52 : decode cX2_lostBetween 52 = .ok (.getfield 70, 3) := by decide +kernel
theorem dX2_lostBetween_55 : decode cX2_lostBetween 55 = .ok (.iload 5, 2) := by decide +kernel
theorem dX2_lostBetween_57 : decode cX2_lostBetween 57 = .ok (.invokevirtual 47, 3) := by decide +kernel
theorem dX2_lostBetween_60 : decode cX2_lostBetween 60 = .ok (.iadd, 1) := by decide +kernel
theorem dX2_lostBetween_61 : decode cX2_lostBetween 61 = .ok (.iload_n 2, 1) := by decide +kernel
theorem dX2_lostBetween_62 : decode cX2_lostBetween 62 = .ok (.invokestatic 73, 3) := by decide +kernel
theorem dX2_lostBetween_65 : decode cX2_lostBetween 65 = .ok (.istore 8, 2) := by decide +kernel
theorem dX2_lostBetween_67 : decode cX2_lostBetween 67 = .ok (.iload 8, 2) := by decide +kernel
theorem dX2_lostBetween_69 : decode cX2_lostBetween 69 = .ok (.iload 7, 2) := by decide +kernel
theorem dX2_lostBetween_71 : decode cX2_lostBetween 71 = .ok (.if_icmp .le 15, 3) := by decide +kernel
theorem dX2_lostBetween_74 : decode cX2_lostBetween 74 = .ok (.iload_n 3, 1) := by decide +kernel
theorem dX2_lostBetween_75 : decode cX2_lostBetween 75 = .ok (.iload 8, 2) := by decide +kernel
theorem dX2_lostBetween_77 : decode cX2_lostBetween 77 = .ok (.iload 7, 2) := by decide +kernel
theorem dX2_lostBetween_79 : decode cX2_lostBetween 79 = .ok (.isub, 1) := by decide +kernel
theorem dX2_lostBetween_80 : decode cX2_lostBetween 80 = .ok (.iadd, 1) := by decide +kernel
theorem dX2_lostBetween_81 : decode cX2_lostBetween 81 = .ok (.istore_n 3, 1) := by decide +kernel
theorem dX2_lostBetween_82 : decode cX2_lostBetween 82 = .ok (.iload 8, 2) := by decide +kernel
theorem dX2_lostBetween_84 : decode cX2_lostBetween 84 = .ok (.istore 4, 2) := by decide +kernel
theorem dX2_lostBetween_86 : decode cX2_lostBetween 86 = .ok (.iinc 5 1, 3) := by decide +kernel
theorem dX2_lostBetween_89 : decode cX2_lostBetween 89 = .ok (.goto (-81), 3) := by decide +kernel
theorem dX2_lostBetween_92 : decode cX2_lostBetween 92 = .ok (.iload_n 3, 1) := by decide +kernel
theorem dX2_lostBetween_93 : decode cX2_lostBetween 93 = .ok (.ireturn, 1) := by decide +kernel
theorem dX2_footTime_0 : decode cX2_footTime 0 = .ok (.iload_n 0, 1) := by decide +kernel
theorem dX2_footTime_1 : decode cX2_footTime 1 = .ok (.ifCond .gt 7, 3) := by decide +kernel
theorem dX2_footTime_4 : decode cX2_footTime 4 = .ok (.iconst 0, 1) := by decide +kernel
theorem dX2_footTime_5 : decode cX2_footTime 5 = .ok (.goto 8, 3) := by decide +kernel
theorem dX2_footTime_8 : decode cX2_footTime 8 = .ok (.sipush 160, 3) := by decide +kernel
theorem dX2_footTime_11 : decode cX2_footTime 11 = .ok (.iload_n 0, 1) := by decide +kernel
theorem dX2_footTime_12 : decode cX2_footTime 12 = .ok (.idiv, 1) := by decide +kernel
theorem dX2_footTime_13 : decode cX2_footTime 13 = .ok (.ireturn, 1) := by decide +kernel
theorem dX2_timeBetween_0 : decode cX2_timeBetween 0 = .ok (.iload_n 3, 1) := by decide +kernel
theorem dX2_timeBetween_1 : decode cX2_timeBetween 1 = .ok (.ifCond .eq 19, 3) := by decide +kernel
theorem dX2_timeBetween_4 : decode cX2_timeBetween 4 = .ok (.iload_n 2, 1) := by decide +kernel
theorem dX2_timeBetween_5 : decode cX2_timeBetween 5 = .ok (.iload_n 1, 1) := by decide +kernel
theorem dX2_timeBetween_6 : decode cX2_timeBetween 6 = .ok (.isub, 1) := by decide +kernel
theorem dX2_timeBetween_7 : decode cX2_timeBetween 7 = .ok (.aload_n 0, 1) := by decide +kernel
theorem dX2_timeBetween_8 : decode cX2_timeBetween 8 = .ok (.iload_n 1, 1) := by decide +kernel
theorem dX2_timeBetween_9 : decode cX2_timeBetween 9 = .ok (.iload_n 2, 1) := by decide +kernel
theorem dX2_timeBetween_10 : decode cX2_timeBetween 10 = .ok (.invokevirtual 76, 3) := by decide +kernel
theorem dX2_timeBetween_13 : decode cX2_timeBetween 13 = .ok (.isub, 1) := by decide +kernel
theorem dX2_timeBetween_14 : decode cX2_timeBetween 14 = .ok (.iload_n 3, 1) := by decide +kernel
theorem dX2_timeBetween_15 : decode cX2_timeBetween 15 = .ok (.invokestatic 79, 3) := by decide +kernel
theorem dX2_timeBetween_18 : decode cX2_timeBetween 18 = .ok (.imul, 1) := by decide +kernel
theorem dX2_timeBetween_19 : decode cX2_timeBetween 19 = .ok (.ireturn, 1) := by decide +kernel
theorem dX2_timeBetween_20 : decode cX2_timeBetween 20 = .ok (.iconst 0, 1) := by decide +kernel
theorem dX2_timeBetween_21 : decode cX2_timeBetween 21 = .ok (.istore 4, 2) := by decide +kernel
theorem dX2_timeBetween_23 : decode cX2_timeBetween 23 = .ok (.aload_n 0, 1) := by decide +kernel
theorem dX2_timeBetween_24 : decode cX2_timeBetween 24 = .ok (.getfield 32, 3) := by decide +kernel
theorem dX2_timeBetween_27 : decode cX2_timeBetween 27 = .ok (.getfield 61, 3) := by decide +kernel
theorem dX2_timeBetween_30 : decode cX2_timeBetween 30 = .ok (.invokevirtual 43, 3) := by decide +kernel
theorem dX2_timeBetween_33 : decode cX2_timeBetween 33 = .ok (.iconst 1, 1) := by decide +kernel
theorem dX2_timeBetween_34 : decode cX2_timeBetween 34 = .ok (.isub, 1) := by decide +kernel
theorem dX2_timeBetween_35 : decode cX2_timeBetween 35 = .ok (.istore 5, 2) := by decide +kernel
theorem dX2_timeBetween_37 : decode cX2_timeBetween 37 = .ok (.iconst 0, 1) := by decide +kernel
theorem dX2_timeBetween_38 : decode cX2_timeBetween 38 = .ok (.istore 6, 2) := by decide +kernel
theorem dX2_timeBetween_40 : decode cX2_timeBetween 40 = .ok (.iload 6, 2) := by decide +kernel
theorem dX2_timeBetween_42 : decode cX2_timeBetween 42 = .ok (.iload 5, 2) := by decide +kernel
theorem dX2_timeBetween_44 : decode cX2_timeBetween 44 = .ok (.if_icmp .gt 100, 3) := by decide +kernel
theorem dX2_timeBetween_47 : decode cX2_timeBetween 47 = .ok (.iload_n 1, 1) := by decide +kernel
theorem dX2_timeBetween_48 : decode cX2_timeBetween 48 = .ok (.aload_n 0, 1) := by decide +kernel
theorem dX2_timeBetween_49 : decode cX2_timeBetween 49 = .ok (.getfield 32, 3) := by decide +kernel
theorem dX2_timeBetween_52 : decode cX2_timeBetween 52 = .ok (.getfield 61, 3) := by decide +kernel
theorem dX2_timeBetween_55 : decode cX2_timeBetween 55 = .ok (.iload 6, 2) := by decide +kernel
theorem dX2_timeBetween_57 : decode cX2_timeBetween 57 = .ok (.invokevirtual 47, 3) := by decide +kernel
theorem dX2_timeBetween_60 : decode cX2_timeBetween 60 = .ok (.invokestatic 64, 3) := by decide +kernel
theorem dX2_timeBetween_63 : decode cX2_timeBetween 63 = .ok (.istore 7, 2) := by decide +kernel
theorem dX2_timeBetween_65 : decode cX2_timeBetween 65 = .ok (.iload 6, 2) := by decide +kernel
theorem dX2_timeBetween_67 : decode cX2_timeBetween 67 = .ok (.iload 5, 2) := by decide +kernel
theorem dX2_timeBetween_69 : decode cX2_timeBetween 69 = .ok (.if_icmp .ge 24, 3) := by decide +kernel
theorem dX2_timeBetween_72 : decode cX2_timeBetween 72 = .ok (.iload_n 2, 1) := by decide +kernel
theorem dX2_timeBetween_73 : decode cX2_timeBetween 73 = .ok (.aload_n 0, 1) := by decide +kernel
theorem dX2_timeBetween_74 : decode cX2_timeBetween 74 = .ok (.getfield 32, 3) := by decide +kernel
theorem dX2_timeBetween_77 : decode cX2_timeBetween 77 = .ok (.getfield 61, 3) := by decide +kernel
theorem dX2_timeBetween_80 : decode cX2_timeBetween 80 = .ok (.iload 6, 2) := by decide +kernel
theorem dX2_timeBetween_82 : decode cX2_timeBetween 82 = .ok (.iconst 1, 1) := by decide +kernel
theorem dX2_timeBetween_83 : decode cX2_timeBetween 83 = .ok (.iadd, 1) := by decide +kernel
theorem dX2_timeBetween_84 : decode cX2_timeBetween 84 = .ok (.invokevirtual 47, 3) := by decide +kernel
theorem dX2_timeBetween_87 : decode cX2_timeBetween 87 = .ok (.invokestatic 73, 3) := by decide +kernel
theorem dX2_timeBetween_90 : decode cX2_timeBetween 90 = .ok (.goto 4, 3) := by decide +kernel
theorem dX2_timeBetween_93 : decode cX2_timeBetween 93 = .ok (.iload_n 2, 1) := by decide +kernel
theorem dX2_timeBetween_94 : decode cX2_timeBetween 94 = .ok (.istore 8, 2) := by decide +kernel
theorem dX2_timeBetween_96 : decode cX2_timeBetween 96 = .ok (.iload 7, 2) := by decide +kernel
theorem dX2_timeBetween_98 : decode cX2_timeBetween 98 = .ok (.iload 8, 2) := by decide +kernel
theorem dX2_timeBetween_100 : decode cX2_timeBetween 100 = .ok (.if_icmp .ge 38, 3) := by decide +kernel
theorem dX2_timeBetween_103 : decode cX2_timeBetween 103 = .ok (.iload 4, 2) := by decide +kernel
theorem dX2_timeBetween_105 : decode cX2_timeBetween 105 = .ok (.iload 8, 2) := by decide +kernel
theorem dX2_timeBetween_107 : decode cX2_timeBetween 107 = .ok (.iload 7, 2) := by decide +kernel
theorem dX2_timeBetween_109 : decode cX2_timeBetween 109 = .ok (.isub, 1) := by decide +kernel
theorem dX2_timeBetween_110 : decode cX2_timeBetween 110 = .ok (.aload_n 0, 1) := by decide +kernel
theorem dX2_timeBetween_111 : decode cX2_timeBetween 111 = .ok (.iload 7, 2) := by decide +kernel
theorem dX2_timeBetween_113 : decode cX2_timeBetween 113 = .ok (.iload 8, 2) := by decide +kernel
theorem dX2_timeBetween_115 : decode cX2_timeBetween 115 = .ok (.invokevirtual 76, 3) := by decide +kernel
theorem dX2_timeBetween_118 : decode cX2_timeBetween 118 = .ok (.isub, 1) := by decide +kernel
theorem dX2_timeBetween_119 : decode cX2_timeBetween 119 = .ok (.aload_n 0, 1) := by decide +kernel
theorem dX2_timeBetween_120 : decode cX2_timeBetween 120 = .ok (.getfield 32, 3) := by decide +kernel
theorem dX2_timeBetween_123 : decode cX2_timeBetween 123 = .ok (.getfield 70, 3) := by decide +kernel
theorem dX2_timeBetween_126 : decode cX2_timeBetween 126 = .ok (.iload 6, 2) := by decide +kernel
theorem dX2_timeBetween_128 : decode cX2_timeBetween 128 = .ok (.invokevirtual 47, 3) := by decide +kernel
theorem dX2_timeBetween_131 : decode cX2_timeBetween 131 = .ok (.invokestatic 79, 3) := by decide +kernel
theorem dX2_timeBetween_134 : decode cX2_timeBetween 134 = .ok (.imul, 1) := by decide +kernel
theorem dX2_timeBetween_135 : decode cX2_timeBetween 135 = .ok (.iadd, 1) := by decide +kernel
theorem dX2_timeBetween_136 : decode cX2_timeBetween 136 = .ok (.istore 4, 2) := by decide +kernel
theorem dX2_timeBetween_138 : decode cX2_timeBetween 138 = .ok (.iinc 6 1, 3) := by decide +kernel
theorem dX2_timeBetween_141 : decode cX2_timeBetween 141 = .ok (.goto (-101), 3) := by decide +kernel
theorem dX2_timeBetween_144 : decode cX2_timeBetween 144 = .ok (.iload 4, 2) := by decide +kernel
theorem dX2_timeBetween_146 : decode cX2_timeBetween 146 = .ok (.ireturn, 1) := by decide +kernel
theorem dX2_takeFrom_0 : decode cX2_takeFrom 0 = .ok (.aload_n 0, 1) := by decide +kernel
theorem dX2_takeFrom_1 : decode cX2_takeFrom 1 = .ok (.getfield 14, 3) := by decide +kernel
theorem dX2_takeFrom_4 : decode cX2_takeFrom 4 = .ok (.aload_n 1, 1) := by decide +kernel
theorem dX2_takeFrom_5 : decode cX2_takeFrom 5 = .ok (.getfield 14, 3) := by decide +kernel
theorem dX2_takeFrom_8 : decode cX2_takeFrom 8 = .ok (.invokevirtual 82, 3) := by decide +kernel
theorem dX2_takeFrom_11 : decode cX2_takeFrom 11 = .ok (.aload_n 0, 1) := by decide +kernel
theorem dX2_takeFrom_12 : decode cX2_takeFrom 12 = .ok (.getfield 20, 3) := by decide +kernel
theorem dX2_takeFrom_15 : decode cX2_takeFrom 15 = .ok (.aload_n 1, 1) := by decide +kernel
theorem dX2_takeFrom_16 : decode cX2_takeFrom 16 = .ok (.getfield 20, 3) := by decide +kernel
theorem dX2_takeFrom_19 : decode cX2_takeFrom 19 = .ok (.invokevirtual 82, 3) := by decide +kernel
theorem dX2_takeFrom_22 : decode cX2_takeFrom 22 = .ok (.aload_n 0, 1) := by decide +kernel
theorem dX2_takeFrom_23 : decode cX2_takeFrom 23 = .ok (.getfield 23, 3) := by decide +kernel
theorem dX2_takeFrom_26 : decode cX2_takeFrom 26 = .ok (.aload_n 1, 1) := by decide +kernel
theorem dX2_takeFrom_27 : decode cX2_takeFrom 27 = .ok (.getfield 23, 3) := by decide +kernel
theorem dX2_takeFrom_30 : decode cX2_takeFrom 30 = .ok (.invokevirtual 82, 3) := by decide +kernel
theorem dX2_takeFrom_33 : decode cX2_takeFrom 33 = .ok (.aload_n 0, 1) := by decide +kernel
theorem dX2_takeFrom_34 : decode cX2_takeFrom 34 = .ok (.getfield 26, 3) := by decide +kernel
theorem dX2_takeFrom_37 : decode cX2_takeFrom 37 = .ok (.aload_n 1, 1) := by decide +kernel
theorem dX2_takeFrom_38 : decode cX2_takeFrom 38 = .ok (.getfield 26, 3) := by decide +kernel
theorem dX2_takeFrom_41 : decode cX2_takeFrom 41 = .ok (.invokevirtual 82, 3) := by decide +kernel
theorem dX2_takeFrom_44 : decode cX2_takeFrom 44 = .ok (.aload_n 0, 1) := by decide +kernel
theorem dX2_takeFrom_45 : decode cX2_takeFrom 45 = .ok (.getfield 32, 3) := by decide +kernel
theorem dX2_takeFrom_48 : decode cX2_takeFrom 48 = .ok (.aload_n 1, 1) := by decide +kernel
theorem dX2_takeFrom_49 : decode cX2_takeFrom 49 = .ok (.getfield 32, 3) := by decide +kernel
theorem dX2_takeFrom_52 : decode cX2_takeFrom 52 = .ok (.invokevirtual 86, 3) := by decide +kernel
theorem dX2_takeFrom_55 : decode cX2_takeFrom 55 = .ok (.aload_n 0, 1) := by decide +kernel
theorem dX2_takeFrom_56 : decode cX2_takeFrom 56 = .ok (.getfield 36, 3) := by decide +kernel
theorem dX2_takeFrom_59 : decode cX2_takeFrom 59 = .ok (.aload_n 1, 1) := by decide +kernel
theorem dX2_takeFrom_60 : decode cX2_takeFrom 60 = .ok (.getfield 36, 3) := by decide +kernel
theorem dX2_takeFrom_63 : decode cX2_takeFrom 63 = .ok (.invokevirtual 86, 3) := by decide +kernel
theorem dX2_takeFrom_66 : decode cX2_takeFrom 66 = .ok (.return_, 1) := by decide +kernel
theorem dX3_init_0 : decode cX3_init 0 = .ok (.aload_n 0, 1) := by decide +kernel
theorem dX3_init_1 : decode cX3_init 1 = .ok (.invokespecial 1, 3) := by decide +kernel
theorem dX3_init_4 : decode cX3_init 4 = .ok (.aload_n 0, 1) := by decide +kernel
theorem dX3_init_5 : decode cX3_init 5 = .ok (.iload_n 1, 1) := by decide +kernel
theorem dX3_init_6 : decode cX3_init 6 = .ok (.ifCond .ge 7, 3) := by decide +kernel
theorem dX3_init_9 : decode cX3_init 9 = .ok (.iconst 0, 1) := by decide +kernel
theorem dX3_init_10 : decode cX3_init 10 = .ok (.goto 4, 3) := by decide +kernel
theorem dX3_init_13 : decode cX3_init 13 = .ok (.iload_n 1, 1) := by decide +kernel
theorem dX3_init_14 : decode cX3_init 14 = .ok (.newarray .int, 2) := by decide +kernel
theorem dX3_init_16 : decode cX3_init 16 = .ok (.putfield 7, 3) := by decide +kernel
theorem dX3_init_19 : decode cX3_init 19 = .ok (.return_, 1) := by decide +kernel
theorem dX3_size_0 : decode cX3_size 0 = .ok (.aload_n 0, 1) := by decide +kernel
theorem dX3_size_1 : decode cX3_size 1 = .ok (.getfield 13, 3) := by decide +kernel
theorem dX3_size_4 : decode cX3_size 4 = .ok (.ireturn, 1) := by decide +kernel
theorem dX3_at_0 : decode cX3_at 0 = .ok (.iload_n 1, 1) := by decide +kernel
theorem dX3_at_1 : decode cX3_at 1 = .ok (.ifCond .lt 29, 3) := by decide +kernel
theorem dX3_at_4 : decode cX3_at 4 = .ok (.iload_n 1, 1) := by decide +kernel
theorem dX3_at_5 : decode cX3_at 5 = .ok (.aload_n 0, 1) := by decide +kernel
theorem dX3_at_6 : decode cX3_at 6 = .ok (.getfield 13, 3) := by decide +kernel
theorem dX3_at_9 : decode cX3_at 9 = .ok (.if_icmp .ge 21, 3) := by decide +kernel
theorem dX3_at_12 : decode cX3_at 12 = .ok (.iload_n 1, 1) := by decide +kernel
theorem dX3_at_13 : decode cX3_at 13 = .ok (.aload_n 0, 1) := by decide +kernel
theorem dX3_at_14 : decode cX3_at 14 = .ok (.getfield 7, 3) := by decide +kernel
theorem dX3_at_17 : decode cX3_at 17 = .ok (.arraylength, 1) := by decide +kernel
theorem dX3_at_18 : decode cX3_at 18 = .ok (.if_icmp .ge 12, 3) := by decide +kernel
theorem dX3_at_21 : decode cX3_at 21 = .ok (.aload_n 0, 1) := by decide +kernel
theorem dX3_at_22 : decode cX3_at 22 = .ok (.getfield 7, 3) := by decide +kernel
theorem dX3_at_25 : decode cX3_at 25 = .ok (.iload_n 1, 1) := by decide +kernel
theorem dX3_at_26 : decode cX3_at 26 = .ok (.iaload, 1) := by decide +kernel
theorem dX3_at_27 : decode cX3_at 27 = .ok (.goto 4, 3) := by decide +kernel
theorem dX3_at_30 : decode cX3_at 30 = .ok (.iconst 0, 1) := by decide +kernel
theorem dX3_at_31 : decode cX3_at 31 = .ok (.ireturn, 1) := by decide +kernel
theorem dX3_put_0 : decode cX3_put 0 = .ok (.iload_n 1, 1) := by decide +kernel
theorem dX3_put_1 : decode cX3_put 1 = .ok (.ifCond .lt 27, 3) := by decide +kernel
theorem dX3_put_4 : decode cX3_put 4 = .ok (.iload_n 1, 1) := by decide +kernel
theorem dX3_put_5 : decode cX3_put 5 = .ok (.aload_n 0, 1) := by decide +kernel
theorem dX3_put_6 : decode cX3_put 6 = .ok (.getfield 13, 3) := by decide +kernel
theorem dX3_put_9 : decode cX3_put 9 = .ok (.if_icmp .ge 19, 3) := by decide +kernel
theorem dX3_put_12 : decode cX3_put 12 = .ok (.iload_n 1, 1) := by decide +kernel
theorem dX3_put_13 : decode cX3_put 13 = .ok (.aload_n 0, 1) := by decide +kernel
theorem dX3_put_14 : decode cX3_put 14 = .ok (.getfield 7, 3) := by decide +kernel
theorem dX3_put_17 : decode cX3_put 17 = .ok (.arraylength, 1) := by decide +kernel
theorem dX3_put_18 : decode cX3_put 18 = .ok (.if_icmp .ge 10, 3) := by decide +kernel
theorem dX3_put_21 : decode cX3_put 21 = .ok (.aload_n 0, 1) := by decide +kernel
theorem dX3_put_22 : decode cX3_put 22 = .ok (.getfield 7, 3) := by decide +kernel
theorem dX3_put_25 : decode cX3_put 25 = .ok (.iload_n 1, 1) := by decide +kernel
theorem dX3_put_26 : decode cX3_put 26 = .ok (.iload_n 2, 1) := by decide +kernel
theorem dX3_put_27 : decode cX3_put 27 = .ok (.iastore, 1) := by decide +kernel
theorem dX3_put_28 : decode cX3_put 28 = .ok (.return_, 1) := by decide +kernel
theorem dX3_add_0 : decode cX3_add 0 = .ok (.aload_n 0, 1) := by decide +kernel
theorem dX3_add_1 : decode cX3_add 1 = .ok (.getfield 13, 3) := by decide +kernel
theorem dX3_add_4 : decode cX3_add 4 = .ok (.ifCond .lt 35, 3) := by decide +kernel
theorem dX3_add_7 : decode cX3_add 7 = .ok (.aload_n 0, 1) := by decide +kernel
theorem dX3_add_8 : decode cX3_add 8 = .ok (.getfield 13, 3) := by decide +kernel
theorem dX3_add_11 : decode cX3_add 11 = .ok (.aload_n 0, 1) := by decide +kernel
theorem dX3_add_12 : decode cX3_add 12 = .ok (.getfield 7, 3) := by decide +kernel
theorem dX3_add_15 : decode cX3_add 15 = .ok (.arraylength, 1) := by decide +kernel
theorem dX3_add_16 : decode cX3_add 16 = .ok (.if_icmp .ge 23, 3) := by decide +kernel
theorem dX3_add_19 : decode cX3_add 19 = .ok (.aload_n 0, 1) := by decide +kernel
theorem dX3_add_20 : decode cX3_add 20 = .ok (.getfield 7, 3) := by decide +kernel
theorem dX3_add_23 : decode cX3_add 23 = .ok (.aload_n 0, 1) := by decide +kernel
theorem dX3_add_24 : decode cX3_add 24 = .ok (.getfield 13, 3) := by decide +kernel
theorem dX3_add_27 : decode cX3_add 27 = .ok (.iload_n 1, 1) := by decide +kernel
theorem dX3_add_28 : decode cX3_add 28 = .ok (.iastore, 1) := by decide +kernel
theorem dX3_add_29 : decode cX3_add 29 = .ok (.aload_n 0, 1) := by decide +kernel
theorem dX3_add_30 : decode cX3_add 30 = .ok (.dup, 1) := by decide +kernel
theorem dX3_add_31 : decode cX3_add 31 = .ok (.getfield 13, 3) := by decide +kernel
theorem dX3_add_34 : decode cX3_add 34 = .ok (.iconst 1, 1) := by decide +kernel
theorem dX3_add_35 : decode cX3_add 35 = .ok (.iadd, 1) := by decide +kernel
theorem dX3_add_36 : decode cX3_add 36 = .ok (.putfield 13, 3) := by decide +kernel
theorem dX3_add_39 : decode cX3_add 39 = .ok (.return_, 1) := by decide +kernel
theorem dX3_insert_0 : decode cX3_insert 0 = .ok (.aload_n 0, 1) := by decide +kernel
theorem dX3_insert_1 : decode cX3_insert 1 = .ok (.iload_n 2, 1) := by decide +kernel
theorem dX3_insert_2 : decode cX3_insert 2 = .ok (.invokevirtual 17, 3) := by decide +kernel
theorem dX3_insert_5 : decode cX3_insert 5 = .ok (.aload_n 0, 1) := by decide +kernel
theorem dX3_insert_6 : decode cX3_insert 6 = .ok (.getfield 13, 3) := by decide +kernel
theorem dX3_insert_9 : decode cX3_insert 9 = .ok (.iconst 1, 1) := by decide +kernel
theorem dX3_insert_10 : decode cX3_insert 10 = .ok (.isub, 1) := by decide +kernel
theorem dX3_insert_11 : decode cX3_insert 11 = .ok (.istore_n 3, 1) := by decide +kernel
theorem dX3_insert_12 : decode cX3_insert 12 = .ok (.iload_n 3, 1) := by decide +kernel
theorem dX3_insert_13 : decode cX3_insert 13 = .ok (.iload_n 1, 1) := by decide +kernel
theorem dX3_insert_14 : decode cX3_insert 14 = .ok (.if_icmp .le 25, 3) := by decide +kernel
theorem dX3_insert_17 : decode cX3_insert 17 = .ok (.iload_n 3, 1) := by decide +kernel
theorem dX3_insert_18 : decode cX3_insert 18 = .ok (.ifCond .le 21, 3) := by decide +kernel
theorem dX3_insert_21 : decode cX3_insert 21 = .ok (.aload_n 0, 1) := by decide +kernel
theorem dX3_insert_22 : decode cX3_insert 22 = .ok (.iload_n 3, 1) := by decide +kernel
theorem dX3_insert_23 : decode cX3_insert 23 = .ok (.aload_n 0, 1) := by decide +kernel
theorem dX3_insert_24 : decode cX3_insert 24 = .ok (.iload_n 3, 1) := by decide +kernel
theorem dX3_insert_25 : decode cX3_insert 25 = .ok (.iconst 1, 1) := by decide +kernel
theorem dX3_insert_26 : decode cX3_insert 26 = .ok (.isub, 1) := by decide +kernel
theorem dX3_insert_27 : decode cX3_insert 27 = .ok (.invokevirtual 21, 3) := by decide +kernel
theorem dX3_insert_30 : decode cX3_insert 30 = .ok (.invokevirtual 25, 3) := by decide +kernel
theorem dX3_insert_33 : decode cX3_insert 33 = .ok (.iinc 3 (-1), 3) := by decide +kernel
theorem dX3_insert_36 : decode cX3_insert 36 = .ok (.goto (-24), 3) := by decide +kernel
theorem dX3_insert_39 : decode cX3_insert 39 = .ok (.aload_n 0, 1) := by decide +kernel
theorem dX3_insert_40 : decode cX3_insert 40 = .ok (.iload_n 1, 1) := by decide +kernel
theorem dX3_insert_41 : decode cX3_insert 41 = .ok (.iload_n 2, 1) := by decide +kernel
theorem dX3_insert_42 : decode cX3_insert 42 = .ok (.invokevirtual 25, 3) := by decide +kernel
theorem dX3_insert_45 : decode cX3_insert 45 = .ok (.return_, 1) := by decide +kernel
theorem dX3_remove_0 : decode cX3_remove 0 = .ok (.iload_n 1, 1) := by decide +kernel
theorem dX3_remove_1 : decode cX3_remove 1 = .ok (.ifCond .lt 11, 3) := by decide +kernel
theorem dX3_remove_4 : decode cX3_remove 4 = .ok (.iload_n 1, 1) := by decide +kernel
theorem dX3_remove_5 : decode cX3_remove 5 = .ok (.aload_n 0, 1) := by decide +kernel
theorem dX3_remove_6 : decode cX3_remove 6 = .ok (.getfield 13, 3) := by decide +kernel
theorem dX3_remove_9 : decode cX3_remove 9 = .ok (.if_icmp .lt 4, 3) := by decide +kernel
theorem dX3_remove_12 : decode cX3_remove 12 = .ok (.return_, 1) := by decide +kernel
theorem dX3_remove_13 : decode cX3_remove 13 = .ok (.iload_n 1, 1) := by decide +kernel
theorem dX3_remove_14 : decode cX3_remove 14 = .ok (.istore_n 2, 1) := by decide +kernel
theorem dX3_remove_15 : decode cX3_remove 15 = .ok (.iload_n 2, 1) := by decide +kernel
theorem dX3_remove_16 : decode cX3_remove 16 = .ok (.aload_n 0, 1) := by decide +kernel
theorem dX3_remove_17 : decode cX3_remove 17 = .ok (.getfield 13, 3) := by decide +kernel
theorem dX3_remove_20 : decode cX3_remove 20 = .ok (.iconst 1, 1) := by decide +kernel
theorem dX3_remove_21 : decode cX3_remove 21 = .ok (.isub, 1) := by decide +kernel
theorem dX3_remove_22 : decode cX3_remove 22 = .ok (.if_icmp .ge 21, 3) := by decide +kernel
theorem dX3_remove_25 : decode cX3_remove 25 = .ok (.aload_n 0, 1) := by decide +kernel
theorem dX3_remove_26 : decode cX3_remove 26 = .ok (.iload_n 2, 1) := by decide +kernel
theorem dX3_remove_27 : decode cX3_remove 27 = .ok (.aload_n 0, 1) := by decide +kernel
theorem dX3_remove_28 : decode cX3_remove 28 = .ok (.iload_n 2, 1) := by decide +kernel
theorem dX3_remove_29 : decode cX3_remove 29 = .ok (.iconst 1, 1) := by decide +kernel
theorem dX3_remove_30 : decode cX3_remove 30 = .ok (.iadd, 1) := by decide +kernel
theorem dX3_remove_31 : decode cX3_remove 31 = .ok (.invokevirtual 21, 3) := by decide +kernel
theorem dX3_remove_34 : decode cX3_remove 34 = .ok (.invokevirtual 25, 3) := by decide +kernel
theorem dX3_remove_37 : decode cX3_remove 37 = .ok (.iinc 2 1, 3) := by decide +kernel
theorem dX3_remove_40 : decode cX3_remove 40 = .ok (.goto (-25), 3) := by decide +kernel
theorem dX3_remove_43 : decode cX3_remove 43 = .ok (.aload_n 0, 1) := by decide +kernel
theorem dX3_remove_44 : decode cX3_remove 44 = .ok (.dup, 1) := by decide +kernel
theorem dX3_remove_45 : decode cX3_remove 45 = .ok (.getfield 13, 3) := by decide +kernel
theorem dX3_remove_48 : decode cX3_remove 48 = .ok (.iconst 1, 1) := by decide +kernel
theorem dX3_remove_49 : decode cX3_remove 49 = .ok (.isub, 1) := by decide +kernel
theorem dX3_remove_50 : decode cX3_remove 50 = .ok (.putfield 13, 3) := by decide +kernel
theorem dX3_remove_53 : decode cX3_remove 53 = .ok (.return_, 1) := by decide +kernel
theorem dX3_clear_0 : decode cX3_clear 0 = .ok (.aload_n 0, 1) := by decide +kernel
theorem dX3_clear_1 : decode cX3_clear 1 = .ok (.iconst 0, 1) := by decide +kernel
theorem dX3_clear_2 : decode cX3_clear 2 = .ok (.putfield 13, 3) := by decide +kernel
theorem dX3_clear_5 : decode cX3_clear 5 = .ok (.return_, 1) := by decide +kernel
theorem dX3_takeFrom_0 : decode cX3_takeFrom 0 = .ok (.aload_n 0, 1) := by decide +kernel
theorem dX3_takeFrom_1 : decode cX3_takeFrom 1 = .ok (.invokevirtual 29, 3) := by decide +kernel
theorem dX3_takeFrom_4 : decode cX3_takeFrom 4 = .ok (.iconst 0, 1) := by decide +kernel
theorem dX3_takeFrom_5 : decode cX3_takeFrom 5 = .ok (.istore_n 2, 1) := by decide +kernel
theorem dX3_takeFrom_6 : decode cX3_takeFrom 6 = .ok (.iload_n 2, 1) := by decide +kernel
theorem dX3_takeFrom_7 : decode cX3_takeFrom 7 = .ok (.aload_n 1, 1) := by decide +kernel
theorem dX3_takeFrom_8 : decode cX3_takeFrom 8 = .ok (.getfield 13, 3) := by decide +kernel
theorem dX3_takeFrom_11 : decode cX3_takeFrom 11 = .ok (.if_icmp .ge 18, 3) := by decide +kernel
theorem dX3_takeFrom_14 : decode cX3_takeFrom 14 = .ok (.aload_n 0, 1) := by decide +kernel
theorem dX3_takeFrom_15 : decode cX3_takeFrom 15 = .ok (.aload_n 1, 1) := by decide +kernel
theorem dX3_takeFrom_16 : decode cX3_takeFrom 16 = .ok (.iload_n 2, 1) := by decide +kernel
theorem dX3_takeFrom_17 : decode cX3_takeFrom 17 = .ok (.invokevirtual 21, 3) := by decide +kernel
theorem dX3_takeFrom_20 : decode cX3_takeFrom 20 = .ok (.invokevirtual 17, 3) := by decide +kernel
theorem dX3_takeFrom_23 : decode cX3_takeFrom 23 = .ok (.iinc 2 1, 3) := by decide +kernel
theorem dX3_takeFrom_26 : decode cX3_takeFrom 26 = .ok (.goto (-20), 3) := by decide +kernel
theorem dX3_takeFrom_29 : decode cX3_takeFrom 29 = .ok (.return_, 1) := by decide +kernel
theorem dX4_init_0 : decode cX4_init 0 = .ok (.aload_n 0, 1) := by decide +kernel
theorem dX4_init_1 : decode cX4_init 1 = .ok (.invokespecial 3, 3) := by decide +kernel
theorem dX4_init_4 : decode cX4_init 4 = .ok (.aload_n 0, 1) := by decide +kernel
theorem dX4_init_5 : decode cX4_init 5 = .ok (.new 9, 3) := by decide +kernel
theorem dX4_init_8 : decode cX4_init 8 = .ok (.dup, 1) := by decide +kernel
theorem dX4_init_9 : decode cX4_init 9 = .ok (.bipush 60, 2) := by decide +kernel
theorem dX4_init_11 : decode cX4_init 11 = .ok (.invokespecial 11, 3) := by decide +kernel
theorem dX4_init_14 : decode cX4_init 14 = .ok (.putfield 14, 3) := by decide +kernel
theorem dX4_init_17 : decode cX4_init 17 = .ok (.aload_n 0, 1) := by decide +kernel
theorem dX4_init_18 : decode cX4_init 18 = .ok (.new 9, 3) := by decide +kernel
theorem dX4_init_21 : decode cX4_init 21 = .ok (.dup, 1) := by decide +kernel
theorem dX4_init_22 : decode cX4_init 22 = .ok (.bipush 60, 2) := by decide +kernel
theorem dX4_init_24 : decode cX4_init 24 = .ok (.invokespecial 11, 3) := by decide +kernel
theorem dX4_init_27 : decode cX4_init 27 = .ok (.putfield 20, 3) := by decide +kernel
theorem dX4_init_30 : decode cX4_init 30 = .ok (.aload_n 0, 1) := by decide +kernel
theorem dX4_init_31 : decode cX4_init 31 = .ok (.new 9, 3) := by decide +kernel
theorem dX4_init_34 : decode cX4_init 34 = .ok (.dup, 1) := by decide +kernel
theorem dX4_init_35 : decode cX4_init 35 = .ok (.bipush 60, 2) := by decide +kernel
theorem dX4_init_37 : decode cX4_init 37 = .ok (.invokespecial 11, 3) := by decide +kernel
theorem dX4_init_40 : decode cX4_init 40 = .ok (.putfield 23, 3) := by decide +kernel
theorem dX4_init_43 : decode cX4_init 43 = .ok (.aload_n 0, 1) := by decide +kernel
theorem dX4_init_44 : decode cX4_init 44 = .ok (.new 9, 3) := by decide +kernel
theorem dX4_init_47 : decode cX4_init 47 = .ok (.dup, 1) := by decide +kernel
theorem dX4_init_48 : decode cX4_init 48 = .ok (.bipush 60, 2) := by decide +kernel
theorem dX4_init_50 : decode cX4_init 50 = .ok (.invokespecial 11, 3) := by decide +kernel
theorem dX4_init_53 : decode cX4_init 53 = .ok (.putfield 26, 3) := by decide +kernel
theorem dX4_init_56 : decode cX4_init 56 = .ok (.return_, 1) := by decide +kernel
theorem dX5_init_0 : decode cX5_init 0 = .ok (.aload_n 0, 1) := by decide +kernel
theorem dX5_init_1 : decode cX5_init 1 = .ok (.invokespecial 3, 3) := by decide +kernel
theorem dX5_init_4 : decode cX5_init 4 = .ok (.aload_n 0, 1) := by decide +kernel
theorem dX5_init_5 : decode cX5_init 5 = .ok (.new 9, 3) := by decide +kernel
theorem dX5_init_8 : decode cX5_init 8 = .ok (.dup, 1) := by decide +kernel
theorem dX5_init_9 : decode cX5_init 9 = .ok (.invokespecial 11, 3) := by decide +kernel
theorem dX5_init_12 : decode cX5_init 12 = .ok (.putfield 12, 3) := by decide +kernel
theorem dX5_init_15 : decode cX5_init 15 = .ok (.aload_n 0, 1) := by decide +kernel
theorem dX5_init_16 : decode cX5_init 16 = .ok (.new 9, 3) := by decide +kernel
theorem dX5_init_19 : decode cX5_init 19 = .ok (.dup, 1) := by decide +kernel
theorem dX5_init_20 : decode cX5_init 20 = .ok (.invokespecial 11, 3) := by decide +kernel
theorem dX5_init_23 : decode cX5_init 23 = .ok (.putfield 18, 3) := by decide +kernel
theorem dX5_init_26 : decode cX5_init 26 = .ok (.aload_n 0, 1) := by decide +kernel
theorem dX5_init_27 : decode cX5_init 27 = .ok (.new 9, 3) := by decide +kernel
theorem dX5_init_30 : decode cX5_init 30 = .ok (.dup, 1) := by decide +kernel
theorem dX5_init_31 : decode cX5_init 31 = .ok (.invokespecial 11, 3) := by decide +kernel
theorem dX5_init_34 : decode cX5_init 34 = .ok (.putfield 21, 3) := by decide +kernel
theorem dX5_init_37 : decode cX5_init 37 = .ok (.aload_n 0, 1) := by decide +kernel
theorem dX5_init_38 : decode cX5_init 38 = .ok (.new 24, 3) := by decide +kernel
theorem dX5_init_41 : decode cX5_init 41 = .ok (.dup, 1) := by decide +kernel
theorem dX5_init_42 : decode cX5_init 42 = .ok (.bipush 8, 2) := by decide +kernel
theorem dX5_init_44 : decode cX5_init 44 = .ok (.invokespecial 26, 3) := by decide +kernel
theorem dX5_init_47 : decode cX5_init 47 = .ok (.putfield 29, 3) := by decide +kernel
theorem dX5_init_50 : decode cX5_init 50 = .ok (.aload_n 0, 1) := by decide +kernel
theorem dX5_init_51 : decode cX5_init 51 = .ok (.new 24, 3) := by decide +kernel
theorem dX5_init_54 : decode cX5_init 54 = .ok (.dup, 1) := by decide +kernel
theorem dX5_init_55 : decode cX5_init 55 = .ok (.bipush 8, 2) := by decide +kernel
theorem dX5_init_57 : decode cX5_init 57 = .ok (.invokespecial 26, 3) := by decide +kernel
theorem dX5_init_60 : decode cX5_init 60 = .ok (.putfield 33, 3) := by decide +kernel
theorem dX5_init_63 : decode cX5_init 63 = .ok (.aload_n 0, 1) := by decide +kernel
theorem dX5_init_64 : decode cX5_init 64 = .ok (.new 24, 3) := by decide +kernel
theorem dX5_init_67 : decode cX5_init 67 = .ok (.dup, 1) := by decide +kernel
theorem dX5_init_68 : decode cX5_init 68 = .ok (.bipush 8, 2) := by decide +kernel
theorem dX5_init_70 : decode cX5_init 70 = .ok (.invokespecial 26, 3) := by decide +kernel
theorem dX5_init_73 : decode cX5_init 73 = .ok (.putfield 36, 3) := by decide +kernel
theorem dX5_init_76 : decode cX5_init 76 = .ok (.aload_n 0, 1) := by decide +kernel
theorem dX5_init_77 : decode cX5_init 77 = .ok (.bipush 20, 2) := by decide +kernel
theorem dX5_init_79 : decode cX5_init 79 = .ok (.putfield 39, 3) := by decide +kernel
theorem dX5_init_82 : decode cX5_init 82 = .ok (.aload_n 0, 1) := by decide +kernel
theorem dX5_init_83 : decode cX5_init 83 = .ok (.iconst 5, 1) := by decide +kernel
theorem dX5_init_84 : decode cX5_init 84 = .ok (.putfield 43, 3) := by decide +kernel
theorem dX5_init_87 : decode cX5_init 87 = .ok (.return_, 1) := by decide +kernel
theorem dX5_reelAt_0 : decode cX5_reelAt 0 = .ok (.iload_n 1, 1) := by decide +kernel
theorem dX5_reelAt_1 : decode cX5_reelAt 1 = .ok (.ifCond .ne 10, 3) := by decide +kernel
theorem dX5_reelAt_4 : decode cX5_reelAt 4 = .ok (.aload_n 0, 1) := by decide +kernel
theorem dX5_reelAt_5 : decode cX5_reelAt 5 = .ok (.getfield 12, 3) := by decide +kernel
theorem dX5_reelAt_8 : decode cX5_reelAt 8 = .ok (.goto 19, 3) := by decide +kernel
theorem dX5_reelAt_11 : decode cX5_reelAt 11 = .ok (.iload_n 1, 1) := by decide +kernel
theorem dX5_reelAt_12 : decode cX5_reelAt 12 = .ok (.iconst 1, 1) := by decide +kernel
theorem dX5_reelAt_13 : decode cX5_reelAt 13 = .ok (.if_icmp .ne 10, 3) := by decide +kernel
theorem dX5_reelAt_16 : decode cX5_reelAt 16 = .ok (.aload_n 0, 1) := by decide +kernel
theorem dX5_reelAt_17 : decode cX5_reelAt 17 = .ok (.getfield 18, 3) := by decide +kernel
theorem dX5_reelAt_20 : decode cX5_reelAt 20 = .ok (.goto 7, 3) := by decide +kernel
theorem dX5_reelAt_23 : decode cX5_reelAt 23 = .ok (.aload_n 0, 1) := by decide +kernel
theorem dX5_reelAt_24 : decode cX5_reelAt 24 = .ok (.getfield 21, 3) := by decide +kernel
theorem dX5_reelAt_27 : decode cX5_reelAt 27 = .ok (.areturn, 1) := by decide +kernel
theorem dX5_pieces_0 : decode cX5_pieces 0 = .ok (.aload_n 0, 1) := by decide +kernel
theorem dX5_pieces_1 : decode cX5_pieces 1 = .ok (.getfield 29, 3) := by decide +kernel
theorem dX5_pieces_4 : decode cX5_pieces 4 = .ok (.invokevirtual 46, 3) := by decide +kernel
theorem dX5_pieces_7 : decode cX5_pieces 7 = .ok (.ireturn, 1) := by decide +kernel
theorem dX5_hasPiece_0 : decode cX5_hasPiece 0 = .ok (.iload_n 1, 1) := by decide +kernel
theorem dX5_hasPiece_1 : decode cX5_hasPiece 1 = .ok (.ifCond .lt 15, 3) := by decide +kernel
theorem dX5_hasPiece_4 : decode cX5_hasPiece 4 = .ok (.iload_n 1, 1) := by decide +kernel
theorem dX5_hasPiece_5 : decode cX5_hasPiece 5 = .ok (.aload_n 0, 1) := by decide +kernel
theorem dX5_hasPiece_6 : decode cX5_hasPiece 6 = .ok (.invokevirtual 50, 3) := by decide +kernel
theorem dX5_hasPiece_9 : decode cX5_hasPiece 9 = .ok (.if_icmp .ge 7, 3) := by decide +kernel
theorem dX5_hasPiece_12 : decode cX5_hasPiece 12 = .ok (.iconst 1, 1) := by decide +kernel
theorem dX5_hasPiece_13 : decode cX5_hasPiece 13 = .ok (.goto 4, 3) := by decide +kernel
theorem dX5_hasPiece_16 : decode cX5_hasPiece 16 = .ok (.iconst 0, 1) := by decide +kernel
theorem dX5_hasPiece_17 : decode cX5_hasPiece 17 = .ok (.ireturn, 1) := by decide +kernel
theorem dX5_cuesWith_0 : decode cX5_cuesWith 0 = .ok (.iconst 0, 1) := by decide +kernel
theorem dX5_cuesWith_1 : decode cX5_cuesWith 1 = .ok (.istore_n 2, 1) := by decide +kernel
theorem dX5_cuesWith_2 : decode cX5_cuesWith 2 = .ok (.iconst 0, 1) := by decide +kernel
theorem dX5_cuesWith_3 : decode cX5_cuesWith 3 = .ok (.istore_n 3, 1) := by decide +kernel
theorem dX5_cuesWith_4 : decode cX5_cuesWith 4 = .ok (.iload_n 3, 1) := by decide +kernel
theorem dX5_cuesWith_5 : decode cX5_cuesWith 5 = .ok (.iconst 3, 1) := by decide +kernel
theorem dX5_cuesWith_6 : decode cX5_cuesWith 6 = .ok (.if_icmp .ge 57, 3) := by decide +kernel
theorem dX5_cuesWith_9 : decode cX5_cuesWith 9 = .ok (.aload_n 0, 1) := by decide +kernel
theorem dX5_cuesWith_10 : decode cX5_cuesWith 10 = .ok (.iload_n 3, 1) := by decide +kernel
theorem dX5_cuesWith_11 : decode cX5_cuesWith 11 = .ok (.invokevirtual 53, 3) := by decide +kernel
theorem dX5_cuesWith_14 : decode cX5_cuesWith 14 = .ok (.getfield 57, 3) := by decide +kernel
theorem dX5_cuesWith_17 : decode cX5_cuesWith 17 = .ok (.astore 4, 2) := by decide +kernel
theorem dX5_cuesWith_19 : decode cX5_cuesWith 19 = .ok (.iconst 0, 1) := by decide +kernel
theorem dX5_cuesWith_20 : decode cX5_cuesWith 20 = .ok (.istore 5, 2) := by decide +kernel
theorem dX5_cuesWith_22 : decode cX5_cuesWith 22 = .ok (.iload 5, 2) := by decide +kernel
theorem dX5_cuesWith_24 : decode cX5_cuesWith 24 = .ok (.aload 4, 2) := by decide +kernel
theorem dX5_cuesWith_26 : decode cX5_cuesWith 26 = .ok (.invokevirtual 46, 3) := by decide +kernel
theorem dX5_cuesWith_29 : decode cX5_cuesWith 29 = .ok (.if_icmp .ge 28, 3) := by decide +kernel
theorem dX5_cuesWith_32 : decode cX5_cuesWith 32 = .ok (.iload_n 2, 1) := by decide +kernel
theorem dX5_cuesWith_33 : decode cX5_cuesWith 33 = .ok (.aload 4, 2) := by decide +kernel
theorem dX5_cuesWith_35 : decode cX5_cuesWith 35 = .ok (.iload 5, 2) := by decide +kernel
theorem dX5_cuesWith_37 : decode cX5_cuesWith 37 = .ok (.invokevirtual 59, 3) := by decide +kernel
theorem dX5_cuesWith_40 : decode cX5_cuesWith 40 = .ok (.iload_n 1, 1) := by decide +kernel
theorem dX5_cuesWith_41 : decode cX5_cuesWith 41 = .ok (.if_icmp .ne 7, 3) := by decide +kernel
theorem dX5_cuesWith_44 : decode cX5_cuesWith 44 = .ok (.iconst 1, 1) := by decide +kernel
theorem dX5_cuesWith_45 : decode cX5_cuesWith 45 = .ok (.goto 4, 3) := by decide +kernel
theorem dX5_cuesWith_48 : decode cX5_cuesWith 48 = .ok (.iconst 0, 1) := by decide +kernel
theorem dX5_cuesWith_49 : decode cX5_cuesWith 49 = .ok (.iadd, 1) := by decide +kernel
theorem dX5_cuesWith_50 : decode cX5_cuesWith 50 = .ok (.istore_n 2, 1) := by decide +kernel
theorem dX5_cuesWith_51 : decode cX5_cuesWith 51 = .ok (.iinc 5 1, 3) := by decide +kernel
theorem dX5_cuesWith_54 : decode cX5_cuesWith 54 = .ok (.goto (-32), 3) := by decide +kernel
theorem dX5_cuesWith_57 : decode cX5_cuesWith 57 = .ok (.iinc 3 1, 3) := by decide +kernel
theorem dX5_cuesWith_60 : decode cX5_cuesWith 60 = .ok (.goto (-56), 3) := by decide +kernel
theorem dX5_cuesWith_63 : decode cX5_cuesWith 63 = .ok (.iload_n 2, 1) := by decide +kernel
theorem dX5_cuesWith_64 : decode cX5_cuesWith 64 = .ok (.ireturn, 1) := by decide +kernel
theorem dX5_playTime_0 : decode cX5_playTime 0 = .ok (.aload_n 0, 1) := by decide +kernel
theorem dX5_playTime_1 : decode cX5_playTime 1 = .ok (.getfield 29, 3) := by decide +kernel
theorem dX5_playTime_4 : decode cX5_playTime 4 = .ok (.iload_n 1, 1) := by decide +kernel
theorem dX5_playTime_5 : decode cX5_playTime 5 = .ok (.invokevirtual 59, 3) := by decide +kernel
theorem dX5_playTime_8 : decode cX5_playTime 8 = .ok (.iload_n 2, 1) := by decide +kernel
theorem dX5_playTime_9 : decode cX5_playTime 9 = .ok (.aload_n 0, 1) := by decide +kernel
theorem dX5_playTime_10 : decode cX5_playTime 10 = .ok (.getfield 33, 3) := by decide +kernel
theorem dX5_playTime_13 : decode cX5_playTime 13 = .ok (.iload_n 1, 1) := by decide +kernel
theorem dX5_playTime_14 : decode cX5_playTime 14 = .ok (.invokevirtual 59, 3) := by decide +kernel
theorem dX5_playTime_17 : decode cX5_playTime 17 = .ok (.imul, 1) := by decide +kernel
theorem dX5_playTime_18 : decode cX5_playTime 18 = .ok (.iadd, 1) := by decide +kernel
theorem dX5_playTime_19 : decode cX5_playTime 19 = .ok (.aload_n 0, 1) := by decide +kernel
theorem dX5_playTime_20 : decode cX5_playTime 20 = .ok (.getfield 36, 3) := by decide +kernel
theorem dX5_playTime_23 : decode cX5_playTime 23 = .ok (.iload_n 1, 1) := by decide +kernel
theorem dX5_playTime_24 : decode cX5_playTime 24 = .ok (.invokevirtual 59, 3) := by decide +kernel
theorem dX5_playTime_27 : decode cX5_playTime 27 = .ok (.iadd, 1) := by decide +kernel
theorem dX5_playTime_28 : decode cX5_playTime 28 = .ok (.iload_n 3, 1) := by decide +kernel
theorem dX5_playTime_29 : decode cX5_playTime 29 = .ok (.invokestatic 63, 3) := by decide +kernel
theorem dX5_playTime_32 : decode cX5_playTime 32 = .ok (.ireturn, 1) := by decide +kernel
theorem dX5_timeAtPace_0 : decode cX5_timeAtPace 0 = .ok (.iload_n 1, 1) := by decide +kernel
theorem dX5_timeAtPace_1 : decode cX5_timeAtPace 1 = .ok (.ifCond .gt 7, 3) := by decide +kernel
theorem dX5_timeAtPace_4 : decode cX5_timeAtPace 4 = .ok (.iconst 0, 1) := by decide +kernel
theorem dX5_timeAtPace_5 : decode cX5_timeAtPace 5 = .ok (.goto 9, 3) := by decide +kernel
theorem dX5_timeAtPace_8 : decode cX5_timeAtPace 8 = .ok (.iload_n 0, 1) := by decide +kernel
theorem dX5_timeAtPace_9 : decode cX5_timeAtPace 9 = .ok (.bipush 100, 2) := by decide +kernel
theorem dX5_timeAtPace_11 : decode cX5_timeAtPace 11 = .ok (.imul, 1) := by decide +kernel
theorem dX5_timeAtPace_12 : decode cX5_timeAtPace 12 = .ok (.iload_n 1, 1) := by decide +kernel
theorem dX5_timeAtPace_13 : decode cX5_timeAtPace 13 = .ok (.idiv, 1) := by decide +kernel
theorem dX5_timeAtPace_14 : decode cX5_timeAtPace 14 = .ok (.ireturn, 1) := by decide +kernel
theorem dX5_isBad_0 : decode cX5_isBad 0 = .ok (.iload_n 1, 1) := by decide +kernel
theorem dX5_isBad_1 : decode cX5_isBad 1 = .ok (.invokestatic 67, 3) := by decide +kernel
theorem dX5_isBad_4 : decode cX5_isBad 4 = .ok (.aload_n 0, 1) := by decide +kernel
theorem dX5_isBad_5 : decode cX5_isBad 5 = .ok (.getfield 39, 3) := by decide +kernel
theorem dX5_isBad_8 : decode cX5_isBad 8 = .ok (.if_icmp .le 7, 3) := by decide +kernel
theorem dX5_isBad_11 : decode cX5_isBad 11 = .ok (.iconst 1, 1) := by decide +kernel
theorem dX5_isBad_12 : decode cX5_isBad 12 = .ok (.goto 4, 3) := by decide +kernel
theorem dX5_isBad_15 : decode cX5_isBad 15 = .ok (.iconst 0, 1) := by decide +kernel
theorem dX5_isBad_16 : decode cX5_isBad 16 = .ok (.ireturn, 1) := by decide +kernel
theorem dX5_takeFrom_0 : decode cX5_takeFrom 0 = .ok (.aload_n 0, 1) := by decide +kernel
theorem dX5_takeFrom_1 : decode cX5_takeFrom 1 = .ok (.getfield 12, 3) := by decide +kernel
theorem dX5_takeFrom_4 : decode cX5_takeFrom 4 = .ok (.aload_n 1, 1) := by decide +kernel
theorem dX5_takeFrom_5 : decode cX5_takeFrom 5 = .ok (.getfield 12, 3) := by decide +kernel
theorem dX5_takeFrom_8 : decode cX5_takeFrom 8 = .ok (.invokevirtual 72, 3) := by decide +kernel
theorem dX5_takeFrom_11 : decode cX5_takeFrom 11 = .ok (.aload_n 0, 1) := by decide +kernel
theorem dX5_takeFrom_12 : decode cX5_takeFrom 12 = .ok (.getfield 18, 3) := by decide +kernel
theorem dX5_takeFrom_15 : decode cX5_takeFrom 15 = .ok (.aload_n 1, 1) := by decide +kernel
theorem dX5_takeFrom_16 : decode cX5_takeFrom 16 = .ok (.getfield 18, 3) := by decide +kernel
theorem dX5_takeFrom_19 : decode cX5_takeFrom 19 = .ok (.invokevirtual 72, 3) := by decide +kernel
theorem dX5_takeFrom_22 : decode cX5_takeFrom 22 = .ok (.aload_n 0, 1) := by decide +kernel
theorem dX5_takeFrom_23 : decode cX5_takeFrom 23 = .ok (.getfield 21, 3) := by decide +kernel
theorem dX5_takeFrom_26 : decode cX5_takeFrom 26 = .ok (.aload_n 1, 1) := by decide +kernel
theorem dX5_takeFrom_27 : decode cX5_takeFrom 27 = .ok (.getfield 21, 3) := by decide +kernel
theorem dX5_takeFrom_30 : decode cX5_takeFrom 30 = .ok (.invokevirtual 72, 3) := by decide +kernel
theorem dX5_takeFrom_33 : decode cX5_takeFrom 33 = .ok (.aload_n 0, 1) := by decide +kernel
theorem dX5_takeFrom_34 : decode cX5_takeFrom 34 = .ok (.getfield 29, 3) := by decide +kernel
theorem dX5_takeFrom_37 : decode cX5_takeFrom 37 = .ok (.aload_n 1, 1) := by decide +kernel
theorem dX5_takeFrom_38 : decode cX5_takeFrom 38 = .ok (.getfield 29, 3) := by decide +kernel
theorem dX5_takeFrom_41 : decode cX5_takeFrom 41 = .ok (.invokevirtual 76, 3) := by decide +kernel
theorem dX5_takeFrom_44 : decode cX5_takeFrom 44 = .ok (.aload_n 0, 1) := by decide +kernel
theorem dX5_takeFrom_45 : decode cX5_takeFrom 45 = .ok (.getfield 33, 3) := by decide +kernel
theorem dX5_takeFrom_48 : decode cX5_takeFrom 48 = .ok (.aload_n 1, 1) := by decide +kernel
theorem dX5_takeFrom_49 : decode cX5_takeFrom 49 = .ok (.getfield 33, 3) := by decide +kernel
theorem dX5_takeFrom_52 : decode cX5_takeFrom 52 = .ok (.invokevirtual 76, 3) := by decide +kernel
theorem dX5_takeFrom_55 : decode cX5_takeFrom 55 = .ok (.aload_n 0, 1) := by decide +kernel
theorem dX5_takeFrom_56 : decode cX5_takeFrom 56 = .ok (.getfield 36, 3) := by decide +kernel
theorem dX5_takeFrom_59 : decode cX5_takeFrom 59 = .ok (.aload_n 1, 1) := by decide +kernel
theorem dX5_takeFrom_60 : decode cX5_takeFrom 60 = .ok (.getfield 36, 3) := by decide +kernel
theorem dX5_takeFrom_63 : decode cX5_takeFrom 63 = .ok (.invokevirtual 76, 3) := by decide +kernel
theorem dX5_takeFrom_66 : decode cX5_takeFrom 66 = .ok (.aload_n 0, 1) := by decide +kernel
theorem dX5_takeFrom_67 : decode cX5_takeFrom 67 = .ok (.aload_n 1, 1) := by decide +kernel
theorem dX5_takeFrom_68 : decode cX5_takeFrom 68 = .ok (.getfield 39, 3) := by decide +kernel
theorem dX5_takeFrom_71 : decode cX5_takeFrom 71 = .ok (.putfield 39, 3) := by decide +kernel
theorem dX5_takeFrom_74 : decode cX5_takeFrom 74 = .ok (.aload_n 0, 1) := by decide +kernel
theorem dX5_takeFrom_75 : decode cX5_takeFrom 75 = .ok (.aload_n 1, 1) := by decide +kernel
theorem dX5_takeFrom_76 : decode cX5_takeFrom 76 = .ok (.getfield 43, 3) := by decide +kernel
theorem dX5_takeFrom_79 : decode cX5_takeFrom 79 = .ok (.putfield 43, 3) := by decide +kernel
theorem dX5_takeFrom_82 : decode cX5_takeFrom 82 = .ok (.return_, 1) := by decide +kernel
theorem dX6_init_0 : decode cX6_init 0 = .ok (.aload_n 0, 1) := by decide +kernel
theorem dX6_init_1 : decode cX6_init 1 = .ok (.invokespecial 3, 3) := by decide +kernel
theorem dX6_init_4 : decode cX6_init 4 = .ok (.aload_n 0, 1) := by decide +kernel
theorem dX6_init_5 : decode cX6_init 5 = .ok (.new 9, 3) := by decide +kernel
theorem dX6_init_8 : decode cX6_init 8 = .ok (.dup, 1) := by decide +kernel
theorem dX6_init_9 : decode cX6_init 9 = .ok (.bipush 10, 2) := by decide +kernel
theorem dX6_init_11 : decode cX6_init 11 = .ok (.invokespecial 11, 3) := by decide +kernel
theorem dX6_init_14 : decode cX6_init 14 = .ok (.putfield 14, 3) := by decide +kernel
theorem dX6_init_17 : decode cX6_init 17 = .ok (.aload_n 0, 1) := by decide +kernel
theorem dX6_init_18 : decode cX6_init 18 = .ok (.new 9, 3) := by decide +kernel
theorem dX6_init_21 : decode cX6_init 21 = .ok (.dup, 1) := by decide +kernel
theorem dX6_init_22 : decode cX6_init 22 = .ok (.bipush 10, 2) := by decide +kernel
theorem dX6_init_24 : decode cX6_init 24 = .ok (.invokespecial 11, 3) := by decide +kernel
theorem dX6_init_27 : decode cX6_init 27 = .ok (.putfield 20, 3) := by decide +kernel
theorem dX6_init_30 : decode cX6_init 30 = .ok (.aload_n 0, 1) := by decide +kernel
theorem dX6_init_31 : decode cX6_init 31 = .ok (.new 9, 3) := by decide +kernel
theorem dX6_init_34 : decode cX6_init 34 = .ok (.dup, 1) := by decide +kernel
theorem dX6_init_35 : decode cX6_init 35 = .ok (.bipush 10, 2) := by decide +kernel
theorem dX6_init_37 : decode cX6_init 37 = .ok (.invokespecial 11, 3) := by decide +kernel
theorem dX6_init_40 : decode cX6_init 40 = .ok (.putfield 23, 3) := by decide +kernel
theorem dX6_init_43 : decode cX6_init 43 = .ok (.aload_n 0, 1) := by decide +kernel
theorem dX6_init_44 : decode cX6_init 44 = .ok (.new 9, 3) := by decide +kernel
theorem dX6_init_47 : decode cX6_init 47 = .ok (.dup, 1) := by decide +kernel
theorem dX6_init_48 : decode cX6_init 48 = .ok (.bipush 10, 2) := by decide +kernel
theorem dX6_init_50 : decode cX6_init 50 = .ok (.invokespecial 11, 3) := by decide +kernel
theorem dX6_init_53 : decode cX6_init 53 = .ok (.putfield 26, 3) := by decide +kernel
theorem dX6_init_56 : decode cX6_init 56 = .ok (.aload_n 0, 1) := by decide +kernel
theorem dX6_init_57 : decode cX6_init 57 = .ok (.new 9, 3) := by decide +kernel
theorem dX6_init_60 : decode cX6_init 60 = .ok (.dup, 1) := by decide +kernel
theorem dX6_init_61 : decode cX6_init 61 = .ok (.bipush 10, 2) := by decide +kernel
theorem dX6_init_63 : decode cX6_init 63 = .ok (.invokespecial 11, 3) := by decide +kernel
theorem dX6_init_66 : decode cX6_init 66 = .ok (.putfield 29, 3) := by decide +kernel
theorem dX6_init_69 : decode cX6_init 69 = .ok (.aload_n 0, 1) := by decide +kernel
theorem dX6_init_70 : decode cX6_init 70 = .ok (.new 9, 3) := by decide +kernel
theorem dX6_init_73 : decode cX6_init 73 = .ok (.dup, 1) := by decide +kernel
theorem dX6_init_74 : decode cX6_init 74 = .ok (.bipush 10, 2) := by decide +kernel
theorem dX6_init_76 : decode cX6_init 76 = .ok (.invokespecial 11, 3) := by decide +kernel
theorem dX6_init_79 : decode cX6_init 79 = .ok (.putfield 32, 3) := by decide +kernel
theorem dX6_init_82 : decode cX6_init 82 = .ok (.aload_n 0, 1) := by decide +kernel
theorem dX6_init_83 : decode cX6_init 83 = .ok (.new 9, 3) := by decide +kernel
theorem dX6_init_86 : decode cX6_init 86 = .ok (.dup, 1) := by decide +kernel
theorem dX6_init_87 : decode cX6_init 87 = .ok (.bipush 10, 2) := by decide +kernel
theorem dX6_init_89 : decode cX6_init 89 = .ok (.invokespecial 11, 3) := by decide +kernel
theorem dX6_init_92 : decode cX6_init 92 = .ok (.putfield 35, 3) := by decide +kernel
theorem dX6_init_95 : decode cX6_init 95 = .ok (.return_, 1) := by decide +kernel
theorem dX6_measure_0 : decode cX6_measure 0 = .ok (.aload_n 0, 1) := by decide +kernel
theorem dX6_measure_1 : decode cX6_measure 1 = .ok (.invokevirtual 38, 3) := by decide +kernel
theorem dX6_measure_4 : decode cX6_measure 4 = .ok (.iconst 0, 1) := by decide +kernel
theorem dX6_measure_5 : decode cX6_measure 5 = .ok (.istore 4, 2) := by decide +kernel
theorem dX6_measure_7 : decode cX6_measure 7 = .ok (.iload 4, 2) := by decide +kernel
theorem dX6_measure_9 : decode cX6_measure 9 = .ok (.aload_n 2, 1) := by decide +kernel
theorem dX6_measure_10 : decode cX6_measure 10 = .ok (.invokevirtual 41, 3) := by decide +kernel
theorem dX6_measure_13 : decode cX6_measure 13 = .ok (.if_icmp .ge 126, 3) := by decide +kernel
theorem dX6_measure_16 : decode cX6_measure 16 = .ok (.aload_n 0, 1) := by decide +kernel
theorem dX6_measure_17 : decode cX6_measure 17 = .ok (.getfield 47, 3) := by decide +kernel
theorem dX6_measure_20 : decode cX6_measure 20 = .ok (.aload_n 2, 1) := by decide +kernel
theorem dX6_measure_21 : decode cX6_measure 21 = .ok (.getfield 51, 3) := by decide +kernel
theorem dX6_measure_24 : decode cX6_measure 24 = .ok (.iload 4, 2) := by decide +kernel
theorem dX6_measure_26 : decode cX6_measure 26 = .ok (.invokevirtual 54, 3) := by decide +kernel
theorem dX6_measure_29 : decode cX6_measure 29 = .ok (.iadd, 1) := by decide +kernel
theorem dX6_measure_30 : decode cX6_measure 30 = .ok (.istore 5, 2) := by decide +kernel
theorem dX6_measure_32 : decode cX6_measure 32 = .ok (.aload_n 2, 1) := by decide +kernel
theorem dX6_measure_33 : decode cX6_measure 33 = .ok (.aload_n 0, 1) := by decide +kernel
theorem dX6_measure_34 : decode cX6_measure 34 = .ok (.getfield 47, 3) := by decide +kernel
theorem dX6_measure_37 : decode cX6_measure 37 = .ok (.iload 5, 2) := by decide +kernel
theorem dX6_measure_39 : decode cX6_measure 39 = .ok (.invokevirtual 58, 3) := by decide +kernel
theorem dX6_measure_42 : decode cX6_measure 42 = .ok (.istore 6, 2) := by decide +kernel
theorem dX6_measure_44 : decode cX6_measure 44 = .ok (.aload_n 2, 1) := by decide +kernel
theorem dX6_measure_45 : decode cX6_measure 45 = .ok (.aload_n 0, 1) := by decide +kernel
theorem dX6_measure_46 : decode cX6_measure 46 = .ok (.getfield 47, 3) := by decide +kernel
theorem dX6_measure_49 : decode cX6_measure 49 = .ok (.iload 5, 2) := by decide +kernel
theorem dX6_measure_51 : decode cX6_measure 51 = .ok (.iload_n 3, 1) := by decide +kernel
theorem dX6_measure_52 : decode cX6_measure 52 = .ok (.invokevirtual 62, 3) := by decide +kernel
theorem dX6_measure_55 : decode cX6_measure 55 = .ok (.istore 7, 2) := by decide +kernel
theorem dX6_measure_57 : decode cX6_measure 57 = .ok (.aload_n 0, 1) := by decide +kernel
theorem dX6_measure_58 : decode cX6_measure 58 = .ok (.getfield 14, 3) := by decide +kernel
theorem dX6_measure_61 : decode cX6_measure 61 = .ok (.aload_n 0, 1) := by decide +kernel
theorem dX6_measure_62 : decode cX6_measure 62 = .ok (.getfield 47, 3) := by decide +kernel
theorem dX6_measure_65 : decode cX6_measure 65 = .ok (.invokevirtual 66, 3) := by decide +kernel
theorem dX6_measure_68 : decode cX6_measure 68 = .ok (.aload_n 0, 1) := by decide +kernel
theorem dX6_measure_69 : decode cX6_measure 69 = .ok (.getfield 20, 3) := by decide +kernel
theorem dX6_measure_72 : decode cX6_measure 72 = .ok (.iload 6, 2) := by decide +kernel
theorem dX6_measure_74 : decode cX6_measure 74 = .ok (.invokevirtual 66, 3) := by decide +kernel
theorem dX6_measure_77 : decode cX6_measure 77 = .ok (.aload_n 0, 1) := by decide +kernel
theorem dX6_measure_78 : decode cX6_measure 78 = .ok (.getfield 23, 3) := by decide +kernel
theorem dX6_measure_81 : decode cX6_measure 81 = .ok (.iload 7, 2) := by decide +kernel
theorem dX6_measure_83 : decode cX6_measure 83 = .ok (.invokevirtual 66, 3) := by decide +kernel
theorem dX6_measure_86 : decode cX6_measure 86 = .ok (.aload_n 0, 1) := by decide +kernel
theorem dX6_measure_87 : decode cX6_measure 87 = .ok (.getfield 26, 3) := by decide +kernel
theorem dX6_measure_90 : decode cX6_measure 90 = .ok (.aload_n 0, 1) := by decide +kernel
theorem dX6_measure_91 : decode cX6_measure 91 = .ok (.getfield 69, 3) := by decide +kernel
theorem dX6_measure_94 : decode cX6_measure 94 = .ok (.invokevirtual 66, 3) := by decide +kernel
theorem dX6_measure_97 : decode cX6_measure 97 = .ok (.aload_n 0, 1) := by decide +kernel
theorem dX6_measure_98 : decode cX6_measure 98 = .ok (.iload 5, 2) := by decide +kernel
theorem dX6_measure_100 : decode cX6_measure 100 = .ok (.putfield 47, 3) := by decide +kernel
theorem dX6_measure_103 : decode cX6_measure 103 = .ok (.aload_n 0, 1) := by decide +kernel
theorem dX6_measure_104 : decode cX6_measure 104 = .ok (.dup, 1) := by decide +kernel
theorem dX6_measure_105 : decode cX6_measure 105 = .ok (.getfield 72, 3) := by decide +kernel
theorem dX6_measure_108 : decode cX6_measure 108 = .ok (.iload 6, 2) := by decide +kernel
theorem dX6_measure_110 : decode cX6_measure 110 = .ok (.iadd, 1) := by decide +kernel
theorem dX6_measure_111 : decode cX6_measure 111 = .ok (.putfield 72, 3) := by decide +kernel
theorem dX6_measure_114 : decode cX6_measure 114 = .ok (.aload_n 0, 1) := by decide +kernel
theorem dX6_measure_115 : decode cX6_measure 115 = .ok (.dup, 1) := by decide +kernel
theorem dX6_measure_116 : decode cX6_measure 116 = .ok (.getfield 69, 3) := by decide +kernel
theorem dX6_measure_119 : decode cX6_measure 119 = .ok (.iload 7, 2) := by decide +kernel
theorem dX6_measure_121 : decode cX6_measure 121 = .ok (.iadd, 1) := by decide +kernel
theorem dX6_measure_122 : decode cX6_measure 122 = .ok (.putfield 69, 3) := by decide +kernel
theorem dX6_measure_125 : decode cX6_measure 125 = .ok (.aload_n 0, 1) := by decide +kernel
theorem dX6_measure_126 : decode cX6_measure 126 = .ok (.aload_n 1, 1) := by decide +kernel
theorem dX6_measure_127 : decode cX6_measure 127 = .ok (.aload_n 2, 1) := by decide +kernel
theorem dX6_measure_128 : decode cX6_measure 128 = .ok (.iload 4, 2) := by decide +kernel
theorem dX6_measure_130 : decode cX6_measure 130 = .ok (.invokevirtual 75, 3) := by decide +kernel
theorem dX6_measure_133 : decode cX6_measure 133 = .ok (.iinc 4 1, 3) := by decide +kernel
theorem dX6_measure_136 : decode cX6_measure 136 = .ok (.goto (-129), 3) := by decide +kernel
theorem dX6_measure_139 : decode cX6_measure 139 = .ok (.return_, 1) := by decide +kernel
theorem dX6_clear_0 : decode cX6_clear 0 = .ok (.aload_n 0, 1) := by decide +kernel
theorem dX6_clear_1 : decode cX6_clear 1 = .ok (.getfield 14, 3) := by decide +kernel
theorem dX6_clear_4 : decode cX6_clear 4 = .ok (.invokevirtual 79, 3) := by decide +kernel
theorem dX6_clear_7 : decode cX6_clear 7 = .ok (.aload_n 0, 1) := by decide +kernel
theorem dX6_clear_8 : decode cX6_clear 8 = .ok (.getfield 20, 3) := by decide +kernel
theorem dX6_clear_11 : decode cX6_clear 11 = .ok (.invokevirtual 79, 3) := by decide +kernel
theorem dX6_clear_14 : decode cX6_clear 14 = .ok (.aload_n 0, 1) := by decide +kernel
theorem dX6_clear_15 : decode cX6_clear 15 = .ok (.getfield 23, 3) := by decide +kernel
theorem dX6_clear_18 : decode cX6_clear 18 = .ok (.invokevirtual 79, 3) := by decide +kernel
theorem dX6_clear_21 : decode cX6_clear 21 = .ok (.aload_n 0, 1) := by decide +kernel
theorem dX6_clear_22 : decode cX6_clear 22 = .ok (.getfield 26, 3) := by decide +kernel
theorem dX6_clear_25 : decode cX6_clear 25 = .ok (.invokevirtual 79, 3) := by decide +kernel
theorem dX6_clear_28 : decode cX6_clear 28 = .ok (.aload_n 0, 1) := by decide +kernel
theorem dX6_clear_29 : decode cX6_clear 29 = .ok (.getfield 29, 3) := by decide +kernel
theorem dX6_clear_32 : decode cX6_clear 32 = .ok (.invokevirtual 79, 3) := by decide +kernel
theorem dX6_clear_35 : decode cX6_clear 35 = .ok (.aload_n 0, 1) := by decide +kernel
theorem dX6_clear_36 : decode cX6_clear 36 = .ok (.getfield 32, 3) := by decide +kernel
theorem dX6_clear_39 : decode cX6_clear 39 = .ok (.invokevirtual 79, 3) := by decide +kernel
theorem dX6_clear_42 : decode cX6_clear 42 = .ok (.aload_n 0, 1) := by decide +kernel
theorem dX6_clear_43 : decode cX6_clear 43 = .ok (.getfield 35, 3) := by decide +kernel
theorem dX6_clear_46 : decode cX6_clear 46 = .ok (.invokevirtual 79, 3) := by decide +kernel
theorem dX6_clear_49 : decode cX6_clear 49 = .ok (.aload_n 0, 1) := by decide +kernel
theorem dX6_clear_50 : decode cX6_clear 50 = .ok (.iconst 0, 1) := by decide +kernel
theorem dX6_clear_51 : decode cX6_clear 51 = .ok (.putfield 47, 3) := by decide +kernel
theorem dX6_clear_54 : decode cX6_clear 54 = .ok (.aload_n 0, 1) := by decide +kernel
theorem dX6_clear_55 : decode cX6_clear 55 = .ok (.iconst 0, 1) := by decide +kernel
theorem dX6_clear_56 : decode cX6_clear 56 = .ok (.putfield 72, 3) := by decide +kernel
theorem dX6_clear_59 : decode cX6_clear 59 = .ok (.aload_n 0, 1) := by decide +kernel
theorem dX6_clear_60 : decode cX6_clear 60 = .ok (.iconst 0, 1) := by decide +kernel
theorem dX6_clear_61 : decode cX6_clear 61 = .ok (.putfield 69, 3) := by decide +kernel
theorem dX6_clear_64 : decode cX6_clear 64 = .ok (.aload_n 0, 1) := by decide +kernel
theorem dX6_clear_65 : decode cX6_clear 65 = .ok (.iconst 0, 1) := by decide +kernel
theorem dX6_clear_66 : decode cX6_clear 66 = .ok (.putfield 80, 3) := by decide +kernel
theorem dX6_clear_69 : decode cX6_clear 69 = .ok (.aload_n 0, 1) := by decide +kernel
theorem dX6_clear_70 : decode cX6_clear 70 = .ok (.iconst 0, 1) := by decide +kernel
theorem dX6_clear_71 : decode cX6_clear 71 = .ok (.putfield 83, 3) := by decide +kernel
theorem dX6_clear_74 : decode cX6_clear 74 = .ok (.aload_n 0, 1) := by decide +kernel
theorem dX6_clear_75 : decode cX6_clear 75 = .ok (.iconst 0, 1) := by decide +kernel
theorem dX6_clear_76 : decode cX6_clear 76 = .ok (.putfield 86, 3) := by decide +kernel
theorem dX6_clear_79 : decode cX6_clear 79 = .ok (.aload_n 0, 1) := by decide +kernel
theorem dX6_clear_80 : decode cX6_clear 80 = .ok (.iconst 0, 1) := by decide +kernel
theorem dX6_clear_81 : decode cX6_clear 81 = .ok (.putfield 89, 3) := by decide +kernel
theorem dX6_clear_84 : decode cX6_clear 84 = .ok (.return_, 1) := by decide +kernel
theorem dX6_measureCue_0 : decode cX6_measureCue 0 = .ok (.aload_n 0, 1) := by decide +kernel
theorem dX6_measureCue_1 : decode cX6_measureCue 1 = .ok (.getfield 26, 3) := by decide +kernel
theorem dX6_measureCue_4 : decode cX6_measureCue 4 = .ok (.iload_n 3, 1) := by decide +kernel
theorem dX6_measureCue_5 : decode cX6_measureCue 5 = .ok (.invokevirtual 54, 3) := by decide +kernel
theorem dX6_measureCue_8 : decode cX6_measureCue 8 = .ok (.aload_n 0, 1) := by decide +kernel
theorem dX6_measureCue_9 : decode cX6_measureCue 9 = .ok (.getfield 89, 3) := by decide +kernel
theorem dX6_measureCue_12 : decode cX6_measureCue 12 = .ok (.invokestatic 92, 3) := by decide +kernel
theorem dX6_measureCue_15 : decode cX6_measureCue 15 = .ok (.istore 4, 2) := by decide +kernel
theorem dX6_measureCue_17 : decode cX6_measureCue 17 = .ok (.aload_n 0, 1) := by decide +kernel
theorem dX6_measureCue_18 : decode cX6_measureCue 18 = .ok (.getfield 29, 3) := by decide +kernel
theorem dX6_measureCue_21 : decode cX6_measureCue 21 = .ok (.iload 4, 2) := by decide +kernel
theorem dX6_measureCue_23 : decode cX6_measureCue 23 = .ok (.invokevirtual 66, 3) := by decide +kernel
theorem dX6_measureCue_26 : decode cX6_measureCue 26 = .ok (.aload_n 2, 1) := by decide +kernel
theorem dX6_measureCue_27 : decode cX6_measureCue 27 = .ok (.iload_n 3, 1) := by decide +kernel
theorem dX6_measureCue_28 : decode cX6_measureCue 28 = .ok (.invokevirtual 97, 3) := by decide +kernel
theorem dX6_measureCue_31 : decode cX6_measureCue 31 = .ok (.ifCond .ne 20, 3) := by decide +kernel
theorem dX6_measureCue_34 : decode cX6_measureCue 34 = .ok (.aload_n 0, 1) := by decide +kernel
theorem dX6_measureCue_35 : decode cX6_measureCue 35 = .ok (.getfield 32, 3) := by decide +kernel
theorem dX6_measureCue_38 : decode cX6_measureCue 38 = .ok (.iconst 0, 1) := by decide +kernel
theorem dX6_measureCue_39 : decode cX6_measureCue 39 = .ok (.invokevirtual 66, 3) := by decide +kernel
theorem dX6_measureCue_42 : decode cX6_measureCue 42 = .ok (.aload_n 0, 1) := by decide +kernel
theorem dX6_measureCue_43 : decode cX6_measureCue 43 = .ok (.getfield 35, 3) := by decide +kernel
theorem dX6_measureCue_46 : decode cX6_measureCue 46 = .ok (.iconst 0, 1) := by decide +kernel
theorem dX6_measureCue_47 : decode cX6_measureCue 47 = .ok (.invokevirtual 66, 3) := by decide +kernel
theorem dX6_measureCue_50 : decode cX6_measureCue 50 = .ok (.return_, 1) := by decide +kernel
theorem dX6_measureCue_51 : decode cX6_measureCue 51 = .ok (.aload_n 0, 1) := by decide +kernel
theorem dX6_measureCue_52 : decode cX6_measureCue 52 = .ok (.iload 4, 2) := by decide +kernel
theorem dX6_measureCue_54 : decode cX6_measureCue 54 = .ok (.aload_n 1, 1) := by decide +kernel
theorem dX6_measureCue_55 : decode cX6_measureCue 55 = .ok (.aload_n 2, 1) := by decide +kernel
theorem dX6_measureCue_56 : decode cX6_measureCue 56 = .ok (.getfield 101, 3) := by decide +kernel
theorem dX6_measureCue_59 : decode cX6_measureCue 59 = .ok (.iload_n 3, 1) := by decide +kernel
theorem dX6_measureCue_60 : decode cX6_measureCue 60 = .ok (.invokevirtual 54, 3) := by decide +kernel
theorem dX6_measureCue_63 : decode cX6_measureCue 63 = .ok (.aload_n 2, 1) := by decide +kernel
theorem dX6_measureCue_64 : decode cX6_measureCue 64 = .ok (.getfield 104, 3) := by decide +kernel
theorem dX6_measureCue_67 : decode cX6_measureCue 67 = .ok (.iload_n 3, 1) := by decide +kernel
theorem dX6_measureCue_68 : decode cX6_measureCue 68 = .ok (.invokevirtual 54, 3) := by decide +kernel
theorem dX6_measureCue_71 : decode cX6_measureCue 71 = .ok (.aload_n 2, 1) := by decide +kernel
theorem dX6_measureCue_72 : decode cX6_measureCue 72 = .ok (.getfield 107, 3) := by decide +kernel
theorem dX6_measureCue_75 : decode cX6_measureCue 75 = .ok (.iload_n 3, 1) := by decide +kernel
theorem dX6_measureCue_76 : decode cX6_measureCue 76 = .ok (.invokevirtual 54, 3) := by decide +kernel
theorem dX6_measureCue_79 : decode cX6_measureCue 79 = .ok (.invokevirtual 110, 3) := by decide +kernel
theorem dX6_measureCue_82 : decode cX6_measureCue 82 = .ok (.iadd, 1) := by decide +kernel
theorem dX6_measureCue_83 : decode cX6_measureCue 83 = .ok (.putfield 89, 3) := by decide +kernel
theorem dX6_measureCue_86 : decode cX6_measureCue 86 = .ok (.aload_n 0, 1) := by decide +kernel
theorem dX6_measureCue_87 : decode cX6_measureCue 87 = .ok (.getfield 89, 3) := by decide +kernel
theorem dX6_measureCue_90 : decode cX6_measureCue 90 = .ok (.aload_n 0, 1) := by decide +kernel
theorem dX6_measureCue_91 : decode cX6_measureCue 91 = .ok (.getfield 69, 3) := by decide +kernel
theorem dX6_measureCue_94 : decode cX6_measureCue 94 = .ok (.isub, 1) := by decide +kernel
theorem dX6_measureCue_95 : decode cX6_measureCue 95 = .ok (.istore 5, 2) := by decide +kernel
theorem dX6_measureCue_97 : decode cX6_measureCue 97 = .ok (.aload_n 0, 1) := by decide +kernel
theorem dX6_measureCue_98 : decode cX6_measureCue 98 = .ok (.getfield 32, 3) := by decide +kernel
theorem dX6_measureCue_101 : decode cX6_measureCue 101 = .ok (.aload_n 0, 1) := by decide +kernel
theorem dX6_measureCue_102 : decode cX6_measureCue 102 = .ok (.getfield 89, 3) := by decide +kernel
theorem dX6_measureCue_105 : decode cX6_measureCue 105 = .ok (.invokevirtual 66, 3) := by decide +kernel
theorem dX6_measureCue_108 : decode cX6_measureCue 108 = .ok (.aload_n 0, 1) := by decide +kernel
theorem dX6_measureCue_109 : decode cX6_measureCue 109 = .ok (.getfield 35, 3) := by decide +kernel
theorem dX6_measureCue_112 : decode cX6_measureCue 112 = .ok (.iload 5, 2) := by decide +kernel
theorem dX6_measureCue_114 : decode cX6_measureCue 114 = .ok (.invokevirtual 66, 3) := by decide +kernel
theorem dX6_measureCue_117 : decode cX6_measureCue 117 = .ok (.aload_n 0, 1) := by decide +kernel
theorem dX6_measureCue_118 : decode cX6_measureCue 118 = .ok (.dup, 1) := by decide +kernel
theorem dX6_measureCue_119 : decode cX6_measureCue 119 = .ok (.getfield 80, 3) := by decide +kernel
theorem dX6_measureCue_122 : decode cX6_measureCue 122 = .ok (.iconst 1, 1) := by decide +kernel
theorem dX6_measureCue_123 : decode cX6_measureCue 123 = .ok (.iadd, 1) := by decide +kernel
theorem dX6_measureCue_124 : decode cX6_measureCue 124 = .ok (.putfield 80, 3) := by decide +kernel
theorem dX6_measureCue_127 : decode cX6_measureCue 127 = .ok (.aload_n 0, 1) := by decide +kernel
theorem dX6_measureCue_128 : decode cX6_measureCue 128 = .ok (.dup, 1) := by decide +kernel
theorem dX6_measureCue_129 : decode cX6_measureCue 129 = .ok (.getfield 86, 3) := by decide +kernel
theorem dX6_measureCue_132 : decode cX6_measureCue 132 = .ok (.iload 5, 2) := by decide +kernel
theorem dX6_measureCue_134 : decode cX6_measureCue 134 = .ok (.invokestatic 115, 3) := by decide +kernel
theorem dX6_measureCue_137 : decode cX6_measureCue 137 = .ok (.iadd, 1) := by decide +kernel
theorem dX6_measureCue_138 : decode cX6_measureCue 138 = .ok (.putfield 86, 3) := by decide +kernel
theorem dX6_measureCue_141 : decode cX6_measureCue 141 = .ok (.aload_n 0, 1) := by decide +kernel
theorem dX6_measureCue_142 : decode cX6_measureCue 142 = .ok (.dup, 1) := by decide +kernel
theorem dX6_measureCue_143 : decode cX6_measureCue 143 = .ok (.getfield 83, 3) := by decide +kernel
theorem dX6_measureCue_146 : decode cX6_measureCue 146 = .ok (.aload_n 1, 1) := by decide +kernel
theorem dX6_measureCue_147 : decode cX6_measureCue 147 = .ok (.iload 5, 2) := by decide +kernel
theorem dX6_measureCue_149 : decode cX6_measureCue 149 = .ok (.invokevirtual 118, 3) := by decide +kernel
theorem dX6_measureCue_152 : decode cX6_measureCue 152 = .ok (.ifCond .eq 7, 3) := by decide +kernel
theorem dX6_measureCue_155 : decode cX6_measureCue 155 = .ok (.iconst 1, 1) := by decide +kernel
theorem dX6_measureCue_156 : decode cX6_measureCue 156 = .ok (.goto 4, 3) := by decide +kernel
theorem dX6_measureCue_159 : decode cX6_measureCue 159 = .ok (.iconst 0, 1) := by decide +kernel
theorem dX6_measureCue_160 : decode cX6_measureCue 160 = .ok (.iadd, 1) := by decide +kernel
theorem dX6_measureCue_161 : decode cX6_measureCue 161 = .ok (.putfield 83, 3) := by decide +kernel
theorem dX6_measureCue_164 : decode cX6_measureCue 164 = .ok (.return_, 1) := by decide +kernel
theorem dX6_roomForCue_0 : decode cX6_roomForCue 0 = .ok (.aload_n 0, 1) := by decide +kernel
theorem dX6_roomForCue_1 : decode cX6_roomForCue 1 = .ok (.getfield 26, 3) := by decide +kernel
theorem dX6_roomForCue_4 : decode cX6_roomForCue 4 = .ok (.iload_n 1, 1) := by decide +kernel
theorem dX6_roomForCue_5 : decode cX6_roomForCue 5 = .ok (.invokevirtual 54, 3) := by decide +kernel
theorem dX6_roomForCue_8 : decode cX6_roomForCue 8 = .ok (.aload_n 0, 1) := by decide +kernel
theorem dX6_roomForCue_9 : decode cX6_roomForCue 9 = .ok (.getfield 23, 3) := by decide +kernel
theorem dX6_roomForCue_12 : decode cX6_roomForCue 12 = .ok (.iload_n 1, 1) := by decide +kernel
theorem dX6_roomForCue_13 : decode cX6_roomForCue 13 = .ok (.invokevirtual 54, 3) := by decide +kernel
theorem dX6_roomForCue_16 : decode cX6_roomForCue 16 = .ok (.iadd, 1) := by decide +kernel
theorem dX6_roomForCue_17 : decode cX6_roomForCue 17 = .ok (.aload_n 0, 1) := by decide +kernel
theorem dX6_roomForCue_18 : decode cX6_roomForCue 18 = .ok (.getfield 29, 3) := by decide +kernel
theorem dX6_roomForCue_21 : decode cX6_roomForCue 21 = .ok (.iload_n 1, 1) := by decide +kernel
theorem dX6_roomForCue_22 : decode cX6_roomForCue 22 = .ok (.invokevirtual 54, 3) := by decide +kernel
theorem dX6_roomForCue_25 : decode cX6_roomForCue 25 = .ok (.isub, 1) := by decide +kernel
theorem dX6_roomForCue_26 : decode cX6_roomForCue 26 = .ok (.ireturn, 1) := by decide +kernel
theorem dX6_silence_0 : decode cX6_silence 0 = .ok (.iconst 0, 1) := by decide +kernel
theorem dX6_silence_1 : decode cX6_silence 1 = .ok (.istore_n 2, 1) := by decide +kernel
theorem dX6_silence_2 : decode cX6_silence 2 = .ok (.iconst 0, 1) := by decide +kernel
theorem dX6_silence_3 : decode cX6_silence 3 = .ok (.istore_n 3, 1) := by decide +kernel
theorem dX6_silence_4 : decode cX6_silence 4 = .ok (.iload_n 3, 1) := by decide +kernel
theorem dX6_silence_5 : decode cX6_silence 5 = .ok (.aload_n 1, 1) := by decide +kernel
theorem dX6_silence_6 : decode cX6_silence 6 = .ok (.invokevirtual 41, 3) := by decide +kernel
theorem dX6_silence_9 : decode cX6_silence 9 = .ok (.if_icmp .ge 48, 3) := by decide +kernel
theorem dX6_silence_12 : decode cX6_silence 12 = .ok (.aload_n 1, 1) := by decide +kernel
theorem dX6_silence_13 : decode cX6_silence 13 = .ok (.iload_n 3, 1) := by decide +kernel
theorem dX6_silence_14 : decode cX6_silence 14 = .ok (.invokevirtual 97, 3) := by decide +kernel
theorem dX6_silence_17 : decode cX6_silence 17 = .ok (.ifCond .eq 34, 3) := by decide +kernel
theorem dX6_silence_20 : decode cX6_silence 20 = .ok (.iload_n 2, 1) := by decide +kernel
theorem dX6_silence_21 : decode cX6_silence 21 = .ok (.iconst 0, 1) := by decide +kernel
theorem dX6_silence_22 : decode cX6_silence 22 = .ok (.aload_n 0, 1) := by decide +kernel
theorem dX6_silence_23 : decode cX6_silence 23 = .ok (.getfield 32, 3) := by decide +kernel
theorem dX6_silence_26 : decode cX6_silence 26 = .ok (.iload_n 3, 1) := by decide +kernel
theorem dX6_silence_27 : decode cX6_silence 27 = .ok (.invokevirtual 54, 3) := by decide +kernel
theorem dX6_silence_30 : decode cX6_silence 30 = .ok (.aload_n 0, 1) := by decide +kernel
theorem dX6_silence_31 : decode cX6_silence 31 = .ok (.getfield 69, 3) := by decide +kernel
theorem dX6_silence_34 : decode cX6_silence 34 = .ok (.invokestatic 121, 3) := by decide +kernel
theorem dX6_silence_37 : decode cX6_silence 37 = .ok (.aload_n 0, 1) := by decide +kernel
theorem dX6_silence_38 : decode cX6_silence 38 = .ok (.getfield 29, 3) := by decide +kernel
theorem dX6_silence_41 : decode cX6_silence 41 = .ok (.iload_n 3, 1) := by decide +kernel
theorem dX6_silence_42 : decode cX6_silence 42 = .ok (.invokevirtual 54, 3) := by decide +kernel
theorem dX6_silence_45 : decode cX6_silence 45 = .ok (.isub, 1) := by decide +kernel
theorem dX6_silence_46 : decode cX6_silence 46 = .ok (.invokestatic 92, 3) := by decide +kernel
theorem dX6_silence_49 : decode cX6_silence 49 = .ok (.iadd, 1) := by decide +kernel
theorem dX6_silence_50 : decode cX6_silence 50 = .ok (.istore_n 2, 1) := by decide +kernel
theorem dX6_silence_51 : decode cX6_silence 51 = .ok (.iinc 3 1, 3) := by decide +kernel
theorem dX6_silence_54 : decode cX6_silence 54 = .ok (.goto (-50), 3) := by decide +kernel
theorem dX6_silence_57 : decode cX6_silence 57 = .ok (.aload_n 0, 1) := by decide +kernel
theorem dX6_silence_58 : decode cX6_silence 58 = .ok (.getfield 69, 3) := by decide +kernel
theorem dX6_silence_61 : decode cX6_silence 61 = .ok (.iload_n 2, 1) := by decide +kernel
theorem dX6_silence_62 : decode cX6_silence 62 = .ok (.isub, 1) := by decide +kernel
theorem dX6_silence_63 : decode cX6_silence 63 = .ok (.ireturn, 1) := by decide +kernel
theorem dJ9_abs_0f7a4_0 : decode cJ9_abs_0f7a4 0 = .ok (.iload_n 0, 1) := by decide +kernel
theorem dJ9_abs_0f7a4_1 : decode cJ9_abs_0f7a4 1 = .ok (.ifCond .ge 8, 3) := by decide +kernel
theorem dJ9_abs_0f7a4_4 : decode cJ9_abs_0f7a4 4 = .ok (.iload_n 0, 1) := by decide +kernel
theorem dJ9_abs_0f7a4_5 : decode cJ9_abs_0f7a4 5 = .ok (.ineg, 1) := by decide +kernel
theorem dJ9_abs_0f7a4_6 : decode cJ9_abs_0f7a4 6 = .ok (.goto 4, 3) := by decide +kernel
theorem dJ9_abs_0f7a4_9 : decode cJ9_abs_0f7a4 9 = .ok (.iload_n 0, 1) := by decide +kernel
theorem dJ9_abs_0f7a4_10 : decode cJ9_abs_0f7a4 10 = .ok (.ireturn, 1) := by decide +kernel
theorem dJ9_max_7cf53_0 : decode cJ9_max_7cf53 0 = .ok (.iload_n 0, 1) := by decide +kernel
theorem dJ9_max_7cf53_1 : decode cJ9_max_7cf53 1 = .ok (.iload_n 1, 1) := by decide +kernel
theorem dJ9_max_7cf53_2 : decode cJ9_max_7cf53 2 = .ok (.if_icmp .lt 7, 3) := by decide +kernel
theorem dJ9_max_7cf53_5 : decode cJ9_max_7cf53 5 = .ok (.iload_n 0, 1) := by decide +kernel
theorem dJ9_max_7cf53_6 : decode cJ9_max_7cf53 6 = .ok (.goto 4, 3) := by decide +kernel
theorem dJ9_max_7cf53_9 : decode cJ9_max_7cf53 9 = .ok (.iload_n 1, 1) := by decide +kernel
theorem dJ9_max_7cf53_10 : decode cJ9_max_7cf53 10 = .ok (.ireturn, 1) := by decide +kernel
theorem dJ9_min_7cf53_0 : decode cJ9_min_7cf53 0 = .ok (.iload_n 0, 1) := by decide +kernel
theorem dJ9_min_7cf53_1 : decode cJ9_min_7cf53 1 = .ok (.iload_n 1, 1) := by decide +kernel
theorem dJ9_min_7cf53_2 : decode cJ9_min_7cf53 2 = .ok (.if_icmp .gt 7, 3) := by decide +kernel
theorem dJ9_min_7cf53_5 : decode cJ9_min_7cf53 5 = .ok (.iload_n 0, 1) := by decide +kernel
theorem dJ9_min_7cf53_6 : decode cJ9_min_7cf53 6 = .ok (.goto 4, 3) := by decide +kernel
theorem dJ9_min_7cf53_9 : decode cJ9_min_7cf53 9 = .ok (.iload_n 1, 1) := by decide +kernel
theorem dJ9_min_7cf53_10 : decode cJ9_min_7cf53 10 = .ok (.ireturn, 1) := by decide +kernel
