theorem dX7_init_0 : decode cX7_init 0 = .ok (.aload_n 0, 1) := by decide +kernel
theorem dX7_init_1 : decode cX7_init 1 = .ok (.invokespecial 1, 3) := by decide +kernel
theorem dX7_init_4 : decode cX7_init 4 = .ok (.aload_n 0, 1) := by decide +kernel
theorem dX7_init_5 : decode cX7_init 5 = .ok (.new 7, 3) := by decide +kernel
theorem dX7_init_8 : decode cX7_init 8 = .ok (.dup, 1) := by decide +kernel
theorem dX7_init_9 : decode cX7_init 9 = .ok (.invokespecial 9, 3) := by decide +kernel
theorem dX7_init_12 : decode cX7_init 12 = .ok (.putfield 10, 3) := by decide +kernel
theorem dX7_init_15 : decode cX7_init 15 = .ok (.aload_n 0, 1) := by decide +kernel
theorem dX7_init_16 : decode cX7_init 16 = .ok (.new 16, 3) := by decide +kernel
theorem dX7_init_19 : decode cX7_init 19 = .ok (.dup, 1) := by decide +kernel
theorem dX7_init_20 : decode cX7_init 20 = .ok (.invokespecial 18, 3) := by decide +kernel
theorem dX7_init_23 : decode cX7_init 23 = .ok (.putfield 19, 3) := by decide +kernel
theorem dX7_init_26 : decode cX7_init 26 = .ok (.aload_n 0, 1) := by decide +kernel
theorem dX7_init_27 : decode cX7_init 27 = .ok (.bipush 16, 2) := by decide +kernel
theorem dX7_init_29 : decode cX7_init 29 = .ok (.anewarray 23, 3) := by decide +kernel
theorem dX7_init_32 : decode cX7_init 32 = .ok (.putfield 25, 3) := by decide +kernel
theorem dX7_init_35 : decode cX7_init 35 = .ok (.aload_n 0, 1) := by decide +kernel
theorem dX7_init_36 : decode cX7_init 36 = .ok (.bipush 16, 2) := by decide +kernel
theorem dX7_init_38 : decode cX7_init 38 = .ok (.anewarray 29, 3) := by decide +kernel
theorem dX7_init_41 : decode cX7_init 41 = .ok (.putfield 31, 3) := by decide +kernel
theorem dX7_init_44 : decode cX7_init 44 = .ok (.aload_n 0, 1) := by decide +kernel
theorem dX7_init_45 : decode cX7_init 45 = .ok (.new 29, 3) := by decide +kernel
theorem dX7_init_48 : decode cX7_init 48 = .ok (.dup, 1) := by decide +kernel
theorem dX7_init_49 : decode cX7_init 49 = .ok (.iconst 0, 1) := by decide +kernel
theorem dX7_init_50 : decode cX7_init 50 = .ok (.invokespecial 35, 3) := by decide +kernel
theorem dX7_init_53 : decode cX7_init 53 = .ok (.putfield 38, 3) := by decide +kernel
theorem dX7_init_56 : decode cX7_init 56 = .ok (.aload_n 0, 1) := by decide +kernel
theorem dX7_init_57 : decode cX7_init 57 = .ok (.new 42, 3) := by decide +kernel
theorem dX7_init_60 : decode cX7_init 60 = .ok (.dup, 1) := by decide +kernel
theorem dX7_init_61 : decode cX7_init 61 = .ok (.invokespecial 44, 3) := by decide +kernel
theorem dX7_init_64 : decode cX7_init 64 = .ok (.putfield 45, 3) := by decide +kernel
theorem dX7_init_67 : decode cX7_init 67 = .ok (.aload_n 0, 1) := by decide +kernel
theorem dX7_init_68 : decode cX7_init 68 = .ok (.iconst (-1), 1) := by decide +kernel
theorem dX7_init_69 : decode cX7_init 69 = .ok (.putfield 49, 3) := by decide +kernel
theorem dX7_init_72 : decode cX7_init 72 = .ok (.return_, 1) := by decide +kernel
theorem dX7_source_0 : decode cX7_source 0 = .ok (.iload_n 1, 1) := by decide +kernel
theorem dX7_source_1 : decode cX7_source 1 = .ok (.iconst 1, 1) := by decide +kernel
theorem dX7_source_2 : decode cX7_source 2 = .ok (.if_icmp .lt 8, 3) := by decide +kernel
theorem dX7_source_5 : decode cX7_source 5 = .ok (.iload_n 1, 1) := by decide +kernel
theorem dX7_source_6 : decode cX7_source 6 = .ok (.iconst 4, 1) := by decide +kernel
theorem dX7_source_7 : decode cX7_source 7 = .ok (.if_icmp .le 6, 3) := by decide +kernel
theorem dX7_source_10 : decode cX7_source 10 = .ok (.bipush (-2), 2) := by decide +kernel
theorem dX7_source_12 : decode cX7_source 12 = .ok (.ireturn, 1) := by decide +kernel
theorem dX7_source_13 : decode cX7_source 13 = .ok (.aload_n 0, 1) := by decide +kernel
theorem dX7_source_14 : decode cX7_source 14 = .ok (.getfield 10, 3) := by decide +kernel
theorem dX7_source_17 : decode cX7_source 17 = .ok (.getfield 53, 3) := by decide +kernel
theorem dX7_source_20 : decode cX7_source 20 = .ok (.iconst 4, 1) := by decide +kernel
theorem dX7_source_21 : decode cX7_source 21 = .ok (.if_icmp .lt 8, 3) := by decide +kernel
theorem dX7_source_24 : decode cX7_source 24 = .ok (.bipush (-4), 2) := by decide +kernel
theorem dX7_source_26 : decode cX7_source 26 = .ok (.goto 11, 3) := by decide +kernel
theorem dX7_source_29 : decode cX7_source 29 = .ok (.aload_n 0, 1) := by decide +kernel
theorem dX7_source_30 : decode cX7_source 30 = .ok (.getfield 10, 3) := by decide +kernel
theorem dX7_source_33 : decode cX7_source 33 = .ok (.iload_n 1, 1) := by decide +kernel
theorem dX7_source_34 : decode cX7_source 34 = .ok (.invokevirtual 56, 3) := by decide +kernel
theorem dX7_source_37 : decode cX7_source 37 = .ok (.ireturn, 1) := by decide +kernel
theorem dX7_row_0 : decode cX7_row 0 = .ok (.aload_n 0, 1) := by decide +kernel
theorem dX7_row_1 : decode cX7_row 1 = .ok (.getfield 10, 3) := by decide +kernel
theorem dX7_row_4 : decode cX7_row 4 = .ok (.iload_n 1, 1) := by decide +kernel
theorem dX7_row_5 : decode cX7_row 5 = .ok (.invokevirtual 60, 3) := by decide +kernel
theorem dX7_row_8 : decode cX7_row 8 = .ok (.ifCond .ne 5, 3) := by decide +kernel
theorem dX7_row_11 : decode cX7_row 11 = .ok (.iconst (-1), 1) := by decide +kernel
theorem dX7_row_12 : decode cX7_row 12 = .ok (.ireturn, 1) := by decide +kernel
theorem dX7_row_13 : decode cX7_row 13 = .ok (.aload_n 0, 1) := by decide +kernel
theorem dX7_row_14 : decode cX7_row 14 = .ok (.getfield 10, 3) := by decide +kernel
theorem dX7_row_17 : decode cX7_row 17 = .ok (.getfield 64, 3) := by decide +kernel
theorem dX7_row_20 : decode cX7_row 20 = .ok (.bipush 36, 2) := by decide +kernel
theorem dX7_row_22 : decode cX7_row 22 = .ok (.if_icmp .lt 6, 3) := by decide +kernel
theorem dX7_row_25 : decode cX7_row 25 = .ok (.bipush (-4), 2) := by decide +kernel
theorem dX7_row_27 : decode cX7_row 27 = .ok (.ireturn, 1) := by decide +kernel
theorem dX7_row_28 : decode cX7_row 28 = .ok (.aload_n 0, 1) := by decide +kernel
theorem dX7_row_29 : decode cX7_row 29 = .ok (.getfield 10, 3) := by decide +kernel
theorem dX7_row_32 : decode cX7_row 32 = .ok (.iload_n 1, 1) := by decide +kernel
theorem dX7_row_33 : decode cX7_row 33 = .ok (.iload_n 2, 1) := by decide +kernel
theorem dX7_row_34 : decode cX7_row 34 = .ok (.iload_n 3, 1) := by decide +kernel
theorem dX7_row_35 : decode cX7_row 35 = .ok (.iload 4, 2) := by decide +kernel
theorem dX7_row_37 : decode cX7_row 37 = .ok (.iload 5, 2) := by decide +kernel
theorem dX7_row_39 : decode cX7_row 39 = .ok (.invokevirtual 67, 3) := by decide +kernel
theorem dX7_row_42 : decode cX7_row 42 = .ok (.istore 6, 2) := by decide +kernel
theorem dX7_row_44 : decode cX7_row 44 = .ok (.aload_n 0, 1) := by decide +kernel
theorem dX7_row_45 : decode cX7_row 45 = .ok (.dup, 1) := by decide +kernel
theorem dX7_row_46 : decode cX7_row 46 = .ok (.getfield 71, 3) := by decide +kernel
theorem dX7_row_49 : decode cX7_row 49 = .ok (.lconst 1, 1) := by decide +kernel
theorem dX7_row_50 : decode cX7_row 50 = .ok (.iload 6, 2) := by decide +kernel
theorem dX7_row_52 : decode cX7_row 52 = .ok (.lshl, 1) := by decide +kernel
theorem dX7_row_53 : decode cX7_row 53 = .ok (.lor, 1) := by decide +kernel
theorem dX7_row_54 : decode cX7_row 54 = .ok (.putfield 71, 3) := by decide +kernel
theorem dX7_row_57 : decode cX7_row 57 = .ok (.aload_n 0, 1) := by decide +kernel
theorem dX7_row_58 : decode cX7_row 58 = .ok (.invokevirtual 75, 3) := by decide +kernel
theorem dX7_row_61 : decode cX7_row 61 = .ok (.iload 6, 2) := by decide +kernel
theorem dX7_row_63 : decode cX7_row 63 = .ok (.ireturn, 1) := by decide +kernel
theorem dX7_scan_0 : decode cX7_scan 0 = .ok (.aload_n 0, 1) := by decide +kernel
theorem dX7_scan_1 : decode cX7_scan 1 = .ok (.getfield 10, 3) := by decide +kernel
theorem dX7_scan_4 : decode cX7_scan 4 = .ok (.iload_n 1, 1) := by decide +kernel
theorem dX7_scan_5 : decode cX7_scan 5 = .ok (.invokevirtual 60, 3) := by decide +kernel
theorem dX7_scan_8 : decode cX7_scan 8 = .ok (.ifCond .ne 5, 3) := by decide +kernel
theorem dX7_scan_11 : decode cX7_scan 11 = .ok (.iconst (-1), 1) := by decide +kernel
theorem dX7_scan_12 : decode cX7_scan 12 = .ok (.ireturn, 1) := by decide +kernel
theorem dX7_scan_13 : decode cX7_scan 13 = .ok (.aload_n 0, 1) := by decide +kernel
theorem dX7_scan_14 : decode cX7_scan 14 = .ok (.getfield 78, 3) := by decide +kernel
theorem dX7_scan_17 : decode cX7_scan 17 = .ok (.bipush 16, 2) := by decide +kernel
theorem dX7_scan_19 : decode cX7_scan 19 = .ok (.if_icmp .lt 6, 3) := by decide +kernel
theorem dX7_scan_22 : decode cX7_scan 22 = .ok (.bipush (-4), 2) := by decide +kernel
theorem dX7_scan_24 : decode cX7_scan 24 = .ok (.ireturn, 1) := by decide +kernel
theorem dX7_scan_25 : decode cX7_scan 25 = .ok (.aload_n 0, 1) := by decide +kernel
theorem dX7_scan_26 : decode cX7_scan 26 = .ok (.iconst 0, 1) := by decide +kernel
theorem dX7_scan_27 : decode cX7_scan 27 = .ok (.aload_n 0, 1) := by decide +kernel
theorem dX7_scan_28 : decode cX7_scan 28 = .ok (.getfield 10, 3) := by decide +kernel
theorem dX7_scan_31 : decode cX7_scan 31 = .ok (.getfield 81, 3) := by decide +kernel
theorem dX7_scan_34 : decode cX7_scan 34 = .ok (.iload_n 1, 1) := by decide +kernel
theorem dX7_scan_35 : decode cX7_scan 35 = .ok (.iaload, 1) := by decide +kernel
theorem dX7_scan_36 : decode cX7_scan 36 = .ok (.iconst (-1), 1) := by decide +kernel
theorem dX7_scan_37 : decode cX7_scan 37 = .ok (.iconst (-1), 1) := by decide +kernel
theorem dX7_scan_38 : decode cX7_scan 38 = .ok (.invokevirtual 85, 3) := by decide +kernel
theorem dX7_scan_41 : decode cX7_scan 41 = .ok (.iconst (-1), 1) := by decide +kernel
theorem dX7_scan_42 : decode cX7_scan 42 = .ok (.iconst (-1), 1) := by decide +kernel
theorem dX7_scan_43 : decode cX7_scan 43 = .ok (.iconst 0, 1) := by decide +kernel
theorem dX7_scan_44 : decode cX7_scan 44 = .ok (.iload_n 1, 1) := by decide +kernel
theorem dX7_scan_45 : decode cX7_scan 45 = .ok (.invokevirtual 89, 3) := by decide +kernel
theorem dX7_scan_48 : decode cX7_scan 48 = .ok (.aload_n 0, 1) := by decide +kernel
theorem dX7_scan_49 : decode cX7_scan 49 = .ok (.dup, 1) := by decide +kernel
theorem dX7_scan_50 : decode cX7_scan 50 = .ok (.getfield 78, 3) := by decide +kernel
theorem dX7_scan_53 : decode cX7_scan 53 = .ok (.dup_x1, 1) := by decide +kernel
theorem dX7_scan_54 : decode cX7_scan 54 = .ok (.iconst 1, 1) := by decide +kernel
theorem dX7_scan_55 : decode cX7_scan 55 = .ok (.iadd, 1) := by decide +kernel
theorem dX7_scan_56 : decode cX7_scan 56 = .ok (.putfield 78, 3) := by decide +kernel
theorem dX7_scan_59 : decode cX7_scan 59 = .ok (.ireturn, 1) := by decide +kernel
theorem dX7_pick_0 : decode cX7_pick 0 = .ok (.aload_n 0, 1) := by decide +kernel
theorem dX7_pick_1 : decode cX7_pick 1 = .ok (.iload_n 1, 1) := by decide +kernel
theorem dX7_pick_2 : decode cX7_pick 2 = .ok (.iload_n 2, 1) := by decide +kernel
theorem dX7_pick_3 : decode cX7_pick 3 = .ok (.invokevirtual 93, 3) := by decide +kernel
theorem dX7_pick_6 : decode cX7_pick 6 = .ok (.ifCond .eq 19, 3) := by decide +kernel
theorem dX7_pick_9 : decode cX7_pick 9 = .ok (.iload 4, 2) := by decide +kernel
theorem dX7_pick_11 : decode cX7_pick 11 = .ok (.iconst (-1), 1) := by decide +kernel
theorem dX7_pick_12 : decode cX7_pick 12 = .ok (.if_icmp .eq 15, 3) := by decide +kernel
theorem dX7_pick_15 : decode cX7_pick 15 = .ok (.aload_n 0, 1) := by decide +kernel
theorem dX7_pick_16 : decode cX7_pick 16 = .ok (.iload_n 1, 1) := by decide +kernel
theorem dX7_pick_17 : decode cX7_pick 17 = .ok (.iload 4, 2) := by decide +kernel
theorem dX7_pick_19 : decode cX7_pick 19 = .ok (.invokevirtual 93, 3) := by decide +kernel
theorem dX7_pick_22 : decode cX7_pick 22 = .ok (.ifCond .ne 5, 3) := by decide +kernel
theorem dX7_pick_25 : decode cX7_pick 25 = .ok (.iconst (-1), 1) := by decide +kernel
theorem dX7_pick_26 : decode cX7_pick 26 = .ok (.ireturn, 1) := by decide +kernel
theorem dX7_pick_27 : decode cX7_pick 27 = .ok (.iload_n 3, 1) := by decide +kernel
theorem dX7_pick_28 : decode cX7_pick 28 = .ok (.ifCond .lt 8, 3) := by decide +kernel
theorem dX7_pick_31 : decode cX7_pick 31 = .ok (.iload_n 3, 1) := by decide +kernel
theorem dX7_pick_32 : decode cX7_pick 32 = .ok (.iconst 2, 1) := by decide +kernel
theorem dX7_pick_33 : decode cX7_pick 33 = .ok (.if_icmp .le 6, 3) := by decide +kernel
theorem dX7_pick_36 : decode cX7_pick 36 = .ok (.bipush (-2), 2) := by decide +kernel
theorem dX7_pick_38 : decode cX7_pick 38 = .ok (.ireturn, 1) := by decide +kernel
theorem dX7_pick_39 : decode cX7_pick 39 = .ok (.aload_n 0, 1) := by decide +kernel
theorem dX7_pick_40 : decode cX7_pick 40 = .ok (.getfield 78, 3) := by decide +kernel
theorem dX7_pick_43 : decode cX7_pick 43 = .ok (.bipush 16, 2) := by decide +kernel
theorem dX7_pick_45 : decode cX7_pick 45 = .ok (.if_icmp .lt 6, 3) := by decide +kernel
theorem dX7_pick_48 : decode cX7_pick 48 = .ok (.bipush (-4), 2) := by decide +kernel
theorem dX7_pick_50 : decode cX7_pick 50 = .ok (.ireturn, 1) := by decide +kernel
theorem dX7_pick_51 : decode cX7_pick 51 = .ok (.aload_n 0, 1) := by decide +kernel
theorem dX7_pick_52 : decode cX7_pick 52 = .ok (.iconst 1, 1) := by decide +kernel
theorem dX7_pick_53 : decode cX7_pick 53 = .ok (.aload_n 0, 1) := by decide +kernel
theorem dX7_pick_54 : decode cX7_pick 54 = .ok (.getfield 25, 3) := by decide +kernel
theorem dX7_pick_57 : decode cX7_pick 57 = .ok (.iload_n 1, 1) := by decide +kernel
theorem dX7_pick_58 : decode cX7_pick 58 = .ok (.aaload, 1) := by decide +kernel
theorem dX7_pick_59 : decode cX7_pick 59 = .ok (.getfield 97, 3) := by decide +kernel
theorem dX7_pick_62 : decode cX7_pick 62 = .ok (.iload_n 1, 1) := by decide +kernel
theorem dX7_pick_63 : decode cX7_pick 63 = .ok (.iconst (-1), 1) := by decide +kernel
theorem dX7_pick_64 : decode cX7_pick 64 = .ok (.invokevirtual 85, 3) := by decide +kernel
theorem dX7_pick_67 : decode cX7_pick 67 = .ok (.iload_n 2, 1) := by decide +kernel
theorem dX7_pick_68 : decode cX7_pick 68 = .ok (.iload 4, 2) := by decide +kernel
theorem dX7_pick_70 : decode cX7_pick 70 = .ok (.iload_n 3, 1) := by decide +kernel
theorem dX7_pick_71 : decode cX7_pick 71 = .ok (.iload 5, 2) := by decide +kernel
theorem dX7_pick_73 : decode cX7_pick 73 = .ok (.invokevirtual 89, 3) := by decide +kernel
theorem dX7_pick_76 : decode cX7_pick 76 = .ok (.aload_n 0, 1) := by decide +kernel
theorem dX7_pick_77 : decode cX7_pick 77 = .ok (.dup, 1) := by decide +kernel
theorem dX7_pick_78 : decode cX7_pick 78 = .ok (.getfield 78, 3) := by decide +kernel
theorem dX7_pick_81 : decode cX7_pick 81 = .ok (.dup_x1, 1) := by decide +kernel
theorem dX7_pick_82 : decode cX7_pick 82 = .ok (.iconst 1, 1) := by decide +kernel
theorem dX7_pick_83 : decode cX7_pick 83 = .ok (.iadd, 1) := by decide +kernel
theorem dX7_pick_84 : decode cX7_pick 84 = .ok (.putfield 78, 3) := by decide +kernel
theorem dX7_pick_87 : decode cX7_pick 87 = .ok (.ireturn, 1) := by decide +kernel
theorem dX7_cols_0 : decode cX7_cols 0 = .ok (.aload_n 0, 1) := by decide +kernel
theorem dX7_cols_1 : decode cX7_cols 1 = .ok (.iload_n 1, 1) := by decide +kernel
theorem dX7_cols_2 : decode cX7_cols 2 = .ok (.invokevirtual 100, 3) := by decide +kernel
theorem dX7_cols_5 : decode cX7_cols 5 = .ok (.ifCond .ne 5, 3) := by decide +kernel
theorem dX7_cols_8 : decode cX7_cols 8 = .ok (.iconst (-1), 1) := by decide +kernel
theorem dX7_cols_9 : decode cX7_cols 9 = .ok (.ireturn, 1) := by decide +kernel
theorem dX7_cols_10 : decode cX7_cols 10 = .ok (.iload_n 2, 1) := by decide +kernel
theorem dX7_cols_11 : decode cX7_cols 11 = .ok (.iconst 1, 1) := by decide +kernel
theorem dX7_cols_12 : decode cX7_cols 12 = .ok (.if_icmp .lt 16, 3) := by decide +kernel
theorem dX7_cols_15 : decode cX7_cols 15 = .ok (.iload_n 2, 1) := by decide +kernel
theorem dX7_cols_16 : decode cX7_cols 16 = .ok (.ldc 103, 2) := by decide +kernel
theorem dX7_cols_18 : decode cX7_cols 18 = .ok (.if_icmp .gt 10, 3) := by decide +kernel
theorem dX7_cols_21 : decode cX7_cols 21 = .ok (.iload_n 2, 1) := by decide +kernel
theorem dX7_cols_22 : decode cX7_cols 22 = .ok (.invokestatic 104, 3) := by decide +kernel
theorem dX7_cols_25 : decode cX7_cols 25 = .ok (.ifCond .ne 6, 3) := by decide +kernel
theorem dX7_cols_28 : decode cX7_cols 28 = .ok (.bipush (-2), 2) := by decide +kernel
theorem dX7_cols_30 : decode cX7_cols 30 = .ok (.ireturn, 1) := by decide +kernel
theorem dX7_cols_31 : decode cX7_cols 31 = .ok (.iload_n 2, 1) := by decide +kernel
theorem dX7_cols_32 : decode cX7_cols 32 = .ok (.invokestatic 107, 3) := by decide +kernel
theorem dX7_cols_35 : decode cX7_cols 35 = .ok (.aload_n 0, 1) := by decide +kernel
theorem dX7_cols_36 : decode cX7_cols 36 = .ok (.getfield 25, 3) := by decide +kernel
theorem dX7_cols_39 : decode cX7_cols 39 = .ok (.iload_n 1, 1) := by decide +kernel
theorem dX7_cols_40 : decode cX7_cols 40 = .ok (.aaload, 1) := by decide +kernel
theorem dX7_cols_41 : decode cX7_cols 41 = .ok (.getfield 97, 3) := by decide +kernel
theorem dX7_cols_44 : decode cX7_cols 44 = .ok (.if_icmp .le 5, 3) := by decide +kernel
theorem dX7_cols_47 : decode cX7_cols 47 = .ok (.iconst (-1), 1) := by decide +kernel
theorem dX7_cols_48 : decode cX7_cols 48 = .ok (.ireturn, 1) := by decide +kernel
theorem dX7_cols_49 : decode cX7_cols 49 = .ok (.aload_n 0, 1) := by decide +kernel
theorem dX7_cols_50 : decode cX7_cols 50 = .ok (.getfield 78, 3) := by decide +kernel
theorem dX7_cols_53 : decode cX7_cols 53 = .ok (.bipush 16, 2) := by decide +kernel
theorem dX7_cols_55 : decode cX7_cols 55 = .ok (.if_icmp .lt 6, 3) := by decide +kernel
theorem dX7_cols_58 : decode cX7_cols 58 = .ok (.bipush (-4), 2) := by decide +kernel
theorem dX7_cols_60 : decode cX7_cols 60 = .ok (.ireturn, 1) := by decide +kernel
theorem dX7_cols_61 : decode cX7_cols 61 = .ok (.aload_n 0, 1) := by decide +kernel
theorem dX7_cols_62 : decode cX7_cols 62 = .ok (.iconst 2, 1) := by decide +kernel
theorem dX7_cols_63 : decode cX7_cols 63 = .ok (.iload_n 2, 1) := by decide +kernel
theorem dX7_cols_64 : decode cX7_cols 64 = .ok (.invokestatic 110, 3) := by decide +kernel
theorem dX7_cols_67 : decode cX7_cols 67 = .ok (.iload_n 1, 1) := by decide +kernel
theorem dX7_cols_68 : decode cX7_cols 68 = .ok (.iconst (-1), 1) := by decide +kernel
theorem dX7_cols_69 : decode cX7_cols 69 = .ok (.invokevirtual 85, 3) := by decide +kernel
theorem dX7_cols_72 : decode cX7_cols 72 = .ok (.iconst (-1), 1) := by decide +kernel
theorem dX7_cols_73 : decode cX7_cols 73 = .ok (.iconst (-1), 1) := by decide +kernel
theorem dX7_cols_74 : decode cX7_cols 74 = .ok (.iconst 0, 1) := by decide +kernel
theorem dX7_cols_75 : decode cX7_cols 75 = .ok (.iload_n 2, 1) := by decide +kernel
theorem dX7_cols_76 : decode cX7_cols 76 = .ok (.invokevirtual 89, 3) := by decide +kernel
theorem dX7_cols_79 : decode cX7_cols 79 = .ok (.aload_n 0, 1) := by decide +kernel
theorem dX7_cols_80 : decode cX7_cols 80 = .ok (.dup, 1) := by decide +kernel
theorem dX7_cols_81 : decode cX7_cols 81 = .ok (.getfield 78, 3) := by decide +kernel
theorem dX7_cols_84 : decode cX7_cols 84 = .ok (.dup_x1, 1) := by decide +kernel
theorem dX7_cols_85 : decode cX7_cols 85 = .ok (.iconst 1, 1) := by decide +kernel
theorem dX7_cols_86 : decode cX7_cols 86 = .ok (.iadd, 1) := by decide +kernel
theorem dX7_cols_87 : decode cX7_cols 87 = .ok (.putfield 78, 3) := by decide +kernel
theorem dX7_cols_90 : decode cX7_cols 90 = .ok (.ireturn, 1) := by decide +kernel
theorem dX7_join_0 : decode cX7_join 0 = .ok (.aload_n 0, 1) := by decide +kernel
theorem dX7_join_1 : decode cX7_join 1 = .ok (.iload_n 1, 1) := by decide +kernel
theorem dX7_join_2 : decode cX7_join 2 = .ok (.iload_n 3, 1) := by decide +kernel
theorem dX7_join_3 : decode cX7_join 3 = .ok (.invokevirtual 93, 3) := by decide +kernel
theorem dX7_join_6 : decode cX7_join 6 = .ok (.ifCond .eq 13, 3) := by decide +kernel
theorem dX7_join_9 : decode cX7_join 9 = .ok (.aload_n 0, 1) := by decide +kernel
theorem dX7_join_10 : decode cX7_join 10 = .ok (.iload_n 2, 1) := by decide +kernel
theorem dX7_join_11 : decode cX7_join 11 = .ok (.iload 4, 2) := by decide +kernel
theorem dX7_join_13 : decode cX7_join 13 = .ok (.invokevirtual 93, 3) := by decide +kernel
theorem dX7_join_16 : decode cX7_join 16 = .ok (.ifCond .ne 5, 3) := by decide +kernel
theorem dX7_join_19 : decode cX7_join 19 = .ok (.iconst (-1), 1) := by decide +kernel
theorem dX7_join_20 : decode cX7_join 20 = .ok (.ireturn, 1) := by decide +kernel
theorem dX7_join_21 : decode cX7_join 21 = .ok (.aload_n 0, 1) := by decide +kernel
theorem dX7_join_22 : decode cX7_join 22 = .ok (.getfield 25, 3) := by decide +kernel
theorem dX7_join_25 : decode cX7_join 25 = .ok (.iload_n 1, 1) := by decide +kernel
theorem dX7_join_26 : decode cX7_join 26 = .ok (.aaload, 1) := by decide +kernel
theorem dX7_join_27 : decode cX7_join 27 = .ok (.getfield 97, 3) := by decide +kernel
theorem dX7_join_30 : decode cX7_join 30 = .ok (.aload_n 0, 1) := by decide +kernel
theorem dX7_join_31 : decode cX7_join 31 = .ok (.getfield 25, 3) := by decide +kernel
theorem dX7_join_34 : decode cX7_join 34 = .ok (.iload_n 2, 1) := by decide +kernel
theorem dX7_join_35 : decode cX7_join 35 = .ok (.aaload, 1) := by decide +kernel
theorem dX7_join_36 : decode cX7_join 36 = .ok (.getfield 97, 3) := by decide +kernel
theorem dX7_join_39 : decode cX7_join 39 = .ok (.iadd, 1) := by decide +kernel
theorem dX7_join_40 : decode cX7_join 40 = .ok (.istore 5, 2) := by decide +kernel
theorem dX7_join_42 : decode cX7_join 42 = .ok (.iload 5, 2) := by decide +kernel
theorem dX7_join_44 : decode cX7_join 44 = .ok (.bipush 6, 2) := by decide +kernel
theorem dX7_join_46 : decode cX7_join 46 = .ok (.if_icmp .le 6, 3) := by decide +kernel
theorem dX7_join_49 : decode cX7_join 49 = .ok (.bipush (-2), 2) := by decide +kernel
theorem dX7_join_51 : decode cX7_join 51 = .ok (.ireturn, 1) := by decide +kernel
theorem dX7_join_52 : decode cX7_join 52 = .ok (.aload_n 0, 1) := by decide +kernel
theorem dX7_join_53 : decode cX7_join 53 = .ok (.getfield 78, 3) := by decide +kernel
theorem dX7_join_56 : decode cX7_join 56 = .ok (.bipush 16, 2) := by decide +kernel
theorem dX7_join_58 : decode cX7_join 58 = .ok (.if_icmp .lt 6, 3) := by decide +kernel
theorem dX7_join_61 : decode cX7_join 61 = .ok (.bipush (-4), 2) := by decide +kernel
theorem dX7_join_63 : decode cX7_join 63 = .ok (.ireturn, 1) := by decide +kernel
theorem dX7_join_64 : decode cX7_join 64 = .ok (.aload_n 0, 1) := by decide +kernel
theorem dX7_join_65 : decode cX7_join 65 = .ok (.iconst 3, 1) := by decide +kernel
theorem dX7_join_66 : decode cX7_join 66 = .ok (.iload 5, 2) := by decide +kernel
theorem dX7_join_68 : decode cX7_join 68 = .ok (.iload_n 1, 1) := by decide +kernel
theorem dX7_join_69 : decode cX7_join 69 = .ok (.iload_n 2, 1) := by decide +kernel
theorem dX7_join_70 : decode cX7_join 70 = .ok (.invokevirtual 85, 3) := by decide +kernel
theorem dX7_join_73 : decode cX7_join 73 = .ok (.iload_n 3, 1) := by decide +kernel
theorem dX7_join_74 : decode cX7_join 74 = .ok (.iload 4, 2) := by decide +kernel
theorem dX7_join_76 : decode cX7_join 76 = .ok (.iconst 0, 1) := by decide +kernel
theorem dX7_join_77 : decode cX7_join 77 = .ok (.iconst 0, 1) := by decide +kernel
theorem dX7_join_78 : decode cX7_join 78 = .ok (.invokevirtual 89, 3) := by decide +kernel
theorem dX7_join_81 : decode cX7_join 81 = .ok (.aload_n 0, 1) := by decide +kernel
theorem dX7_join_82 : decode cX7_join 82 = .ok (.dup, 1) := by decide +kernel
theorem dX7_join_83 : decode cX7_join 83 = .ok (.getfield 78, 3) := by decide +kernel
theorem dX7_join_86 : decode cX7_join 86 = .ok (.dup_x1, 1) := by decide +kernel
theorem dX7_join_87 : decode cX7_join 87 = .ok (.iconst 1, 1) := by decide +kernel
theorem dX7_join_88 : decode cX7_join 88 = .ok (.iadd, 1) := by decide +kernel
theorem dX7_join_89 : decode cX7_join 89 = .ok (.putfield 78, 3) := by decide +kernel
theorem dX7_join_92 : decode cX7_join 92 = .ok (.ireturn, 1) := by decide +kernel
theorem dX7_unite_0 : decode cX7_unite 0 = .ok (.aload_n 0, 1) := by decide +kernel
theorem dX7_unite_1 : decode cX7_unite 1 = .ok (.iconst 4, 1) := by decide +kernel
theorem dX7_unite_2 : decode cX7_unite 2 = .ok (.iload_n 1, 1) := by decide +kernel
theorem dX7_unite_3 : decode cX7_unite 3 = .ok (.iload_n 2, 1) := by decide +kernel
theorem dX7_unite_4 : decode cX7_unite 4 = .ok (.invokevirtual 113, 3) := by decide +kernel
theorem dX7_unite_7 : decode cX7_unite 7 = .ok (.ireturn, 1) := by decide +kernel
theorem dX7_minus_0 : decode cX7_minus 0 = .ok (.aload_n 0, 1) := by decide +kernel
theorem dX7_minus_1 : decode cX7_minus 1 = .ok (.iconst 5, 1) := by decide +kernel
theorem dX7_minus_2 : decode cX7_minus 2 = .ok (.iload_n 1, 1) := by decide +kernel
theorem dX7_minus_3 : decode cX7_minus 3 = .ok (.iload_n 2, 1) := by decide +kernel
theorem dX7_minus_4 : decode cX7_minus 4 = .ok (.invokevirtual 113, 3) := by decide +kernel
theorem dX7_minus_7 : decode cX7_minus 7 = .ok (.ireturn, 1) := by decide +kernel
theorem dX7_fold_0 : decode cX7_fold 0 = .ok (.aload_n 0, 1) := by decide +kernel
theorem dX7_fold_1 : decode cX7_fold 1 = .ok (.iload_n 1, 1) := by decide +kernel
theorem dX7_fold_2 : decode cX7_fold 2 = .ok (.iload_n 2, 1) := by decide +kernel
theorem dX7_fold_3 : decode cX7_fold 3 = .ok (.invokevirtual 93, 3) := by decide +kernel
theorem dX7_fold_6 : decode cX7_fold 6 = .ok (.ifCond .eq 12, 3) := by decide +kernel
theorem dX7_fold_9 : decode cX7_fold 9 = .ok (.aload_n 0, 1) := by decide +kernel
theorem dX7_fold_10 : decode cX7_fold 10 = .ok (.iload_n 1, 1) := by decide +kernel
theorem dX7_fold_11 : decode cX7_fold 11 = .ok (.iload_n 3, 1) := by decide +kernel
theorem dX7_fold_12 : decode cX7_fold 12 = .ok (.invokevirtual 93, 3) := by decide +kernel
theorem dX7_fold_15 : decode cX7_fold 15 = .ok (.ifCond .ne 5, 3) := by decide +kernel
theorem dX7_fold_18 : decode cX7_fold 18 = .ok (.iconst (-1), 1) := by decide +kernel
theorem dX7_fold_19 : decode cX7_fold 19 = .ok (.ireturn, 1) := by decide +kernel
theorem dX7_fold_20 : decode cX7_fold 20 = .ok (.iload 4, 2) := by decide +kernel
theorem dX7_fold_22 : decode cX7_fold 22 = .ok (.ifCond .lt 9, 3) := by decide +kernel
theorem dX7_fold_25 : decode cX7_fold 25 = .ok (.iload 4, 2) := by decide +kernel
theorem dX7_fold_27 : decode cX7_fold 27 = .ok (.iconst 3, 1) := by decide +kernel
theorem dX7_fold_28 : decode cX7_fold 28 = .ok (.if_icmp .le 6, 3) := by decide +kernel
theorem dX7_fold_31 : decode cX7_fold 31 = .ok (.bipush (-2), 2) := by decide +kernel
theorem dX7_fold_33 : decode cX7_fold 33 = .ok (.ireturn, 1) := by decide +kernel
theorem dX7_fold_34 : decode cX7_fold 34 = .ok (.aload_n 0, 1) := by decide +kernel
theorem dX7_fold_35 : decode cX7_fold 35 = .ok (.getfield 78, 3) := by decide +kernel
theorem dX7_fold_38 : decode cX7_fold 38 = .ok (.bipush 16, 2) := by decide +kernel
theorem dX7_fold_40 : decode cX7_fold 40 = .ok (.if_icmp .lt 6, 3) := by decide +kernel
theorem dX7_fold_43 : decode cX7_fold 43 = .ok (.bipush (-4), 2) := by decide +kernel
theorem dX7_fold_45 : decode cX7_fold 45 = .ok (.ireturn, 1) := by decide +kernel
theorem dX7_fold_46 : decode cX7_fold 46 = .ok (.aload_n 0, 1) := by decide +kernel
theorem dX7_fold_47 : decode cX7_fold 47 = .ok (.bipush 6, 2) := by decide +kernel
theorem dX7_fold_49 : decode cX7_fold 49 = .ok (.iconst 2, 1) := by decide +kernel
theorem dX7_fold_50 : decode cX7_fold 50 = .ok (.iload_n 1, 1) := by decide +kernel
theorem dX7_fold_51 : decode cX7_fold 51 = .ok (.iconst (-1), 1) := by decide +kernel
theorem dX7_fold_52 : decode cX7_fold 52 = .ok (.invokevirtual 85, 3) := by decide +kernel
theorem dX7_fold_55 : decode cX7_fold 55 = .ok (.iload_n 2, 1) := by decide +kernel
theorem dX7_fold_56 : decode cX7_fold 56 = .ok (.iload_n 3, 1) := by decide +kernel
theorem dX7_fold_57 : decode cX7_fold 57 = .ok (.iload 4, 2) := by decide +kernel
theorem dX7_fold_59 : decode cX7_fold 59 = .ok (.iconst 0, 1) := by decide +kernel
theorem dX7_fold_60 : decode cX7_fold 60 = .ok (.invokevirtual 89, 3) := by decide +kernel
theorem dX7_fold_63 : decode cX7_fold 63 = .ok (.aload_n 0, 1) := by decide +kernel
theorem dX7_fold_64 : decode cX7_fold 64 = .ok (.dup, 1) := by decide +kernel
theorem dX7_fold_65 : decode cX7_fold 65 = .ok (.getfield 78, 3) := by decide +kernel
theorem dX7_fold_68 : decode cX7_fold 68 = .ok (.dup_x1, 1) := by decide +kernel
theorem dX7_fold_69 : decode cX7_fold 69 = .ok (.iconst 1, 1) := by decide +kernel
theorem dX7_fold_70 : decode cX7_fold 70 = .ok (.iadd, 1) := by decide +kernel
theorem dX7_fold_71 : decode cX7_fold 71 = .ok (.putfield 78, 3) := by decide +kernel
theorem dX7_fold_74 : decode cX7_fold 74 = .ok (.ireturn, 1) := by decide +kernel
theorem dX7_columns_0 : decode cX7_columns 0 = .ok (.aload_n 0, 1) := by decide +kernel
theorem dX7_columns_1 : decode cX7_columns 1 = .ok (.iload_n 1, 1) := by decide +kernel
theorem dX7_columns_2 : decode cX7_columns 2 = .ok (.invokevirtual 100, 3) := by decide +kernel
theorem dX7_columns_5 : decode cX7_columns 5 = .ok (.ifCond .eq 15, 3) := by decide +kernel
theorem dX7_columns_8 : decode cX7_columns 8 = .ok (.aload_n 0, 1) := by decide +kernel
theorem dX7_columns_9 : decode cX7_columns 9 = .ok (.getfield 25, 3) := by decide +kernel
theorem dX7_columns_12 : decode cX7_columns 12 = .ok (.iload_n 1, 1) := by decide +kernel
theorem dX7_columns_13 : decode cX7_columns 13 = .ok (.aaload, 1) := by decide +kernel
theorem dX7_columns_14 : decode cX7_columns 14 = .ok (.getfield 97, 3) := by decide +kernel
theorem dX7_columns_17 : decode cX7_columns 17 = .ok (.goto 4, 3) := by decide +kernel
theorem dX7_columns_20 : decode cX7_columns 20 = .ok (.iconst (-1), 1) := by decide +kernel
theorem dX7_columns_21 : decode cX7_columns 21 = .ok (.ireturn, 1) := by decide +kernel
theorem dX7_run_0 : decode cX7_run 0 = .ok (.aload_n 0, 1) := by decide +kernel
theorem dX7_run_1 : decode cX7_run 1 = .ok (.iload_n 1, 1) := by decide +kernel
theorem dX7_run_2 : decode cX7_run 2 = .ok (.invokevirtual 100, 3) := by decide +kernel
theorem dX7_run_5 : decode cX7_run 5 = .ok (.ifCond .ne 5, 3) := by decide +kernel
theorem dX7_run_8 : decode cX7_run 8 = .ok (.iconst (-1), 1) := by decide +kernel
theorem dX7_run_9 : decode cX7_run 9 = .ok (.ireturn, 1) := by decide +kernel
theorem dX7_run_10 : decode cX7_run 10 = .ok (.aload_n 0, 1) := by decide +kernel
theorem dX7_run_11 : decode cX7_run 11 = .ok (.iload_n 1, 1) := by decide +kernel
theorem dX7_run_12 : decode cX7_run 12 = .ok (.invokevirtual 117, 3) := by decide +kernel
theorem dX7_run_15 : decode cX7_run 15 = .ok (.lstore_n 2, 1) := by decide +kernel
theorem dX7_run_16 : decode cX7_run 16 = .ok (.iconst 0, 1) := by decide +kernel
theorem dX7_run_17 : decode cX7_run 17 = .ok (.istore 4, 2) := by decide +kernel
theorem dX7_run_19 : decode cX7_run 19 = .ok (.iload 4, 2) := by decide +kernel
theorem dX7_run_21 : decode cX7_run 21 = .ok (.iload_n 1, 1) := by decide +kernel
theorem dX7_run_22 : decode cX7_run 22 = .ok (.if_icmp .gt 125, 3) := by decide +kernel
theorem dX7_run_25 : decode cX7_run 25 = .ok (.aload_n 0, 1) := by decide +kernel
theorem dX7_run_26 : decode cX7_run 26 = .ok (.getfield 25, 3) := by decide +kernel
theorem dX7_run_29 : decode cX7_run 29 = .ok (.iload 4, 2) := by decide +kernel
theorem dX7_run_31 : decode cX7_run 31 = .ok (.aaload, 1) := by decide +kernel
theorem dX7_run_32 : decode cX7_run 32 = .ok (.astore 5, 2) := by decide +kernel
theorem dX7_run_34 : decode cX7_run 34 = .ok (.lload_n 2, 1) := by decide +kernel
theorem dX7_run_35 : decode cX7_run 35 = .ok (.iload 4, 2) := by decide +kernel
theorem dX7_run_37 : decode cX7_run 37 = .ok (.lshr, 1) := by decide +kernel
theorem dX7_run_38 : decode cX7_run 38 = .ok (.lconst 1, 1) := by decide +kernel
theorem dX7_run_39 : decode cX7_run 39 = .ok (.land, 1) := by decide +kernel
theorem dX7_run_40 : decode cX7_run 40 = .ok (.lconst 0, 1) := by decide +kernel
theorem dX7_run_41 : decode cX7_run 41 = .ok (.lcmp, 1) := by decide +kernel
theorem dX7_run_42 : decode cX7_run 42 = .ok (.ifCond .eq 7, 3) := by decide +kernel
theorem dX7_run_45 : decode cX7_run 45 = .ok (.iconst 1, 1) := by decide +kernel
theorem dX7_run_46 : decode cX7_run 46 = .ok (.goto 4, 3) := by decide +kernel
theorem dX7_run_49 : decode cX7_run 49 = .ok (.iconst 0, 1) := by decide +kernel
theorem dX7_run_50 : decode cX7_run 50 = .ok (.istore 6, 2) := by decide +kernel
theorem dX7_run_52 : decode cX7_run 52 = .ok (.iload 6, 2) := by decide +kernel
theorem dX7_run_54 : decode cX7_run 54 = .ok (.ifCond .eq 70, 3) := by decide +kernel
theorem dX7_run_57 : decode cX7_run 57 = .ok (.aload 5, 2) := by decide +kernel
theorem dX7_run_59 : decode cX7_run 59 = .ok (.getfield 121, 3) := by decide +kernel
theorem dX7_run_62 : decode cX7_run 62 = .ok (.ifCond .ne 62, 3) := by decide +kernel
theorem dX7_run_65 : decode cX7_run 65 = .ok (.aload_n 0, 1) := by decide +kernel
theorem dX7_run_66 : decode cX7_run 66 = .ok (.aload 5, 2) := by decide +kernel
theorem dX7_run_68 : decode cX7_run 68 = .ok (.getfield 124, 3) := by decide +kernel
theorem dX7_run_71 : decode cX7_run 71 = .ok (.invokevirtual 127, 3) := by decide +kernel
theorem dX7_run_74 : decode cX7_run 74 = .ok (.astore 7, 2) := by decide +kernel
theorem dX7_run_76 : decode cX7_run 76 = .ok (.aload_n 0, 1) := by decide +kernel
theorem dX7_run_77 : decode cX7_run 77 = .ok (.aload 5, 2) := by decide +kernel
theorem dX7_run_79 : decode cX7_run 79 = .ok (.getfield 131, 3) := by decide +kernel
theorem dX7_run_82 : decode cX7_run 82 = .ok (.invokevirtual 127, 3) := by decide +kernel
theorem dX7_run_85 : decode cX7_run 85 = .ok (.astore 8, 2) := by decide +kernel
theorem dX7_run_87 : decode cX7_run 87 = .ok (.aload 5, 2) := by decide +kernel
theorem dX7_run_89 : decode cX7_run 89 = .ok (.aload_n 0, 1) := by decide +kernel
theorem dX7_run_90 : decode cX7_run 90 = .ok (.getfield 19, 3) := by decide +kernel
theorem dX7_run_93 : decode cX7_run 93 = .ok (.aload 5, 2) := by decide +kernel
theorem dX7_run_95 : decode cX7_run 95 = .ok (.aload_n 0, 1) := by decide +kernel
theorem dX7_run_96 : decode cX7_run 96 = .ok (.getfield 10, 3) := by decide +kernel
theorem dX7_run_99 : decode cX7_run 99 = .ok (.aload 7, 2) := by decide +kernel
theorem dX7_run_101 : decode cX7_run 101 = .ok (.aload 8, 2) := by decide +kernel
theorem dX7_run_103 : decode cX7_run 103 = .ok (.aload_n 0, 1) := by decide +kernel
theorem dX7_run_104 : decode cX7_run 104 = .ok (.getfield 31, 3) := by decide +kernel
theorem dX7_run_107 : decode cX7_run 107 = .ok (.iload 4, 2) := by decide +kernel
theorem dX7_run_109 : decode cX7_run 109 = .ok (.aaload, 1) := by decide +kernel
theorem dX7_run_110 : decode cX7_run 110 = .ok (.invokevirtual 134, 3) := by decide +kernel
theorem dX7_run_113 : decode cX7_run 113 = .ok (.ifCond .eq 7, 3) := by decide +kernel
theorem dX7_run_116 : decode cX7_run 116 = .ok (.iconst 1, 1) := by decide +kernel
theorem dX7_run_117 : decode cX7_run 117 = .ok (.goto 4, 3) := by decide +kernel
theorem dX7_run_120 : decode cX7_run 120 = .ok (.iconst 2, 1) := by decide +kernel
theorem dX7_run_121 : decode cX7_run 121 = .ok (.putfield 121, 3) := by decide +kernel
theorem dX7_run_124 : decode cX7_run 124 = .ok (.iload 6, 2) := by decide +kernel
theorem dX7_run_126 : decode cX7_run 126 = .ok (.ifCond .eq 15, 3) := by decide +kernel
theorem dX7_run_129 : decode cX7_run 129 = .ok (.aload 5, 2) := by decide +kernel
theorem dX7_run_131 : decode cX7_run 131 = .ok (.getfield 121, 3) := by decide +kernel
theorem dX7_run_134 : decode cX7_run 134 = .ok (.iconst 2, 1) := by decide +kernel
theorem dX7_run_135 : decode cX7_run 135 = .ok (.if_icmp .ne 6, 3) := by decide +kernel
theorem dX7_run_138 : decode cX7_run 138 = .ok (.bipush (-4), 2) := by decide +kernel
theorem dX7_run_140 : decode cX7_run 140 = .ok (.ireturn, 1) := by decide +kernel
theorem dX7_run_141 : decode cX7_run 141 = .ok (.iinc 4 1, 3) := by decide +kernel
theorem dX7_run_144 : decode cX7_run 144 = .ok (.goto (-125), 3) := by decide +kernel
theorem dX7_run_147 : decode cX7_run 147 = .ok (.aload_n 0, 1) := by decide +kernel
theorem dX7_run_148 : decode cX7_run 148 = .ok (.iload_n 1, 1) := by decide +kernel
theorem dX7_run_149 : decode cX7_run 149 = .ok (.putfield 49, 3) := by decide +kernel
theorem dX7_run_152 : decode cX7_run 152 = .ok (.aload_n 0, 1) := by decide +kernel
theorem dX7_run_153 : decode cX7_run 153 = .ok (.getfield 31, 3) := by decide +kernel
theorem dX7_run_156 : decode cX7_run 156 = .ok (.iload_n 1, 1) := by decide +kernel
theorem dX7_run_157 : decode cX7_run 157 = .ok (.aaload, 1) := by decide +kernel
theorem dX7_run_158 : decode cX7_run 158 = .ok (.getfield 138, 3) := by decide +kernel
theorem dX7_run_161 : decode cX7_run 161 = .ok (.ireturn, 1) := by decide +kernel
theorem dX7_cell_0 : decode cX7_cell 0 = .ok (.aload_n 0, 1) := by decide +kernel
theorem dX7_cell_1 : decode cX7_cell 1 = .ok (.iload_n 1, 1) := by decide +kernel
theorem dX7_cell_2 : decode cX7_cell 2 = .ok (.invokevirtual 141, 3) := by decide +kernel
theorem dX7_cell_5 : decode cX7_cell 5 = .ok (.astore_n 3, 1) := by decide +kernel
theorem dX7_cell_6 : decode cX7_cell 6 = .ok (.aload_n 3, 1) := by decide +kernel
theorem dX7_cell_7 : decode cX7_cell 7 = .ok (.ifnonnull 13, 3) := by decide +kernel
theorem dX7_cell_10 : decode cX7_cell 10 = .ok (.new 145, 3) := by decide +kernel
theorem dX7_cell_13 : decode cX7_cell 13 = .ok (.dup, 1) := by decide +kernel
theorem dX7_cell_14 : decode cX7_cell 14 = .ok (.ldc 147, 2) := by decide +kernel
theorem dX7_cell_16 : decode cX7_cell 16 = .ok (.invokespecial 149, 3) := by decide +kernel
theorem dX7_cell_19 : decode cX7_cell 19 = .ok (.athrow, 1) := by decide +kernel
theorem dX7_cell_20 : decode cX7_cell 20 = .ok (.iload_n 2, 1) := by decide +kernel
theorem dX7_cell_21 : decode cX7_cell 21 = .ok (.ifCond .lt 18, 3) := by decide +kernel
theorem dX7_cell_24 : decode cX7_cell 24 = .ok (.iload_n 2, 1) := by decide +kernel
theorem dX7_cell_25 : decode cX7_cell 25 = .ok (.aload_n 0, 1) := by decide +kernel
theorem dX7_cell_26 : decode cX7_cell 26 = .ok (.aload_n 0, 1) := by decide +kernel
theorem dX7_cell_27 : decode cX7_cell 27 = .ok (.getfield 49, 3) := by decide +kernel
theorem dX7_cell_30 : decode cX7_cell 30 = .ok (.invokevirtual 127, 3) := by decide +kernel
theorem dX7_cell_33 : decode cX7_cell 33 = .ok (.getfield 152, 3) := by decide +kernel
theorem dX7_cell_36 : decode cX7_cell 36 = .ok (.if_icmp .lt 13, 3) := by decide +kernel
theorem dX7_cell_39 : decode cX7_cell 39 = .ok (.new 145, 3) := by decide +kernel
theorem dX7_cell_42 : decode cX7_cell 42 = .ok (.dup, 1) := by decide +kernel
theorem dX7_cell_43 : decode cX7_cell 43 = .ok (.ldc 153, 2) := by decide +kernel
theorem dX7_cell_45 : decode cX7_cell 45 = .ok (.invokespecial 149, 3) := by decide +kernel
theorem dX7_cell_48 : decode cX7_cell 48 = .ok (.athrow, 1) := by decide +kernel
theorem dX7_cell_49 : decode cX7_cell 49 = .ok (.aload_n 3, 1) := by decide +kernel
theorem dX7_cell_50 : decode cX7_cell 50 = .ok (.getfield 155, 3) := by decide +kernel
theorem dX7_cell_53 : decode cX7_cell 53 = .ok (.iload_n 2, 1) := by decide +kernel
theorem dX7_cell_54 : decode cX7_cell 54 = .ok (.iaload, 1) := by decide +kernel
theorem dX7_cell_55 : decode cX7_cell 55 = .ok (.ireturn, 1) := by decide +kernel
theorem dX7_ways_0 : decode cX7_ways 0 = .ok (.aload_n 0, 1) := by decide +kernel
theorem dX7_ways_1 : decode cX7_ways 1 = .ok (.iload_n 1, 1) := by decide +kernel
theorem dX7_ways_2 : decode cX7_ways 2 = .ok (.invokevirtual 141, 3) := by decide +kernel
theorem dX7_ways_5 : decode cX7_ways 5 = .ok (.astore_n 2, 1) := by decide +kernel
theorem dX7_ways_6 : decode cX7_ways 6 = .ok (.aload_n 2, 1) := by decide +kernel
theorem dX7_ways_7 : decode cX7_ways 7 = .ok (.ifnonnull 7, 3) := by decide +kernel
theorem dX7_ways_10 : decode cX7_ways 10 = .ok (.iconst (-1), 1) := by decide +kernel
theorem dX7_ways_11 : decode cX7_ways 11 = .ok (.goto 10, 3) := by decide +kernel
theorem dX7_ways_14 : decode cX7_ways 14 = .ok (.aload_n 2, 1) := by decide +kernel
theorem dX7_ways_15 : decode cX7_ways 15 = .ok (.getfield 160, 3) := by decide +kernel
theorem dX7_ways_18 : decode cX7_ways 18 = .ok (.getfield 163, 3) := by decide +kernel
theorem dX7_ways_21 : decode cX7_ways 21 = .ok (.ireturn, 1) := by decide +kernel
theorem dX7_way_0 : decode cX7_way 0 = .ok (.aload_n 0, 1) := by decide +kernel
theorem dX7_way_1 : decode cX7_way 1 = .ok (.iload_n 1, 1) := by decide +kernel
theorem dX7_way_2 : decode cX7_way 2 = .ok (.invokevirtual 141, 3) := by decide +kernel
theorem dX7_way_5 : decode cX7_way 5 = .ok (.astore 4, 2) := by decide +kernel
theorem dX7_way_7 : decode cX7_way 7 = .ok (.aload 4, 2) := by decide +kernel
theorem dX7_way_9 : decode cX7_way 9 = .ok (.ifnonnull 13, 3) := by decide +kernel
theorem dX7_way_12 : decode cX7_way 12 = .ok (.new 145, 3) := by decide +kernel
theorem dX7_way_15 : decode cX7_way 15 = .ok (.dup, 1) := by decide +kernel
theorem dX7_way_16 : decode cX7_way 16 = .ok (.ldc 147, 2) := by decide +kernel
theorem dX7_way_18 : decode cX7_way 18 = .ok (.invokespecial 149, 3) := by decide +kernel
theorem dX7_way_21 : decode cX7_way 21 = .ok (.athrow, 1) := by decide +kernel
theorem dX7_way_22 : decode cX7_way 22 = .ok (.iload_n 2, 1) := by decide +kernel
theorem dX7_way_23 : decode cX7_way 23 = .ok (.ifCond .lt 15, 3) := by decide +kernel
theorem dX7_way_26 : decode cX7_way 26 = .ok (.iload_n 2, 1) := by decide +kernel
theorem dX7_way_27 : decode cX7_way 27 = .ok (.aload 4, 2) := by decide +kernel
theorem dX7_way_29 : decode cX7_way 29 = .ok (.getfield 160, 3) := by decide +kernel
theorem dX7_way_32 : decode cX7_way 32 = .ok (.getfield 163, 3) := by decide +kernel
theorem dX7_way_35 : decode cX7_way 35 = .ok (.if_icmp .lt 13, 3) := by decide +kernel
theorem dX7_way_38 : decode cX7_way 38 = .ok (.new 145, 3) := by decide +kernel
theorem dX7_way_41 : decode cX7_way 41 = .ok (.dup, 1) := by decide +kernel
theorem dX7_way_42 : decode cX7_way 42 = .ok (.ldc 164, 2) := by decide +kernel
theorem dX7_way_44 : decode cX7_way 44 = .ok (.invokespecial 149, 3) := by decide +kernel
theorem dX7_way_47 : decode cX7_way 47 = .ok (.athrow, 1) := by decide +kernel
theorem dX7_way_48 : decode cX7_way 48 = .ok (.iload_n 3, 1) := by decide +kernel
theorem dX7_way_49 : decode cX7_way 49 = .ok (.ifCond .eq 18, 3) := by decide +kernel
theorem dX7_way_52 : decode cX7_way 52 = .ok (.iload_n 3, 1) := by decide +kernel
theorem dX7_way_53 : decode cX7_way 53 = .ok (.iconst 1, 1) := by decide +kernel
theorem dX7_way_54 : decode cX7_way 54 = .ok (.if_icmp .eq 13, 3) := by decide +kernel
theorem dX7_way_57 : decode cX7_way 57 = .ok (.new 166, 3) := by decide +kernel
theorem dX7_way_60 : decode cX7_way 60 = .ok (.dup, 1) := by decide +kernel
theorem dX7_way_61 : decode cX7_way 61 = .ok (.ldc 168, 2) := by decide +kernel
theorem dX7_way_63 : decode cX7_way 63 = .ok (.invokespecial 170, 3) := by decide +kernel
theorem dX7_way_66 : decode cX7_way 66 = .ok (.athrow, 1) := by decide +kernel
theorem dX7_way_67 : decode cX7_way 67 = .ok (.iload_n 3, 1) := by decide +kernel
theorem dX7_way_68 : decode cX7_way 68 = .ok (.ifCond .ne 16, 3) := by decide +kernel
theorem dX7_way_71 : decode cX7_way 71 = .ok (.aload 4, 2) := by decide +kernel
theorem dX7_way_73 : decode cX7_way 73 = .ok (.getfield 160, 3) := by decide +kernel
theorem dX7_way_76 : decode cX7_way 76 = .ok (.getfield 171, 3) := by decide +kernel
theorem dX7_way_79 : decode cX7_way 79 = .ok (.iload_n 2, 1) := by decide +kernel
theorem dX7_way_80 : decode cX7_way 80 = .ok (.laload, 1) := by decide +kernel
theorem dX7_way_81 : decode cX7_way 81 = .ok (.goto 13, 3) := by decide +kernel
theorem dX7_way_84 : decode cX7_way 84 = .ok (.aload 4, 2) := by decide +kernel
theorem dX7_way_86 : decode cX7_way 86 = .ok (.getfield 160, 3) := by decide +kernel
theorem dX7_way_89 : decode cX7_way 89 = .ok (.getfield 175, 3) := by decide +kernel
theorem dX7_way_92 : decode cX7_way 92 = .ok (.iload_n 2, 1) := by decide +kernel
theorem dX7_way_93 : decode cX7_way 93 = .ok (.laload, 1) := by decide +kernel
theorem dX7_way_94 : decode cX7_way 94 = .ok (.lreturn, 1) := by decide +kernel
theorem dX7_drop_0 : decode cX7_drop 0 = .ok (.aload_n 0, 1) := by decide +kernel
theorem dX7_drop_1 : decode cX7_drop 1 = .ok (.getfield 10, 3) := by decide +kernel
theorem dX7_drop_4 : decode cX7_drop 4 = .ok (.iload_n 1, 1) := by decide +kernel
theorem dX7_drop_5 : decode cX7_drop 5 = .ok (.invokevirtual 178, 3) := by decide +kernel
theorem dX7_drop_8 : decode cX7_drop 8 = .ok (.ifCond .ne 5, 3) := by decide +kernel
theorem dX7_drop_11 : decode cX7_drop 11 = .ok (.iconst (-1), 1) := by decide +kernel
theorem dX7_drop_12 : decode cX7_drop 12 = .ok (.ireturn, 1) := by decide +kernel
theorem dX7_drop_13 : decode cX7_drop 13 = .ok (.aload_n 0, 1) := by decide +kernel
theorem dX7_drop_14 : decode cX7_drop 14 = .ok (.getfield 71, 3) := by decide +kernel
theorem dX7_drop_17 : decode cX7_drop 17 = .ok (.lstore_n 3, 1) := by decide +kernel
theorem dX7_drop_18 : decode cX7_drop 18 = .ok (.aload_n 0, 1) := by decide +kernel
theorem dX7_drop_19 : decode cX7_drop 19 = .ok (.iload_n 2, 1) := by decide +kernel
theorem dX7_drop_20 : decode cX7_drop 20 = .ok (.ifCond .eq 18, 3) := by decide +kernel
theorem dX7_drop_23 : decode cX7_drop 23 = .ok (.aload_n 0, 1) := by decide +kernel
theorem dX7_drop_24 : decode cX7_drop 24 = .ok (.getfield 71, 3) := by decide +kernel
theorem dX7_drop_27 : decode cX7_drop 27 = .ok (.lconst 1, 1) := by decide +kernel
theorem dX7_drop_28 : decode cX7_drop 28 = .ok (.iload_n 1, 1) := by decide +kernel
theorem dX7_drop_29 : decode cX7_drop 29 = .ok (.lshl, 1) := by decide +kernel
theorem dX7_drop_30 : decode cX7_drop 30 = .ok (.ldc2_w 181, 3) := by decide +kernel
theorem dX7_drop_33 : decode cX7_drop 33 = .ok (.lxor, 1) := by decide +kernel
theorem dX7_drop_34 : decode cX7_drop 34 = .ok (.land, 1) := by decide +kernel
theorem dX7_drop_35 : decode cX7_drop 35 = .ok (.goto 11, 3) := by decide +kernel
theorem dX7_drop_38 : decode cX7_drop 38 = .ok (.aload_n 0, 1) := by decide +kernel
theorem dX7_drop_39 : decode cX7_drop 39 = .ok (.getfield 71, 3) := by decide +kernel
theorem dX7_drop_42 : decode cX7_drop 42 = .ok (.lconst 1, 1) := by decide +kernel
theorem dX7_drop_43 : decode cX7_drop 43 = .ok (.iload_n 1, 1) := by decide +kernel
theorem dX7_drop_44 : decode cX7_drop 44 = .ok (.lshl, 1) := by decide +kernel
theorem dX7_drop_45 : decode cX7_drop 45 = .ok (.lor, 1) := by decide +kernel
theorem dX7_drop_46 : decode cX7_drop 46 = .ok (.putfield 71, 3) := by decide +kernel
theorem dX7_drop_49 : decode cX7_drop 49 = .ok (.aload_n 0, 1) := by decide +kernel
theorem dX7_drop_50 : decode cX7_drop 50 = .ok (.getfield 71, 3) := by decide +kernel
theorem dX7_drop_53 : decode cX7_drop 53 = .ok (.lload_n 3, 1) := by decide +kernel
theorem dX7_drop_54 : decode cX7_drop 54 = .ok (.lcmp, 1) := by decide +kernel
theorem dX7_drop_55 : decode cX7_drop 55 = .ok (.ifCond .ne 7, 3) := by decide +kernel
theorem dX7_drop_58 : decode cX7_drop 58 = .ok (.iconst 0, 1) := by decide +kernel
theorem dX7_drop_59 : decode cX7_drop 59 = .ok (.goto 4, 3) := by decide +kernel
theorem dX7_drop_62 : decode cX7_drop 62 = .ok (.iconst 1, 1) := by decide +kernel
theorem dX7_drop_63 : decode cX7_drop 63 = .ok (.ireturn, 1) := by decide +kernel
theorem dX7_holds_0 : decode cX7_holds 0 = .ok (.aload_n 0, 1) := by decide +kernel
theorem dX7_holds_1 : decode cX7_holds 1 = .ok (.iload_n 1, 1) := by decide +kernel
theorem dX7_holds_2 : decode cX7_holds 2 = .ok (.invokevirtual 141, 3) := by decide +kernel
theorem dX7_holds_5 : decode cX7_holds 5 = .ok (.astore_n 2, 1) := by decide +kernel
theorem dX7_holds_6 : decode cX7_holds 6 = .ok (.aload_n 2, 1) := by decide +kernel
theorem dX7_holds_7 : decode cX7_holds 7 = .ok (.ifnonnull 7, 3) := by decide +kernel
theorem dX7_holds_10 : decode cX7_holds 10 = .ok (.iconst (-1), 1) := by decide +kernel
theorem dX7_holds_11 : decode cX7_holds 11 = .ok (.goto 17, 3) := by decide +kernel
theorem dX7_holds_14 : decode cX7_holds 14 = .ok (.aload_n 2, 1) := by decide +kernel
theorem dX7_holds_15 : decode cX7_holds 15 = .ok (.getfield 160, 3) := by decide +kernel
theorem dX7_holds_18 : decode cX7_holds 18 = .ok (.aload_n 0, 1) := by decide +kernel
theorem dX7_holds_19 : decode cX7_holds 19 = .ok (.getfield 71, 3) := by decide +kernel
theorem dX7_holds_22 : decode cX7_holds 22 = .ok (.invokevirtual 183, 3) := by decide +kernel
theorem dX7_holds_25 : decode cX7_holds 25 = .ok (.invokestatic 187, 3) := by decide +kernel
theorem dX7_holds_28 : decode cX7_holds 28 = .ok (.ireturn, 1) := by decide +kernel
theorem dX7_made_0 : decode cX7_made 0 = .ok (.aload_n 0, 1) := by decide +kernel
theorem dX7_made_1 : decode cX7_made 1 = .ok (.iload_n 1, 1) := by decide +kernel
theorem dX7_made_2 : decode cX7_made 2 = .ok (.invokevirtual 141, 3) := by decide +kernel
theorem dX7_made_5 : decode cX7_made 5 = .ok (.astore_n 2, 1) := by decide +kernel
theorem dX7_made_6 : decode cX7_made 6 = .ok (.aload_n 2, 1) := by decide +kernel
theorem dX7_made_7 : decode cX7_made 7 = .ok (.ifnonnull 7, 3) := by decide +kernel
theorem dX7_made_10 : decode cX7_made 10 = .ok (.iconst (-1), 1) := by decide +kernel
theorem dX7_made_11 : decode cX7_made 11 = .ok (.goto 14, 3) := by decide +kernel
theorem dX7_made_14 : decode cX7_made 14 = .ok (.aload_n 2, 1) := by decide +kernel
theorem dX7_made_15 : decode cX7_made 15 = .ok (.getfield 160, 3) := by decide +kernel
theorem dX7_made_18 : decode cX7_made 18 = .ok (.aload_n 0, 1) := by decide +kernel
theorem dX7_made_19 : decode cX7_made 19 = .ok (.getfield 71, 3) := by decide +kernel
theorem dX7_made_22 : decode cX7_made 22 = .ok (.invokevirtual 191, 3) := by decide +kernel
theorem dX7_made_25 : decode cX7_made 25 = .ok (.ireturn, 1) := by decide +kernel
theorem dX7_under_0 : decode cX7_under 0 = .ok (.aload_n 0, 1) := by decide +kernel
theorem dX7_under_1 : decode cX7_under 1 = .ok (.iload_n 1, 1) := by decide +kernel
theorem dX7_under_2 : decode cX7_under 2 = .ok (.invokevirtual 141, 3) := by decide +kernel
theorem dX7_under_5 : decode cX7_under 5 = .ok (.astore 4, 2) := by decide +kernel
theorem dX7_under_7 : decode cX7_under 7 = .ok (.aload 4, 2) := by decide +kernel
theorem dX7_under_9 : decode cX7_under 9 = .ok (.ifnonnull 5, 3) := by decide +kernel
theorem dX7_under_12 : decode cX7_under 12 = .ok (.iconst (-1), 1) := by decide +kernel
theorem dX7_under_13 : decode cX7_under 13 = .ok (.ireturn, 1) := by decide +kernel
theorem dX7_under_14 : decode cX7_under 14 = .ok (.lload_n 2, 1) := by decide +kernel
theorem dX7_under_15 : decode cX7_under 15 = .ok (.aload_n 0, 1) := by decide +kernel
theorem dX7_under_16 : decode cX7_under 16 = .ok (.getfield 10, 3) := by decide +kernel
theorem dX7_under_19 : decode cX7_under 19 = .ok (.getfield 64, 3) := by decide +kernel
theorem dX7_under_22 : decode cX7_under 22 = .ok (.lushr, 1) := by decide +kernel
theorem dX7_under_23 : decode cX7_under 23 = .ok (.lconst 0, 1) := by decide +kernel
theorem dX7_under_24 : decode cX7_under 24 = .ok (.lcmp, 1) := by decide +kernel
theorem dX7_under_25 : decode cX7_under 25 = .ok (.ifCond .eq 6, 3) := by decide +kernel
theorem dX7_under_28 : decode cX7_under 28 = .ok (.bipush (-2), 2) := by decide +kernel
theorem dX7_under_30 : decode cX7_under 30 = .ok (.ireturn, 1) := by decide +kernel
theorem dX7_under_31 : decode cX7_under 31 = .ok (.aload 4, 2) := by decide +kernel
theorem dX7_under_33 : decode cX7_under 33 = .ok (.getfield 160, 3) := by decide +kernel
theorem dX7_under_36 : decode cX7_under 36 = .ok (.lload_n 2, 1) := by decide +kernel
theorem dX7_under_37 : decode cX7_under 37 = .ok (.invokevirtual 183, 3) := by decide +kernel
theorem dX7_under_40 : decode cX7_under 40 = .ok (.invokestatic 187, 3) := by decide +kernel
theorem dX7_under_43 : decode cX7_under 43 = .ok (.ireturn, 1) := by decide +kernel
theorem dX7_forward_0 : decode cX7_forward 0 = .ok (.aload_n 0, 1) := by decide +kernel
theorem dX7_forward_1 : decode cX7_forward 1 = .ok (.getfield 10, 3) := by decide +kernel
theorem dX7_forward_4 : decode cX7_forward 4 = .ok (.iload_n 1, 1) := by decide +kernel
theorem dX7_forward_5 : decode cX7_forward 5 = .ok (.invokevirtual 178, 3) := by decide +kernel
theorem dX7_forward_8 : decode cX7_forward 8 = .ok (.ifCond .ne 5, 3) := by decide +kernel
theorem dX7_forward_11 : decode cX7_forward 11 = .ok (.iconst (-1), 1) := by decide +kernel
theorem dX7_forward_12 : decode cX7_forward 12 = .ok (.ireturn, 1) := by decide +kernel
theorem dX7_forward_13 : decode cX7_forward 13 = .ok (.aload_n 0, 1) := by decide +kernel
theorem dX7_forward_14 : decode cX7_forward 14 = .ok (.aload_n 0, 1) := by decide +kernel
theorem dX7_forward_15 : decode cX7_forward 15 = .ok (.getfield 49, 3) := by decide +kernel
theorem dX7_forward_18 : decode cX7_forward 18 = .ok (.invokevirtual 127, 3) := by decide +kernel
theorem dX7_forward_21 : decode cX7_forward 21 = .ok (.astore_n 2, 1) := by decide +kernel
theorem dX7_forward_22 : decode cX7_forward 22 = .ok (.iconst 0, 1) := by decide +kernel
theorem dX7_forward_23 : decode cX7_forward 23 = .ok (.istore_n 3, 1) := by decide +kernel
theorem dX7_forward_24 : decode cX7_forward 24 = .ok (.iconst 0, 1) := by decide +kernel
theorem dX7_forward_25 : decode cX7_forward 25 = .ok (.istore 4, 2) := by decide +kernel
theorem dX7_forward_27 : decode cX7_forward 27 = .ok (.iload 4, 2) := by decide +kernel
theorem dX7_forward_29 : decode cX7_forward 29 = .ok (.aload_n 2, 1) := by decide +kernel
theorem dX7_forward_30 : decode cX7_forward 30 = .ok (.getfield 138, 3) := by decide +kernel
theorem dX7_forward_33 : decode cX7_forward 33 = .ok (.if_icmp .ge 49, 3) := by decide +kernel
theorem dX7_forward_36 : decode cX7_forward 36 = .ok (.aload_n 2, 1) := by decide +kernel
theorem dX7_forward_37 : decode cX7_forward 37 = .ok (.getfield 195, 3) := by decide +kernel
theorem dX7_forward_40 : decode cX7_forward 40 = .ok (.iload 4, 2) := by decide +kernel
theorem dX7_forward_42 : decode cX7_forward 42 = .ok (.aaload, 1) := by decide +kernel
theorem dX7_forward_43 : decode cX7_forward 43 = .ok (.getfield 160, 3) := by decide +kernel
theorem dX7_forward_46 : decode cX7_forward 46 = .ok (.astore 5, 2) := by decide +kernel
theorem dX7_forward_48 : decode cX7_forward 48 = .ok (.aload 5, 2) := by decide +kernel
theorem dX7_forward_50 : decode cX7_forward 50 = .ok (.aload_n 0, 1) := by decide +kernel
theorem dX7_forward_51 : decode cX7_forward 51 = .ok (.getfield 71, 3) := by decide +kernel
theorem dX7_forward_54 : decode cX7_forward 54 = .ok (.invokevirtual 183, 3) := by decide +kernel
theorem dX7_forward_57 : decode cX7_forward 57 = .ok (.aload 5, 2) := by decide +kernel
theorem dX7_forward_59 : decode cX7_forward 59 = .ok (.aload_n 0, 1) := by decide +kernel
theorem dX7_forward_60 : decode cX7_forward 60 = .ok (.getfield 71, 3) := by decide +kernel
theorem dX7_forward_63 : decode cX7_forward 63 = .ok (.lconst 1, 1) := by decide +kernel
theorem dX7_forward_64 : decode cX7_forward 64 = .ok (.iload_n 1, 1) := by decide +kernel
theorem dX7_forward_65 : decode cX7_forward 65 = .ok (.lshl, 1) := by decide +kernel
theorem dX7_forward_66 : decode cX7_forward 66 = .ok (.lxor, 1) := by decide +kernel
theorem dX7_forward_67 : decode cX7_forward 67 = .ok (.invokevirtual 183, 3) := by decide +kernel
theorem dX7_forward_70 : decode cX7_forward 70 = .ok (.if_icmp .eq 6, 3) := by decide +kernel
theorem dX7_forward_73 : decode cX7_forward 73 = .ok (.iinc 3 1, 3) := by decide +kernel
theorem dX7_forward_76 : decode cX7_forward 76 = .ok (.iinc 4 1, 3) := by decide +kernel
theorem dX7_forward_79 : decode cX7_forward 79 = .ok (.goto (-52), 3) := by decide +kernel
theorem dX7_forward_82 : decode cX7_forward 82 = .ok (.iload_n 3, 1) := by decide +kernel
theorem dX7_forward_83 : decode cX7_forward 83 = .ok (.ireturn, 1) := by decide +kernel
theorem dX7_count_0 : decode cX7_count 0 = .ok (.aload_n 0, 1) := by decide +kernel
theorem dX7_count_1 : decode cX7_count 1 = .ok (.iload_n 1, 1) := by decide +kernel
theorem dX7_count_2 : decode cX7_count 2 = .ok (.invokevirtual 141, 3) := by decide +kernel
theorem dX7_count_5 : decode cX7_count 5 = .ok (.astore_n 2, 1) := by decide +kernel
theorem dX7_count_6 : decode cX7_count 6 = .ok (.aload_n 2, 1) := by decide +kernel
theorem dX7_count_7 : decode cX7_count 7 = .ok (.ifnonnull 5, 3) := by decide +kernel
theorem dX7_count_10 : decode cX7_count 10 = .ok (.iconst (-1), 1) := by decide +kernel
theorem dX7_count_11 : decode cX7_count 11 = .ok (.ireturn, 1) := by decide +kernel
theorem dX7_count_12 : decode cX7_count 12 = .ok (.aload_n 2, 1) := by decide +kernel
theorem dX7_count_13 : decode cX7_count 13 = .ok (.getfield 160, 3) := by decide +kernel
theorem dX7_count_16 : decode cX7_count 16 = .ok (.invokevirtual 199, 3) := by decide +kernel
theorem dX7_count_19 : decode cX7_count 19 = .ok (.invokestatic 203, 3) := by decide +kernel
theorem dX7_count_22 : decode cX7_count 22 = .ok (.istore_n 3, 1) := by decide +kernel
theorem dX7_count_23 : decode cX7_count 23 = .ok (.iload_n 3, 1) := by decide +kernel
theorem dX7_count_24 : decode cX7_count 24 = .ok (.bipush 16, 2) := by decide +kernel
theorem dX7_count_26 : decode cX7_count 26 = .ok (.if_icmp .le 6, 3) := by decide +kernel
theorem dX7_count_29 : decode cX7_count 29 = .ok (.bipush (-4), 2) := by decide +kernel
theorem dX7_count_31 : decode cX7_count 31 = .ok (.ireturn, 1) := by decide +kernel
theorem dX7_count_32 : decode cX7_count 32 = .ok (.iconst 1, 1) := by decide +kernel
theorem dX7_count_33 : decode cX7_count 33 = .ok (.iload_n 3, 1) := by decide +kernel
theorem dX7_count_34 : decode cX7_count 34 = .ok (.ishl, 1) := by decide +kernel
theorem dX7_count_35 : decode cX7_count 35 = .ok (.aload_n 2, 1) := by decide +kernel
theorem dX7_count_36 : decode cX7_count 36 = .ok (.getfield 160, 3) := by decide +kernel
theorem dX7_count_39 : decode cX7_count 39 = .ok (.iconst 0, 1) := by decide +kernel
theorem dX7_count_40 : decode cX7_count 40 = .ok (.lconst 0, 1) := by decide +kernel
theorem dX7_count_41 : decode cX7_count 41 = .ok (.lconst 0, 1) := by decide +kernel
theorem dX7_count_42 : decode cX7_count 42 = .ok (.iload_n 3, 1) := by decide +kernel
theorem dX7_count_43 : decode cX7_count 43 = .ok (.invokestatic 208, 3) := by decide +kernel
theorem dX7_count_46 : decode cX7_count 46 = .ok (.isub, 1) := by decide +kernel
theorem dX7_count_47 : decode cX7_count 47 = .ok (.ireturn, 1) := by decide +kernel
theorem dX7_matters_0 : decode cX7_matters 0 = .ok (.aload_n 0, 1) := by decide +kernel
theorem dX7_matters_1 : decode cX7_matters 1 = .ok (.iload_n 1, 1) := by decide +kernel
theorem dX7_matters_2 : decode cX7_matters 2 = .ok (.invokevirtual 141, 3) := by decide +kernel
theorem dX7_matters_5 : decode cX7_matters 5 = .ok (.astore_n 3, 1) := by decide +kernel
theorem dX7_matters_6 : decode cX7_matters 6 = .ok (.aload_n 3, 1) := by decide +kernel
theorem dX7_matters_7 : decode cX7_matters 7 = .ok (.ifnull 14, 3) := by decide +kernel
theorem dX7_matters_10 : decode cX7_matters 10 = .ok (.aload_n 0, 1) := by decide +kernel
theorem dX7_matters_11 : decode cX7_matters 11 = .ok (.getfield 10, 3) := by decide +kernel
theorem dX7_matters_14 : decode cX7_matters 14 = .ok (.iload_n 2, 1) := by decide +kernel
theorem dX7_matters_15 : decode cX7_matters 15 = .ok (.invokevirtual 178, 3) := by decide +kernel
theorem dX7_matters_18 : decode cX7_matters 18 = .ok (.ifCond .ne 5, 3) := by decide +kernel
theorem dX7_matters_21 : decode cX7_matters 21 = .ok (.iconst (-1), 1) := by decide +kernel
theorem dX7_matters_22 : decode cX7_matters 22 = .ok (.ireturn, 1) := by decide +kernel
theorem dX7_matters_23 : decode cX7_matters 23 = .ok (.aload_n 3, 1) := by decide +kernel
theorem dX7_matters_24 : decode cX7_matters 24 = .ok (.getfield 160, 3) := by decide +kernel
theorem dX7_matters_27 : decode cX7_matters 27 = .ok (.invokevirtual 199, 3) := by decide +kernel
theorem dX7_matters_30 : decode cX7_matters 30 = .ok (.lstore 4, 2) := by decide +kernel
theorem dX7_matters_32 : decode cX7_matters 32 = .ok (.lload 4, 2) := by decide +kernel
theorem dX7_matters_34 : decode cX7_matters 34 = .ok (.invokestatic 203, 3) := by decide +kernel
theorem dX7_matters_37 : decode cX7_matters 37 = .ok (.istore 6, 2) := by decide +kernel
theorem dX7_matters_39 : decode cX7_matters 39 = .ok (.iload 6, 2) := by decide +kernel
theorem dX7_matters_41 : decode cX7_matters 41 = .ok (.bipush 16, 2) := by decide +kernel
theorem dX7_matters_43 : decode cX7_matters 43 = .ok (.if_icmp .le 6, 3) := by decide +kernel
theorem dX7_matters_46 : decode cX7_matters 46 = .ok (.bipush (-4), 2) := by decide +kernel
theorem dX7_matters_48 : decode cX7_matters 48 = .ok (.ireturn, 1) := by decide +kernel
theorem dX7_matters_49 : decode cX7_matters 49 = .ok (.lconst 1, 1) := by decide +kernel
theorem dX7_matters_50 : decode cX7_matters 50 = .ok (.iload_n 2, 1) := by decide +kernel
theorem dX7_matters_51 : decode cX7_matters 51 = .ok (.lshl, 1) := by decide +kernel
theorem dX7_matters_52 : decode cX7_matters 52 = .ok (.lstore 7, 2) := by decide +kernel
theorem dX7_matters_54 : decode cX7_matters 54 = .ok (.lload 4, 2) := by decide +kernel
theorem dX7_matters_56 : decode cX7_matters 56 = .ok (.lload 7, 2) := by decide +kernel
theorem dX7_matters_58 : decode cX7_matters 58 = .ok (.land, 1) := by decide +kernel
theorem dX7_matters_59 : decode cX7_matters 59 = .ok (.lconst 0, 1) := by decide +kernel
theorem dX7_matters_60 : decode cX7_matters 60 = .ok (.lcmp, 1) := by decide +kernel
theorem dX7_matters_61 : decode cX7_matters 61 = .ok (.ifCond .ne 7, 3) := by decide +kernel
theorem dX7_matters_64 : decode cX7_matters 64 = .ok (.iconst 0, 1) := by decide +kernel
theorem dX7_matters_65 : decode cX7_matters 65 = .ok (.goto 18, 3) := by decide +kernel
theorem dX7_matters_68 : decode cX7_matters 68 = .ok (.aload_n 0, 1) := by decide +kernel
theorem dX7_matters_69 : decode cX7_matters 69 = .ok (.aload_n 3, 1) := by decide +kernel
theorem dX7_matters_70 : decode cX7_matters 70 = .ok (.getfield 160, 3) := by decide +kernel
theorem dX7_matters_73 : decode cX7_matters 73 = .ok (.lload 7, 2) := by decide +kernel
theorem dX7_matters_75 : decode cX7_matters 75 = .ok (.iload 6, 2) := by decide +kernel
theorem dX7_matters_77 : decode cX7_matters 77 = .ok (.invokevirtual 212, 3) := by decide +kernel
theorem dX7_matters_80 : decode cX7_matters 80 = .ok (.invokestatic 187, 3) := by decide +kernel
theorem dX7_matters_83 : decode cX7_matters 83 = .ok (.ireturn, 1) := by decide +kernel
theorem dX7_blame_0 : decode cX7_blame 0 = .ok (.aload_n 0, 1) := by decide +kernel
theorem dX7_blame_1 : decode cX7_blame 1 = .ok (.iload_n 1, 1) := by decide +kernel
theorem dX7_blame_2 : decode cX7_blame 2 = .ok (.invokevirtual 141, 3) := by decide +kernel
theorem dX7_blame_5 : decode cX7_blame 5 = .ok (.astore_n 2, 1) := by decide +kernel
theorem dX7_blame_6 : decode cX7_blame 6 = .ok (.aload_n 2, 1) := by decide +kernel
theorem dX7_blame_7 : decode cX7_blame 7 = .ok (.ifnonnull 5, 3) := by decide +kernel
theorem dX7_blame_10 : decode cX7_blame 10 = .ok (.iconst (-1), 1) := by decide +kernel
theorem dX7_blame_11 : decode cX7_blame 11 = .ok (.ireturn, 1) := by decide +kernel
theorem dX7_blame_12 : decode cX7_blame 12 = .ok (.aload_n 2, 1) := by decide +kernel
theorem dX7_blame_13 : decode cX7_blame 13 = .ok (.getfield 160, 3) := by decide +kernel
theorem dX7_blame_16 : decode cX7_blame 16 = .ok (.aload_n 0, 1) := by decide +kernel
theorem dX7_blame_17 : decode cX7_blame 17 = .ok (.getfield 71, 3) := by decide +kernel
theorem dX7_blame_20 : decode cX7_blame 20 = .ok (.invokevirtual 183, 3) := by decide +kernel
theorem dX7_blame_23 : decode cX7_blame 23 = .ok (.istore_n 3, 1) := by decide +kernel
theorem dX7_blame_24 : decode cX7_blame 24 = .ok (.iload_n 3, 1) := by decide +kernel
theorem dX7_blame_25 : decode cX7_blame 25 = .ok (.ifCond .eq 7, 3) := by decide +kernel
theorem dX7_blame_28 : decode cX7_blame 28 = .ok (.iconst 0, 1) := by decide +kernel
theorem dX7_blame_29 : decode cX7_blame 29 = .ok (.goto 14, 3) := by decide +kernel
theorem dX7_blame_32 : decode cX7_blame 32 = .ok (.aload_n 2, 1) := by decide +kernel
theorem dX7_blame_33 : decode cX7_blame 33 = .ok (.getfield 160, 3) := by decide +kernel
theorem dX7_blame_36 : decode cX7_blame 36 = .ok (.aload_n 0, 1) := by decide +kernel
theorem dX7_blame_37 : decode cX7_blame 37 = .ok (.getfield 71, 3) := by decide +kernel
theorem dX7_blame_40 : decode cX7_blame 40 = .ok (.invokevirtual 216, 3) := by decide +kernel
theorem dX7_blame_43 : decode cX7_blame 43 = .ok (.istore 4, 2) := by decide +kernel
theorem dX7_blame_45 : decode cX7_blame 45 = .ok (.iload 4, 2) := by decide +kernel
theorem dX7_blame_47 : decode cX7_blame 47 = .ok (.iconst (-1), 1) := by decide +kernel
theorem dX7_blame_48 : decode cX7_blame 48 = .ok (.if_icmp .ne 5, 3) := by decide +kernel
theorem dX7_blame_51 : decode cX7_blame 51 = .ok (.iconst (-1), 1) := by decide +kernel
theorem dX7_blame_52 : decode cX7_blame 52 = .ok (.ireturn, 1) := by decide +kernel
theorem dX7_blame_53 : decode cX7_blame 53 = .ok (.aload_n 2, 1) := by decide +kernel
theorem dX7_blame_54 : decode cX7_blame 54 = .ok (.getfield 160, 3) := by decide +kernel
theorem dX7_blame_57 : decode cX7_blame 57 = .ok (.invokevirtual 199, 3) := by decide +kernel
theorem dX7_blame_60 : decode cX7_blame 60 = .ok (.invokestatic 203, 3) := by decide +kernel
theorem dX7_blame_63 : decode cX7_blame 63 = .ok (.bipush 16, 2) := by decide +kernel
theorem dX7_blame_65 : decode cX7_blame 65 = .ok (.if_icmp .le 6, 3) := by decide +kernel
theorem dX7_blame_68 : decode cX7_blame 68 = .ok (.bipush (-4), 2) := by decide +kernel
theorem dX7_blame_70 : decode cX7_blame 70 = .ok (.ireturn, 1) := by decide +kernel
theorem dX7_blame_71 : decode cX7_blame 71 = .ok (.iload_n 3, 1) := by decide +kernel
theorem dX7_blame_72 : decode cX7_blame 72 = .ok (.ifCond .eq 14, 3) := by decide +kernel
theorem dX7_blame_75 : decode cX7_blame 75 = .ok (.aload_n 0, 1) := by decide +kernel
theorem dX7_blame_76 : decode cX7_blame 76 = .ok (.aload_n 2, 1) := by decide +kernel
theorem dX7_blame_77 : decode cX7_blame 77 = .ok (.getfield 160, 3) := by decide +kernel
theorem dX7_blame_80 : decode cX7_blame 80 = .ok (.invokevirtual 219, 3) := by decide +kernel
theorem dX7_blame_83 : decode cX7_blame 83 = .ok (.goto 5, 3) := by decide +kernel
theorem dX7_blame_86 : decode cX7_blame 86 = .ok (.iload 4, 2) := by decide +kernel
theorem dX7_blame_88 : decode cX7_blame 88 = .ok (.ireturn, 1) := by decide +kernel
theorem dX7_told_0 : decode cX7_told 0 = .ok (.iload_n 1, 1) := by decide +kernel
theorem dX7_told_1 : decode cX7_told 1 = .ok (.tableswitch 96 0 5 #[39, 47, 55, 60, 72, 88], 39) := by decide +kernel
theorem dX7_told_40 : decode cX7_told 40 = .ok (.aload_n 0, 1) := by decide +kernel
theorem dX7_told_41 : decode cX7_told 41 = .ok (.getfield 10, 3) := by decide +kernel
theorem dX7_told_44 : decode cX7_told 44 = .ok (.getfield 53, 3) := by decide +kernel
theorem dX7_told_47 : decode cX7_told 47 = .ok (.ireturn, 1) := by decide +kernel
theorem dX7_told_48 : decode cX7_told 48 = .ok (.aload_n 0, 1) := by decide +kernel
theorem dX7_told_49 : decode cX7_told 49 = .ok (.getfield 10, 3) := by decide +kernel
theorem dX7_told_52 : decode cX7_told 52 = .ok (.getfield 64, 3) := by decide +kernel
theorem dX7_told_55 : decode cX7_told 55 = .ok (.ireturn, 1) := by decide +kernel
theorem dX7_told_56 : decode cX7_told 56 = .ok (.aload_n 0, 1) := by decide +kernel
theorem dX7_told_57 : decode cX7_told 57 = .ok (.getfield 78, 3) := by decide +kernel
theorem dX7_told_60 : decode cX7_told 60 = .ok (.ireturn, 1) := by decide +kernel
theorem dX7_told_61 : decode cX7_told 61 = .ok (.aload_n 0, 1) := by decide +kernel
theorem dX7_told_62 : decode cX7_told 62 = .ok (.aload_n 0, 1) := by decide +kernel
theorem dX7_told_63 : decode cX7_told 63 = .ok (.getfield 49, 3) := by decide +kernel
theorem dX7_told_66 : decode cX7_told 66 = .ok (.invokevirtual 127, 3) := by decide +kernel
theorem dX7_told_69 : decode cX7_told 69 = .ok (.getfield 138, 3) := by decide +kernel
theorem dX7_told_72 : decode cX7_told 72 = .ok (.ireturn, 1) := by decide +kernel
theorem dX7_told_73 : decode cX7_told 73 = .ok (.aload_n 0, 1) := by decide +kernel
theorem dX7_told_74 : decode cX7_told 74 = .ok (.aload_n 0, 1) := by decide +kernel
theorem dX7_told_75 : decode cX7_told 75 = .ok (.getfield 49, 3) := by decide +kernel
theorem dX7_told_78 : decode cX7_told 78 = .ok (.invokevirtual 127, 3) := by decide +kernel
theorem dX7_told_81 : decode cX7_told 81 = .ok (.aload_n 0, 1) := by decide +kernel
theorem dX7_told_82 : decode cX7_told 82 = .ok (.getfield 71, 3) := by decide +kernel
theorem dX7_told_85 : decode cX7_told 85 = .ok (.invokevirtual 223, 3) := by decide +kernel
theorem dX7_told_88 : decode cX7_told 88 = .ok (.ireturn, 1) := by decide +kernel
theorem dX7_told_89 : decode cX7_told 89 = .ok (.aload_n 0, 1) := by decide +kernel
theorem dX7_told_90 : decode cX7_told 90 = .ok (.getfield 71, 3) := by decide +kernel
theorem dX7_told_93 : decode cX7_told 93 = .ok (.invokestatic 203, 3) := by decide +kernel
theorem dX7_told_96 : decode cX7_told 96 = .ok (.ireturn, 1) := by decide +kernel
theorem dX7_told_97 : decode cX7_told 97 = .ok (.bipush (-2), 2) := by decide +kernel
theorem dX7_told_99 : decode cX7_told 99 = .ok (.ireturn, 1) := by decide +kernel
theorem dX7_clear_0 : decode cX7_clear 0 = .ok (.aload_n 0, 1) := by decide +kernel
theorem dX7_clear_1 : decode cX7_clear 1 = .ok (.getfield 10, 3) := by decide +kernel
theorem dX7_clear_4 : decode cX7_clear 4 = .ok (.invokevirtual 226, 3) := by decide +kernel
theorem dX7_clear_7 : decode cX7_clear 7 = .ok (.aload_n 0, 1) := by decide +kernel
theorem dX7_clear_8 : decode cX7_clear 8 = .ok (.invokevirtual 75, 3) := by decide +kernel
theorem dX7_clear_11 : decode cX7_clear 11 = .ok (.aload_n 0, 1) := by decide +kernel
theorem dX7_clear_12 : decode cX7_clear 12 = .ok (.iconst 0, 1) := by decide +kernel
theorem dX7_clear_13 : decode cX7_clear 13 = .ok (.putfield 78, 3) := by decide +kernel
theorem dX7_clear_16 : decode cX7_clear 16 = .ok (.aload_n 0, 1) := by decide +kernel
theorem dX7_clear_17 : decode cX7_clear 17 = .ok (.lconst 0, 1) := by decide +kernel
theorem dX7_clear_18 : decode cX7_clear 18 = .ok (.putfield 71, 3) := by decide +kernel
theorem dX7_clear_21 : decode cX7_clear 21 = .ok (.return_, 1) := by decide +kernel
theorem dX7_isNode_0 : decode cX7_isNode 0 = .ok (.iload_n 1, 1) := by decide +kernel
theorem dX7_isNode_1 : decode cX7_isNode 1 = .ok (.ifCond .lt 15, 3) := by decide +kernel
theorem dX7_isNode_4 : decode cX7_isNode 4 = .ok (.iload_n 1, 1) := by decide +kernel
theorem dX7_isNode_5 : decode cX7_isNode 5 = .ok (.aload_n 0, 1) := by decide +kernel
theorem dX7_isNode_6 : decode cX7_isNode 6 = .ok (.getfield 78, 3) := by decide +kernel
theorem dX7_isNode_9 : decode cX7_isNode 9 = .ok (.if_icmp .ge 7, 3) := by decide +kernel
theorem dX7_isNode_12 : decode cX7_isNode 12 = .ok (.iconst 1, 1) := by decide +kernel
theorem dX7_isNode_13 : decode cX7_isNode 13 = .ok (.goto 4, 3) := by decide +kernel
theorem dX7_isNode_16 : decode cX7_isNode 16 = .ok (.iconst 0, 1) := by decide +kernel
theorem dX7_isNode_17 : decode cX7_isNode 17 = .ok (.ireturn, 1) := by decide +kernel
theorem dX7_hasColumn_0 : decode cX7_hasColumn 0 = .ok (.aload_n 0, 1) := by decide +kernel
theorem dX7_hasColumn_1 : decode cX7_hasColumn 1 = .ok (.iload_n 1, 1) := by decide +kernel
theorem dX7_hasColumn_2 : decode cX7_hasColumn 2 = .ok (.invokevirtual 100, 3) := by decide +kernel
theorem dX7_hasColumn_5 : decode cX7_hasColumn 5 = .ok (.ifCond .eq 24, 3) := by decide +kernel
theorem dX7_hasColumn_8 : decode cX7_hasColumn 8 = .ok (.iload_n 2, 1) := by decide +kernel
theorem dX7_hasColumn_9 : decode cX7_hasColumn 9 = .ok (.ifCond .lt 20, 3) := by decide +kernel
theorem dX7_hasColumn_12 : decode cX7_hasColumn 12 = .ok (.iload_n 2, 1) := by decide +kernel
theorem dX7_hasColumn_13 : decode cX7_hasColumn 13 = .ok (.aload_n 0, 1) := by decide +kernel
theorem dX7_hasColumn_14 : decode cX7_hasColumn 14 = .ok (.getfield 25, 3) := by decide +kernel
theorem dX7_hasColumn_17 : decode cX7_hasColumn 17 = .ok (.iload_n 1, 1) := by decide +kernel
theorem dX7_hasColumn_18 : decode cX7_hasColumn 18 = .ok (.aaload, 1) := by decide +kernel
theorem dX7_hasColumn_19 : decode cX7_hasColumn 19 = .ok (.getfield 97, 3) := by decide +kernel
theorem dX7_hasColumn_22 : decode cX7_hasColumn 22 = .ok (.if_icmp .ge 7, 3) := by decide +kernel
theorem dX7_hasColumn_25 : decode cX7_hasColumn 25 = .ok (.iconst 1, 1) := by decide +kernel
theorem dX7_hasColumn_26 : decode cX7_hasColumn 26 = .ok (.goto 4, 3) := by decide +kernel
theorem dX7_hasColumn_29 : decode cX7_hasColumn 29 = .ok (.iconst 0, 1) := by decide +kernel
theorem dX7_hasColumn_30 : decode cX7_hasColumn 30 = .ok (.ireturn, 1) := by decide +kernel
theorem dX7_addAlikeNode_0 : decode cX7_addAlikeNode 0 = .ok (.aload_n 0, 1) := by decide +kernel
theorem dX7_addAlikeNode_1 : decode cX7_addAlikeNode 1 = .ok (.iload_n 2, 1) := by decide +kernel
theorem dX7_addAlikeNode_2 : decode cX7_addAlikeNode 2 = .ok (.invokevirtual 100, 3) := by decide +kernel
theorem dX7_addAlikeNode_5 : decode cX7_addAlikeNode 5 = .ok (.ifCond .eq 11, 3) := by decide +kernel
theorem dX7_addAlikeNode_8 : decode cX7_addAlikeNode 8 = .ok (.aload_n 0, 1) := by decide +kernel
theorem dX7_addAlikeNode_9 : decode cX7_addAlikeNode 9 = .ok (.iload_n 3, 1) := by decide +kernel
theorem dX7_addAlikeNode_10 : decode cX7_addAlikeNode 10 = .ok (.invokevirtual 100, 3) := by decide +kernel
theorem dX7_addAlikeNode_13 : decode cX7_addAlikeNode 13 = .ok (.ifCond .ne 5, 3) := by decide +kernel
theorem dX7_addAlikeNode_16 : decode cX7_addAlikeNode 16 = .ok (.iconst (-1), 1) := by decide +kernel
theorem dX7_addAlikeNode_17 : decode cX7_addAlikeNode 17 = .ok (.ireturn, 1) := by decide +kernel
theorem dX7_addAlikeNode_18 : decode cX7_addAlikeNode 18 = .ok (.aload_n 0, 1) := by decide +kernel
theorem dX7_addAlikeNode_19 : decode cX7_addAlikeNode 19 = .ok (.getfield 25, 3) := by decide +kernel
theorem dX7_addAlikeNode_22 : decode cX7_addAlikeNode 22 = .ok (.iload_n 2, 1) := by decide +kernel
theorem dX7_addAlikeNode_23 : decode cX7_addAlikeNode 23 = .ok (.aaload, 1) := by decide +kernel
theorem dX7_addAlikeNode_24 : decode cX7_addAlikeNode 24 = .ok (.getfield 97, 3) := by decide +kernel
theorem dX7_addAlikeNode_27 : decode cX7_addAlikeNode 27 = .ok (.aload_n 0, 1) := by decide +kernel
theorem dX7_addAlikeNode_28 : decode cX7_addAlikeNode 28 = .ok (.getfield 25, 3) := by decide +kernel
theorem dX7_addAlikeNode_31 : decode cX7_addAlikeNode 31 = .ok (.iload_n 3, 1) := by decide +kernel
theorem dX7_addAlikeNode_32 : decode cX7_addAlikeNode 32 = .ok (.aaload, 1) := by decide +kernel
theorem dX7_addAlikeNode_33 : decode cX7_addAlikeNode 33 = .ok (.getfield 97, 3) := by decide +kernel
theorem dX7_addAlikeNode_36 : decode cX7_addAlikeNode 36 = .ok (.if_icmp .eq 6, 3) := by decide +kernel
theorem dX7_addAlikeNode_39 : decode cX7_addAlikeNode 39 = .ok (.bipush (-2), 2) := by decide +kernel
theorem dX7_addAlikeNode_41 : decode cX7_addAlikeNode 41 = .ok (.ireturn, 1) := by decide +kernel
theorem dX7_addAlikeNode_42 : decode cX7_addAlikeNode 42 = .ok (.aload_n 0, 1) := by decide +kernel
theorem dX7_addAlikeNode_43 : decode cX7_addAlikeNode 43 = .ok (.getfield 78, 3) := by decide +kernel
theorem dX7_addAlikeNode_46 : decode cX7_addAlikeNode 46 = .ok (.bipush 16, 2) := by decide +kernel
theorem dX7_addAlikeNode_48 : decode cX7_addAlikeNode 48 = .ok (.if_icmp .lt 6, 3) := by decide +kernel
theorem dX7_addAlikeNode_51 : decode cX7_addAlikeNode 51 = .ok (.bipush (-4), 2) := by decide +kernel
theorem dX7_addAlikeNode_53 : decode cX7_addAlikeNode 53 = .ok (.ireturn, 1) := by decide +kernel
theorem dX7_addAlikeNode_54 : decode cX7_addAlikeNode 54 = .ok (.aload_n 0, 1) := by decide +kernel
theorem dX7_addAlikeNode_55 : decode cX7_addAlikeNode 55 = .ok (.iload_n 1, 1) := by decide +kernel
theorem dX7_addAlikeNode_56 : decode cX7_addAlikeNode 56 = .ok (.aload_n 0, 1) := by decide +kernel
theorem dX7_addAlikeNode_57 : decode cX7_addAlikeNode 57 = .ok (.getfield 25, 3) := by decide +kernel
theorem dX7_addAlikeNode_60 : decode cX7_addAlikeNode 60 = .ok (.iload_n 2, 1) := by decide +kernel
theorem dX7_addAlikeNode_61 : decode cX7_addAlikeNode 61 = .ok (.aaload, 1) := by decide +kernel
theorem dX7_addAlikeNode_62 : decode cX7_addAlikeNode 62 = .ok (.getfield 97, 3) := by decide +kernel
theorem dX7_addAlikeNode_65 : decode cX7_addAlikeNode 65 = .ok (.iload_n 2, 1) := by decide +kernel
theorem dX7_addAlikeNode_66 : decode cX7_addAlikeNode 66 = .ok (.iload_n 3, 1) := by decide +kernel
theorem dX7_addAlikeNode_67 : decode cX7_addAlikeNode 67 = .ok (.invokevirtual 85, 3) := by decide +kernel
theorem dX7_addAlikeNode_70 : decode cX7_addAlikeNode 70 = .ok (.iconst (-1), 1) := by decide +kernel
theorem dX7_addAlikeNode_71 : decode cX7_addAlikeNode 71 = .ok (.iconst (-1), 1) := by decide +kernel
theorem dX7_addAlikeNode_72 : decode cX7_addAlikeNode 72 = .ok (.iconst 0, 1) := by decide +kernel
theorem dX7_addAlikeNode_73 : decode cX7_addAlikeNode 73 = .ok (.iconst 0, 1) := by decide +kernel
theorem dX7_addAlikeNode_74 : decode cX7_addAlikeNode 74 = .ok (.invokevirtual 89, 3) := by decide +kernel
theorem dX7_addAlikeNode_77 : decode cX7_addAlikeNode 77 = .ok (.aload_n 0, 1) := by decide +kernel
theorem dX7_addAlikeNode_78 : decode cX7_addAlikeNode 78 = .ok (.dup, 1) := by decide +kernel
theorem dX7_addAlikeNode_79 : decode cX7_addAlikeNode 79 = .ok (.getfield 78, 3) := by decide +kernel
theorem dX7_addAlikeNode_82 : decode cX7_addAlikeNode 82 = .ok (.dup_x1, 1) := by decide +kernel
theorem dX7_addAlikeNode_83 : decode cX7_addAlikeNode 83 = .ok (.iconst 1, 1) := by decide +kernel
theorem dX7_addAlikeNode_84 : decode cX7_addAlikeNode 84 = .ok (.iadd, 1) := by decide +kernel
theorem dX7_addAlikeNode_85 : decode cX7_addAlikeNode 85 = .ok (.putfield 78, 3) := by decide +kernel
theorem dX7_addAlikeNode_88 : decode cX7_addAlikeNode 88 = .ok (.ireturn, 1) := by decide +kernel
theorem dX7_openNode_0 : decode cX7_openNode 0 = .ok (.aload_n 0, 1) := by decide +kernel
theorem dX7_openNode_1 : decode cX7_openNode 1 = .ok (.getfield 25, 3) := by decide +kernel
theorem dX7_openNode_4 : decode cX7_openNode 4 = .ok (.aload_n 0, 1) := by decide +kernel
theorem dX7_openNode_5 : decode cX7_openNode 5 = .ok (.getfield 78, 3) := by decide +kernel
theorem dX7_openNode_8 : decode cX7_openNode 8 = .ok (.aaload, 1) := by decide +kernel
theorem dX7_openNode_9 : decode cX7_openNode 9 = .ok (.ifnonnull 37, 3) := by decide +kernel
theorem dX7_openNode_12 : decode cX7_openNode 12 = .ok (.aload_n 0, 1) := by decide +kernel
theorem dX7_openNode_13 : decode cX7_openNode 13 = .ok (.getfield 25, 3) := by decide +kernel
theorem dX7_openNode_16 : decode cX7_openNode 16 = .ok (.aload_n 0, 1) := by decide +kernel
theorem dX7_openNode_17 : decode cX7_openNode 17 = .ok (.getfield 78, 3) := by decide +kernel
theorem dX7_openNode_20 : decode cX7_openNode 20 = .ok (.new 23, 3) := by decide +kernel
theorem dX7_openNode_23 : decode cX7_openNode 23 = .ok (.dup, 1) := by decide +kernel
theorem dX7_openNode_24 : decode cX7_openNode 24 = .ok (.invokespecial 229, 3) := by decide +kernel
theorem dX7_openNode_27 : decode cX7_openNode 27 = .ok (.aastore, 1) := by decide +kernel
theorem dX7_openNode_28 : decode cX7_openNode 28 = .ok (.aload_n 0, 1) := by decide +kernel
theorem dX7_openNode_29 : decode cX7_openNode 29 = .ok (.getfield 31, 3) := by decide +kernel
theorem dX7_openNode_32 : decode cX7_openNode 32 = .ok (.aload_n 0, 1) := by decide +kernel
theorem dX7_openNode_33 : decode cX7_openNode 33 = .ok (.getfield 78, 3) := by decide +kernel
theorem dX7_openNode_36 : decode cX7_openNode 36 = .ok (.new 29, 3) := by decide +kernel
theorem dX7_openNode_39 : decode cX7_openNode 39 = .ok (.dup, 1) := by decide +kernel
theorem dX7_openNode_40 : decode cX7_openNode 40 = .ok (.bipush 80, 2) := by decide +kernel
theorem dX7_openNode_42 : decode cX7_openNode 42 = .ok (.invokespecial 35, 3) := by decide +kernel
theorem dX7_openNode_45 : decode cX7_openNode 45 = .ok (.aastore, 1) := by decide +kernel
theorem dX7_openNode_46 : decode cX7_openNode 46 = .ok (.aload_n 0, 1) := by decide +kernel
theorem dX7_openNode_47 : decode cX7_openNode 47 = .ok (.getfield 25, 3) := by decide +kernel
theorem dX7_openNode_50 : decode cX7_openNode 50 = .ok (.aload_n 0, 1) := by decide +kernel
theorem dX7_openNode_51 : decode cX7_openNode 51 = .ok (.getfield 78, 3) := by decide +kernel
theorem dX7_openNode_54 : decode cX7_openNode 54 = .ok (.aaload, 1) := by decide +kernel
theorem dX7_openNode_55 : decode cX7_openNode 55 = .ok (.iload_n 1, 1) := by decide +kernel
theorem dX7_openNode_56 : decode cX7_openNode 56 = .ok (.iload_n 2, 1) := by decide +kernel
theorem dX7_openNode_57 : decode cX7_openNode 57 = .ok (.iload_n 3, 1) := by decide +kernel
theorem dX7_openNode_58 : decode cX7_openNode 58 = .ok (.iload 4, 2) := by decide +kernel
theorem dX7_openNode_60 : decode cX7_openNode 60 = .ok (.invokevirtual 230, 3) := by decide +kernel
theorem dX7_openNode_63 : decode cX7_openNode 63 = .ok (.aload_n 0, 1) := by decide +kernel
theorem dX7_openNode_64 : decode cX7_openNode 64 = .ok (.getfield 25, 3) := by decide +kernel
theorem dX7_openNode_67 : decode cX7_openNode 67 = .ok (.aload_n 0, 1) := by decide +kernel
theorem dX7_openNode_68 : decode cX7_openNode 68 = .ok (.getfield 78, 3) := by decide +kernel
theorem dX7_openNode_71 : decode cX7_openNode 71 = .ok (.aaload, 1) := by decide +kernel
theorem dX7_openNode_72 : decode cX7_openNode 72 = .ok (.areturn, 1) := by decide +kernel
theorem dX7_forgetWhatNodesGave_0 : decode cX7_forgetWhatNodesGave 0 = .ok (.iconst 0, 1) := by decide +kernel
theorem dX7_forgetWhatNodesGave_1 : decode cX7_forgetWhatNodesGave 1 = .ok (.istore_n 1, 1) := by decide +kernel
theorem dX7_forgetWhatNodesGave_2 : decode cX7_forgetWhatNodesGave 2 = .ok (.iload_n 1, 1) := by decide +kernel
theorem dX7_forgetWhatNodesGave_3 : decode cX7_forgetWhatNodesGave 3 = .ok (.aload_n 0, 1) := by decide +kernel
theorem dX7_forgetWhatNodesGave_4 : decode cX7_forgetWhatNodesGave 4 = .ok (.getfield 78, 3) := by decide +kernel
theorem dX7_forgetWhatNodesGave_7 : decode cX7_forgetWhatNodesGave 7 = .ok (.if_icmp .ge 19, 3) := by decide +kernel
theorem dX7_forgetWhatNodesGave_10 : decode cX7_forgetWhatNodesGave 10 = .ok (.aload_n 0, 1) := by decide +kernel
theorem dX7_forgetWhatNodesGave_11 : decode cX7_forgetWhatNodesGave 11 = .ok (.getfield 25, 3) := by decide +kernel
theorem dX7_forgetWhatNodesGave_14 : decode cX7_forgetWhatNodesGave 14 = .ok (.iload_n 1, 1) := by decide +kernel
theorem dX7_forgetWhatNodesGave_15 : decode cX7_forgetWhatNodesGave 15 = .ok (.aaload, 1) := by decide +kernel
theorem dX7_forgetWhatNodesGave_16 : decode cX7_forgetWhatNodesGave 16 = .ok (.iconst 0, 1) := by decide +kernel
theorem dX7_forgetWhatNodesGave_17 : decode cX7_forgetWhatNodesGave 17 = .ok (.putfield 121, 3) := by decide +kernel
theorem dX7_forgetWhatNodesGave_20 : decode cX7_forgetWhatNodesGave 20 = .ok (.iinc 1 1, 3) := by decide +kernel
theorem dX7_forgetWhatNodesGave_23 : decode cX7_forgetWhatNodesGave 23 = .ok (.goto (-21), 3) := by decide +kernel
theorem dX7_forgetWhatNodesGave_26 : decode cX7_forgetWhatNodesGave 26 = .ok (.aload_n 0, 1) := by decide +kernel
theorem dX7_forgetWhatNodesGave_27 : decode cX7_forgetWhatNodesGave 27 = .ok (.iconst (-1), 1) := by decide +kernel
theorem dX7_forgetWhatNodesGave_28 : decode cX7_forgetWhatNodesGave 28 = .ok (.putfield 49, 3) := by decide +kernel
theorem dX7_forgetWhatNodesGave_31 : decode cX7_forgetWhatNodesGave 31 = .ok (.return_, 1) := by decide +kernel
theorem dX7_neededNodes_0 : decode cX7_neededNodes 0 = .ok (.lconst 1, 1) := by decide +kernel
theorem dX7_neededNodes_1 : decode cX7_neededNodes 1 = .ok (.iload_n 1, 1) := by decide +kernel
theorem dX7_neededNodes_2 : decode cX7_neededNodes 2 = .ok (.lshl, 1) := by decide +kernel
theorem dX7_neededNodes_3 : decode cX7_neededNodes 3 = .ok (.lstore_n 2, 1) := by decide +kernel
theorem dX7_neededNodes_4 : decode cX7_neededNodes 4 = .ok (.iload_n 1, 1) := by decide +kernel
theorem dX7_neededNodes_5 : decode cX7_neededNodes 5 = .ok (.istore 4, 2) := by decide +kernel
theorem dX7_neededNodes_7 : decode cX7_neededNodes 7 = .ok (.iload 4, 2) := by decide +kernel
theorem dX7_neededNodes_9 : decode cX7_neededNodes 9 = .ok (.ifCond .lt 52, 3) := by decide +kernel
theorem dX7_neededNodes_12 : decode cX7_neededNodes 12 = .ok (.lload_n 2, 1) := by decide +kernel
theorem dX7_neededNodes_13 : decode cX7_neededNodes 13 = .ok (.iload 4, 2) := by decide +kernel
theorem dX7_neededNodes_15 : decode cX7_neededNodes 15 = .ok (.lshr, 1) := by decide +kernel
theorem dX7_neededNodes_16 : decode cX7_neededNodes 16 = .ok (.lconst 1, 1) := by decide +kernel
theorem dX7_neededNodes_17 : decode cX7_neededNodes 17 = .ok (.land, 1) := by decide +kernel
theorem dX7_neededNodes_18 : decode cX7_neededNodes 18 = .ok (.lconst 0, 1) := by decide +kernel
theorem dX7_neededNodes_19 : decode cX7_neededNodes 19 = .ok (.lcmp, 1) := by decide +kernel
theorem dX7_neededNodes_20 : decode cX7_neededNodes 20 = .ok (.ifCond .eq 35, 3) := by decide +kernel
theorem dX7_neededNodes_23 : decode cX7_neededNodes 23 = .ok (.lload_n 2, 1) := by decide +kernel
theorem dX7_neededNodes_24 : decode cX7_neededNodes 24 = .ok (.aload_n 0, 1) := by decide +kernel
theorem dX7_neededNodes_25 : decode cX7_neededNodes 25 = .ok (.aload_n 0, 1) := by decide +kernel
theorem dX7_neededNodes_26 : decode cX7_neededNodes 26 = .ok (.getfield 25, 3) := by decide +kernel
theorem dX7_neededNodes_29 : decode cX7_neededNodes 29 = .ok (.iload 4, 2) := by decide +kernel
theorem dX7_neededNodes_31 : decode cX7_neededNodes 31 = .ok (.aaload, 1) := by decide +kernel
theorem dX7_neededNodes_32 : decode cX7_neededNodes 32 = .ok (.getfield 124, 3) := by decide +kernel
theorem dX7_neededNodes_35 : decode cX7_neededNodes 35 = .ok (.invokevirtual 233, 3) := by decide +kernel
theorem dX7_neededNodes_38 : decode cX7_neededNodes 38 = .ok (.aload_n 0, 1) := by decide +kernel
theorem dX7_neededNodes_39 : decode cX7_neededNodes 39 = .ok (.aload_n 0, 1) := by decide +kernel
theorem dX7_neededNodes_40 : decode cX7_neededNodes 40 = .ok (.getfield 25, 3) := by decide +kernel
theorem dX7_neededNodes_43 : decode cX7_neededNodes 43 = .ok (.iload 4, 2) := by decide +kernel
theorem dX7_neededNodes_45 : decode cX7_neededNodes 45 = .ok (.aaload, 1) := by decide +kernel
theorem dX7_neededNodes_46 : decode cX7_neededNodes 46 = .ok (.getfield 131, 3) := by decide +kernel
theorem dX7_neededNodes_49 : decode cX7_neededNodes 49 = .ok (.invokevirtual 233, 3) := by decide +kernel
theorem dX7_neededNodes_52 : decode cX7_neededNodes 52 = .ok (.lor, 1) := by decide +kernel
theorem dX7_neededNodes_53 : decode cX7_neededNodes 53 = .ok (.lor, 1) := by decide +kernel
theorem dX7_neededNodes_54 : decode cX7_neededNodes 54 = .ok (.lstore_n 2, 1) := by decide +kernel
theorem dX7_neededNodes_55 : decode cX7_neededNodes 55 = .ok (.iinc 4 (-1), 3) := by decide +kernel
theorem dX7_neededNodes_58 : decode cX7_neededNodes 58 = .ok (.goto (-51), 3) := by decide +kernel
theorem dX7_neededNodes_61 : decode cX7_neededNodes 61 = .ok (.lload_n 2, 1) := by decide +kernel
theorem dX7_neededNodes_62 : decode cX7_neededNodes 62 = .ok (.lreturn, 1) := by decide +kernel
theorem dX7_bitOfNode_0 : decode cX7_bitOfNode 0 = .ok (.aload_n 0, 1) := by decide +kernel
theorem dX7_bitOfNode_1 : decode cX7_bitOfNode 1 = .ok (.iload_n 1, 1) := by decide +kernel
theorem dX7_bitOfNode_2 : decode cX7_bitOfNode 2 = .ok (.invokevirtual 100, 3) := by decide +kernel
theorem dX7_bitOfNode_5 : decode cX7_bitOfNode 5 = .ok (.ifCond .eq 9, 3) := by decide +kernel
theorem dX7_bitOfNode_8 : decode cX7_bitOfNode 8 = .ok (.lconst 1, 1) := by decide +kernel
theorem dX7_bitOfNode_9 : decode cX7_bitOfNode 9 = .ok (.iload_n 1, 1) := by decide +kernel
theorem dX7_bitOfNode_10 : decode cX7_bitOfNode 10 = .ok (.lshl, 1) := by decide +kernel
theorem dX7_bitOfNode_11 : decode cX7_bitOfNode 11 = .ok (.goto 4, 3) := by decide +kernel
theorem dX7_bitOfNode_14 : decode cX7_bitOfNode 14 = .ok (.lconst 0, 1) := by decide +kernel
theorem dX7_bitOfNode_15 : decode cX7_bitOfNode 15 = .ok (.lreturn, 1) := by decide +kernel
theorem dX7_tableOf_0 : decode cX7_tableOf 0 = .ok (.aload_n 0, 1) := by decide +kernel
theorem dX7_tableOf_1 : decode cX7_tableOf 1 = .ok (.iload_n 1, 1) := by decide +kernel
theorem dX7_tableOf_2 : decode cX7_tableOf 2 = .ok (.invokevirtual 100, 3) := by decide +kernel
theorem dX7_tableOf_5 : decode cX7_tableOf 5 = .ok (.ifCond .eq 12, 3) := by decide +kernel
theorem dX7_tableOf_8 : decode cX7_tableOf 8 = .ok (.aload_n 0, 1) := by decide +kernel
theorem dX7_tableOf_9 : decode cX7_tableOf 9 = .ok (.getfield 31, 3) := by decide +kernel
theorem dX7_tableOf_12 : decode cX7_tableOf 12 = .ok (.iload_n 1, 1) := by decide +kernel
theorem dX7_tableOf_13 : decode cX7_tableOf 13 = .ok (.aaload, 1) := by decide +kernel
theorem dX7_tableOf_14 : decode cX7_tableOf 14 = .ok (.goto 7, 3) := by decide +kernel
theorem dX7_tableOf_17 : decode cX7_tableOf 17 = .ok (.aload_n 0, 1) := by decide +kernel
theorem dX7_tableOf_18 : decode cX7_tableOf 18 = .ok (.getfield 38, 3) := by decide +kernel
theorem dX7_tableOf_21 : decode cX7_tableOf 21 = .ok (.areturn, 1) := by decide +kernel
theorem dX7_resultTuple_0 : decode cX7_resultTuple 0 = .ok (.aload_n 0, 1) := by decide +kernel
theorem dX7_resultTuple_1 : decode cX7_resultTuple 1 = .ok (.aload_n 0, 1) := by decide +kernel
theorem dX7_resultTuple_2 : decode cX7_resultTuple 2 = .ok (.getfield 49, 3) := by decide +kernel
theorem dX7_resultTuple_5 : decode cX7_resultTuple 5 = .ok (.invokevirtual 127, 3) := by decide +kernel
theorem dX7_resultTuple_8 : decode cX7_resultTuple 8 = .ok (.astore_n 2, 1) := by decide +kernel
theorem dX7_resultTuple_9 : decode cX7_resultTuple 9 = .ok (.iload_n 1, 1) := by decide +kernel
theorem dX7_resultTuple_10 : decode cX7_resultTuple 10 = .ok (.ifCond .lt 20, 3) := by decide +kernel
theorem dX7_resultTuple_13 : decode cX7_resultTuple 13 = .ok (.iload_n 1, 1) := by decide +kernel
theorem dX7_resultTuple_14 : decode cX7_resultTuple 14 = .ok (.aload_n 2, 1) := by decide +kernel
theorem dX7_resultTuple_15 : decode cX7_resultTuple 15 = .ok (.getfield 138, 3) := by decide +kernel
theorem dX7_resultTuple_18 : decode cX7_resultTuple 18 = .ok (.if_icmp .ge 12, 3) := by decide +kernel
theorem dX7_resultTuple_21 : decode cX7_resultTuple 21 = .ok (.aload_n 2, 1) := by decide +kernel
theorem dX7_resultTuple_22 : decode cX7_resultTuple 22 = .ok (.getfield 195, 3) := by decide +kernel
theorem dX7_resultTuple_25 : decode cX7_resultTuple 25 = .ok (.iload_n 1, 1) := by decide +kernel
theorem dX7_resultTuple_26 : decode cX7_resultTuple 26 = .ok (.aaload, 1) := by decide +kernel
theorem dX7_resultTuple_27 : decode cX7_resultTuple 27 = .ok (.goto 4, 3) := by decide +kernel
theorem dX7_resultTuple_30 : decode cX7_resultTuple 30 = .ok (.aconst_null, 1) := by decide +kernel
theorem dX7_resultTuple_31 : decode cX7_resultTuple 31 = .ok (.areturn, 1) := by decide +kernel
theorem dX7_asNumber_0 : decode cX7_asNumber 0 = .ok (.iload_n 0, 1) := by decide +kernel
theorem dX7_asNumber_1 : decode cX7_asNumber 1 = .ok (.ifCond .eq 7, 3) := by decide +kernel
theorem dX7_asNumber_4 : decode cX7_asNumber 4 = .ok (.iconst 1, 1) := by decide +kernel
theorem dX7_asNumber_5 : decode cX7_asNumber 5 = .ok (.goto 4, 3) := by decide +kernel
theorem dX7_asNumber_8 : decode cX7_asNumber 8 = .ok (.iconst 0, 1) := by decide +kernel
theorem dX7_asNumber_9 : decode cX7_asNumber 9 = .ok (.ireturn, 1) := by decide +kernel
theorem dX7_leastDigit_0 : decode cX7_leastDigit 0 = .ok (.bipush 9, 2) := by decide +kernel
theorem dX7_leastDigit_2 : decode cX7_leastDigit 2 = .ok (.istore_n 1, 1) := by decide +kernel
theorem dX7_leastDigit_3 : decode cX7_leastDigit 3 = .ok (.iload_n 0, 1) := by decide +kernel
theorem dX7_leastDigit_4 : decode cX7_leastDigit 4 = .ok (.istore_n 2, 1) := by decide +kernel
theorem dX7_leastDigit_5 : decode cX7_leastDigit 5 = .ok (.iload_n 2, 1) := by decide +kernel
theorem dX7_leastDigit_6 : decode cX7_leastDigit 6 = .ok (.ifCond .le 20, 3) := by decide +kernel
theorem dX7_leastDigit_9 : decode cX7_leastDigit 9 = .ok (.iload_n 1, 1) := by decide +kernel
theorem dX7_leastDigit_10 : decode cX7_leastDigit 10 = .ok (.iload_n 2, 1) := by decide +kernel
theorem dX7_leastDigit_11 : decode cX7_leastDigit 11 = .ok (.bipush 10, 2) := by decide +kernel
theorem dX7_leastDigit_13 : decode cX7_leastDigit 13 = .ok (.irem, 1) := by decide +kernel
theorem dX7_leastDigit_14 : decode cX7_leastDigit 14 = .ok (.invokestatic 236, 3) := by decide +kernel
theorem dX7_leastDigit_17 : decode cX7_leastDigit 17 = .ok (.istore_n 1, 1) := by decide +kernel
theorem dX7_leastDigit_18 : decode cX7_leastDigit 18 = .ok (.iload_n 2, 1) := by decide +kernel
theorem dX7_leastDigit_19 : decode cX7_leastDigit 19 = .ok (.bipush 10, 2) := by decide +kernel
theorem dX7_leastDigit_21 : decode cX7_leastDigit 21 = .ok (.idiv, 1) := by decide +kernel
theorem dX7_leastDigit_22 : decode cX7_leastDigit 22 = .ok (.istore_n 2, 1) := by decide +kernel
theorem dX7_leastDigit_23 : decode cX7_leastDigit 23 = .ok (.goto (-18), 3) := by decide +kernel
theorem dX7_leastDigit_26 : decode cX7_leastDigit 26 = .ok (.iload_n 1, 1) := by decide +kernel
theorem dX7_leastDigit_27 : decode cX7_leastDigit 27 = .ok (.ireturn, 1) := by decide +kernel
theorem dX7_greatestDigit_0 : decode cX7_greatestDigit 0 = .ok (.iconst 0, 1) := by decide +kernel
theorem dX7_greatestDigit_1 : decode cX7_greatestDigit 1 = .ok (.istore_n 1, 1) := by decide +kernel
theorem dX7_greatestDigit_2 : decode cX7_greatestDigit 2 = .ok (.iload_n 0, 1) := by decide +kernel
theorem dX7_greatestDigit_3 : decode cX7_greatestDigit 3 = .ok (.istore_n 2, 1) := by decide +kernel
theorem dX7_greatestDigit_4 : decode cX7_greatestDigit 4 = .ok (.iload_n 2, 1) := by decide +kernel
theorem dX7_greatestDigit_5 : decode cX7_greatestDigit 5 = .ok (.ifCond .le 20, 3) := by decide +kernel
theorem dX7_greatestDigit_8 : decode cX7_greatestDigit 8 = .ok (.iload_n 1, 1) := by decide +kernel
theorem dX7_greatestDigit_9 : decode cX7_greatestDigit 9 = .ok (.iload_n 2, 1) := by decide +kernel
theorem dX7_greatestDigit_10 : decode cX7_greatestDigit 10 = .ok (.bipush 10, 2) := by decide +kernel
theorem dX7_greatestDigit_12 : decode cX7_greatestDigit 12 = .ok (.irem, 1) := by decide +kernel
theorem dX7_greatestDigit_13 : decode cX7_greatestDigit 13 = .ok (.invokestatic 242, 3) := by decide +kernel
theorem dX7_greatestDigit_16 : decode cX7_greatestDigit 16 = .ok (.istore_n 1, 1) := by decide +kernel
theorem dX7_greatestDigit_17 : decode cX7_greatestDigit 17 = .ok (.iload_n 2, 1) := by decide +kernel
theorem dX7_greatestDigit_18 : decode cX7_greatestDigit 18 = .ok (.bipush 10, 2) := by decide +kernel
theorem dX7_greatestDigit_20 : decode cX7_greatestDigit 20 = .ok (.idiv, 1) := by decide +kernel
theorem dX7_greatestDigit_21 : decode cX7_greatestDigit 21 = .ok (.istore_n 2, 1) := by decide +kernel
theorem dX7_greatestDigit_22 : decode cX7_greatestDigit 22 = .ok (.goto (-18), 3) := by decide +kernel
theorem dX7_greatestDigit_25 : decode cX7_greatestDigit 25 = .ok (.iload_n 1, 1) := by decide +kernel
theorem dX7_greatestDigit_26 : decode cX7_greatestDigit 26 = .ok (.ireturn, 1) := by decide +kernel
theorem dX7_digitCount_0 : decode cX7_digitCount 0 = .ok (.iconst 0, 1) := by decide +kernel
theorem dX7_digitCount_1 : decode cX7_digitCount 1 = .ok (.istore_n 1, 1) := by decide +kernel
theorem dX7_digitCount_2 : decode cX7_digitCount 2 = .ok (.iload_n 0, 1) := by decide +kernel
theorem dX7_digitCount_3 : decode cX7_digitCount 3 = .ok (.istore_n 2, 1) := by decide +kernel
theorem dX7_digitCount_4 : decode cX7_digitCount 4 = .ok (.iload_n 2, 1) := by decide +kernel
theorem dX7_digitCount_5 : decode cX7_digitCount 5 = .ok (.ifCond .le 14, 3) := by decide +kernel
theorem dX7_digitCount_8 : decode cX7_digitCount 8 = .ok (.iinc 1 1, 3) := by decide +kernel
theorem dX7_digitCount_11 : decode cX7_digitCount 11 = .ok (.iload_n 2, 1) := by decide +kernel
theorem dX7_digitCount_12 : decode cX7_digitCount 12 = .ok (.bipush 10, 2) := by decide +kernel
theorem dX7_digitCount_14 : decode cX7_digitCount 14 = .ok (.idiv, 1) := by decide +kernel
theorem dX7_digitCount_15 : decode cX7_digitCount 15 = .ok (.istore_n 2, 1) := by decide +kernel
theorem dX7_digitCount_16 : decode cX7_digitCount 16 = .ok (.goto (-12), 3) := by decide +kernel
theorem dX7_digitCount_19 : decode cX7_digitCount 19 = .ok (.iload_n 1, 1) := by decide +kernel
theorem dX7_digitCount_20 : decode cX7_digitCount 20 = .ok (.ireturn, 1) := by decide +kernel
theorem dX7_setsWithNone_0 : decode cX7_setsWithNone 0 = .ok (.iload_n 1, 1) := by decide +kernel
theorem dX7_setsWithNone_1 : decode cX7_setsWithNone 1 = .ok (.aload_n 0, 1) := by decide +kernel
theorem dX7_setsWithNone_2 : decode cX7_setsWithNone 2 = .ok (.getfield 163, 3) := by decide +kernel
theorem dX7_setsWithNone_5 : decode cX7_setsWithNone 5 = .ok (.if_icmp .lt 16, 3) := by decide +kernel
theorem dX7_setsWithNone_8 : decode cX7_setsWithNone 8 = .ok (.iconst 1, 1) := by decide +kernel
theorem dX7_setsWithNone_9 : decode cX7_setsWithNone 9 = .ok (.iload 6, 2) := by decide +kernel
theorem dX7_setsWithNone_11 : decode cX7_setsWithNone 11 = .ok (.lload_n 2, 1) := by decide +kernel
theorem dX7_setsWithNone_12 : decode cX7_setsWithNone 12 = .ok (.lload 4, 2) := by decide +kernel
theorem dX7_setsWithNone_14 : decode cX7_setsWithNone 14 = .ok (.lor, 1) := by decide +kernel
theorem dX7_setsWithNone_15 : decode cX7_setsWithNone 15 = .ok (.invokestatic 203, 3) := by decide +kernel
theorem dX7_setsWithNone_18 : decode cX7_setsWithNone 18 = .ok (.isub, 1) := by decide +kernel
theorem dX7_setsWithNone_19 : decode cX7_setsWithNone 19 = .ok (.ishl, 1) := by decide +kernel
theorem dX7_setsWithNone_20 : decode cX7_setsWithNone 20 = .ok (.ireturn, 1) := by decide +kernel
theorem dX7_setsWithNone_21 : decode cX7_setsWithNone 21 = .ok (.aload_n 0, 1) := by decide +kernel
theorem dX7_setsWithNone_22 : decode cX7_setsWithNone 22 = .ok (.iload_n 1, 1) := by decide +kernel
theorem dX7_setsWithNone_23 : decode cX7_setsWithNone 23 = .ok (.iconst 1, 1) := by decide +kernel
theorem dX7_setsWithNone_24 : decode cX7_setsWithNone 24 = .ok (.iadd, 1) := by decide +kernel
theorem dX7_setsWithNone_25 : decode cX7_setsWithNone 25 = .ok (.lload_n 2, 1) := by decide +kernel
theorem dX7_setsWithNone_26 : decode cX7_setsWithNone 26 = .ok (.lload 4, 2) := by decide +kernel
theorem dX7_setsWithNone_28 : decode cX7_setsWithNone 28 = .ok (.iload 6, 2) := by decide +kernel
theorem dX7_setsWithNone_30 : decode cX7_setsWithNone 30 = .ok (.invokestatic 208, 3) := by decide +kernel
theorem dX7_setsWithNone_33 : decode cX7_setsWithNone 33 = .ok (.istore 7, 2) := by decide +kernel
theorem dX7_setsWithNone_35 : decode cX7_setsWithNone 35 = .ok (.lload_n 2, 1) := by decide +kernel
theorem dX7_setsWithNone_36 : decode cX7_setsWithNone 36 = .ok (.aload_n 0, 1) := by decide +kernel
theorem dX7_setsWithNone_37 : decode cX7_setsWithNone 37 = .ok (.getfield 171, 3) := by decide +kernel
theorem dX7_setsWithNone_40 : decode cX7_setsWithNone 40 = .ok (.iload_n 1, 1) := by decide +kernel
theorem dX7_setsWithNone_41 : decode cX7_setsWithNone 41 = .ok (.laload, 1) := by decide +kernel
theorem dX7_setsWithNone_42 : decode cX7_setsWithNone 42 = .ok (.lor, 1) := by decide +kernel
theorem dX7_setsWithNone_43 : decode cX7_setsWithNone 43 = .ok (.lstore 8, 2) := by decide +kernel
theorem dX7_setsWithNone_45 : decode cX7_setsWithNone 45 = .ok (.lload 4, 2) := by decide +kernel
theorem dX7_setsWithNone_47 : decode cX7_setsWithNone 47 = .ok (.aload_n 0, 1) := by decide +kernel
theorem dX7_setsWithNone_48 : decode cX7_setsWithNone 48 = .ok (.getfield 175, 3) := by decide +kernel
theorem dX7_setsWithNone_51 : decode cX7_setsWithNone 51 = .ok (.iload_n 1, 1) := by decide +kernel
theorem dX7_setsWithNone_52 : decode cX7_setsWithNone 52 = .ok (.laload, 1) := by decide +kernel
theorem dX7_setsWithNone_53 : decode cX7_setsWithNone 53 = .ok (.lor, 1) := by decide +kernel
theorem dX7_setsWithNone_54 : decode cX7_setsWithNone 54 = .ok (.lstore 10, 2) := by decide +kernel
theorem dX7_setsWithNone_56 : decode cX7_setsWithNone 56 = .ok (.lload 8, 2) := by decide +kernel
theorem dX7_setsWithNone_58 : decode cX7_setsWithNone 58 = .ok (.lload 10, 2) := by decide +kernel
theorem dX7_setsWithNone_60 : decode cX7_setsWithNone 60 = .ok (.land, 1) := by decide +kernel
theorem dX7_setsWithNone_61 : decode cX7_setsWithNone 61 = .ok (.lconst 0, 1) := by decide +kernel
theorem dX7_setsWithNone_62 : decode cX7_setsWithNone 62 = .ok (.lcmp, 1) := by decide +kernel
theorem dX7_setsWithNone_63 : decode cX7_setsWithNone 63 = .ok (.ifCond .eq 6, 3) := by decide +kernel
theorem dX7_setsWithNone_66 : decode cX7_setsWithNone 66 = .ok (.iload 7, 2) := by decide +kernel
theorem dX7_setsWithNone_68 : decode cX7_setsWithNone 68 = .ok (.ireturn, 1) := by decide +kernel
theorem dX7_setsWithNone_69 : decode cX7_setsWithNone 69 = .ok (.iload 7, 2) := by decide +kernel
theorem dX7_setsWithNone_71 : decode cX7_setsWithNone 71 = .ok (.aload_n 0, 1) := by decide +kernel
theorem dX7_setsWithNone_72 : decode cX7_setsWithNone 72 = .ok (.iload_n 1, 1) := by decide +kernel
theorem dX7_setsWithNone_73 : decode cX7_setsWithNone 73 = .ok (.iconst 1, 1) := by decide +kernel
theorem dX7_setsWithNone_74 : decode cX7_setsWithNone 74 = .ok (.iadd, 1) := by decide +kernel
theorem dX7_setsWithNone_75 : decode cX7_setsWithNone 75 = .ok (.lload 8, 2) := by decide +kernel
theorem dX7_setsWithNone_77 : decode cX7_setsWithNone 77 = .ok (.lload 10, 2) := by decide +kernel
theorem dX7_setsWithNone_79 : decode cX7_setsWithNone 79 = .ok (.iload 6, 2) := by decide +kernel
theorem dX7_setsWithNone_81 : decode cX7_setsWithNone 81 = .ok (.invokestatic 208, 3) := by decide +kernel
theorem dX7_setsWithNone_84 : decode cX7_setsWithNone 84 = .ok (.isub, 1) := by decide +kernel
theorem dX7_setsWithNone_85 : decode cX7_setsWithNone 85 = .ok (.ireturn, 1) := by decide +kernel
theorem dX7_isSeen_0 : decode cX7_isSeen 0 = .ok (.aload_n 0, 1) := by decide +kernel
theorem dX7_isSeen_1 : decode cX7_isSeen 1 = .ok (.getfield 19, 3) := by decide +kernel
theorem dX7_isSeen_4 : decode cX7_isSeen 4 = .ok (.getfield 245, 3) := by decide +kernel
theorem dX7_isSeen_7 : decode cX7_isSeen 7 = .ok (.aload_n 1, 1) := by decide +kernel
theorem dX7_isSeen_8 : decode cX7_isSeen 8 = .ok (.lload_n 2, 1) := by decide +kernel
theorem dX7_isSeen_9 : decode cX7_isSeen 9 = .ok (.aload_n 0, 1) := by decide +kernel
theorem dX7_isSeen_10 : decode cX7_isSeen 10 = .ok (.getfield 45, 3) := by decide +kernel
theorem dX7_isSeen_13 : decode cX7_isSeen 13 = .ok (.invokevirtual 249, 3) := by decide +kernel
theorem dX7_isSeen_16 : decode cX7_isSeen 16 = .ok (.aload_n 0, 1) := by decide +kernel
theorem dX7_isSeen_17 : decode cX7_isSeen 17 = .ok (.getfield 45, 3) := by decide +kernel
theorem dX7_isSeen_20 : decode cX7_isSeen 20 = .ok (.iconst 0, 1) := by decide +kernel
theorem dX7_isSeen_21 : decode cX7_isSeen 21 = .ok (.lload_n 2, 1) := by decide +kernel
theorem dX7_isSeen_22 : decode cX7_isSeen 22 = .ok (.lconst 0, 1) := by decide +kernel
theorem dX7_isSeen_23 : decode cX7_isSeen 23 = .ok (.iload 4, 2) := by decide +kernel
theorem dX7_isSeen_25 : decode cX7_isSeen 25 = .ok (.invokestatic 208, 3) := by decide +kernel
theorem dX7_isSeen_28 : decode cX7_isSeen 28 = .ok (.istore 5, 2) := by decide +kernel
theorem dX7_isSeen_30 : decode cX7_isSeen 30 = .ok (.aload_n 1, 1) := by decide +kernel
theorem dX7_isSeen_31 : decode cX7_isSeen 31 = .ok (.iconst 0, 1) := by decide +kernel
theorem dX7_isSeen_32 : decode cX7_isSeen 32 = .ok (.lload_n 2, 1) := by decide +kernel
theorem dX7_isSeen_33 : decode cX7_isSeen 33 = .ok (.lconst 0, 1) := by decide +kernel
theorem dX7_isSeen_34 : decode cX7_isSeen 34 = .ok (.iload 4, 2) := by decide +kernel
theorem dX7_isSeen_36 : decode cX7_isSeen 36 = .ok (.invokestatic 208, 3) := by decide +kernel
theorem dX7_isSeen_39 : decode cX7_isSeen 39 = .ok (.iload 5, 2) := by decide +kernel
theorem dX7_isSeen_41 : decode cX7_isSeen 41 = .ok (.if_icmp .ne 17, 3) := by decide +kernel
theorem dX7_isSeen_44 : decode cX7_isSeen 44 = .ok (.aload_n 1, 1) := by decide +kernel
theorem dX7_isSeen_45 : decode cX7_isSeen 45 = .ok (.iconst 0, 1) := by decide +kernel
theorem dX7_isSeen_46 : decode cX7_isSeen 46 = .ok (.lconst 0, 1) := by decide +kernel
theorem dX7_isSeen_47 : decode cX7_isSeen 47 = .ok (.lload_n 2, 1) := by decide +kernel
theorem dX7_isSeen_48 : decode cX7_isSeen 48 = .ok (.iload 4, 2) := by decide +kernel
theorem dX7_isSeen_50 : decode cX7_isSeen 50 = .ok (.invokestatic 208, 3) := by decide +kernel
theorem dX7_isSeen_53 : decode cX7_isSeen 53 = .ok (.iload 5, 2) := by decide +kernel
theorem dX7_isSeen_55 : decode cX7_isSeen 55 = .ok (.if_icmp .eq 7, 3) := by decide +kernel
theorem dX7_isSeen_58 : decode cX7_isSeen 58 = .ok (.iconst 1, 1) := by decide +kernel
theorem dX7_isSeen_59 : decode cX7_isSeen 59 = .ok (.goto 4, 3) := by decide +kernel
theorem dX7_isSeen_62 : decode cX7_isSeen 62 = .ok (.iconst 0, 1) := by decide +kernel
theorem dX7_isSeen_63 : decode cX7_isSeen 63 = .ok (.ireturn, 1) := by decide +kernel
theorem dX7_leastDropsToBreak_0 : decode cX7_leastDropsToBreak 0 = .ok (.iconst 0, 1) := by decide +kernel
theorem dX7_leastDropsToBreak_1 : decode cX7_leastDropsToBreak 1 = .ok (.istore_n 2, 1) := by decide +kernel
theorem dX7_leastDropsToBreak_2 : decode cX7_leastDropsToBreak 2 = .ok (.iload_n 2, 1) := by decide +kernel
theorem dX7_leastDropsToBreak_3 : decode cX7_leastDropsToBreak 3 = .ok (.bipush 12, 2) := by decide +kernel
theorem dX7_leastDropsToBreak_5 : decode cX7_leastDropsToBreak 5 = .ok (.if_icmp .gt 23, 3) := by decide +kernel
theorem dX7_leastDropsToBreak_8 : decode cX7_leastDropsToBreak 8 = .ok (.aload_n 1, 1) := by decide +kernel
theorem dX7_leastDropsToBreak_9 : decode cX7_leastDropsToBreak 9 = .ok (.aload_n 0, 1) := by decide +kernel
theorem dX7_leastDropsToBreak_10 : decode cX7_leastDropsToBreak 10 = .ok (.getfield 71, 3) := by decide +kernel
theorem dX7_leastDropsToBreak_13 : decode cX7_leastDropsToBreak 13 = .ok (.iload_n 2, 1) := by decide +kernel
theorem dX7_leastDropsToBreak_14 : decode cX7_leastDropsToBreak 14 = .ok (.invokestatic 255, 3) := by decide +kernel
theorem dX7_leastDropsToBreak_17 : decode cX7_leastDropsToBreak 17 = .ok (.ifCond .eq 5, 3) := by decide +kernel
theorem dX7_leastDropsToBreak_20 : decode cX7_leastDropsToBreak 20 = .ok (.iload_n 2, 1) := by decide +kernel
theorem dX7_leastDropsToBreak_21 : decode cX7_leastDropsToBreak 21 = .ok (.ireturn, 1) := by decide +kernel
theorem dX7_leastDropsToBreak_22 : decode cX7_leastDropsToBreak 22 = .ok (.iinc 2 1, 3) := by decide +kernel
theorem dX7_leastDropsToBreak_25 : decode cX7_leastDropsToBreak 25 = .ok (.goto (-23), 3) := by decide +kernel
theorem dX7_leastDropsToBreak_28 : decode cX7_leastDropsToBreak 28 = .ok (.iconst (-1), 1) := by decide +kernel
theorem dX7_leastDropsToBreak_29 : decode cX7_leastDropsToBreak 29 = .ok (.ireturn, 1) := by decide +kernel
theorem dX7_canBreak_0 : decode cX7_canBreak 0 = .ok (.aload_n 0, 1) := by decide +kernel
theorem dX7_canBreak_1 : decode cX7_canBreak 1 = .ok (.lload_n 1, 1) := by decide +kernel
theorem dX7_canBreak_2 : decode cX7_canBreak 2 = .ok (.invokevirtual 191, 3) := by decide +kernel
theorem dX7_canBreak_5 : decode cX7_canBreak 5 = .ok (.istore 4, 2) := by decide +kernel
theorem dX7_canBreak_7 : decode cX7_canBreak 7 = .ok (.iload 4, 2) := by decide +kernel
theorem dX7_canBreak_9 : decode cX7_canBreak 9 = .ok (.iconst (-1), 1) := by decide +kernel
theorem dX7_canBreak_10 : decode cX7_canBreak 10 = .ok (.if_icmp .ne 5, 3) := by decide +kernel
theorem dX7_canBreak_13 : decode cX7_canBreak 13 = .ok (.iconst 1, 1) := by decide +kernel
theorem dX7_canBreak_14 : decode cX7_canBreak 14 = .ok (.ireturn, 1) := by decide +kernel
theorem dX7_canBreak_15 : decode cX7_canBreak 15 = .ok (.iconst 0, 1) := by decide +kernel
theorem dX7_canBreak_16 : decode cX7_canBreak 16 = .ok (.istore 5, 2) := by decide +kernel
theorem dX7_canBreak_18 : decode cX7_canBreak 18 = .ok (.iload 5, 2) := by decide +kernel
theorem dX7_canBreak_20 : decode cX7_canBreak 20 = .ok (.bipush 36, 2) := by decide +kernel
theorem dX7_canBreak_22 : decode cX7_canBreak 22 = .ok (.if_icmp .ge 54, 3) := by decide +kernel
theorem dX7_canBreak_25 : decode cX7_canBreak 25 = .ok (.iload_n 3, 1) := by decide +kernel
theorem dX7_canBreak_26 : decode cX7_canBreak 26 = .ok (.ifCond .le 50, 3) := by decide +kernel
theorem dX7_canBreak_29 : decode cX7_canBreak 29 = .ok (.lconst 1, 1) := by decide +kernel
theorem dX7_canBreak_30 : decode cX7_canBreak 30 = .ok (.iload 5, 2) := by decide +kernel
theorem dX7_canBreak_32 : decode cX7_canBreak 32 = .ok (.lshl, 1) := by decide +kernel
theorem dX7_canBreak_33 : decode cX7_canBreak 33 = .ok (.lstore 6, 2) := by decide +kernel
theorem dX7_canBreak_35 : decode cX7_canBreak 35 = .ok (.aload_n 0, 1) := by decide +kernel
theorem dX7_canBreak_36 : decode cX7_canBreak 36 = .ok (.getfield 171, 3) := by decide +kernel
theorem dX7_canBreak_39 : decode cX7_canBreak 39 = .ok (.iload 4, 2) := by decide +kernel
theorem dX7_canBreak_41 : decode cX7_canBreak 41 = .ok (.laload, 1) := by decide +kernel
theorem dX7_canBreak_42 : decode cX7_canBreak 42 = .ok (.lload 6, 2) := by decide +kernel
theorem dX7_canBreak_44 : decode cX7_canBreak 44 = .ok (.land, 1) := by decide +kernel
theorem dX7_canBreak_45 : decode cX7_canBreak 45 = .ok (.lconst 0, 1) := by decide +kernel
theorem dX7_canBreak_46 : decode cX7_canBreak 46 = .ok (.lcmp, 1) := by decide +kernel
theorem dX7_canBreak_47 : decode cX7_canBreak 47 = .ok (.ifCond .eq 23, 3) := by decide +kernel
theorem dX7_canBreak_50 : decode cX7_canBreak 50 = .ok (.aload_n 0, 1) := by decide +kernel
theorem dX7_canBreak_51 : decode cX7_canBreak 51 = .ok (.lload_n 1, 1) := by decide +kernel
theorem dX7_canBreak_52 : decode cX7_canBreak 52 = .ok (.lload 6, 2) := by decide +kernel
theorem dX7_canBreak_54 : decode cX7_canBreak 54 = .ok (.ldc2_w 181, 3) := by decide +kernel
theorem dX7_canBreak_57 : decode cX7_canBreak 57 = .ok (.lxor, 1) := by decide +kernel
theorem dX7_canBreak_58 : decode cX7_canBreak 58 = .ok (.land, 1) := by decide +kernel
theorem dX7_canBreak_59 : decode cX7_canBreak 59 = .ok (.iload_n 3, 1) := by decide +kernel
theorem dX7_canBreak_60 : decode cX7_canBreak 60 = .ok (.iconst 1, 1) := by decide +kernel
theorem dX7_canBreak_61 : decode cX7_canBreak 61 = .ok (.isub, 1) := by decide +kernel
theorem dX7_canBreak_62 : decode cX7_canBreak 62 = .ok (.invokestatic 255, 3) := by decide +kernel
theorem dX7_canBreak_65 : decode cX7_canBreak 65 = .ok (.ifCond .eq 5, 3) := by decide +kernel
theorem dX7_canBreak_68 : decode cX7_canBreak 68 = .ok (.iconst 1, 1) := by decide +kernel
theorem dX7_canBreak_69 : decode cX7_canBreak 69 = .ok (.ireturn, 1) := by decide +kernel
theorem dX7_canBreak_70 : decode cX7_canBreak 70 = .ok (.iinc 5 1, 3) := by decide +kernel
theorem dX7_canBreak_73 : decode cX7_canBreak 73 = .ok (.goto (-55), 3) := by decide +kernel
theorem dX7_canBreak_76 : decode cX7_canBreak 76 = .ok (.iconst 0, 1) := by decide +kernel
theorem dX7_canBreak_77 : decode cX7_canBreak 77 = .ok (.ireturn, 1) := by decide +kernel
