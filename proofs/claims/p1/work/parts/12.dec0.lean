theorem dX0_init_0 : decode cX0_init 0 = .ok (.aload_n 0, 1) := by decide +kernel
theorem dX0_init_1 : decode cX0_init 1 = .ok (.invokespecial 3, 3) := by decide +kernel
theorem dX0_init_4 : decode cX0_init 4 = .ok (.aload_n 0, 1) := by decide +kernel
theorem dX0_init_5 : decode cX0_init 5 = .ok (.sipush 432, 3) := by decide +kernel
theorem dX0_init_8 : decode cX0_init 8 = .ok (.newarray .long, 2) := by decide +kernel
theorem dX0_init_10 : decode cX0_init 10 = .ok (.putfield 11, 3) := by decide +kernel
theorem dX0_init_13 : decode cX0_init 13 = .ok (.aload_n 0, 1) := by decide +kernel
theorem dX0_init_14 : decode cX0_init 14 = .ok (.sipush 432, 3) := by decide +kernel
theorem dX0_init_17 : decode cX0_init 17 = .ok (.newarray .long, 2) := by decide +kernel
theorem dX0_init_19 : decode cX0_init 19 = .ok (.putfield 15, 3) := by decide +kernel
theorem dX0_init_22 : decode cX0_init 22 = .ok (.return_, 1) := by decide +kernel
theorem dX0_either_0 : decode cX0_either 0 = .ok (.aload_n 0, 1) := by decide +kernel
theorem dX0_either_1 : decode cX0_either 1 = .ok (.iconst 0, 1) := by decide +kernel
theorem dX0_either_2 : decode cX0_either 2 = .ok (.putfield 18, 3) := by decide +kernel
theorem dX0_either_5 : decode cX0_either 5 = .ok (.iconst 0, 1) := by decide +kernel
theorem dX0_either_6 : decode cX0_either 6 = .ok (.istore 4, 2) := by decide +kernel
theorem dX0_either_8 : decode cX0_either 8 = .ok (.iload 4, 2) := by decide +kernel
theorem dX0_either_10 : decode cX0_either 10 = .ok (.aload_n 1, 1) := by decide +kernel
theorem dX0_either_11 : decode cX0_either 11 = .ok (.getfield 22, 3) := by decide +kernel
theorem dX0_either_14 : decode cX0_either 14 = .ok (.if_icmp .ge 27, 3) := by decide +kernel
theorem dX0_either_17 : decode cX0_either 17 = .ok (.aload_n 0, 1) := by decide +kernel
theorem dX0_either_18 : decode cX0_either 18 = .ok (.aload_n 1, 1) := by decide +kernel
theorem dX0_either_19 : decode cX0_either 19 = .ok (.getfield 25, 3) := by decide +kernel
theorem dX0_either_22 : decode cX0_either 22 = .ok (.iload 4, 2) := by decide +kernel
theorem dX0_either_24 : decode cX0_either 24 = .ok (.laload, 1) := by decide +kernel
theorem dX0_either_25 : decode cX0_either 25 = .ok (.aload_n 1, 1) := by decide +kernel
theorem dX0_either_26 : decode cX0_either 26 = .ok (.getfield 26, 3) := by decide +kernel
theorem dX0_either_29 : decode cX0_either 29 = .ok (.iload 4, 2) := by decide +kernel
theorem dX0_either_31 : decode cX0_either 31 = .ok (.laload, 1) := by decide +kernel
theorem dX0_either_32 : decode cX0_either 32 = .ok (.invokevirtual 27, 3) := by decide +kernel
theorem dX0_either_35 : decode cX0_either 35 = .ok (.iinc 4 1, 3) := by decide +kernel
theorem dX0_either_38 : decode cX0_either 38 = .ok (.goto (-30), 3) := by decide +kernel
theorem dX0_either_41 : decode cX0_either 41 = .ok (.iconst 0, 1) := by decide +kernel
theorem dX0_either_42 : decode cX0_either 42 = .ok (.istore 4, 2) := by decide +kernel
theorem dX0_either_44 : decode cX0_either 44 = .ok (.iload 4, 2) := by decide +kernel
theorem dX0_either_46 : decode cX0_either 46 = .ok (.aload_n 2, 1) := by decide +kernel
theorem dX0_either_47 : decode cX0_either 47 = .ok (.getfield 22, 3) := by decide +kernel
theorem dX0_either_50 : decode cX0_either 50 = .ok (.if_icmp .ge 27, 3) := by decide +kernel
theorem dX0_either_53 : decode cX0_either 53 = .ok (.aload_n 0, 1) := by decide +kernel
theorem dX0_either_54 : decode cX0_either 54 = .ok (.aload_n 2, 1) := by decide +kernel
theorem dX0_either_55 : decode cX0_either 55 = .ok (.getfield 25, 3) := by decide +kernel
theorem dX0_either_58 : decode cX0_either 58 = .ok (.iload 4, 2) := by decide +kernel
theorem dX0_either_60 : decode cX0_either 60 = .ok (.laload, 1) := by decide +kernel
theorem dX0_either_61 : decode cX0_either 61 = .ok (.aload_n 2, 1) := by decide +kernel
theorem dX0_either_62 : decode cX0_either 62 = .ok (.getfield 26, 3) := by decide +kernel
theorem dX0_either_65 : decode cX0_either 65 = .ok (.iload 4, 2) := by decide +kernel
theorem dX0_either_67 : decode cX0_either 67 = .ok (.laload, 1) := by decide +kernel
theorem dX0_either_68 : decode cX0_either 68 = .ok (.invokevirtual 27, 3) := by decide +kernel
theorem dX0_either_71 : decode cX0_either 71 = .ok (.iinc 4 1, 3) := by decide +kernel
theorem dX0_either_74 : decode cX0_either 74 = .ok (.goto (-30), 3) := by decide +kernel
theorem dX0_either_77 : decode cX0_either 77 = .ok (.aload_n 0, 1) := by decide +kernel
theorem dX0_either_78 : decode cX0_either 78 = .ok (.aload_n 3, 1) := by decide +kernel
theorem dX0_either_79 : decode cX0_either 79 = .ok (.invokevirtual 31, 3) := by decide +kernel
theorem dX0_either_82 : decode cX0_either 82 = .ok (.ireturn, 1) := by decide +kernel
theorem dX0_both_0 : decode cX0_both 0 = .ok (.aload_n 0, 1) := by decide +kernel
theorem dX0_both_1 : decode cX0_both 1 = .ok (.iconst 0, 1) := by decide +kernel
theorem dX0_both_2 : decode cX0_both 2 = .ok (.putfield 18, 3) := by decide +kernel
theorem dX0_both_5 : decode cX0_both 5 = .ok (.iconst 0, 1) := by decide +kernel
theorem dX0_both_6 : decode cX0_both 6 = .ok (.istore 4, 2) := by decide +kernel
theorem dX0_both_8 : decode cX0_both 8 = .ok (.iload 4, 2) := by decide +kernel
theorem dX0_both_10 : decode cX0_both 10 = .ok (.aload_n 1, 1) := by decide +kernel
theorem dX0_both_11 : decode cX0_both 11 = .ok (.getfield 22, 3) := by decide +kernel
theorem dX0_both_14 : decode cX0_both 14 = .ok (.if_icmp .ge 61, 3) := by decide +kernel
theorem dX0_both_17 : decode cX0_both 17 = .ok (.iconst 0, 1) := by decide +kernel
theorem dX0_both_18 : decode cX0_both 18 = .ok (.istore 5, 2) := by decide +kernel
theorem dX0_both_20 : decode cX0_both 20 = .ok (.iload 5, 2) := by decide +kernel
theorem dX0_both_22 : decode cX0_both 22 = .ok (.aload_n 2, 1) := by decide +kernel
theorem dX0_both_23 : decode cX0_both 23 = .ok (.getfield 22, 3) := by decide +kernel
theorem dX0_both_26 : decode cX0_both 26 = .ok (.if_icmp .ge 43, 3) := by decide +kernel
theorem dX0_both_29 : decode cX0_both 29 = .ok (.aload_n 0, 1) := by decide +kernel
theorem dX0_both_30 : decode cX0_both 30 = .ok (.aload_n 1, 1) := by decide +kernel
theorem dX0_both_31 : decode cX0_both 31 = .ok (.getfield 25, 3) := by decide +kernel
theorem dX0_both_34 : decode cX0_both 34 = .ok (.iload 4, 2) := by decide +kernel
theorem dX0_both_36 : decode cX0_both 36 = .ok (.laload, 1) := by decide +kernel
theorem dX0_both_37 : decode cX0_both 37 = .ok (.aload_n 2, 1) := by decide +kernel
theorem dX0_both_38 : decode cX0_both 38 = .ok (.getfield 25, 3) := by decide +kernel
theorem dX0_both_41 : decode cX0_both 41 = .ok (.iload 5, 2) := by decide +kernel
theorem dX0_both_43 : decode cX0_both 43 = .ok (.laload, 1) := by decide +kernel
theorem dX0_both_44 : decode cX0_both 44 = .ok (.lor, 1) := by decide +kernel
theorem dX0_both_45 : decode cX0_both 45 = .ok (.aload_n 1, 1) := by decide +kernel
theorem dX0_both_46 : decode cX0_both 46 = .ok (.getfield 26, 3) := by decide +kernel
theorem dX0_both_49 : decode cX0_both 49 = .ok (.iload 4, 2) := by decide +kernel
theorem dX0_both_51 : decode cX0_both 51 = .ok (.laload, 1) := by decide +kernel
theorem dX0_both_52 : decode cX0_both 52 = .ok (.aload_n 2, 1) := by decide +kernel
theorem dX0_both_53 : decode cX0_both 53 = .ok (.getfield 26, 3) := by decide +kernel
theorem dX0_both_56 : decode cX0_both 56 = .ok (.iload 5, 2) := by decide +kernel
theorem dX0_both_58 : decode cX0_both 58 = .ok (.laload, 1) := by decide +kernel
theorem dX0_both_59 : decode cX0_both 59 = .ok (.lor, 1) := by decide +kernel
theorem dX0_both_60 : decode cX0_both 60 = .ok (.invokevirtual 27, 3) := by decide +kernel
theorem dX0_both_63 : decode cX0_both 63 = .ok (.iinc 5 1, 3) := by decide +kernel
theorem dX0_both_66 : decode cX0_both 66 = .ok (.goto (-46), 3) := by decide +kernel
theorem dX0_both_69 : decode cX0_both 69 = .ok (.iinc 4 1, 3) := by decide +kernel
theorem dX0_both_72 : decode cX0_both 72 = .ok (.goto (-64), 3) := by decide +kernel
theorem dX0_both_75 : decode cX0_both 75 = .ok (.aload_n 0, 1) := by decide +kernel
theorem dX0_both_76 : decode cX0_both 76 = .ok (.aload_n 3, 1) := by decide +kernel
theorem dX0_both_77 : decode cX0_both 77 = .ok (.invokevirtual 31, 3) := by decide +kernel
theorem dX0_both_80 : decode cX0_both 80 = .ok (.ireturn, 1) := by decide +kernel
theorem dX0_not_0 : decode cX0_not 0 = .ok (.aload_n 2, 1) := by decide +kernel
theorem dX0_not_1 : decode cX0_not 1 = .ok (.invokevirtual 35, 3) := by decide +kernel
theorem dX0_not_4 : decode cX0_not 4 = .ok (.iconst 0, 1) := by decide +kernel
theorem dX0_not_5 : decode cX0_not 5 = .ok (.istore_n 3, 1) := by decide +kernel
theorem dX0_not_6 : decode cX0_not 6 = .ok (.iload_n 3, 1) := by decide +kernel
theorem dX0_not_7 : decode cX0_not 7 = .ok (.aload_n 1, 1) := by decide +kernel
theorem dX0_not_8 : decode cX0_not 8 = .ok (.getfield 22, 3) := by decide +kernel
theorem dX0_not_11 : decode cX0_not 11 = .ok (.if_icmp .ge 72, 3) := by decide +kernel
theorem dX0_not_14 : decode cX0_not 14 = .ok (.aload_n 0, 1) := by decide +kernel
theorem dX0_not_15 : decode cX0_not 15 = .ok (.iconst 0, 1) := by decide +kernel
theorem dX0_not_16 : decode cX0_not 16 = .ok (.putfield 18, 3) := by decide +kernel
theorem dX0_not_19 : decode cX0_not 19 = .ok (.iconst 0, 1) := by decide +kernel
theorem dX0_not_20 : decode cX0_not 20 = .ok (.istore 4, 2) := by decide +kernel
theorem dX0_not_22 : decode cX0_not 22 = .ok (.iload 4, 2) := by decide +kernel
theorem dX0_not_24 : decode cX0_not 24 = .ok (.aload_n 2, 1) := by decide +kernel
theorem dX0_not_25 : decode cX0_not 25 = .ok (.getfield 22, 3) := by decide +kernel
theorem dX0_not_28 : decode cX0_not 28 = .ok (.if_icmp .ge 39, 3) := by decide +kernel
theorem dX0_not_31 : decode cX0_not 31 = .ok (.aload_n 0, 1) := by decide +kernel
theorem dX0_not_32 : decode cX0_not 32 = .ok (.aload_n 2, 1) := by decide +kernel
theorem dX0_not_33 : decode cX0_not 33 = .ok (.getfield 25, 3) := by decide +kernel
theorem dX0_not_36 : decode cX0_not 36 = .ok (.iload 4, 2) := by decide +kernel
theorem dX0_not_38 : decode cX0_not 38 = .ok (.laload, 1) := by decide +kernel
theorem dX0_not_39 : decode cX0_not 39 = .ok (.aload_n 2, 1) := by decide +kernel
theorem dX0_not_40 : decode cX0_not 40 = .ok (.getfield 26, 3) := by decide +kernel
theorem dX0_not_43 : decode cX0_not 43 = .ok (.iload 4, 2) := by decide +kernel
theorem dX0_not_45 : decode cX0_not 45 = .ok (.laload, 1) := by decide +kernel
theorem dX0_not_46 : decode cX0_not 46 = .ok (.aload_n 1, 1) := by decide +kernel
theorem dX0_not_47 : decode cX0_not 47 = .ok (.getfield 25, 3) := by decide +kernel
theorem dX0_not_50 : decode cX0_not 50 = .ok (.iload_n 3, 1) := by decide +kernel
theorem dX0_not_51 : decode cX0_not 51 = .ok (.laload, 1) := by decide +kernel
theorem dX0_not_52 : decode cX0_not 52 = .ok (.aload_n 1, 1) := by decide +kernel
theorem dX0_not_53 : decode cX0_not 53 = .ok (.getfield 26, 3) := by decide +kernel
theorem dX0_not_56 : decode cX0_not 56 = .ok (.iload_n 3, 1) := by decide +kernel
theorem dX0_not_57 : decode cX0_not 57 = .ok (.laload, 1) := by decide +kernel
theorem dX0_not_58 : decode cX0_not 58 = .ok (.invokevirtual 38, 3) := by decide +kernel
theorem dX0_not_61 : decode cX0_not 61 = .ok (.iinc 4 1, 3) := by decide +kernel
theorem dX0_not_64 : decode cX0_not 64 = .ok (.goto (-42), 3) := by decide +kernel
theorem dX0_not_67 : decode cX0_not 67 = .ok (.aload_n 0, 1) := by decide +kernel
theorem dX0_not_68 : decode cX0_not 68 = .ok (.aload_n 2, 1) := by decide +kernel
theorem dX0_not_69 : decode cX0_not 69 = .ok (.invokevirtual 31, 3) := by decide +kernel
theorem dX0_not_72 : decode cX0_not 72 = .ok (.ifCond .ne 5, 3) := by decide +kernel
theorem dX0_not_75 : decode cX0_not 75 = .ok (.iconst 0, 1) := by decide +kernel
theorem dX0_not_76 : decode cX0_not 76 = .ok (.ireturn, 1) := by decide +kernel
theorem dX0_not_77 : decode cX0_not 77 = .ok (.iinc 3 1, 3) := by decide +kernel
theorem dX0_not_80 : decode cX0_not 80 = .ok (.goto (-74), 3) := by decide +kernel
theorem dX0_not_83 : decode cX0_not 83 = .ok (.iconst 1, 1) := by decide +kernel
theorem dX0_not_84 : decode cX0_not 84 = .ok (.ireturn, 1) := by decide +kernel
theorem dX0_forget_0 : decode cX0_forget 0 = .ok (.aload_n 0, 1) := by decide +kernel
theorem dX0_forget_1 : decode cX0_forget 1 = .ok (.iconst 0, 1) := by decide +kernel
theorem dX0_forget_2 : decode cX0_forget 2 = .ok (.putfield 18, 3) := by decide +kernel
theorem dX0_forget_5 : decode cX0_forget 5 = .ok (.iconst 0, 1) := by decide +kernel
theorem dX0_forget_6 : decode cX0_forget 6 = .ok (.istore 5, 2) := by decide +kernel
theorem dX0_forget_8 : decode cX0_forget 8 = .ok (.iload 5, 2) := by decide +kernel
theorem dX0_forget_10 : decode cX0_forget 10 = .ok (.aload_n 1, 1) := by decide +kernel
theorem dX0_forget_11 : decode cX0_forget 11 = .ok (.getfield 22, 3) := by decide +kernel
theorem dX0_forget_14 : decode cX0_forget 14 = .ok (.if_icmp .ge 39, 3) := by decide +kernel
theorem dX0_forget_17 : decode cX0_forget 17 = .ok (.aload_n 0, 1) := by decide +kernel
theorem dX0_forget_18 : decode cX0_forget 18 = .ok (.aload_n 1, 1) := by decide +kernel
theorem dX0_forget_19 : decode cX0_forget 19 = .ok (.getfield 25, 3) := by decide +kernel
theorem dX0_forget_22 : decode cX0_forget 22 = .ok (.iload 5, 2) := by decide +kernel
theorem dX0_forget_24 : decode cX0_forget 24 = .ok (.laload, 1) := by decide +kernel
theorem dX0_forget_25 : decode cX0_forget 25 = .ok (.lload_n 2, 1) := by decide +kernel
theorem dX0_forget_26 : decode cX0_forget 26 = .ok (.ldc2_w 42, 3) := by decide +kernel
theorem dX0_forget_29 : decode cX0_forget 29 = .ok (.lxor, 1) := by decide +kernel
theorem dX0_forget_30 : decode cX0_forget 30 = .ok (.land, 1) := by decide +kernel
theorem dX0_forget_31 : decode cX0_forget 31 = .ok (.aload_n 1, 1) := by decide +kernel
theorem dX0_forget_32 : decode cX0_forget 32 = .ok (.getfield 26, 3) := by decide +kernel
theorem dX0_forget_35 : decode cX0_forget 35 = .ok (.iload 5, 2) := by decide +kernel
theorem dX0_forget_37 : decode cX0_forget 37 = .ok (.laload, 1) := by decide +kernel
theorem dX0_forget_38 : decode cX0_forget 38 = .ok (.lload_n 2, 1) := by decide +kernel
theorem dX0_forget_39 : decode cX0_forget 39 = .ok (.ldc2_w 42, 3) := by decide +kernel
theorem dX0_forget_42 : decode cX0_forget 42 = .ok (.lxor, 1) := by decide +kernel
theorem dX0_forget_43 : decode cX0_forget 43 = .ok (.land, 1) := by decide +kernel
theorem dX0_forget_44 : decode cX0_forget 44 = .ok (.invokevirtual 27, 3) := by decide +kernel
theorem dX0_forget_47 : decode cX0_forget 47 = .ok (.iinc 5 1, 3) := by decide +kernel
theorem dX0_forget_50 : decode cX0_forget 50 = .ok (.goto (-42), 3) := by decide +kernel
theorem dX0_forget_53 : decode cX0_forget 53 = .ok (.aload_n 0, 1) := by decide +kernel
theorem dX0_forget_54 : decode cX0_forget 54 = .ok (.aload 4, 2) := by decide +kernel
theorem dX0_forget_56 : decode cX0_forget 56 = .ok (.invokevirtual 31, 3) := by decide +kernel
theorem dX0_forget_59 : decode cX0_forget 59 = .ok (.pop, 1) := by decide +kernel
theorem dX0_forget_60 : decode cX0_forget 60 = .ok (.return_, 1) := by decide +kernel
theorem dX0_addTurns_0 : decode cX0_addTurns 0 = .ok (.iconst 0, 1) := by decide +kernel
theorem dX0_addTurns_1 : decode cX0_addTurns 1 = .ok (.istore 9, 2) := by decide +kernel
theorem dX0_addTurns_3 : decode cX0_addTurns 3 = .ok (.iload 9, 2) := by decide +kernel
theorem dX0_addTurns_5 : decode cX0_addTurns 5 = .ok (.bipush 36, 2) := by decide +kernel
theorem dX0_addTurns_7 : decode cX0_addTurns 7 = .ok (.if_icmp .ge 53, 3) := by decide +kernel
theorem dX0_addTurns_10 : decode cX0_addTurns 10 = .ok (.lconst 1, 1) := by decide +kernel
theorem dX0_addTurns_11 : decode cX0_addTurns 11 = .ok (.iload 9, 2) := by decide +kernel
theorem dX0_addTurns_13 : decode cX0_addTurns 13 = .ok (.lshl, 1) := by decide +kernel
theorem dX0_addTurns_14 : decode cX0_addTurns 14 = .ok (.lstore 10, 2) := by decide +kernel
theorem dX0_addTurns_16 : decode cX0_addTurns 16 = .ok (.lload 5, 2) := by decide +kernel
theorem dX0_addTurns_18 : decode cX0_addTurns 18 = .ok (.lload 10, 2) := by decide +kernel
theorem dX0_addTurns_20 : decode cX0_addTurns 20 = .ok (.land, 1) := by decide +kernel
theorem dX0_addTurns_21 : decode cX0_addTurns 21 = .ok (.lconst 0, 1) := by decide +kernel
theorem dX0_addTurns_22 : decode cX0_addTurns 22 = .ok (.lcmp, 1) := by decide +kernel
theorem dX0_addTurns_23 : decode cX0_addTurns 23 = .ok (.ifCond .eq 12, 3) := by decide +kernel
theorem dX0_addTurns_26 : decode cX0_addTurns 26 = .ok (.aload_n 0, 1) := by decide +kernel
theorem dX0_addTurns_27 : decode cX0_addTurns 27 = .ok (.lload_n 1, 1) := by decide +kernel
theorem dX0_addTurns_28 : decode cX0_addTurns 28 = .ok (.lload_n 3, 1) := by decide +kernel
theorem dX0_addTurns_29 : decode cX0_addTurns 29 = .ok (.lload 10, 2) := by decide +kernel
theorem dX0_addTurns_31 : decode cX0_addTurns 31 = .ok (.lor, 1) := by decide +kernel
theorem dX0_addTurns_32 : decode cX0_addTurns 32 = .ok (.invokevirtual 27, 3) := by decide +kernel
theorem dX0_addTurns_35 : decode cX0_addTurns 35 = .ok (.lload 7, 2) := by decide +kernel
theorem dX0_addTurns_37 : decode cX0_addTurns 37 = .ok (.lload 10, 2) := by decide +kernel
theorem dX0_addTurns_39 : decode cX0_addTurns 39 = .ok (.land, 1) := by decide +kernel
theorem dX0_addTurns_40 : decode cX0_addTurns 40 = .ok (.lconst 0, 1) := by decide +kernel
theorem dX0_addTurns_41 : decode cX0_addTurns 41 = .ok (.lcmp, 1) := by decide +kernel
theorem dX0_addTurns_42 : decode cX0_addTurns 42 = .ok (.ifCond .eq 12, 3) := by decide +kernel
theorem dX0_addTurns_45 : decode cX0_addTurns 45 = .ok (.aload_n 0, 1) := by decide +kernel
theorem dX0_addTurns_46 : decode cX0_addTurns 46 = .ok (.lload_n 1, 1) := by decide +kernel
theorem dX0_addTurns_47 : decode cX0_addTurns 47 = .ok (.lload 10, 2) := by decide +kernel
theorem dX0_addTurns_49 : decode cX0_addTurns 49 = .ok (.lor, 1) := by decide +kernel
theorem dX0_addTurns_50 : decode cX0_addTurns 50 = .ok (.lload_n 3, 1) := by decide +kernel
theorem dX0_addTurns_51 : decode cX0_addTurns 51 = .ok (.invokevirtual 27, 3) := by decide +kernel
theorem dX0_addTurns_54 : decode cX0_addTurns 54 = .ok (.iinc 9 1, 3) := by decide +kernel
theorem dX0_addTurns_57 : decode cX0_addTurns 57 = .ok (.goto (-54), 3) := by decide +kernel
theorem dX0_addTurns_60 : decode cX0_addTurns 60 = .ok (.return_, 1) := by decide +kernel
theorem dX0_add_0 : decode cX0_add 0 = .ok (.lload_n 1, 1) := by decide +kernel
theorem dX0_add_1 : decode cX0_add 1 = .ok (.lload_n 3, 1) := by decide +kernel
theorem dX0_add_2 : decode cX0_add 2 = .ok (.land, 1) := by decide +kernel
theorem dX0_add_3 : decode cX0_add 3 = .ok (.lconst 0, 1) := by decide +kernel
theorem dX0_add_4 : decode cX0_add 4 = .ok (.lcmp, 1) := by decide +kernel
theorem dX0_add_5 : decode cX0_add 5 = .ok (.ifCond .eq 4, 3) := by decide +kernel
theorem dX0_add_8 : decode cX0_add 8 = .ok (.return_, 1) := by decide +kernel
theorem dX0_add_9 : decode cX0_add 9 = .ok (.iconst 0, 1) := by decide +kernel
theorem dX0_add_10 : decode cX0_add 10 = .ok (.istore 5, 2) := by decide +kernel
theorem dX0_add_12 : decode cX0_add 12 = .ok (.iconst 0, 1) := by decide +kernel
theorem dX0_add_13 : decode cX0_add 13 = .ok (.istore 6, 2) := by decide +kernel
theorem dX0_add_15 : decode cX0_add 15 = .ok (.iload 6, 2) := by decide +kernel
theorem dX0_add_17 : decode cX0_add 17 = .ok (.aload_n 0, 1) := by decide +kernel
theorem dX0_add_18 : decode cX0_add 18 = .ok (.getfield 18, 3) := by decide +kernel
theorem dX0_add_21 : decode cX0_add 21 = .ok (.if_icmp .ge 113, 3) := by decide +kernel
theorem dX0_add_24 : decode cX0_add 24 = .ok (.aload_n 0, 1) := by decide +kernel
theorem dX0_add_25 : decode cX0_add 25 = .ok (.getfield 11, 3) := by decide +kernel
theorem dX0_add_28 : decode cX0_add 28 = .ok (.iload 6, 2) := by decide +kernel
theorem dX0_add_30 : decode cX0_add 30 = .ok (.laload, 1) := by decide +kernel
theorem dX0_add_31 : decode cX0_add 31 = .ok (.lload_n 1, 1) := by decide +kernel
theorem dX0_add_32 : decode cX0_add 32 = .ok (.ldc2_w 42, 3) := by decide +kernel
theorem dX0_add_35 : decode cX0_add 35 = .ok (.lxor, 1) := by decide +kernel
theorem dX0_add_36 : decode cX0_add 36 = .ok (.land, 1) := by decide +kernel
theorem dX0_add_37 : decode cX0_add 37 = .ok (.lconst 0, 1) := by decide +kernel
theorem dX0_add_38 : decode cX0_add 38 = .ok (.lcmp, 1) := by decide +kernel
theorem dX0_add_39 : decode cX0_add 39 = .ok (.ifCond .ne 22, 3) := by decide +kernel
theorem dX0_add_42 : decode cX0_add 42 = .ok (.aload_n 0, 1) := by decide +kernel
theorem dX0_add_43 : decode cX0_add 43 = .ok (.getfield 15, 3) := by decide +kernel
theorem dX0_add_46 : decode cX0_add 46 = .ok (.iload 6, 2) := by decide +kernel
theorem dX0_add_48 : decode cX0_add 48 = .ok (.laload, 1) := by decide +kernel
theorem dX0_add_49 : decode cX0_add 49 = .ok (.lload_n 3, 1) := by decide +kernel
theorem dX0_add_50 : decode cX0_add 50 = .ok (.ldc2_w 42, 3) := by decide +kernel
theorem dX0_add_53 : decode cX0_add 53 = .ok (.lxor, 1) := by decide +kernel
theorem dX0_add_54 : decode cX0_add 54 = .ok (.land, 1) := by decide +kernel
theorem dX0_add_55 : decode cX0_add 55 = .ok (.lconst 0, 1) := by decide +kernel
theorem dX0_add_56 : decode cX0_add 56 = .ok (.lcmp, 1) := by decide +kernel
theorem dX0_add_57 : decode cX0_add 57 = .ok (.ifCond .ne 4, 3) := by decide +kernel
theorem dX0_add_60 : decode cX0_add 60 = .ok (.return_, 1) := by decide +kernel
theorem dX0_add_61 : decode cX0_add 61 = .ok (.lload_n 1, 1) := by decide +kernel
theorem dX0_add_62 : decode cX0_add 62 = .ok (.aload_n 0, 1) := by decide +kernel
theorem dX0_add_63 : decode cX0_add 63 = .ok (.getfield 11, 3) := by decide +kernel
theorem dX0_add_66 : decode cX0_add 66 = .ok (.iload 6, 2) := by decide +kernel
theorem dX0_add_68 : decode cX0_add 68 = .ok (.laload, 1) := by decide +kernel
theorem dX0_add_69 : decode cX0_add 69 = .ok (.ldc2_w 42, 3) := by decide +kernel
theorem dX0_add_72 : decode cX0_add 72 = .ok (.lxor, 1) := by decide +kernel
theorem dX0_add_73 : decode cX0_add 73 = .ok (.land, 1) := by decide +kernel
theorem dX0_add_74 : decode cX0_add 74 = .ok (.lconst 0, 1) := by decide +kernel
theorem dX0_add_75 : decode cX0_add 75 = .ok (.lcmp, 1) := by decide +kernel
theorem dX0_add_76 : decode cX0_add 76 = .ok (.ifCond .ne 21, 3) := by decide +kernel
theorem dX0_add_79 : decode cX0_add 79 = .ok (.lload_n 3, 1) := by decide +kernel
theorem dX0_add_80 : decode cX0_add 80 = .ok (.aload_n 0, 1) := by decide +kernel
theorem dX0_add_81 : decode cX0_add 81 = .ok (.getfield 15, 3) := by decide +kernel
theorem dX0_add_84 : decode cX0_add 84 = .ok (.iload 6, 2) := by decide +kernel
theorem dX0_add_86 : decode cX0_add 86 = .ok (.laload, 1) := by decide +kernel
theorem dX0_add_87 : decode cX0_add 87 = .ok (.ldc2_w 42, 3) := by decide +kernel
theorem dX0_add_90 : decode cX0_add 90 = .ok (.lxor, 1) := by decide +kernel
theorem dX0_add_91 : decode cX0_add 91 = .ok (.land, 1) := by decide +kernel
theorem dX0_add_92 : decode cX0_add 92 = .ok (.lconst 0, 1) := by decide +kernel
theorem dX0_add_93 : decode cX0_add 93 = .ok (.lcmp, 1) := by decide +kernel
theorem dX0_add_94 : decode cX0_add 94 = .ok (.ifCond .eq 34, 3) := by decide +kernel
theorem dX0_add_97 : decode cX0_add 97 = .ok (.aload_n 0, 1) := by decide +kernel
theorem dX0_add_98 : decode cX0_add 98 = .ok (.getfield 11, 3) := by decide +kernel
theorem dX0_add_101 : decode cX0_add 101 = .ok (.iload 5, 2) := by decide +kernel
theorem dX0_add_103 : decode cX0_add 103 = .ok (.aload_n 0, 1) := by decide +kernel
theorem dX0_add_104 : decode cX0_add 104 = .ok (.getfield 11, 3) := by decide +kernel
theorem dX0_add_107 : decode cX0_add 107 = .ok (.iload 6, 2) := by decide +kernel
theorem dX0_add_109 : decode cX0_add 109 = .ok (.laload, 1) := by decide +kernel
theorem dX0_add_110 : decode cX0_add 110 = .ok (.lastore, 1) := by decide +kernel
theorem dX0_add_111 : decode cX0_add 111 = .ok (.aload_n 0, 1) := by decide +kernel
theorem dX0_add_112 : decode cX0_add 112 = .ok (.getfield 15, 3) := by decide +kernel
theorem dX0_add_115 : decode cX0_add 115 = .ok (.iload 5, 2) := by decide +kernel
theorem dX0_add_117 : decode cX0_add 117 = .ok (.aload_n 0, 1) := by decide +kernel
theorem dX0_add_118 : decode cX0_add 118 = .ok (.getfield 15, 3) := by decide +kernel
theorem dX0_add_121 : decode cX0_add 121 = .ok (.iload 6, 2) := by decide +kernel
theorem dX0_add_123 : decode cX0_add 123 = .ok (.laload, 1) := by decide +kernel
theorem dX0_add_124 : decode cX0_add 124 = .ok (.lastore, 1) := by decide +kernel
theorem dX0_add_125 : decode cX0_add 125 = .ok (.iinc 5 1, 3) := by decide +kernel
theorem dX0_add_128 : decode cX0_add 128 = .ok (.iinc 6 1, 3) := by decide +kernel
theorem dX0_add_131 : decode cX0_add 131 = .ok (.goto (-116), 3) := by decide +kernel
theorem dX0_add_134 : decode cX0_add 134 = .ok (.aload_n 0, 1) := by decide +kernel
theorem dX0_add_135 : decode cX0_add 135 = .ok (.iload 5, 2) := by decide +kernel
theorem dX0_add_137 : decode cX0_add 137 = .ok (.putfield 18, 3) := by decide +kernel
theorem dX0_add_140 : decode cX0_add 140 = .ok (.aload_n 0, 1) := by decide +kernel
theorem dX0_add_141 : decode cX0_add 141 = .ok (.getfield 18, 3) := by decide +kernel
theorem dX0_add_144 : decode cX0_add 144 = .ok (.sipush 432, 3) := by decide +kernel
theorem dX0_add_147 : decode cX0_add 147 = .ok (.if_icmp .ge 33, 3) := by decide +kernel
theorem dX0_add_150 : decode cX0_add 150 = .ok (.aload_n 0, 1) := by decide +kernel
theorem dX0_add_151 : decode cX0_add 151 = .ok (.getfield 11, 3) := by decide +kernel
theorem dX0_add_154 : decode cX0_add 154 = .ok (.aload_n 0, 1) := by decide +kernel
theorem dX0_add_155 : decode cX0_add 155 = .ok (.getfield 18, 3) := by decide +kernel
theorem dX0_add_158 : decode cX0_add 158 = .ok (.lload_n 1, 1) := by decide +kernel
theorem dX0_add_159 : decode cX0_add 159 = .ok (.lastore, 1) := by decide +kernel
theorem dX0_add_160 : decode cX0_add 160 = .ok (.aload_n 0, 1) := by decide +kernel
theorem dX0_add_161 : decode cX0_add 161 = .ok (.getfield 15, 3) := by decide +kernel
theorem dX0_add_164 : decode cX0_add 164 = .ok (.aload_n 0, 1) := by decide +kernel
theorem dX0_add_165 : decode cX0_add 165 = .ok (.getfield 18, 3) := by decide +kernel
theorem dX0_add_168 : decode cX0_add 168 = .ok (.lload_n 3, 1) := by decide +kernel
theorem dX0_add_169 : decode cX0_add 169 = .ok (.lastore, 1) := by decide +kernel
theorem dX0_add_170 : decode cX0_add 170 = .ok (.aload_n 0, 1) := by decide +kernel
theorem dX0_add_171 : decode cX0_add 171 = .ok (.dup, 1) := by decide +kernel
theorem dX0_add_172 : decode cX0_add 172 = .ok (.getfield 18, 3) := by decide +kernel
theorem dX0_add_175 : decode cX0_add 175 = .ok (.iconst 1, 1) := by decide +kernel
theorem dX0_add_176 : decode cX0_add 176 = .ok (.iadd, 1) := by decide +kernel
theorem dX0_add_177 : decode cX0_add 177 = .ok (.putfield 18, 3) := by decide +kernel
theorem dX0_add_180 : decode cX0_add 180 = .ok (.return_, 1) := by decide +kernel
theorem dX0_settle_0 : decode cX0_settle 0 = .ok (.aload_n 0, 1) := by decide +kernel
theorem dX0_settle_1 : decode cX0_settle 1 = .ok (.getfield 18, 3) := by decide +kernel
theorem dX0_settle_4 : decode cX0_settle 4 = .ok (.bipush 12, 2) := by decide +kernel
theorem dX0_settle_6 : decode cX0_settle 6 = .ok (.if_icmp .le 5, 3) := by decide +kernel
theorem dX0_settle_9 : decode cX0_settle 9 = .ok (.iconst 0, 1) := by decide +kernel
theorem dX0_settle_10 : decode cX0_settle 10 = .ok (.ireturn, 1) := by decide +kernel
theorem dX0_settle_11 : decode cX0_settle 11 = .ok (.aload_n 1, 1) := by decide +kernel
theorem dX0_settle_12 : decode cX0_settle 12 = .ok (.invokevirtual 44, 3) := by decide +kernel
theorem dX0_settle_15 : decode cX0_settle 15 = .ok (.iconst 0, 1) := by decide +kernel
theorem dX0_settle_16 : decode cX0_settle 16 = .ok (.istore_n 2, 1) := by decide +kernel
theorem dX0_settle_17 : decode cX0_settle 17 = .ok (.iload_n 2, 1) := by decide +kernel
theorem dX0_settle_18 : decode cX0_settle 18 = .ok (.aload_n 0, 1) := by decide +kernel
theorem dX0_settle_19 : decode cX0_settle 19 = .ok (.getfield 18, 3) := by decide +kernel
theorem dX0_settle_22 : decode cX0_settle 22 = .ok (.if_icmp .ge 25, 3) := by decide +kernel
theorem dX0_settle_25 : decode cX0_settle 25 = .ok (.aload_n 1, 1) := by decide +kernel
theorem dX0_settle_26 : decode cX0_settle 26 = .ok (.aload_n 0, 1) := by decide +kernel
theorem dX0_settle_27 : decode cX0_settle 27 = .ok (.getfield 11, 3) := by decide +kernel
theorem dX0_settle_30 : decode cX0_settle 30 = .ok (.iload_n 2, 1) := by decide +kernel
theorem dX0_settle_31 : decode cX0_settle 31 = .ok (.laload, 1) := by decide +kernel
theorem dX0_settle_32 : decode cX0_settle 32 = .ok (.aload_n 0, 1) := by decide +kernel
theorem dX0_settle_33 : decode cX0_settle 33 = .ok (.getfield 15, 3) := by decide +kernel
theorem dX0_settle_36 : decode cX0_settle 36 = .ok (.iload_n 2, 1) := by decide +kernel
theorem dX0_settle_37 : decode cX0_settle 37 = .ok (.laload, 1) := by decide +kernel
theorem dX0_settle_38 : decode cX0_settle 38 = .ok (.invokevirtual 47, 3) := by decide +kernel
theorem dX0_settle_41 : decode cX0_settle 41 = .ok (.iinc 2 1, 3) := by decide +kernel
theorem dX0_settle_44 : decode cX0_settle 44 = .ok (.goto (-27), 3) := by decide +kernel
theorem dX0_settle_47 : decode cX0_settle 47 = .ok (.iconst 1, 1) := by decide +kernel
theorem dX0_settle_48 : decode cX0_settle 48 = .ok (.ireturn, 1) := by decide +kernel
theorem dX1_init_0 : decode cX1_init 0 = .ok (.aload_n 0, 1) := by decide +kernel
theorem dX1_init_1 : decode cX1_init 1 = .ok (.invokespecial 3, 3) := by decide +kernel
theorem dX1_init_4 : decode cX1_init 4 = .ok (.return_, 1) := by decide +kernel
theorem dX1_describe_0 : decode cX1_describe 0 = .ok (.aload_n 0, 1) := by decide +kernel
theorem dX1_describe_1 : decode cX1_describe 1 = .ok (.iload_n 1, 1) := by decide +kernel
theorem dX1_describe_2 : decode cX1_describe 2 = .ok (.putfield 9, 3) := by decide +kernel
theorem dX1_describe_5 : decode cX1_describe 5 = .ok (.aload_n 0, 1) := by decide +kernel
theorem dX1_describe_6 : decode cX1_describe 6 = .ok (.iload_n 2, 1) := by decide +kernel
theorem dX1_describe_7 : decode cX1_describe 7 = .ok (.putfield 15, 3) := by decide +kernel
theorem dX1_describe_10 : decode cX1_describe 10 = .ok (.aload_n 0, 1) := by decide +kernel
theorem dX1_describe_11 : decode cX1_describe 11 = .ok (.iload_n 3, 1) := by decide +kernel
theorem dX1_describe_12 : decode cX1_describe 12 = .ok (.putfield 18, 3) := by decide +kernel
theorem dX1_describe_15 : decode cX1_describe 15 = .ok (.aload_n 0, 1) := by decide +kernel
theorem dX1_describe_16 : decode cX1_describe 16 = .ok (.iload 4, 2) := by decide +kernel
theorem dX1_describe_18 : decode cX1_describe 18 = .ok (.putfield 21, 3) := by decide +kernel
theorem dX1_describe_21 : decode cX1_describe 21 = .ok (.aload_n 0, 1) := by decide +kernel
theorem dX1_describe_22 : decode cX1_describe 22 = .ok (.iconst 0, 1) := by decide +kernel
theorem dX1_describe_23 : decode cX1_describe 23 = .ok (.putfield 24, 3) := by decide +kernel
theorem dX1_describe_26 : decode cX1_describe 26 = .ok (.return_, 1) := by decide +kernel
theorem dX1_detail_0 : decode cX1_detail 0 = .ok (.aload_n 0, 1) := by decide +kernel
theorem dX1_detail_1 : decode cX1_detail 1 = .ok (.iload_n 1, 1) := by decide +kernel
theorem dX1_detail_2 : decode cX1_detail 2 = .ok (.putfield 27, 3) := by decide +kernel
theorem dX1_detail_5 : decode cX1_detail 5 = .ok (.aload_n 0, 1) := by decide +kernel
theorem dX1_detail_6 : decode cX1_detail 6 = .ok (.iload_n 2, 1) := by decide +kernel
theorem dX1_detail_7 : decode cX1_detail 7 = .ok (.putfield 30, 3) := by decide +kernel
theorem dX1_detail_10 : decode cX1_detail 10 = .ok (.aload_n 0, 1) := by decide +kernel
theorem dX1_detail_11 : decode cX1_detail 11 = .ok (.iload_n 3, 1) := by decide +kernel
theorem dX1_detail_12 : decode cX1_detail 12 = .ok (.putfield 33, 3) := by decide +kernel
theorem dX1_detail_15 : decode cX1_detail 15 = .ok (.aload_n 0, 1) := by decide +kernel
theorem dX1_detail_16 : decode cX1_detail 16 = .ok (.iload 4, 2) := by decide +kernel
theorem dX1_detail_18 : decode cX1_detail 18 = .ok (.putfield 36, 3) := by decide +kernel
theorem dX1_detail_21 : decode cX1_detail 21 = .ok (.return_, 1) := by decide +kernel
theorem dX2_init_0 : decode cX2_init 0 = .ok (.aload_n 0, 1) := by decide +kernel
theorem dX2_init_1 : decode cX2_init 1 = .ok (.invokespecial 3, 3) := by decide +kernel
theorem dX2_init_4 : decode cX2_init 4 = .ok (.aload_n 0, 1) := by decide +kernel
theorem dX2_init_5 : decode cX2_init 5 = .ok (.new 9, 3) := by decide +kernel
theorem dX2_init_8 : decode cX2_init 8 = .ok (.dup, 1) := by decide +kernel
theorem dX2_init_9 : decode cX2_init 9 = .ok (.invokespecial 11, 3) := by decide +kernel
theorem dX2_init_12 : decode cX2_init 12 = .ok (.putfield 12, 3) := by decide +kernel
theorem dX2_init_15 : decode cX2_init 15 = .ok (.aload_n 0, 1) := by decide +kernel
theorem dX2_init_16 : decode cX2_init 16 = .ok (.new 18, 3) := by decide +kernel
theorem dX2_init_19 : decode cX2_init 19 = .ok (.dup, 1) := by decide +kernel
theorem dX2_init_20 : decode cX2_init 20 = .ok (.invokespecial 20, 3) := by decide +kernel
theorem dX2_init_23 : decode cX2_init 23 = .ok (.putfield 21, 3) := by decide +kernel
theorem dX2_init_26 : decode cX2_init 26 = .ok (.aload_n 0, 1) := by decide +kernel
theorem dX2_init_27 : decode cX2_init 27 = .ok (.iconst 4, 1) := by decide +kernel
theorem dX2_init_28 : decode cX2_init 28 = .ok (.anewarray 18, 3) := by decide +kernel
theorem dX2_init_31 : decode cX2_init 31 = .ok (.putfield 25, 3) := by decide +kernel
theorem dX2_init_34 : decode cX2_init 34 = .ok (.aload_n 0, 1) := by decide +kernel
theorem dX2_init_35 : decode cX2_init 35 = .ok (.iconst 4, 1) := by decide +kernel
theorem dX2_init_36 : decode cX2_init 36 = .ok (.anewarray 29, 3) := by decide +kernel
theorem dX2_init_39 : decode cX2_init 39 = .ok (.putfield 31, 3) := by decide +kernel
theorem dX2_init_42 : decode cX2_init 42 = .ok (.aload_n 0, 1) := by decide +kernel
theorem dX2_init_43 : decode cX2_init 43 = .ok (.bipush 6, 2) := by decide +kernel
theorem dX2_init_45 : decode cX2_init 45 = .ok (.newarray .int, 2) := by decide +kernel
theorem dX2_init_47 : decode cX2_init 47 = .ok (.putfield 35, 3) := by decide +kernel
theorem dX2_init_50 : decode cX2_init 50 = .ok (.iconst 0, 1) := by decide +kernel
theorem dX2_init_51 : decode cX2_init 51 = .ok (.istore_n 1, 1) := by decide +kernel
theorem dX2_init_52 : decode cX2_init 52 = .ok (.iload_n 1, 1) := by decide +kernel
theorem dX2_init_53 : decode cX2_init 53 = .ok (.iconst 4, 1) := by decide +kernel
theorem dX2_init_54 : decode cX2_init 54 = .ok (.if_icmp .ge 22, 3) := by decide +kernel
theorem dX2_init_57 : decode cX2_init 57 = .ok (.aload_n 0, 1) := by decide +kernel
theorem dX2_init_58 : decode cX2_init 58 = .ok (.getfield 25, 3) := by decide +kernel
theorem dX2_init_61 : decode cX2_init 61 = .ok (.iload_n 1, 1) := by decide +kernel
theorem dX2_init_62 : decode cX2_init 62 = .ok (.new 18, 3) := by decide +kernel
theorem dX2_init_65 : decode cX2_init 65 = .ok (.dup, 1) := by decide +kernel
theorem dX2_init_66 : decode cX2_init 66 = .ok (.invokespecial 20, 3) := by decide +kernel
theorem dX2_init_69 : decode cX2_init 69 = .ok (.aastore, 1) := by decide +kernel
theorem dX2_init_70 : decode cX2_init 70 = .ok (.iinc 1 1, 3) := by decide +kernel
theorem dX2_init_73 : decode cX2_init 73 = .ok (.goto (-21), 3) := by decide +kernel
theorem dX2_init_76 : decode cX2_init 76 = .ok (.return_, 1) := by decide +kernel
theorem dX2_fill_0 : decode cX2_fill 0 = .ok (.aload 5, 2) := by decide +kernel
theorem dX2_fill_2 : decode cX2_fill 2 = .ok (.aload_n 1, 1) := by decide +kernel
theorem dX2_fill_3 : decode cX2_fill 3 = .ok (.getfield 39, 3) := by decide +kernel
theorem dX2_fill_6 : decode cX2_fill 6 = .ok (.invokevirtual 45, 3) := by decide +kernel
theorem dX2_fill_9 : decode cX2_fill 9 = .ok (.aload_n 1, 1) := by decide +kernel
theorem dX2_fill_10 : decode cX2_fill 10 = .ok (.getfield 51, 3) := by decide +kernel
theorem dX2_fill_13 : decode cX2_fill 13 = .ok (.tableswitch 114 0 5 #[39, 48, 57, 66, 77, 104], 39) := by decide +kernel
theorem dX2_fill_52 : decode cX2_fill 52 = .ok (.aload_n 0, 1) := by decide +kernel
theorem dX2_fill_53 : decode cX2_fill 53 = .ok (.aload_n 1, 1) := by decide +kernel
theorem dX2_fill_54 : decode cX2_fill 54 = .ok (.aload_n 2, 1) := by decide +kernel
theorem dX2_fill_55 : decode cX2_fill 55 = .ok (.aload 5, 2) := by decide +kernel
theorem dX2_fill_57 : decode cX2_fill 57 = .ok (.invokevirtual 54, 3) := by decide +kernel
theorem dX2_fill_60 : decode cX2_fill 60 = .ok (.ireturn, 1) := by decide +kernel
theorem dX2_fill_61 : decode cX2_fill 61 = .ok (.aload_n 0, 1) := by decide +kernel
theorem dX2_fill_62 : decode cX2_fill 62 = .ok (.aload_n 1, 1) := by decide +kernel
theorem dX2_fill_63 : decode cX2_fill 63 = .ok (.aload_n 3, 1) := by decide +kernel
theorem dX2_fill_64 : decode cX2_fill 64 = .ok (.aload 5, 2) := by decide +kernel
theorem dX2_fill_66 : decode cX2_fill 66 = .ok (.invokevirtual 58, 3) := by decide +kernel
theorem dX2_fill_69 : decode cX2_fill 69 = .ok (.ireturn, 1) := by decide +kernel
theorem dX2_fill_70 : decode cX2_fill 70 = .ok (.aload_n 0, 1) := by decide +kernel
theorem dX2_fill_71 : decode cX2_fill 71 = .ok (.aload_n 1, 1) := by decide +kernel
theorem dX2_fill_72 : decode cX2_fill 72 = .ok (.aload_n 3, 1) := by decide +kernel
theorem dX2_fill_73 : decode cX2_fill 73 = .ok (.aload 5, 2) := by decide +kernel
theorem dX2_fill_75 : decode cX2_fill 75 = .ok (.invokevirtual 62, 3) := by decide +kernel
theorem dX2_fill_78 : decode cX2_fill 78 = .ok (.ireturn, 1) := by decide +kernel
theorem dX2_fill_79 : decode cX2_fill 79 = .ok (.aload_n 0, 1) := by decide +kernel
theorem dX2_fill_80 : decode cX2_fill 80 = .ok (.aload_n 1, 1) := by decide +kernel
theorem dX2_fill_81 : decode cX2_fill 81 = .ok (.aload_n 3, 1) := by decide +kernel
theorem dX2_fill_82 : decode cX2_fill 82 = .ok (.aload 4, 2) := by decide +kernel
theorem dX2_fill_84 : decode cX2_fill 84 = .ok (.aload 5, 2) := by decide +kernel
theorem dX2_fill_86 : decode cX2_fill 86 = .ok (.invokevirtual 65, 3) := by decide +kernel
theorem dX2_fill_89 : decode cX2_fill 89 = .ok (.ireturn, 1) := by decide +kernel
theorem dX2_fill_90 : decode cX2_fill 90 = .ok (.aload_n 0, 1) := by decide +kernel
theorem dX2_fill_91 : decode cX2_fill 91 = .ok (.aload_n 3, 1) := by decide +kernel
theorem dX2_fill_92 : decode cX2_fill 92 = .ok (.aload 5, 2) := by decide +kernel
theorem dX2_fill_94 : decode cX2_fill 94 = .ok (.invokevirtual 69, 3) := by decide +kernel
theorem dX2_fill_97 : decode cX2_fill 97 = .ok (.ifCond .eq 18, 3) := by decide +kernel
theorem dX2_fill_100 : decode cX2_fill 100 = .ok (.aload_n 0, 1) := by decide +kernel
theorem dX2_fill_101 : decode cX2_fill 101 = .ok (.aload 4, 2) := by decide +kernel
theorem dX2_fill_103 : decode cX2_fill 103 = .ok (.aload 5, 2) := by decide +kernel
theorem dX2_fill_105 : decode cX2_fill 105 = .ok (.invokevirtual 69, 3) := by decide +kernel
theorem dX2_fill_108 : decode cX2_fill 108 = .ok (.ifCond .eq 7, 3) := by decide +kernel
theorem dX2_fill_111 : decode cX2_fill 111 = .ok (.iconst 1, 1) := by decide +kernel
theorem dX2_fill_112 : decode cX2_fill 112 = .ok (.goto 4, 3) := by decide +kernel
theorem dX2_fill_115 : decode cX2_fill 115 = .ok (.iconst 0, 1) := by decide +kernel
theorem dX2_fill_116 : decode cX2_fill 116 = .ok (.ireturn, 1) := by decide +kernel
theorem dX2_fill_117 : decode cX2_fill 117 = .ok (.aload_n 0, 1) := by decide +kernel
theorem dX2_fill_118 : decode cX2_fill 118 = .ok (.aload_n 3, 1) := by decide +kernel
theorem dX2_fill_119 : decode cX2_fill 119 = .ok (.aload 4, 2) := by decide +kernel
theorem dX2_fill_121 : decode cX2_fill 121 = .ok (.aload 5, 2) := by decide +kernel
theorem dX2_fill_123 : decode cX2_fill 123 = .ok (.invokevirtual 73, 3) := by decide +kernel
theorem dX2_fill_126 : decode cX2_fill 126 = .ok (.ireturn, 1) := by decide +kernel
theorem dX2_fill_127 : decode cX2_fill 127 = .ok (.aload_n 0, 1) := by decide +kernel
theorem dX2_fill_128 : decode cX2_fill 128 = .ok (.aload_n 1, 1) := by decide +kernel
theorem dX2_fill_129 : decode cX2_fill 129 = .ok (.aload_n 3, 1) := by decide +kernel
theorem dX2_fill_130 : decode cX2_fill 130 = .ok (.aload 5, 2) := by decide +kernel
theorem dX2_fill_132 : decode cX2_fill 132 = .ok (.invokevirtual 77, 3) := by decide +kernel
theorem dX2_fill_135 : decode cX2_fill 135 = .ok (.ireturn, 1) := by decide +kernel
theorem dX2_fillScan_0 : decode cX2_fillScan 0 = .ok (.iconst 0, 1) := by decide +kernel
theorem dX2_fillScan_1 : decode cX2_fillScan 1 = .ok (.istore 4, 2) := by decide +kernel
theorem dX2_fillScan_3 : decode cX2_fillScan 3 = .ok (.iload 4, 2) := by decide +kernel
theorem dX2_fillScan_5 : decode cX2_fillScan 5 = .ok (.aload_n 2, 1) := by decide +kernel
theorem dX2_fillScan_6 : decode cX2_fillScan 6 = .ok (.getfield 80, 3) := by decide +kernel
theorem dX2_fillScan_9 : decode cX2_fillScan 9 = .ok (.if_icmp .ge 56, 3) := by decide +kernel
theorem dX2_fillScan_12 : decode cX2_fillScan 12 = .ok (.aload_n 2, 1) := by decide +kernel
theorem dX2_fillScan_13 : decode cX2_fillScan 13 = .ok (.getfield 85, 3) := by decide +kernel
theorem dX2_fillScan_16 : decode cX2_fillScan 16 = .ok (.iload 4, 2) := by decide +kernel
theorem dX2_fillScan_18 : decode cX2_fillScan 18 = .ok (.iaload, 1) := by decide +kernel
theorem dX2_fillScan_19 : decode cX2_fillScan 19 = .ok (.aload_n 1, 1) := by decide +kernel
theorem dX2_fillScan_20 : decode cX2_fillScan 20 = .ok (.getfield 88, 3) := by decide +kernel
theorem dX2_fillScan_23 : decode cX2_fillScan 23 = .ok (.if_icmp .ne 36, 3) := by decide +kernel
theorem dX2_fillScan_26 : decode cX2_fillScan 26 = .ok (.aload_n 0, 1) := by decide +kernel
theorem dX2_fillScan_27 : decode cX2_fillScan 27 = .ok (.getfield 21, 3) := by decide +kernel
theorem dX2_fillScan_30 : decode cX2_fillScan 30 = .ok (.lconst 1, 1) := by decide +kernel
theorem dX2_fillScan_31 : decode cX2_fillScan 31 = .ok (.iload 4, 2) := by decide +kernel
theorem dX2_fillScan_33 : decode cX2_fillScan 33 = .ok (.lshl, 1) := by decide +kernel
theorem dX2_fillScan_34 : decode cX2_fillScan 34 = .ok (.lconst 0, 1) := by decide +kernel
theorem dX2_fillScan_35 : decode cX2_fillScan 35 = .ok (.invokevirtual 91, 3) := by decide +kernel
theorem dX2_fillScan_38 : decode cX2_fillScan 38 = .ok (.aload_n 0, 1) := by decide +kernel
theorem dX2_fillScan_39 : decode cX2_fillScan 39 = .ok (.aload_n 3, 1) := by decide +kernel
theorem dX2_fillScan_40 : decode cX2_fillScan 40 = .ok (.aload_n 2, 1) := by decide +kernel
theorem dX2_fillScan_41 : decode cX2_fillScan 41 = .ok (.getfield 95, 3) := by decide +kernel
theorem dX2_fillScan_44 : decode cX2_fillScan 44 = .ok (.iload 4, 2) := by decide +kernel
theorem dX2_fillScan_46 : decode cX2_fillScan 46 = .ok (.aaload, 1) := by decide +kernel
theorem dX2_fillScan_47 : decode cX2_fillScan 47 = .ok (.aload_n 0, 1) := by decide +kernel
theorem dX2_fillScan_48 : decode cX2_fillScan 48 = .ok (.getfield 21, 3) := by decide +kernel
theorem dX2_fillScan_51 : decode cX2_fillScan 51 = .ok (.invokevirtual 99, 3) := by decide +kernel
theorem dX2_fillScan_54 : decode cX2_fillScan 54 = .ok (.ifCond .ne 5, 3) := by decide +kernel
theorem dX2_fillScan_57 : decode cX2_fillScan 57 = .ok (.iconst 0, 1) := by decide +kernel
theorem dX2_fillScan_58 : decode cX2_fillScan 58 = .ok (.ireturn, 1) := by decide +kernel
theorem dX2_fillScan_59 : decode cX2_fillScan 59 = .ok (.iinc 4 1, 3) := by decide +kernel
theorem dX2_fillScan_62 : decode cX2_fillScan 62 = .ok (.goto (-59), 3) := by decide +kernel
theorem dX2_fillScan_65 : decode cX2_fillScan 65 = .ok (.iconst 1, 1) := by decide +kernel
theorem dX2_fillScan_66 : decode cX2_fillScan 66 = .ok (.ireturn, 1) := by decide +kernel
theorem dX2_fillPick_0 : decode cX2_fillPick 0 = .ok (.iconst 0, 1) := by decide +kernel
theorem dX2_fillPick_1 : decode cX2_fillPick 1 = .ok (.istore 4, 2) := by decide +kernel
theorem dX2_fillPick_3 : decode cX2_fillPick 3 = .ok (.iload 4, 2) := by decide +kernel
theorem dX2_fillPick_5 : decode cX2_fillPick 5 = .ok (.aload_n 2, 1) := by decide +kernel
theorem dX2_fillPick_6 : decode cX2_fillPick 6 = .ok (.getfield 103, 3) := by decide +kernel
theorem dX2_fillPick_9 : decode cX2_fillPick 9 = .ok (.if_icmp .ge 50, 3) := by decide +kernel
theorem dX2_fillPick_12 : decode cX2_fillPick 12 = .ok (.aload_n 2, 1) := by decide +kernel
theorem dX2_fillPick_13 : decode cX2_fillPick 13 = .ok (.getfield 106, 3) := by decide +kernel
theorem dX2_fillPick_16 : decode cX2_fillPick 16 = .ok (.iload 4, 2) := by decide +kernel
theorem dX2_fillPick_18 : decode cX2_fillPick 18 = .ok (.aaload, 1) := by decide +kernel
theorem dX2_fillPick_19 : decode cX2_fillPick 19 = .ok (.astore 5, 2) := by decide +kernel
theorem dX2_fillPick_21 : decode cX2_fillPick 21 = .ok (.aload_n 1, 1) := by decide +kernel
theorem dX2_fillPick_22 : decode cX2_fillPick 22 = .ok (.aload 5, 2) := by decide +kernel
theorem dX2_fillPick_24 : decode cX2_fillPick 24 = .ok (.getfield 109, 3) := by decide +kernel
theorem dX2_fillPick_27 : decode cX2_fillPick 27 = .ok (.invokestatic 112, 3) := by decide +kernel
theorem dX2_fillPick_30 : decode cX2_fillPick 30 = .ok (.ifCond .eq 23, 3) := by decide +kernel
theorem dX2_fillPick_33 : decode cX2_fillPick 33 = .ok (.aload_n 0, 1) := by decide +kernel
theorem dX2_fillPick_34 : decode cX2_fillPick 34 = .ok (.aload_n 3, 1) := by decide +kernel
theorem dX2_fillPick_35 : decode cX2_fillPick 35 = .ok (.aload 5, 2) := by decide +kernel
theorem dX2_fillPick_37 : decode cX2_fillPick 37 = .ok (.getfield 109, 3) := by decide +kernel
theorem dX2_fillPick_40 : decode cX2_fillPick 40 = .ok (.aload 5, 2) := by decide +kernel
theorem dX2_fillPick_42 : decode cX2_fillPick 42 = .ok (.getfield 116, 3) := by decide +kernel
theorem dX2_fillPick_45 : decode cX2_fillPick 45 = .ok (.invokevirtual 99, 3) := by decide +kernel
theorem dX2_fillPick_48 : decode cX2_fillPick 48 = .ok (.ifCond .ne 5, 3) := by decide +kernel
theorem dX2_fillPick_51 : decode cX2_fillPick 51 = .ok (.iconst 0, 1) := by decide +kernel
theorem dX2_fillPick_52 : decode cX2_fillPick 52 = .ok (.ireturn, 1) := by decide +kernel
theorem dX2_fillPick_53 : decode cX2_fillPick 53 = .ok (.iinc 4 1, 3) := by decide +kernel
theorem dX2_fillPick_56 : decode cX2_fillPick 56 = .ok (.goto (-53), 3) := by decide +kernel
theorem dX2_fillPick_59 : decode cX2_fillPick 59 = .ok (.iconst 1, 1) := by decide +kernel
theorem dX2_fillPick_60 : decode cX2_fillPick 60 = .ok (.ireturn, 1) := by decide +kernel
theorem dX2_isPicked_0 : decode cX2_isPicked 0 = .ok (.aload_n 1, 1) := by decide +kernel
theorem dX2_isPicked_1 : decode cX2_isPicked 1 = .ok (.aload_n 0, 1) := by decide +kernel
theorem dX2_isPicked_2 : decode cX2_isPicked 2 = .ok (.getfield 119, 3) := by decide +kernel
theorem dX2_isPicked_5 : decode cX2_isPicked 5 = .ok (.iaload, 1) := by decide +kernel
theorem dX2_isPicked_6 : decode cX2_isPicked 6 = .ok (.istore_n 2, 1) := by decide +kernel
theorem dX2_isPicked_7 : decode cX2_isPicked 7 = .ok (.aload_n 0, 1) := by decide +kernel
theorem dX2_isPicked_8 : decode cX2_isPicked 8 = .ok (.getfield 122, 3) := by decide +kernel
theorem dX2_isPicked_11 : decode cX2_isPicked 11 = .ok (.iconst (-1), 1) := by decide +kernel
theorem dX2_isPicked_12 : decode cX2_isPicked 12 = .ok (.if_icmp .ne 10, 3) := by decide +kernel
theorem dX2_isPicked_15 : decode cX2_isPicked 15 = .ok (.aload_n 0, 1) := by decide +kernel
theorem dX2_isPicked_16 : decode cX2_isPicked 16 = .ok (.getfield 88, 3) := by decide +kernel
theorem dX2_isPicked_19 : decode cX2_isPicked 19 = .ok (.goto 9, 3) := by decide +kernel
theorem dX2_isPicked_22 : decode cX2_isPicked 22 = .ok (.aload_n 1, 1) := by decide +kernel
theorem dX2_isPicked_23 : decode cX2_isPicked 23 = .ok (.aload_n 0, 1) := by decide +kernel
theorem dX2_isPicked_24 : decode cX2_isPicked 24 = .ok (.getfield 122, 3) := by decide +kernel
theorem dX2_isPicked_27 : decode cX2_isPicked 27 = .ok (.iaload, 1) := by decide +kernel
theorem dX2_isPicked_28 : decode cX2_isPicked 28 = .ok (.istore_n 3, 1) := by decide +kernel
theorem dX2_isPicked_29 : decode cX2_isPicked 29 = .ok (.aload_n 0, 1) := by decide +kernel
theorem dX2_isPicked_30 : decode cX2_isPicked 30 = .ok (.getfield 125, 3) := by decide +kernel
theorem dX2_isPicked_33 : decode cX2_isPicked 33 = .ok (.lookupswitch 49 #[(0, 27), (1, 38)], 27) := by decide +kernel
theorem dX2_isPicked_60 : decode cX2_isPicked 60 = .ok (.iload_n 2, 1) := by decide +kernel
theorem dX2_isPicked_61 : decode cX2_isPicked 61 = .ok (.iload_n 3, 1) := by decide +kernel
theorem dX2_isPicked_62 : decode cX2_isPicked 62 = .ok (.if_icmp .ge 7, 3) := by decide +kernel
theorem dX2_isPicked_65 : decode cX2_isPicked 65 = .ok (.iconst 1, 1) := by decide +kernel
theorem dX2_isPicked_66 : decode cX2_isPicked 66 = .ok (.goto 4, 3) := by decide +kernel
theorem dX2_isPicked_69 : decode cX2_isPicked 69 = .ok (.iconst 0, 1) := by decide +kernel
theorem dX2_isPicked_70 : decode cX2_isPicked 70 = .ok (.ireturn, 1) := by decide +kernel
theorem dX2_isPicked_71 : decode cX2_isPicked 71 = .ok (.iload_n 2, 1) := by decide +kernel
theorem dX2_isPicked_72 : decode cX2_isPicked 72 = .ok (.iload_n 3, 1) := by decide +kernel
theorem dX2_isPicked_73 : decode cX2_isPicked 73 = .ok (.if_icmp .ne 7, 3) := by decide +kernel
theorem dX2_isPicked_76 : decode cX2_isPicked 76 = .ok (.iconst 1, 1) := by decide +kernel
theorem dX2_isPicked_77 : decode cX2_isPicked 77 = .ok (.goto 4, 3) := by decide +kernel
theorem dX2_isPicked_80 : decode cX2_isPicked 80 = .ok (.iconst 0, 1) := by decide +kernel
theorem dX2_isPicked_81 : decode cX2_isPicked 81 = .ok (.ireturn, 1) := by decide +kernel
theorem dX2_isPicked_82 : decode cX2_isPicked 82 = .ok (.iload_n 2, 1) := by decide +kernel
theorem dX2_isPicked_83 : decode cX2_isPicked 83 = .ok (.iload_n 3, 1) := by decide +kernel
theorem dX2_isPicked_84 : decode cX2_isPicked 84 = .ok (.if_icmp .le 7, 3) := by decide +kernel
theorem dX2_isPicked_87 : decode cX2_isPicked 87 = .ok (.iconst 1, 1) := by decide +kernel
theorem dX2_isPicked_88 : decode cX2_isPicked 88 = .ok (.goto 4, 3) := by decide +kernel
theorem dX2_isPicked_91 : decode cX2_isPicked 91 = .ok (.iconst 0, 1) := by decide +kernel
theorem dX2_isPicked_92 : decode cX2_isPicked 92 = .ok (.ireturn, 1) := by decide +kernel
theorem dX2_fillCols_0 : decode cX2_fillCols 0 = .ok (.iconst 0, 1) := by decide +kernel
theorem dX2_fillCols_1 : decode cX2_fillCols 1 = .ok (.istore 4, 2) := by decide +kernel
theorem dX2_fillCols_3 : decode cX2_fillCols 3 = .ok (.iload 4, 2) := by decide +kernel
theorem dX2_fillCols_5 : decode cX2_fillCols 5 = .ok (.aload_n 2, 1) := by decide +kernel
theorem dX2_fillCols_6 : decode cX2_fillCols 6 = .ok (.getfield 103, 3) := by decide +kernel
theorem dX2_fillCols_9 : decode cX2_fillCols 9 = .ok (.if_icmp .ge 89, 3) := by decide +kernel
theorem dX2_fillCols_12 : decode cX2_fillCols 12 = .ok (.aload_n 1, 1) := by decide +kernel
theorem dX2_fillCols_13 : decode cX2_fillCols 13 = .ok (.getfield 88, 3) := by decide +kernel
theorem dX2_fillCols_16 : decode cX2_fillCols 16 = .ok (.istore 5, 2) := by decide +kernel
theorem dX2_fillCols_18 : decode cX2_fillCols 18 = .ok (.iconst 0, 1) := by decide +kernel
theorem dX2_fillCols_19 : decode cX2_fillCols 19 = .ok (.istore 6, 2) := by decide +kernel
theorem dX2_fillCols_21 : decode cX2_fillCols 21 = .ok (.iload 6, 2) := by decide +kernel
theorem dX2_fillCols_23 : decode cX2_fillCols 23 = .ok (.aload_n 1, 1) := by decide +kernel
theorem dX2_fillCols_24 : decode cX2_fillCols 24 = .ok (.getfield 39, 3) := by decide +kernel
theorem dX2_fillCols_27 : decode cX2_fillCols 27 = .ok (.if_icmp .ge 41, 3) := by decide +kernel
theorem dX2_fillCols_30 : decode cX2_fillCols 30 = .ok (.aload_n 0, 1) := by decide +kernel
theorem dX2_fillCols_31 : decode cX2_fillCols 31 = .ok (.getfield 35, 3) := by decide +kernel
theorem dX2_fillCols_34 : decode cX2_fillCols 34 = .ok (.iload 6, 2) := by decide +kernel
theorem dX2_fillCols_36 : decode cX2_fillCols 36 = .ok (.aload_n 2, 1) := by decide +kernel
theorem dX2_fillCols_37 : decode cX2_fillCols 37 = .ok (.getfield 106, 3) := by decide +kernel
theorem dX2_fillCols_40 : decode cX2_fillCols 40 = .ok (.iload 4, 2) := by decide +kernel
theorem dX2_fillCols_42 : decode cX2_fillCols 42 = .ok (.aaload, 1) := by decide +kernel
theorem dX2_fillCols_43 : decode cX2_fillCols 43 = .ok (.getfield 109, 3) := by decide +kernel
theorem dX2_fillCols_46 : decode cX2_fillCols 46 = .ok (.iload 5, 2) := by decide +kernel
theorem dX2_fillCols_48 : decode cX2_fillCols 48 = .ok (.bipush 10, 2) := by decide +kernel
theorem dX2_fillCols_50 : decode cX2_fillCols 50 = .ok (.irem, 1) := by decide +kernel
theorem dX2_fillCols_51 : decode cX2_fillCols 51 = .ok (.iconst 1, 1) := by decide +kernel
theorem dX2_fillCols_52 : decode cX2_fillCols 52 = .ok (.isub, 1) := by decide +kernel
theorem dX2_fillCols_53 : decode cX2_fillCols 53 = .ok (.iaload, 1) := by decide +kernel
theorem dX2_fillCols_54 : decode cX2_fillCols 54 = .ok (.iastore, 1) := by decide +kernel
theorem dX2_fillCols_55 : decode cX2_fillCols 55 = .ok (.iload 5, 2) := by decide +kernel
theorem dX2_fillCols_57 : decode cX2_fillCols 57 = .ok (.bipush 10, 2) := by decide +kernel
theorem dX2_fillCols_59 : decode cX2_fillCols 59 = .ok (.idiv, 1) := by decide +kernel
theorem dX2_fillCols_60 : decode cX2_fillCols 60 = .ok (.istore 5, 2) := by decide +kernel
theorem dX2_fillCols_62 : decode cX2_fillCols 62 = .ok (.iinc 6 1, 3) := by decide +kernel
theorem dX2_fillCols_65 : decode cX2_fillCols 65 = .ok (.goto (-44), 3) := by decide +kernel
theorem dX2_fillCols_68 : decode cX2_fillCols 68 = .ok (.aload_n 0, 1) := by decide +kernel
theorem dX2_fillCols_69 : decode cX2_fillCols 69 = .ok (.aload_n 3, 1) := by decide +kernel
theorem dX2_fillCols_70 : decode cX2_fillCols 70 = .ok (.aload_n 0, 1) := by decide +kernel
theorem dX2_fillCols_71 : decode cX2_fillCols 71 = .ok (.getfield 35, 3) := by decide +kernel
theorem dX2_fillCols_74 : decode cX2_fillCols 74 = .ok (.aload_n 2, 1) := by decide +kernel
theorem dX2_fillCols_75 : decode cX2_fillCols 75 = .ok (.getfield 106, 3) := by decide +kernel
theorem dX2_fillCols_78 : decode cX2_fillCols 78 = .ok (.iload 4, 2) := by decide +kernel
theorem dX2_fillCols_80 : decode cX2_fillCols 80 = .ok (.aaload, 1) := by decide +kernel
theorem dX2_fillCols_81 : decode cX2_fillCols 81 = .ok (.getfield 116, 3) := by decide +kernel
theorem dX2_fillCols_84 : decode cX2_fillCols 84 = .ok (.invokevirtual 99, 3) := by decide +kernel
theorem dX2_fillCols_87 : decode cX2_fillCols 87 = .ok (.ifCond .ne 5, 3) := by decide +kernel
theorem dX2_fillCols_90 : decode cX2_fillCols 90 = .ok (.iconst 0, 1) := by decide +kernel
theorem dX2_fillCols_91 : decode cX2_fillCols 91 = .ok (.ireturn, 1) := by decide +kernel
theorem dX2_fillCols_92 : decode cX2_fillCols 92 = .ok (.iinc 4 1, 3) := by decide +kernel
theorem dX2_fillCols_95 : decode cX2_fillCols 95 = .ok (.goto (-92), 3) := by decide +kernel
theorem dX2_fillCols_98 : decode cX2_fillCols 98 = .ok (.iconst 1, 1) := by decide +kernel
theorem dX2_fillCols_99 : decode cX2_fillCols 99 = .ok (.ireturn, 1) := by decide +kernel
theorem dX2_fillJoin_0 : decode cX2_fillJoin 0 = .ok (.iconst 0, 1) := by decide +kernel
theorem dX2_fillJoin_1 : decode cX2_fillJoin 1 = .ok (.istore 5, 2) := by decide +kernel
theorem dX2_fillJoin_3 : decode cX2_fillJoin 3 = .ok (.iload 5, 2) := by decide +kernel
theorem dX2_fillJoin_5 : decode cX2_fillJoin 5 = .ok (.aload_n 2, 1) := by decide +kernel
theorem dX2_fillJoin_6 : decode cX2_fillJoin 6 = .ok (.getfield 103, 3) := by decide +kernel
theorem dX2_fillJoin_9 : decode cX2_fillJoin 9 = .ok (.if_icmp .ge 89, 3) := by decide +kernel
theorem dX2_fillJoin_12 : decode cX2_fillJoin 12 = .ok (.iconst 0, 1) := by decide +kernel
theorem dX2_fillJoin_13 : decode cX2_fillJoin 13 = .ok (.istore 6, 2) := by decide +kernel
theorem dX2_fillJoin_15 : decode cX2_fillJoin 15 = .ok (.iload 6, 2) := by decide +kernel
theorem dX2_fillJoin_17 : decode cX2_fillJoin 17 = .ok (.aload_n 3, 1) := by decide +kernel
theorem dX2_fillJoin_18 : decode cX2_fillJoin 18 = .ok (.getfield 103, 3) := by decide +kernel
theorem dX2_fillJoin_21 : decode cX2_fillJoin 21 = .ok (.if_icmp .ge 71, 3) := by decide +kernel
theorem dX2_fillJoin_24 : decode cX2_fillJoin 24 = .ok (.aload_n 2, 1) := by decide +kernel
theorem dX2_fillJoin_25 : decode cX2_fillJoin 25 = .ok (.getfield 106, 3) := by decide +kernel
theorem dX2_fillJoin_28 : decode cX2_fillJoin 28 = .ok (.iload 5, 2) := by decide +kernel
theorem dX2_fillJoin_30 : decode cX2_fillJoin 30 = .ok (.aaload, 1) := by decide +kernel
theorem dX2_fillJoin_31 : decode cX2_fillJoin 31 = .ok (.getfield 109, 3) := by decide +kernel
theorem dX2_fillJoin_34 : decode cX2_fillJoin 34 = .ok (.aload_n 1, 1) := by decide +kernel
theorem dX2_fillJoin_35 : decode cX2_fillJoin 35 = .ok (.getfield 119, 3) := by decide +kernel
theorem dX2_fillJoin_38 : decode cX2_fillJoin 38 = .ok (.iaload, 1) := by decide +kernel
theorem dX2_fillJoin_39 : decode cX2_fillJoin 39 = .ok (.aload_n 3, 1) := by decide +kernel
theorem dX2_fillJoin_40 : decode cX2_fillJoin 40 = .ok (.getfield 106, 3) := by decide +kernel
theorem dX2_fillJoin_43 : decode cX2_fillJoin 43 = .ok (.iload 6, 2) := by decide +kernel
theorem dX2_fillJoin_45 : decode cX2_fillJoin 45 = .ok (.aaload, 1) := by decide +kernel
theorem dX2_fillJoin_46 : decode cX2_fillJoin 46 = .ok (.getfield 109, 3) := by decide +kernel
theorem dX2_fillJoin_49 : decode cX2_fillJoin 49 = .ok (.aload_n 1, 1) := by decide +kernel
theorem dX2_fillJoin_50 : decode cX2_fillJoin 50 = .ok (.getfield 122, 3) := by decide +kernel
theorem dX2_fillJoin_53 : decode cX2_fillJoin 53 = .ok (.iaload, 1) := by decide +kernel
theorem dX2_fillJoin_54 : decode cX2_fillJoin 54 = .ok (.if_icmp .ne 7, 3) := by decide +kernel
theorem dX2_fillJoin_57 : decode cX2_fillJoin 57 = .ok (.iconst 1, 1) := by decide +kernel
theorem dX2_fillJoin_58 : decode cX2_fillJoin 58 = .ok (.goto 4, 3) := by decide +kernel
theorem dX2_fillJoin_61 : decode cX2_fillJoin 61 = .ok (.iconst 0, 1) := by decide +kernel
theorem dX2_fillJoin_62 : decode cX2_fillJoin 62 = .ok (.istore 7, 2) := by decide +kernel
theorem dX2_fillJoin_64 : decode cX2_fillJoin 64 = .ok (.iload 7, 2) := by decide +kernel
theorem dX2_fillJoin_66 : decode cX2_fillJoin 66 = .ok (.ifCond .eq 20, 3) := by decide +kernel
theorem dX2_fillJoin_69 : decode cX2_fillJoin 69 = .ok (.aload_n 0, 1) := by decide +kernel
theorem dX2_fillJoin_70 : decode cX2_fillJoin 70 = .ok (.aload_n 2, 1) := by decide +kernel
theorem dX2_fillJoin_71 : decode cX2_fillJoin 71 = .ok (.iload 5, 2) := by decide +kernel
theorem dX2_fillJoin_73 : decode cX2_fillJoin 73 = .ok (.aload_n 3, 1) := by decide +kernel
theorem dX2_fillJoin_74 : decode cX2_fillJoin 74 = .ok (.iload 6, 2) := by decide +kernel
theorem dX2_fillJoin_76 : decode cX2_fillJoin 76 = .ok (.aload 4, 2) := by decide +kernel
theorem dX2_fillJoin_78 : decode cX2_fillJoin 78 = .ok (.invokevirtual 128, 3) := by decide +kernel
theorem dX2_fillJoin_81 : decode cX2_fillJoin 81 = .ok (.ifCond .ne 5, 3) := by decide +kernel
theorem dX2_fillJoin_84 : decode cX2_fillJoin 84 = .ok (.iconst 0, 1) := by decide +kernel
theorem dX2_fillJoin_85 : decode cX2_fillJoin 85 = .ok (.ireturn, 1) := by decide +kernel
theorem dX2_fillJoin_86 : decode cX2_fillJoin 86 = .ok (.iinc 6 1, 3) := by decide +kernel
theorem dX2_fillJoin_89 : decode cX2_fillJoin 89 = .ok (.goto (-74), 3) := by decide +kernel
theorem dX2_fillJoin_92 : decode cX2_fillJoin 92 = .ok (.iinc 5 1, 3) := by decide +kernel
theorem dX2_fillJoin_95 : decode cX2_fillJoin 95 = .ok (.goto (-92), 3) := by decide +kernel
theorem dX2_fillJoin_98 : decode cX2_fillJoin 98 = .ok (.iconst 1, 1) := by decide +kernel
theorem dX2_fillJoin_99 : decode cX2_fillJoin 99 = .ok (.ireturn, 1) := by decide +kernel
theorem dX2_putPair_0 : decode cX2_putPair 0 = .ok (.aload_n 1, 1) := by decide +kernel
theorem dX2_putPair_1 : decode cX2_putPair 1 = .ok (.getfield 106, 3) := by decide +kernel
theorem dX2_putPair_4 : decode cX2_putPair 4 = .ok (.iload_n 2, 1) := by decide +kernel
theorem dX2_putPair_5 : decode cX2_putPair 5 = .ok (.aaload, 1) := by decide +kernel
theorem dX2_putPair_6 : decode cX2_putPair 6 = .ok (.getfield 109, 3) := by decide +kernel
theorem dX2_putPair_9 : decode cX2_putPair 9 = .ok (.iconst 0, 1) := by decide +kernel
theorem dX2_putPair_10 : decode cX2_putPair 10 = .ok (.aload_n 0, 1) := by decide +kernel
theorem dX2_putPair_11 : decode cX2_putPair 11 = .ok (.getfield 35, 3) := by decide +kernel
theorem dX2_putPair_14 : decode cX2_putPair 14 = .ok (.iconst 0, 1) := by decide +kernel
theorem dX2_putPair_15 : decode cX2_putPair 15 = .ok (.aload_n 1, 1) := by decide +kernel
theorem dX2_putPair_16 : decode cX2_putPair 16 = .ok (.getfield 132, 3) := by decide +kernel
theorem dX2_putPair_19 : decode cX2_putPair 19 = .ok (.invokestatic 133, 3) := by decide +kernel
theorem dX2_putPair_22 : decode cX2_putPair 22 = .ok (.aload_n 3, 1) := by decide +kernel
theorem dX2_putPair_23 : decode cX2_putPair 23 = .ok (.getfield 106, 3) := by decide +kernel
theorem dX2_putPair_26 : decode cX2_putPair 26 = .ok (.iload 4, 2) := by decide +kernel
theorem dX2_putPair_28 : decode cX2_putPair 28 = .ok (.aaload, 1) := by decide +kernel
theorem dX2_putPair_29 : decode cX2_putPair 29 = .ok (.getfield 109, 3) := by decide +kernel
theorem dX2_putPair_32 : decode cX2_putPair 32 = .ok (.iconst 0, 1) := by decide +kernel
theorem dX2_putPair_33 : decode cX2_putPair 33 = .ok (.aload_n 0, 1) := by decide +kernel
theorem dX2_putPair_34 : decode cX2_putPair 34 = .ok (.getfield 35, 3) := by decide +kernel
theorem dX2_putPair_37 : decode cX2_putPair 37 = .ok (.aload_n 1, 1) := by decide +kernel
theorem dX2_putPair_38 : decode cX2_putPair 38 = .ok (.getfield 132, 3) := by decide +kernel
theorem dX2_putPair_41 : decode cX2_putPair 41 = .ok (.aload_n 3, 1) := by decide +kernel
theorem dX2_putPair_42 : decode cX2_putPair 42 = .ok (.getfield 132, 3) := by decide +kernel
theorem dX2_putPair_45 : decode cX2_putPair 45 = .ok (.invokestatic 133, 3) := by decide +kernel
theorem dX2_putPair_48 : decode cX2_putPair 48 = .ok (.aload_n 0, 1) := by decide +kernel
theorem dX2_putPair_49 : decode cX2_putPair 49 = .ok (.getfield 12, 3) := by decide +kernel
theorem dX2_putPair_52 : decode cX2_putPair 52 = .ok (.aload_n 1, 1) := by decide +kernel
theorem dX2_putPair_53 : decode cX2_putPair 53 = .ok (.getfield 106, 3) := by decide +kernel
theorem dX2_putPair_56 : decode cX2_putPair 56 = .ok (.iload_n 2, 1) := by decide +kernel
theorem dX2_putPair_57 : decode cX2_putPair 57 = .ok (.aaload, 1) := by decide +kernel
theorem dX2_putPair_58 : decode cX2_putPair 58 = .ok (.getfield 116, 3) := by decide +kernel
theorem dX2_putPair_61 : decode cX2_putPair 61 = .ok (.aload_n 3, 1) := by decide +kernel
theorem dX2_putPair_62 : decode cX2_putPair 62 = .ok (.getfield 106, 3) := by decide +kernel
theorem dX2_putPair_65 : decode cX2_putPair 65 = .ok (.iload 4, 2) := by decide +kernel
theorem dX2_putPair_67 : decode cX2_putPair 67 = .ok (.aaload, 1) := by decide +kernel
theorem dX2_putPair_68 : decode cX2_putPair 68 = .ok (.getfield 116, 3) := by decide +kernel
theorem dX2_putPair_71 : decode cX2_putPair 71 = .ok (.aload_n 0, 1) := by decide +kernel
theorem dX2_putPair_72 : decode cX2_putPair 72 = .ok (.getfield 21, 3) := by decide +kernel
theorem dX2_putPair_75 : decode cX2_putPair 75 = .ok (.invokevirtual 139, 3) := by decide +kernel
theorem dX2_putPair_78 : decode cX2_putPair 78 = .ok (.ifCond .eq 24, 3) := by decide +kernel
theorem dX2_putPair_81 : decode cX2_putPair 81 = .ok (.aload_n 0, 1) := by decide +kernel
theorem dX2_putPair_82 : decode cX2_putPair 82 = .ok (.aload 5, 2) := by decide +kernel
theorem dX2_putPair_84 : decode cX2_putPair 84 = .ok (.aload_n 0, 1) := by decide +kernel
theorem dX2_putPair_85 : decode cX2_putPair 85 = .ok (.getfield 35, 3) := by decide +kernel
theorem dX2_putPair_88 : decode cX2_putPair 88 = .ok (.aload_n 0, 1) := by decide +kernel
theorem dX2_putPair_89 : decode cX2_putPair 89 = .ok (.getfield 21, 3) := by decide +kernel
theorem dX2_putPair_92 : decode cX2_putPair 92 = .ok (.invokevirtual 99, 3) := by decide +kernel
theorem dX2_putPair_95 : decode cX2_putPair 95 = .ok (.ifCond .eq 7, 3) := by decide +kernel
theorem dX2_putPair_98 : decode cX2_putPair 98 = .ok (.iconst 1, 1) := by decide +kernel
theorem dX2_putPair_99 : decode cX2_putPair 99 = .ok (.goto 4, 3) := by decide +kernel
theorem dX2_putPair_102 : decode cX2_putPair 102 = .ok (.iconst 0, 1) := by decide +kernel
theorem dX2_putPair_103 : decode cX2_putPair 103 = .ok (.ireturn, 1) := by decide +kernel
theorem dX2_putAll_0 : decode cX2_putAll 0 = .ok (.iconst 0, 1) := by decide +kernel
theorem dX2_putAll_1 : decode cX2_putAll 1 = .ok (.istore_n 3, 1) := by decide +kernel
theorem dX2_putAll_2 : decode cX2_putAll 2 = .ok (.iload_n 3, 1) := by decide +kernel
theorem dX2_putAll_3 : decode cX2_putAll 3 = .ok (.aload_n 1, 1) := by decide +kernel
theorem dX2_putAll_4 : decode cX2_putAll 4 = .ok (.getfield 103, 3) := by decide +kernel
theorem dX2_putAll_7 : decode cX2_putAll 7 = .ok (.if_icmp .ge 37, 3) := by decide +kernel
theorem dX2_putAll_10 : decode cX2_putAll 10 = .ok (.aload_n 0, 1) := by decide +kernel
theorem dX2_putAll_11 : decode cX2_putAll 11 = .ok (.aload_n 2, 1) := by decide +kernel
theorem dX2_putAll_12 : decode cX2_putAll 12 = .ok (.aload_n 1, 1) := by decide +kernel
theorem dX2_putAll_13 : decode cX2_putAll 13 = .ok (.getfield 106, 3) := by decide +kernel
theorem dX2_putAll_16 : decode cX2_putAll 16 = .ok (.iload_n 3, 1) := by decide +kernel
theorem dX2_putAll_17 : decode cX2_putAll 17 = .ok (.aaload, 1) := by decide +kernel
theorem dX2_putAll_18 : decode cX2_putAll 18 = .ok (.getfield 109, 3) := by decide +kernel
theorem dX2_putAll_21 : decode cX2_putAll 21 = .ok (.aload_n 1, 1) := by decide +kernel
theorem dX2_putAll_22 : decode cX2_putAll 22 = .ok (.getfield 106, 3) := by decide +kernel
theorem dX2_putAll_25 : decode cX2_putAll 25 = .ok (.iload_n 3, 1) := by decide +kernel
theorem dX2_putAll_26 : decode cX2_putAll 26 = .ok (.aaload, 1) := by decide +kernel
theorem dX2_putAll_27 : decode cX2_putAll 27 = .ok (.getfield 116, 3) := by decide +kernel
theorem dX2_putAll_30 : decode cX2_putAll 30 = .ok (.invokevirtual 99, 3) := by decide +kernel
theorem dX2_putAll_33 : decode cX2_putAll 33 = .ok (.ifCond .ne 5, 3) := by decide +kernel
theorem dX2_putAll_36 : decode cX2_putAll 36 = .ok (.iconst 0, 1) := by decide +kernel
theorem dX2_putAll_37 : decode cX2_putAll 37 = .ok (.ireturn, 1) := by decide +kernel
theorem dX2_putAll_38 : decode cX2_putAll 38 = .ok (.iinc 3 1, 3) := by decide +kernel
theorem dX2_putAll_41 : decode cX2_putAll 41 = .ok (.goto (-39), 3) := by decide +kernel
theorem dX2_putAll_44 : decode cX2_putAll 44 = .ok (.iconst 1, 1) := by decide +kernel
theorem dX2_putAll_45 : decode cX2_putAll 45 = .ok (.ireturn, 1) := by decide +kernel
theorem dX2_fillMinus_0 : decode cX2_fillMinus 0 = .ok (.iconst 0, 1) := by decide +kernel
theorem dX2_fillMinus_1 : decode cX2_fillMinus 1 = .ok (.istore 4, 2) := by decide +kernel
theorem dX2_fillMinus_3 : decode cX2_fillMinus 3 = .ok (.iload 4, 2) := by decide +kernel
theorem dX2_fillMinus_5 : decode cX2_fillMinus 5 = .ok (.aload_n 1, 1) := by decide +kernel
theorem dX2_fillMinus_6 : decode cX2_fillMinus 6 = .ok (.getfield 103, 3) := by decide +kernel
theorem dX2_fillMinus_9 : decode cX2_fillMinus 9 = .ok (.if_icmp .ge 70, 3) := by decide +kernel
theorem dX2_fillMinus_12 : decode cX2_fillMinus 12 = .ok (.aload_n 1, 1) := by decide +kernel
theorem dX2_fillMinus_13 : decode cX2_fillMinus 13 = .ok (.getfield 106, 3) := by decide +kernel
theorem dX2_fillMinus_16 : decode cX2_fillMinus 16 = .ok (.iload 4, 2) := by decide +kernel
theorem dX2_fillMinus_18 : decode cX2_fillMinus 18 = .ok (.aaload, 1) := by decide +kernel
theorem dX2_fillMinus_19 : decode cX2_fillMinus 19 = .ok (.astore 5, 2) := by decide +kernel
theorem dX2_fillMinus_21 : decode cX2_fillMinus 21 = .ok (.aload_n 2, 1) := by decide +kernel
theorem dX2_fillMinus_22 : decode cX2_fillMinus 22 = .ok (.aload 5, 2) := by decide +kernel
theorem dX2_fillMinus_24 : decode cX2_fillMinus 24 = .ok (.getfield 109, 3) := by decide +kernel
theorem dX2_fillMinus_27 : decode cX2_fillMinus 27 = .ok (.invokevirtual 143, 3) := by decide +kernel
theorem dX2_fillMinus_30 : decode cX2_fillMinus 30 = .ok (.astore 6, 2) := by decide +kernel
theorem dX2_fillMinus_32 : decode cX2_fillMinus 32 = .ok (.aload 6, 2) := by decide +kernel
theorem dX2_fillMinus_34 : decode cX2_fillMinus 34 = .ok (.ifnonnull 21, 3) := by decide +kernel
theorem dX2_fillMinus_37 : decode cX2_fillMinus 37 = .ok (.aload_n 0, 1) := by decide +kernel
theorem dX2_fillMinus_38 : decode cX2_fillMinus 38 = .ok (.aload_n 3, 1) := by decide +kernel
theorem dX2_fillMinus_39 : decode cX2_fillMinus 39 = .ok (.aload 5, 2) := by decide +kernel
theorem dX2_fillMinus_41 : decode cX2_fillMinus 41 = .ok (.getfield 109, 3) := by decide +kernel
theorem dX2_fillMinus_44 : decode cX2_fillMinus 44 = .ok (.aload 5, 2) := by decide +kernel
theorem dX2_fillMinus_46 : decode cX2_fillMinus 46 = .ok (.getfield 116, 3) := by decide +kernel
theorem dX2_fillMinus_49 : decode cX2_fillMinus 49 = .ok (.invokevirtual 99, 3) := by decide +kernel
theorem dX2_fillMinus_52 : decode cX2_fillMinus 52 = .ok (.goto 12, 3) := by decide +kernel
theorem dX2_fillMinus_55 : decode cX2_fillMinus 55 = .ok (.aload_n 0, 1) := by decide +kernel
theorem dX2_fillMinus_56 : decode cX2_fillMinus 56 = .ok (.aload 5, 2) := by decide +kernel
theorem dX2_fillMinus_58 : decode cX2_fillMinus 58 = .ok (.aload 6, 2) := by decide +kernel
theorem dX2_fillMinus_60 : decode cX2_fillMinus 60 = .ok (.aload_n 3, 1) := by decide +kernel
theorem dX2_fillMinus_61 : decode cX2_fillMinus 61 = .ok (.invokevirtual 147, 3) := by decide +kernel
theorem dX2_fillMinus_64 : decode cX2_fillMinus 64 = .ok (.istore 7, 2) := by decide +kernel
theorem dX2_fillMinus_66 : decode cX2_fillMinus 66 = .ok (.iload 7, 2) := by decide +kernel
theorem dX2_fillMinus_68 : decode cX2_fillMinus 68 = .ok (.ifCond .ne 5, 3) := by decide +kernel
theorem dX2_fillMinus_71 : decode cX2_fillMinus 71 = .ok (.iconst 0, 1) := by decide +kernel
theorem dX2_fillMinus_72 : decode cX2_fillMinus 72 = .ok (.ireturn, 1) := by decide +kernel
theorem dX2_fillMinus_73 : decode cX2_fillMinus 73 = .ok (.iinc 4 1, 3) := by decide +kernel
theorem dX2_fillMinus_76 : decode cX2_fillMinus 76 = .ok (.goto (-73), 3) := by decide +kernel
theorem dX2_fillMinus_79 : decode cX2_fillMinus 79 = .ok (.iconst 1, 1) := by decide +kernel
theorem dX2_fillMinus_80 : decode cX2_fillMinus 80 = .ok (.ireturn, 1) := by decide +kernel
theorem dX2_putWithout_0 : decode cX2_putWithout 0 = .ok (.aload_n 0, 1) := by decide +kernel
theorem dX2_putWithout_1 : decode cX2_putWithout 1 = .ok (.getfield 12, 3) := by decide +kernel
theorem dX2_putWithout_4 : decode cX2_putWithout 4 = .ok (.aload_n 2, 1) := by decide +kernel
theorem dX2_putWithout_5 : decode cX2_putWithout 5 = .ok (.getfield 116, 3) := by decide +kernel
theorem dX2_putWithout_8 : decode cX2_putWithout 8 = .ok (.aload_n 0, 1) := by decide +kernel
theorem dX2_putWithout_9 : decode cX2_putWithout 9 = .ok (.getfield 21, 3) := by decide +kernel
theorem dX2_putWithout_12 : decode cX2_putWithout 12 = .ok (.invokevirtual 151, 3) := by decide +kernel
theorem dX2_putWithout_15 : decode cX2_putWithout 15 = .ok (.ifCond .eq 45, 3) := by decide +kernel
theorem dX2_putWithout_18 : decode cX2_putWithout 18 = .ok (.aload_n 0, 1) := by decide +kernel
theorem dX2_putWithout_19 : decode cX2_putWithout 19 = .ok (.getfield 12, 3) := by decide +kernel
theorem dX2_putWithout_22 : decode cX2_putWithout 22 = .ok (.aload_n 1, 1) := by decide +kernel
theorem dX2_putWithout_23 : decode cX2_putWithout 23 = .ok (.getfield 116, 3) := by decide +kernel
theorem dX2_putWithout_26 : decode cX2_putWithout 26 = .ok (.aload_n 0, 1) := by decide +kernel
theorem dX2_putWithout_27 : decode cX2_putWithout 27 = .ok (.getfield 21, 3) := by decide +kernel
theorem dX2_putWithout_30 : decode cX2_putWithout 30 = .ok (.aload_n 0, 1) := by decide +kernel
theorem dX2_putWithout_31 : decode cX2_putWithout 31 = .ok (.getfield 21, 3) := by decide +kernel
theorem dX2_putWithout_34 : decode cX2_putWithout 34 = .ok (.invokevirtual 139, 3) := by decide +kernel
theorem dX2_putWithout_37 : decode cX2_putWithout 37 = .ok (.ifCond .eq 23, 3) := by decide +kernel
theorem dX2_putWithout_40 : decode cX2_putWithout 40 = .ok (.aload_n 0, 1) := by decide +kernel
theorem dX2_putWithout_41 : decode cX2_putWithout 41 = .ok (.aload_n 3, 1) := by decide +kernel
theorem dX2_putWithout_42 : decode cX2_putWithout 42 = .ok (.aload_n 1, 1) := by decide +kernel
theorem dX2_putWithout_43 : decode cX2_putWithout 43 = .ok (.getfield 109, 3) := by decide +kernel
theorem dX2_putWithout_46 : decode cX2_putWithout 46 = .ok (.aload_n 0, 1) := by decide +kernel
theorem dX2_putWithout_47 : decode cX2_putWithout 47 = .ok (.getfield 21, 3) := by decide +kernel
theorem dX2_putWithout_50 : decode cX2_putWithout 50 = .ok (.invokevirtual 99, 3) := by decide +kernel
theorem dX2_putWithout_53 : decode cX2_putWithout 53 = .ok (.ifCond .eq 7, 3) := by decide +kernel
theorem dX2_putWithout_56 : decode cX2_putWithout 56 = .ok (.iconst 1, 1) := by decide +kernel
theorem dX2_putWithout_57 : decode cX2_putWithout 57 = .ok (.goto 4, 3) := by decide +kernel
theorem dX2_putWithout_60 : decode cX2_putWithout 60 = .ok (.iconst 0, 1) := by decide +kernel
theorem dX2_putWithout_61 : decode cX2_putWithout 61 = .ok (.ireturn, 1) := by decide +kernel
theorem dX2_fillFold_0 : decode cX2_fillFold 0 = .ok (.iconst 0, 1) := by decide +kernel
theorem dX2_fillFold_1 : decode cX2_fillFold 1 = .ok (.istore 4, 2) := by decide +kernel
theorem dX2_fillFold_3 : decode cX2_fillFold 3 = .ok (.iload 4, 2) := by decide +kernel
theorem dX2_fillFold_5 : decode cX2_fillFold 5 = .ok (.aload_n 2, 1) := by decide +kernel
theorem dX2_fillFold_6 : decode cX2_fillFold 6 = .ok (.getfield 103, 3) := by decide +kernel
theorem dX2_fillFold_9 : decode cX2_fillFold 9 = .ok (.if_icmp .ge 54, 3) := by decide +kernel
theorem dX2_fillFold_12 : decode cX2_fillFold 12 = .ok (.aload_n 2, 1) := by decide +kernel
theorem dX2_fillFold_13 : decode cX2_fillFold 13 = .ok (.iload 4, 2) := by decide +kernel
theorem dX2_fillFold_15 : decode cX2_fillFold 15 = .ok (.aload_n 1, 1) := by decide +kernel
theorem dX2_fillFold_16 : decode cX2_fillFold 16 = .ok (.getfield 119, 3) := by decide +kernel
theorem dX2_fillFold_19 : decode cX2_fillFold 19 = .ok (.invokestatic 155, 3) := by decide +kernel
theorem dX2_fillFold_22 : decode cX2_fillFold 22 = .ok (.ifCond .eq 35, 3) := by decide +kernel
theorem dX2_fillFold_25 : decode cX2_fillFold 25 = .ok (.aload_n 0, 1) := by decide +kernel
theorem dX2_fillFold_26 : decode cX2_fillFold 26 = .ok (.aload_n 2, 1) := by decide +kernel
theorem dX2_fillFold_27 : decode cX2_fillFold 27 = .ok (.iload 4, 2) := by decide +kernel
theorem dX2_fillFold_29 : decode cX2_fillFold 29 = .ok (.aload_n 1, 1) := by decide +kernel
theorem dX2_fillFold_30 : decode cX2_fillFold 30 = .ok (.getfield 119, 3) := by decide +kernel
theorem dX2_fillFold_33 : decode cX2_fillFold 33 = .ok (.invokevirtual 159, 3) := by decide +kernel
theorem dX2_fillFold_36 : decode cX2_fillFold 36 = .ok (.istore 5, 2) := by decide +kernel
theorem dX2_fillFold_38 : decode cX2_fillFold 38 = .ok (.iload 5, 2) := by decide +kernel
theorem dX2_fillFold_40 : decode cX2_fillFold 40 = .ok (.iconst 4, 1) := by decide +kernel
theorem dX2_fillFold_41 : decode cX2_fillFold 41 = .ok (.if_icmp .gt 14, 3) := by decide +kernel
theorem dX2_fillFold_44 : decode cX2_fillFold 44 = .ok (.aload_n 0, 1) := by decide +kernel
theorem dX2_fillFold_45 : decode cX2_fillFold 45 = .ok (.aload_n 1, 1) := by decide +kernel
theorem dX2_fillFold_46 : decode cX2_fillFold 46 = .ok (.iload 5, 2) := by decide +kernel
theorem dX2_fillFold_48 : decode cX2_fillFold 48 = .ok (.aload_n 3, 1) := by decide +kernel
theorem dX2_fillFold_49 : decode cX2_fillFold 49 = .ok (.invokevirtual 163, 3) := by decide +kernel
theorem dX2_fillFold_52 : decode cX2_fillFold 52 = .ok (.ifCond .ne 5, 3) := by decide +kernel
theorem dX2_fillFold_55 : decode cX2_fillFold 55 = .ok (.iconst 0, 1) := by decide +kernel
theorem dX2_fillFold_56 : decode cX2_fillFold 56 = .ok (.ireturn, 1) := by decide +kernel
theorem dX2_fillFold_57 : decode cX2_fillFold 57 = .ok (.iinc 4 1, 3) := by decide +kernel
theorem dX2_fillFold_60 : decode cX2_fillFold 60 = .ok (.goto (-57), 3) := by decide +kernel
theorem dX2_fillFold_63 : decode cX2_fillFold 63 = .ok (.iconst 1, 1) := by decide +kernel
theorem dX2_fillFold_64 : decode cX2_fillFold 64 = .ok (.ireturn, 1) := by decide +kernel
theorem dX2_isFirstOfGroup_0 : decode cX2_isFirstOfGroup 0 = .ok (.iconst 0, 1) := by decide +kernel
theorem dX2_isFirstOfGroup_1 : decode cX2_isFirstOfGroup 1 = .ok (.istore_n 3, 1) := by decide +kernel
theorem dX2_isFirstOfGroup_2 : decode cX2_isFirstOfGroup 2 = .ok (.iload_n 3, 1) := by decide +kernel
theorem dX2_isFirstOfGroup_3 : decode cX2_isFirstOfGroup 3 = .ok (.iload_n 1, 1) := by decide +kernel
theorem dX2_isFirstOfGroup_4 : decode cX2_isFirstOfGroup 4 = .ok (.if_icmp .ge 36, 3) := by decide +kernel
theorem dX2_isFirstOfGroup_7 : decode cX2_isFirstOfGroup 7 = .ok (.aload_n 0, 1) := by decide +kernel
theorem dX2_isFirstOfGroup_8 : decode cX2_isFirstOfGroup 8 = .ok (.getfield 106, 3) := by decide +kernel
theorem dX2_isFirstOfGroup_11 : decode cX2_isFirstOfGroup 11 = .ok (.iload_n 3, 1) := by decide +kernel
theorem dX2_isFirstOfGroup_12 : decode cX2_isFirstOfGroup 12 = .ok (.aaload, 1) := by decide +kernel
theorem dX2_isFirstOfGroup_13 : decode cX2_isFirstOfGroup 13 = .ok (.getfield 109, 3) := by decide +kernel
theorem dX2_isFirstOfGroup_16 : decode cX2_isFirstOfGroup 16 = .ok (.iload_n 2, 1) := by decide +kernel
theorem dX2_isFirstOfGroup_17 : decode cX2_isFirstOfGroup 17 = .ok (.iaload, 1) := by decide +kernel
theorem dX2_isFirstOfGroup_18 : decode cX2_isFirstOfGroup 18 = .ok (.aload_n 0, 1) := by decide +kernel
theorem dX2_isFirstOfGroup_19 : decode cX2_isFirstOfGroup 19 = .ok (.getfield 106, 3) := by decide +kernel
theorem dX2_isFirstOfGroup_22 : decode cX2_isFirstOfGroup 22 = .ok (.iload_n 1, 1) := by decide +kernel
theorem dX2_isFirstOfGroup_23 : decode cX2_isFirstOfGroup 23 = .ok (.aaload, 1) := by decide +kernel
theorem dX2_isFirstOfGroup_24 : decode cX2_isFirstOfGroup 24 = .ok (.getfield 109, 3) := by decide +kernel
theorem dX2_isFirstOfGroup_27 : decode cX2_isFirstOfGroup 27 = .ok (.iload_n 2, 1) := by decide +kernel
theorem dX2_isFirstOfGroup_28 : decode cX2_isFirstOfGroup 28 = .ok (.iaload, 1) := by decide +kernel
theorem dX2_isFirstOfGroup_29 : decode cX2_isFirstOfGroup 29 = .ok (.if_icmp .ne 5, 3) := by decide +kernel
theorem dX2_isFirstOfGroup_32 : decode cX2_isFirstOfGroup 32 = .ok (.iconst 0, 1) := by decide +kernel
theorem dX2_isFirstOfGroup_33 : decode cX2_isFirstOfGroup 33 = .ok (.ireturn, 1) := by decide +kernel
theorem dX2_isFirstOfGroup_34 : decode cX2_isFirstOfGroup 34 = .ok (.iinc 3 1, 3) := by decide +kernel
theorem dX2_isFirstOfGroup_37 : decode cX2_isFirstOfGroup 37 = .ok (.goto (-35), 3) := by decide +kernel
theorem dX2_isFirstOfGroup_40 : decode cX2_isFirstOfGroup 40 = .ok (.iconst 1, 1) := by decide +kernel
theorem dX2_isFirstOfGroup_41 : decode cX2_isFirstOfGroup 41 = .ok (.ireturn, 1) := by decide +kernel
theorem dX2_gatherGroup_0 : decode cX2_gatherGroup 0 = .ok (.iconst 0, 1) := by decide +kernel
theorem dX2_gatherGroup_1 : decode cX2_gatherGroup 1 = .ok (.istore 4, 2) := by decide +kernel
theorem dX2_gatherGroup_3 : decode cX2_gatherGroup 3 = .ok (.iload_n 2, 1) := by decide +kernel
theorem dX2_gatherGroup_4 : decode cX2_gatherGroup 4 = .ok (.istore 5, 2) := by decide +kernel
theorem dX2_gatherGroup_6 : decode cX2_gatherGroup 6 = .ok (.iload 5, 2) := by decide +kernel
theorem dX2_gatherGroup_8 : decode cX2_gatherGroup 8 = .ok (.aload_n 1, 1) := by decide +kernel
theorem dX2_gatherGroup_9 : decode cX2_gatherGroup 9 = .ok (.getfield 103, 3) := by decide +kernel
theorem dX2_gatherGroup_12 : decode cX2_gatherGroup 12 = .ok (.if_icmp .ge 58, 3) := by decide +kernel
theorem dX2_gatherGroup_15 : decode cX2_gatherGroup 15 = .ok (.aload_n 1, 1) := by decide +kernel
theorem dX2_gatherGroup_16 : decode cX2_gatherGroup 16 = .ok (.getfield 106, 3) := by decide +kernel
theorem dX2_gatherGroup_19 : decode cX2_gatherGroup 19 = .ok (.iload 5, 2) := by decide +kernel
theorem dX2_gatherGroup_21 : decode cX2_gatherGroup 21 = .ok (.aaload, 1) := by decide +kernel
theorem dX2_gatherGroup_22 : decode cX2_gatherGroup 22 = .ok (.getfield 109, 3) := by decide +kernel
theorem dX2_gatherGroup_25 : decode cX2_gatherGroup 25 = .ok (.iload_n 3, 1) := by decide +kernel
theorem dX2_gatherGroup_26 : decode cX2_gatherGroup 26 = .ok (.iaload, 1) := by decide +kernel
theorem dX2_gatherGroup_27 : decode cX2_gatherGroup 27 = .ok (.aload_n 1, 1) := by decide +kernel
theorem dX2_gatherGroup_28 : decode cX2_gatherGroup 28 = .ok (.getfield 106, 3) := by decide +kernel
theorem dX2_gatherGroup_31 : decode cX2_gatherGroup 31 = .ok (.iload_n 2, 1) := by decide +kernel
theorem dX2_gatherGroup_32 : decode cX2_gatherGroup 32 = .ok (.aaload, 1) := by decide +kernel
theorem dX2_gatherGroup_33 : decode cX2_gatherGroup 33 = .ok (.getfield 109, 3) := by decide +kernel
theorem dX2_gatherGroup_36 : decode cX2_gatherGroup 36 = .ok (.iload_n 3, 1) := by decide +kernel
theorem dX2_gatherGroup_37 : decode cX2_gatherGroup 37 = .ok (.iaload, 1) := by decide +kernel
theorem dX2_gatherGroup_38 : decode cX2_gatherGroup 38 = .ok (.if_icmp .ne 26, 3) := by decide +kernel
theorem dX2_gatherGroup_41 : decode cX2_gatherGroup 41 = .ok (.iload 4, 2) := by decide +kernel
theorem dX2_gatherGroup_43 : decode cX2_gatherGroup 43 = .ok (.iconst 4, 1) := by decide +kernel
theorem dX2_gatherGroup_44 : decode cX2_gatherGroup 44 = .ok (.if_icmp .ge 17, 3) := by decide +kernel
theorem dX2_gatherGroup_47 : decode cX2_gatherGroup 47 = .ok (.aload_n 0, 1) := by decide +kernel
theorem dX2_gatherGroup_48 : decode cX2_gatherGroup 48 = .ok (.getfield 31, 3) := by decide +kernel
theorem dX2_gatherGroup_51 : decode cX2_gatherGroup 51 = .ok (.iload 4, 2) := by decide +kernel
theorem dX2_gatherGroup_53 : decode cX2_gatherGroup 53 = .ok (.aload_n 1, 1) := by decide +kernel
theorem dX2_gatherGroup_54 : decode cX2_gatherGroup 54 = .ok (.getfield 106, 3) := by decide +kernel
theorem dX2_gatherGroup_57 : decode cX2_gatherGroup 57 = .ok (.iload 5, 2) := by decide +kernel
theorem dX2_gatherGroup_59 : decode cX2_gatherGroup 59 = .ok (.aaload, 1) := by decide +kernel
theorem dX2_gatherGroup_60 : decode cX2_gatherGroup 60 = .ok (.aastore, 1) := by decide +kernel
theorem dX2_gatherGroup_61 : decode cX2_gatherGroup 61 = .ok (.iinc 4 1, 3) := by decide +kernel
theorem dX2_gatherGroup_64 : decode cX2_gatherGroup 64 = .ok (.iinc 5 1, 3) := by decide +kernel
theorem dX2_gatherGroup_67 : decode cX2_gatherGroup 67 = .ok (.goto (-61), 3) := by decide +kernel
theorem dX2_gatherGroup_70 : decode cX2_gatherGroup 70 = .ok (.iload 4, 2) := by decide +kernel
theorem dX2_gatherGroup_72 : decode cX2_gatherGroup 72 = .ok (.ireturn, 1) := by decide +kernel
theorem dX2_putGroup_0 : decode cX2_putGroup 0 = .ok (.aload_n 0, 1) := by decide +kernel
theorem dX2_putGroup_1 : decode cX2_putGroup 1 = .ok (.iload_n 2, 1) := by decide +kernel
theorem dX2_putGroup_2 : decode cX2_putGroup 2 = .ok (.invokevirtual 167, 3) := by decide +kernel
theorem dX2_putGroup_5 : decode cX2_putGroup 5 = .ok (.ifCond .ne 5, 3) := by decide +kernel
theorem dX2_putGroup_8 : decode cX2_putGroup 8 = .ok (.iconst 0, 1) := by decide +kernel
theorem dX2_putGroup_9 : decode cX2_putGroup 9 = .ok (.ireturn, 1) := by decide +kernel
theorem dX2_putGroup_10 : decode cX2_putGroup 10 = .ok (.iconst 1, 1) := by decide +kernel
theorem dX2_putGroup_11 : decode cX2_putGroup 11 = .ok (.istore 4, 2) := by decide +kernel
theorem dX2_putGroup_13 : decode cX2_putGroup 13 = .ok (.iload 4, 2) := by decide +kernel
theorem dX2_putGroup_15 : decode cX2_putGroup 15 = .ok (.iconst 1, 1) := by decide +kernel
theorem dX2_putGroup_16 : decode cX2_putGroup 16 = .ok (.iload_n 2, 1) := by decide +kernel
theorem dX2_putGroup_17 : decode cX2_putGroup 17 = .ok (.ishl, 1) := by decide +kernel
theorem dX2_putGroup_18 : decode cX2_putGroup 18 = .ok (.if_icmp .ge 71, 3) := by decide +kernel
theorem dX2_putGroup_21 : decode cX2_putGroup 21 = .ok (.aload_n 0, 1) := by decide +kernel
theorem dX2_putGroup_22 : decode cX2_putGroup 22 = .ok (.getfield 35, 3) := by decide +kernel
theorem dX2_putGroup_25 : decode cX2_putGroup 25 = .ok (.iconst 0, 1) := by decide +kernel
theorem dX2_putGroup_26 : decode cX2_putGroup 26 = .ok (.aload_n 0, 1) := by decide +kernel
theorem dX2_putGroup_27 : decode cX2_putGroup 27 = .ok (.getfield 31, 3) := by decide +kernel
theorem dX2_putGroup_30 : decode cX2_putGroup 30 = .ok (.iconst 0, 1) := by decide +kernel
theorem dX2_putGroup_31 : decode cX2_putGroup 31 = .ok (.aaload, 1) := by decide +kernel
theorem dX2_putGroup_32 : decode cX2_putGroup 32 = .ok (.getfield 109, 3) := by decide +kernel
theorem dX2_putGroup_35 : decode cX2_putGroup 35 = .ok (.aload_n 1, 1) := by decide +kernel
theorem dX2_putGroup_36 : decode cX2_putGroup 36 = .ok (.getfield 119, 3) := by decide +kernel
theorem dX2_putGroup_39 : decode cX2_putGroup 39 = .ok (.iaload, 1) := by decide +kernel
theorem dX2_putGroup_40 : decode cX2_putGroup 40 = .ok (.iastore, 1) := by decide +kernel
theorem dX2_putGroup_41 : decode cX2_putGroup 41 = .ok (.aload_n 0, 1) := by decide +kernel
theorem dX2_putGroup_42 : decode cX2_putGroup 42 = .ok (.getfield 35, 3) := by decide +kernel
theorem dX2_putGroup_45 : decode cX2_putGroup 45 = .ok (.iconst 1, 1) := by decide +kernel
theorem dX2_putGroup_46 : decode cX2_putGroup 46 = .ok (.aload_n 0, 1) := by decide +kernel
theorem dX2_putGroup_47 : decode cX2_putGroup 47 = .ok (.aload_n 1, 1) := by decide +kernel
theorem dX2_putGroup_48 : decode cX2_putGroup 48 = .ok (.iload 4, 2) := by decide +kernel
theorem dX2_putGroup_50 : decode cX2_putGroup 50 = .ok (.iload_n 2, 1) := by decide +kernel
theorem dX2_putGroup_51 : decode cX2_putGroup 51 = .ok (.invokevirtual 171, 3) := by decide +kernel
theorem dX2_putGroup_54 : decode cX2_putGroup 54 = .ok (.iastore, 1) := by decide +kernel
theorem dX2_putGroup_55 : decode cX2_putGroup 55 = .ok (.aload_n 0, 1) := by decide +kernel
theorem dX2_putGroup_56 : decode cX2_putGroup 56 = .ok (.iload 4, 2) := by decide +kernel
theorem dX2_putGroup_58 : decode cX2_putGroup 58 = .ok (.iload_n 2, 1) := by decide +kernel
theorem dX2_putGroup_59 : decode cX2_putGroup 59 = .ok (.invokevirtual 175, 3) := by decide +kernel
theorem dX2_putGroup_62 : decode cX2_putGroup 62 = .ok (.ifCond .eq 19, 3) := by decide +kernel
theorem dX2_putGroup_65 : decode cX2_putGroup 65 = .ok (.aload_n 0, 1) := by decide +kernel
theorem dX2_putGroup_66 : decode cX2_putGroup 66 = .ok (.aload_n 3, 1) := by decide +kernel
theorem dX2_putGroup_67 : decode cX2_putGroup 67 = .ok (.aload_n 0, 1) := by decide +kernel
theorem dX2_putGroup_68 : decode cX2_putGroup 68 = .ok (.getfield 35, 3) := by decide +kernel
theorem dX2_putGroup_71 : decode cX2_putGroup 71 = .ok (.aload_n 0, 1) := by decide +kernel
theorem dX2_putGroup_72 : decode cX2_putGroup 72 = .ok (.getfield 21, 3) := by decide +kernel
theorem dX2_putGroup_75 : decode cX2_putGroup 75 = .ok (.invokevirtual 99, 3) := by decide +kernel
theorem dX2_putGroup_78 : decode cX2_putGroup 78 = .ok (.ifCond .ne 5, 3) := by decide +kernel
theorem dX2_putGroup_81 : decode cX2_putGroup 81 = .ok (.iconst 0, 1) := by decide +kernel
theorem dX2_putGroup_82 : decode cX2_putGroup 82 = .ok (.ireturn, 1) := by decide +kernel
theorem dX2_putGroup_83 : decode cX2_putGroup 83 = .ok (.iinc 4 1, 3) := by decide +kernel
theorem dX2_putGroup_86 : decode cX2_putGroup 86 = .ok (.goto (-73), 3) := by decide +kernel
theorem dX2_putGroup_89 : decode cX2_putGroup 89 = .ok (.iconst 1, 1) := by decide +kernel
theorem dX2_putGroup_90 : decode cX2_putGroup 90 = .ok (.ireturn, 1) := by decide +kernel
theorem dX2_turnGroup_0 : decode cX2_turnGroup 0 = .ok (.iconst 0, 1) := by decide +kernel
theorem dX2_turnGroup_1 : decode cX2_turnGroup 1 = .ok (.istore_n 2, 1) := by decide +kernel
theorem dX2_turnGroup_2 : decode cX2_turnGroup 2 = .ok (.iload_n 2, 1) := by decide +kernel
theorem dX2_turnGroup_3 : decode cX2_turnGroup 3 = .ok (.iload_n 1, 1) := by decide +kernel
theorem dX2_turnGroup_4 : decode cX2_turnGroup 4 = .ok (.if_icmp .ge 41, 3) := by decide +kernel
theorem dX2_turnGroup_7 : decode cX2_turnGroup 7 = .ok (.iload_n 1, 1) := by decide +kernel
theorem dX2_turnGroup_8 : decode cX2_turnGroup 8 = .ok (.iconst 1, 1) := by decide +kernel
theorem dX2_turnGroup_9 : decode cX2_turnGroup 9 = .ok (.if_icmp .le 36, 3) := by decide +kernel
theorem dX2_turnGroup_12 : decode cX2_turnGroup 12 = .ok (.aload_n 0, 1) := by decide +kernel
theorem dX2_turnGroup_13 : decode cX2_turnGroup 13 = .ok (.getfield 12, 3) := by decide +kernel
theorem dX2_turnGroup_16 : decode cX2_turnGroup 16 = .ok (.aload_n 0, 1) := by decide +kernel
theorem dX2_turnGroup_17 : decode cX2_turnGroup 17 = .ok (.getfield 31, 3) := by decide +kernel
theorem dX2_turnGroup_20 : decode cX2_turnGroup 20 = .ok (.iload_n 2, 1) := by decide +kernel
theorem dX2_turnGroup_21 : decode cX2_turnGroup 21 = .ok (.aaload, 1) := by decide +kernel
theorem dX2_turnGroup_22 : decode cX2_turnGroup 22 = .ok (.getfield 116, 3) := by decide +kernel
theorem dX2_turnGroup_25 : decode cX2_turnGroup 25 = .ok (.aload_n 0, 1) := by decide +kernel
theorem dX2_turnGroup_26 : decode cX2_turnGroup 26 = .ok (.getfield 25, 3) := by decide +kernel
theorem dX2_turnGroup_29 : decode cX2_turnGroup 29 = .ok (.iload_n 2, 1) := by decide +kernel
theorem dX2_turnGroup_30 : decode cX2_turnGroup 30 = .ok (.aaload, 1) := by decide +kernel
theorem dX2_turnGroup_31 : decode cX2_turnGroup 31 = .ok (.invokevirtual 151, 3) := by decide +kernel
theorem dX2_turnGroup_34 : decode cX2_turnGroup 34 = .ok (.ifCond .ne 5, 3) := by decide +kernel
theorem dX2_turnGroup_37 : decode cX2_turnGroup 37 = .ok (.iconst 0, 1) := by decide +kernel
theorem dX2_turnGroup_38 : decode cX2_turnGroup 38 = .ok (.ireturn, 1) := by decide +kernel
theorem dX2_turnGroup_39 : decode cX2_turnGroup 39 = .ok (.iinc 2 1, 3) := by decide +kernel
theorem dX2_turnGroup_42 : decode cX2_turnGroup 42 = .ok (.goto (-40), 3) := by decide +kernel
theorem dX2_turnGroup_45 : decode cX2_turnGroup 45 = .ok (.iconst 1, 1) := by decide +kernel
theorem dX2_turnGroup_46 : decode cX2_turnGroup 46 = .ok (.ireturn, 1) := by decide +kernel
theorem dX2_makeWaysOfSet_0 : decode cX2_makeWaysOfSet 0 = .ok (.aload_n 0, 1) := by decide +kernel
theorem dX2_makeWaysOfSet_1 : decode cX2_makeWaysOfSet 1 = .ok (.getfield 21, 3) := by decide +kernel
theorem dX2_makeWaysOfSet_4 : decode cX2_makeWaysOfSet 4 = .ok (.invokevirtual 179, 3) := by decide +kernel
theorem dX2_makeWaysOfSet_7 : decode cX2_makeWaysOfSet 7 = .ok (.iconst 0, 1) := by decide +kernel
theorem dX2_makeWaysOfSet_8 : decode cX2_makeWaysOfSet 8 = .ok (.istore_n 3, 1) := by decide +kernel
theorem dX2_makeWaysOfSet_9 : decode cX2_makeWaysOfSet 9 = .ok (.iload_n 3, 1) := by decide +kernel
theorem dX2_makeWaysOfSet_10 : decode cX2_makeWaysOfSet 10 = .ok (.iload_n 2, 1) := by decide +kernel
theorem dX2_makeWaysOfSet_11 : decode cX2_makeWaysOfSet 11 = .ok (.if_icmp .ge 59, 3) := by decide +kernel
theorem dX2_makeWaysOfSet_14 : decode cX2_makeWaysOfSet 14 = .ok (.iload_n 1, 1) := by decide +kernel
theorem dX2_makeWaysOfSet_15 : decode cX2_makeWaysOfSet 15 = .ok (.iload_n 3, 1) := by decide +kernel
theorem dX2_makeWaysOfSet_16 : decode cX2_makeWaysOfSet 16 = .ok (.ishr, 1) := by decide +kernel
theorem dX2_makeWaysOfSet_17 : decode cX2_makeWaysOfSet 17 = .ok (.iconst 1, 1) := by decide +kernel
theorem dX2_makeWaysOfSet_18 : decode cX2_makeWaysOfSet 18 = .ok (.iand, 1) := by decide +kernel
theorem dX2_makeWaysOfSet_19 : decode cX2_makeWaysOfSet 19 = .ok (.ifCond .eq 15, 3) := by decide +kernel
theorem dX2_makeWaysOfSet_22 : decode cX2_makeWaysOfSet 22 = .ok (.aload_n 0, 1) := by decide +kernel
theorem dX2_makeWaysOfSet_23 : decode cX2_makeWaysOfSet 23 = .ok (.getfield 31, 3) := by decide +kernel
theorem dX2_makeWaysOfSet_26 : decode cX2_makeWaysOfSet 26 = .ok (.iload_n 3, 1) := by decide +kernel
theorem dX2_makeWaysOfSet_27 : decode cX2_makeWaysOfSet 27 = .ok (.aaload, 1) := by decide +kernel
theorem dX2_makeWaysOfSet_28 : decode cX2_makeWaysOfSet 28 = .ok (.getfield 116, 3) := by decide +kernel
theorem dX2_makeWaysOfSet_31 : decode cX2_makeWaysOfSet 31 = .ok (.goto 9, 3) := by decide +kernel
theorem dX2_makeWaysOfSet_34 : decode cX2_makeWaysOfSet 34 = .ok (.aload_n 0, 1) := by decide +kernel
theorem dX2_makeWaysOfSet_35 : decode cX2_makeWaysOfSet 35 = .ok (.getfield 25, 3) := by decide +kernel
theorem dX2_makeWaysOfSet_38 : decode cX2_makeWaysOfSet 38 = .ok (.iload_n 3, 1) := by decide +kernel
theorem dX2_makeWaysOfSet_39 : decode cX2_makeWaysOfSet 39 = .ok (.aaload, 1) := by decide +kernel
theorem dX2_makeWaysOfSet_40 : decode cX2_makeWaysOfSet 40 = .ok (.astore 4, 2) := by decide +kernel
theorem dX2_makeWaysOfSet_42 : decode cX2_makeWaysOfSet 42 = .ok (.aload_n 0, 1) := by decide +kernel
theorem dX2_makeWaysOfSet_43 : decode cX2_makeWaysOfSet 43 = .ok (.getfield 12, 3) := by decide +kernel
theorem dX2_makeWaysOfSet_46 : decode cX2_makeWaysOfSet 46 = .ok (.aload_n 0, 1) := by decide +kernel
theorem dX2_makeWaysOfSet_47 : decode cX2_makeWaysOfSet 47 = .ok (.getfield 21, 3) := by decide +kernel
theorem dX2_makeWaysOfSet_50 : decode cX2_makeWaysOfSet 50 = .ok (.aload 4, 2) := by decide +kernel
theorem dX2_makeWaysOfSet_52 : decode cX2_makeWaysOfSet 52 = .ok (.aload_n 0, 1) := by decide +kernel
theorem dX2_makeWaysOfSet_53 : decode cX2_makeWaysOfSet 53 = .ok (.getfield 21, 3) := by decide +kernel
theorem dX2_makeWaysOfSet_56 : decode cX2_makeWaysOfSet 56 = .ok (.invokevirtual 139, 3) := by decide +kernel
theorem dX2_makeWaysOfSet_59 : decode cX2_makeWaysOfSet 59 = .ok (.ifCond .ne 5, 3) := by decide +kernel
theorem dX2_makeWaysOfSet_62 : decode cX2_makeWaysOfSet 62 = .ok (.iconst 0, 1) := by decide +kernel
theorem dX2_makeWaysOfSet_63 : decode cX2_makeWaysOfSet 63 = .ok (.ireturn, 1) := by decide +kernel
theorem dX2_makeWaysOfSet_64 : decode cX2_makeWaysOfSet 64 = .ok (.iinc 3 1, 3) := by decide +kernel
theorem dX2_makeWaysOfSet_67 : decode cX2_makeWaysOfSet 67 = .ok (.goto (-58), 3) := by decide +kernel
theorem dX2_makeWaysOfSet_70 : decode cX2_makeWaysOfSet 70 = .ok (.iconst 1, 1) := by decide +kernel
theorem dX2_makeWaysOfSet_71 : decode cX2_makeWaysOfSet 71 = .ok (.ireturn, 1) := by decide +kernel
theorem dX2_foldedNumber_0 : decode cX2_foldedNumber 0 = .ok (.iconst 0, 1) := by decide +kernel
theorem dX2_foldedNumber_1 : decode cX2_foldedNumber 1 = .ok (.istore 4, 2) := by decide +kernel
theorem dX2_foldedNumber_3 : decode cX2_foldedNumber 3 = .ok (.iconst 0, 1) := by decide +kernel
theorem dX2_foldedNumber_4 : decode cX2_foldedNumber 4 = .ok (.istore 5, 2) := by decide +kernel
theorem dX2_foldedNumber_6 : decode cX2_foldedNumber 6 = .ok (.iconst 0, 1) := by decide +kernel
theorem dX2_foldedNumber_7 : decode cX2_foldedNumber 7 = .ok (.istore 6, 2) := by decide +kernel
theorem dX2_foldedNumber_9 : decode cX2_foldedNumber 9 = .ok (.iconst 0, 1) := by decide +kernel
theorem dX2_foldedNumber_10 : decode cX2_foldedNumber 10 = .ok (.istore 7, 2) := by decide +kernel
theorem dX2_foldedNumber_12 : decode cX2_foldedNumber 12 = .ok (.iconst 0, 1) := by decide +kernel
theorem dX2_foldedNumber_13 : decode cX2_foldedNumber 13 = .ok (.istore 8, 2) := by decide +kernel
theorem dX2_foldedNumber_15 : decode cX2_foldedNumber 15 = .ok (.iload 8, 2) := by decide +kernel
theorem dX2_foldedNumber_17 : decode cX2_foldedNumber 17 = .ok (.iload_n 3, 1) := by decide +kernel
theorem dX2_foldedNumber_18 : decode cX2_foldedNumber 18 = .ok (.if_icmp .ge 83, 3) := by decide +kernel
theorem dX2_foldedNumber_21 : decode cX2_foldedNumber 21 = .ok (.iload_n 2, 1) := by decide +kernel
theorem dX2_foldedNumber_22 : decode cX2_foldedNumber 22 = .ok (.iload 8, 2) := by decide +kernel
theorem dX2_foldedNumber_24 : decode cX2_foldedNumber 24 = .ok (.ishr, 1) := by decide +kernel
theorem dX2_foldedNumber_25 : decode cX2_foldedNumber 25 = .ok (.iconst 1, 1) := by decide +kernel
theorem dX2_foldedNumber_26 : decode cX2_foldedNumber 26 = .ok (.iand, 1) := by decide +kernel
theorem dX2_foldedNumber_27 : decode cX2_foldedNumber 27 = .ok (.ifCond .eq 68, 3) := by decide +kernel
theorem dX2_foldedNumber_30 : decode cX2_foldedNumber 30 = .ok (.aload_n 0, 1) := by decide +kernel
theorem dX2_foldedNumber_31 : decode cX2_foldedNumber 31 = .ok (.getfield 31, 3) := by decide +kernel
theorem dX2_foldedNumber_34 : decode cX2_foldedNumber 34 = .ok (.iload 8, 2) := by decide +kernel
theorem dX2_foldedNumber_36 : decode cX2_foldedNumber 36 = .ok (.aaload, 1) := by decide +kernel
theorem dX2_foldedNumber_37 : decode cX2_foldedNumber 37 = .ok (.getfield 109, 3) := by decide +kernel
theorem dX2_foldedNumber_40 : decode cX2_foldedNumber 40 = .ok (.aload_n 1, 1) := by decide +kernel
theorem dX2_foldedNumber_41 : decode cX2_foldedNumber 41 = .ok (.getfield 122, 3) := by decide +kernel
theorem dX2_foldedNumber_44 : decode cX2_foldedNumber 44 = .ok (.iaload, 1) := by decide +kernel
theorem dX2_foldedNumber_45 : decode cX2_foldedNumber 45 = .ok (.istore 9, 2) := by decide +kernel
theorem dX2_foldedNumber_47 : decode cX2_foldedNumber 47 = .ok (.iload 5, 2) := by decide +kernel
theorem dX2_foldedNumber_49 : decode cX2_foldedNumber 49 = .ok (.iload 9, 2) := by decide +kernel
theorem dX2_foldedNumber_51 : decode cX2_foldedNumber 51 = .ok (.iadd, 1) := by decide +kernel
theorem dX2_foldedNumber_52 : decode cX2_foldedNumber 52 = .ok (.istore 5, 2) := by decide +kernel
theorem dX2_foldedNumber_54 : decode cX2_foldedNumber 54 = .ok (.iload 4, 2) := by decide +kernel
theorem dX2_foldedNumber_56 : decode cX2_foldedNumber 56 = .ok (.ifCond .ne 8, 3) := by decide +kernel
theorem dX2_foldedNumber_59 : decode cX2_foldedNumber 59 = .ok (.iload 9, 2) := by decide +kernel
theorem dX2_foldedNumber_61 : decode cX2_foldedNumber 61 = .ok (.goto 10, 3) := by decide +kernel
theorem dX2_foldedNumber_64 : decode cX2_foldedNumber 64 = .ok (.iload 6, 2) := by decide +kernel
theorem dX2_foldedNumber_66 : decode cX2_foldedNumber 66 = .ok (.iload 9, 2) := by decide +kernel
theorem dX2_foldedNumber_68 : decode cX2_foldedNumber 68 = .ok (.invokestatic 182, 3) := by decide +kernel
theorem dX2_foldedNumber_71 : decode cX2_foldedNumber 71 = .ok (.istore 6, 2) := by decide +kernel
theorem dX2_foldedNumber_73 : decode cX2_foldedNumber 73 = .ok (.iload 4, 2) := by decide +kernel
theorem dX2_foldedNumber_75 : decode cX2_foldedNumber 75 = .ok (.ifCond .ne 8, 3) := by decide +kernel
theorem dX2_foldedNumber_78 : decode cX2_foldedNumber 78 = .ok (.iload 9, 2) := by decide +kernel
theorem dX2_foldedNumber_80 : decode cX2_foldedNumber 80 = .ok (.goto 10, 3) := by decide +kernel
theorem dX2_foldedNumber_83 : decode cX2_foldedNumber 83 = .ok (.iload 7, 2) := by decide +kernel
theorem dX2_foldedNumber_85 : decode cX2_foldedNumber 85 = .ok (.iload 9, 2) := by decide +kernel
theorem dX2_foldedNumber_87 : decode cX2_foldedNumber 87 = .ok (.invokestatic 188, 3) := by decide +kernel
theorem dX2_foldedNumber_90 : decode cX2_foldedNumber 90 = .ok (.istore 7, 2) := by decide +kernel
theorem dX2_foldedNumber_92 : decode cX2_foldedNumber 92 = .ok (.iinc 4 1, 3) := by decide +kernel
theorem dX2_foldedNumber_95 : decode cX2_foldedNumber 95 = .ok (.iinc 8 1, 3) := by decide +kernel
theorem dX2_foldedNumber_98 : decode cX2_foldedNumber 98 = .ok (.goto (-83), 3) := by decide +kernel
theorem dX2_foldedNumber_101 : decode cX2_foldedNumber 101 = .ok (.aload_n 1, 1) := by decide +kernel
theorem dX2_foldedNumber_102 : decode cX2_foldedNumber 102 = .ok (.getfield 125, 3) := by decide +kernel
theorem dX2_foldedNumber_105 : decode cX2_foldedNumber 105 = .ok (.tableswitch 36 0 2 #[27, 30, 33], 27) := by decide +kernel
theorem dX2_foldedNumber_132 : decode cX2_foldedNumber 132 = .ok (.iload 4, 2) := by decide +kernel
theorem dX2_foldedNumber_134 : decode cX2_foldedNumber 134 = .ok (.ireturn, 1) := by decide +kernel
theorem dX2_foldedNumber_135 : decode cX2_foldedNumber 135 = .ok (.iload 5, 2) := by decide +kernel
theorem dX2_foldedNumber_137 : decode cX2_foldedNumber 137 = .ok (.ireturn, 1) := by decide +kernel
theorem dX2_foldedNumber_138 : decode cX2_foldedNumber 138 = .ok (.iload 6, 2) := by decide +kernel
theorem dX2_foldedNumber_140 : decode cX2_foldedNumber 140 = .ok (.ireturn, 1) := by decide +kernel
theorem dX2_foldedNumber_141 : decode cX2_foldedNumber 141 = .ok (.iload 7, 2) := by decide +kernel
theorem dX2_foldedNumber_143 : decode cX2_foldedNumber 143 = .ok (.ireturn, 1) := by decide +kernel
theorem dX2_put_0 : decode cX2_put 0 = .ok (.aload_n 3, 1) := by decide +kernel
theorem dX2_put_1 : decode cX2_put 1 = .ok (.getfield 191, 3) := by decide +kernel
theorem dX2_put_4 : decode cX2_put 4 = .ok (.ifCond .ne 5, 3) := by decide +kernel
theorem dX2_put_7 : decode cX2_put 7 = .ok (.iconst 1, 1) := by decide +kernel
theorem dX2_put_8 : decode cX2_put 8 = .ok (.ireturn, 1) := by decide +kernel
theorem dX2_put_9 : decode cX2_put 9 = .ok (.aload_n 1, 1) := by decide +kernel
theorem dX2_put_10 : decode cX2_put 10 = .ok (.aload_n 2, 1) := by decide +kernel
theorem dX2_put_11 : decode cX2_put 11 = .ok (.invokevirtual 192, 3) := by decide +kernel
theorem dX2_put_14 : decode cX2_put 14 = .ok (.astore 4, 2) := by decide +kernel
theorem dX2_put_16 : decode cX2_put 16 = .ok (.aload 4, 2) := by decide +kernel
theorem dX2_put_18 : decode cX2_put 18 = .ok (.ifnull 28, 3) := by decide +kernel
theorem dX2_put_21 : decode cX2_put 21 = .ok (.aload_n 0, 1) := by decide +kernel
theorem dX2_put_22 : decode cX2_put 22 = .ok (.getfield 12, 3) := by decide +kernel
theorem dX2_put_25 : decode cX2_put 25 = .ok (.aload 4, 2) := by decide +kernel
theorem dX2_put_27 : decode cX2_put 27 = .ok (.getfield 116, 3) := by decide +kernel
theorem dX2_put_30 : decode cX2_put 30 = .ok (.aload_n 3, 1) := by decide +kernel
theorem dX2_put_31 : decode cX2_put 31 = .ok (.aload 4, 2) := by decide +kernel
theorem dX2_put_33 : decode cX2_put 33 = .ok (.getfield 116, 3) := by decide +kernel
theorem dX2_put_36 : decode cX2_put 36 = .ok (.invokevirtual 195, 3) := by decide +kernel
theorem dX2_put_39 : decode cX2_put 39 = .ok (.ifCond .eq 7, 3) := by decide +kernel
theorem dX2_put_42 : decode cX2_put 42 = .ok (.iconst 1, 1) := by decide +kernel
theorem dX2_put_43 : decode cX2_put 43 = .ok (.goto 4, 3) := by decide +kernel
theorem dX2_put_46 : decode cX2_put 46 = .ok (.iconst 0, 1) := by decide +kernel
theorem dX2_put_47 : decode cX2_put 47 = .ok (.ireturn, 1) := by decide +kernel
theorem dX3_init_0 : decode cX3_init 0 = .ok (.aload_n 0, 1) := by decide +kernel
theorem dX3_init_1 : decode cX3_init 1 = .ok (.invokespecial 3, 3) := by decide +kernel
theorem dX3_init_4 : decode cX3_init 4 = .ok (.aload_n 0, 1) := by decide +kernel
theorem dX3_init_5 : decode cX3_init 5 = .ok (.iconst 4, 1) := by decide +kernel
theorem dX3_init_6 : decode cX3_init 6 = .ok (.newarray .int, 2) := by decide +kernel
theorem dX3_init_8 : decode cX3_init 8 = .ok (.putfield 9, 3) := by decide +kernel
theorem dX3_init_11 : decode cX3_init 11 = .ok (.aload_n 0, 1) := by decide +kernel
theorem dX3_init_12 : decode cX3_init 12 = .ok (.bipush 36, 2) := by decide +kernel
theorem dX3_init_14 : decode cX3_init 14 = .ok (.newarray .int, 2) := by decide +kernel
theorem dX3_init_16 : decode cX3_init 16 = .ok (.putfield 15, 3) := by decide +kernel
theorem dX3_init_19 : decode cX3_init 19 = .ok (.aload_n 0, 1) := by decide +kernel
theorem dX3_init_20 : decode cX3_init 20 = .ok (.bipush 36, 2) := by decide +kernel
theorem dX3_init_22 : decode cX3_init 22 = .ok (.bipush 6, 2) := by decide +kernel
theorem dX3_init_24 : decode cX3_init 24 = .ok (.multianewarray 18 2, 4) := by decide +kernel
theorem dX3_init_28 : decode cX3_init 28 = .ok (.putfield 20, 3) := by decide +kernel
theorem dX3_init_31 : decode cX3_init 31 = .ok (.return_, 1) := by decide +kernel
theorem dX3_isSource_0 : decode cX3_isSource 0 = .ok (.iload_n 1, 1) := by decide +kernel
theorem dX3_isSource_1 : decode cX3_isSource 1 = .ok (.ifCond .lt 15, 3) := by decide +kernel
theorem dX3_isSource_4 : decode cX3_isSource 4 = .ok (.iload_n 1, 1) := by decide +kernel
theorem dX3_isSource_5 : decode cX3_isSource 5 = .ok (.aload_n 0, 1) := by decide +kernel
theorem dX3_isSource_6 : decode cX3_isSource 6 = .ok (.getfield 23, 3) := by decide +kernel
theorem dX3_isSource_9 : decode cX3_isSource 9 = .ok (.if_icmp .ge 7, 3) := by decide +kernel
theorem dX3_isSource_12 : decode cX3_isSource 12 = .ok (.iconst 1, 1) := by decide +kernel
theorem dX3_isSource_13 : decode cX3_isSource 13 = .ok (.goto 4, 3) := by decide +kernel
theorem dX3_isSource_16 : decode cX3_isSource 16 = .ok (.iconst 0, 1) := by decide +kernel
theorem dX3_isSource_17 : decode cX3_isSource 17 = .ok (.ireturn, 1) := by decide +kernel
theorem dX3_isRow_0 : decode cX3_isRow 0 = .ok (.iload_n 1, 1) := by decide +kernel
theorem dX3_isRow_1 : decode cX3_isRow 1 = .ok (.ifCond .lt 15, 3) := by decide +kernel
theorem dX3_isRow_4 : decode cX3_isRow 4 = .ok (.iload_n 1, 1) := by decide +kernel
theorem dX3_isRow_5 : decode cX3_isRow 5 = .ok (.aload_n 0, 1) := by decide +kernel
theorem dX3_isRow_6 : decode cX3_isRow 6 = .ok (.getfield 27, 3) := by decide +kernel
theorem dX3_isRow_9 : decode cX3_isRow 9 = .ok (.if_icmp .ge 7, 3) := by decide +kernel
theorem dX3_isRow_12 : decode cX3_isRow 12 = .ok (.iconst 1, 1) := by decide +kernel
theorem dX3_isRow_13 : decode cX3_isRow 13 = .ok (.goto 4, 3) := by decide +kernel
theorem dX3_isRow_16 : decode cX3_isRow 16 = .ok (.iconst 0, 1) := by decide +kernel
theorem dX3_isRow_17 : decode cX3_isRow 17 = .ok (.ireturn, 1) := by decide +kernel
theorem dX3_addSource_0 : decode cX3_addSource 0 = .ok (.aload_n 0, 1) := by decide +kernel
theorem dX3_addSource_1 : decode cX3_addSource 1 = .ok (.getfield 9, 3) := by decide +kernel
theorem dX3_addSource_4 : decode cX3_addSource 4 = .ok (.aload_n 0, 1) := by decide +kernel
theorem dX3_addSource_5 : decode cX3_addSource 5 = .ok (.getfield 23, 3) := by decide +kernel
theorem dX3_addSource_8 : decode cX3_addSource 8 = .ok (.iload_n 1, 1) := by decide +kernel
theorem dX3_addSource_9 : decode cX3_addSource 9 = .ok (.iastore, 1) := by decide +kernel
theorem dX3_addSource_10 : decode cX3_addSource 10 = .ok (.aload_n 0, 1) := by decide +kernel
theorem dX3_addSource_11 : decode cX3_addSource 11 = .ok (.dup, 1) := by decide +kernel
theorem dX3_addSource_12 : decode cX3_addSource 12 = .ok (.getfield 23, 3) := by decide +kernel
theorem dX3_addSource_15 : decode cX3_addSource 15 = .ok (.dup_x1, 1) := by decide +kernel
theorem dX3_addSource_16 : decode cX3_addSource 16 = .ok (.iconst 1, 1) := by decide +kernel
theorem dX3_addSource_17 : decode cX3_addSource 17 = .ok (.iadd, 1) := by decide +kernel
theorem dX3_addSource_18 : decode cX3_addSource 18 = .ok (.putfield 23, 3) := by decide +kernel
theorem dX3_addSource_21 : decode cX3_addSource 21 = .ok (.ireturn, 1) := by decide +kernel
theorem dX3_addRow_0 : decode cX3_addRow 0 = .ok (.aload_n 0, 1) := by decide +kernel
theorem dX3_addRow_1 : decode cX3_addRow 1 = .ok (.getfield 20, 3) := by decide +kernel
theorem dX3_addRow_4 : decode cX3_addRow 4 = .ok (.aload_n 0, 1) := by decide +kernel
theorem dX3_addRow_5 : decode cX3_addRow 5 = .ok (.getfield 27, 3) := by decide +kernel
theorem dX3_addRow_8 : decode cX3_addRow 8 = .ok (.aaload, 1) := by decide +kernel
theorem dX3_addRow_9 : decode cX3_addRow 9 = .ok (.astore 6, 2) := by decide +kernel
theorem dX3_addRow_11 : decode cX3_addRow 11 = .ok (.aload 6, 2) := by decide +kernel
theorem dX3_addRow_13 : decode cX3_addRow 13 = .ok (.iconst 0, 1) := by decide +kernel
theorem dX3_addRow_14 : decode cX3_addRow 14 = .ok (.iload_n 2, 1) := by decide +kernel
theorem dX3_addRow_15 : decode cX3_addRow 15 = .ok (.iastore, 1) := by decide +kernel
theorem dX3_addRow_16 : decode cX3_addRow 16 = .ok (.aload 6, 2) := by decide +kernel
theorem dX3_addRow_18 : decode cX3_addRow 18 = .ok (.iconst 1, 1) := by decide +kernel
theorem dX3_addRow_19 : decode cX3_addRow 19 = .ok (.iload_n 3, 1) := by decide +kernel
theorem dX3_addRow_20 : decode cX3_addRow 20 = .ok (.iastore, 1) := by decide +kernel
theorem dX3_addRow_21 : decode cX3_addRow 21 = .ok (.aload 6, 2) := by decide +kernel
theorem dX3_addRow_23 : decode cX3_addRow 23 = .ok (.iconst 2, 1) := by decide +kernel
theorem dX3_addRow_24 : decode cX3_addRow 24 = .ok (.iload 4, 2) := by decide +kernel
theorem dX3_addRow_26 : decode cX3_addRow 26 = .ok (.iastore, 1) := by decide +kernel
theorem dX3_addRow_27 : decode cX3_addRow 27 = .ok (.aload 6, 2) := by decide +kernel
theorem dX3_addRow_29 : decode cX3_addRow 29 = .ok (.iconst 3, 1) := by decide +kernel
theorem dX3_addRow_30 : decode cX3_addRow 30 = .ok (.iload 5, 2) := by decide +kernel
theorem dX3_addRow_32 : decode cX3_addRow 32 = .ok (.iastore, 1) := by decide +kernel
theorem dX3_addRow_33 : decode cX3_addRow 33 = .ok (.aload_n 0, 1) := by decide +kernel
theorem dX3_addRow_34 : decode cX3_addRow 34 = .ok (.getfield 15, 3) := by decide +kernel
theorem dX3_addRow_37 : decode cX3_addRow 37 = .ok (.aload_n 0, 1) := by decide +kernel
theorem dX3_addRow_38 : decode cX3_addRow 38 = .ok (.getfield 27, 3) := by decide +kernel
theorem dX3_addRow_41 : decode cX3_addRow 41 = .ok (.iload_n 1, 1) := by decide +kernel
theorem dX3_addRow_42 : decode cX3_addRow 42 = .ok (.iastore, 1) := by decide +kernel
theorem dX3_addRow_43 : decode cX3_addRow 43 = .ok (.aload_n 0, 1) := by decide +kernel
theorem dX3_addRow_44 : decode cX3_addRow 44 = .ok (.dup, 1) := by decide +kernel
theorem dX3_addRow_45 : decode cX3_addRow 45 = .ok (.getfield 27, 3) := by decide +kernel
theorem dX3_addRow_48 : decode cX3_addRow 48 = .ok (.dup_x1, 1) := by decide +kernel
theorem dX3_addRow_49 : decode cX3_addRow 49 = .ok (.iconst 1, 1) := by decide +kernel
theorem dX3_addRow_50 : decode cX3_addRow 50 = .ok (.iadd, 1) := by decide +kernel
theorem dX3_addRow_51 : decode cX3_addRow 51 = .ok (.putfield 27, 3) := by decide +kernel
theorem dX3_addRow_54 : decode cX3_addRow 54 = .ok (.ireturn, 1) := by decide +kernel
theorem dX3_forgetAll_0 : decode cX3_forgetAll 0 = .ok (.aload_n 0, 1) := by decide +kernel
theorem dX3_forgetAll_1 : decode cX3_forgetAll 1 = .ok (.iconst 0, 1) := by decide +kernel
theorem dX3_forgetAll_2 : decode cX3_forgetAll 2 = .ok (.putfield 23, 3) := by decide +kernel
theorem dX3_forgetAll_5 : decode cX3_forgetAll 5 = .ok (.aload_n 0, 1) := by decide +kernel
theorem dX3_forgetAll_6 : decode cX3_forgetAll 6 = .ok (.iconst 0, 1) := by decide +kernel
theorem dX3_forgetAll_7 : decode cX3_forgetAll 7 = .ok (.putfield 27, 3) := by decide +kernel
theorem dX3_forgetAll_10 : decode cX3_forgetAll 10 = .ok (.return_, 1) := by decide +kernel
theorem dX4_init_0 : decode cX4_init 0 = .ok (.aload_n 0, 1) := by decide +kernel
theorem dX4_init_1 : decode cX4_init 1 = .ok (.invokespecial 3, 3) := by decide +kernel
theorem dX4_init_4 : decode cX4_init 4 = .ok (.aload_n 0, 1) := by decide +kernel
theorem dX4_init_5 : decode cX4_init 5 = .ok (.bipush 80, 2) := by decide +kernel
theorem dX4_init_7 : decode cX4_init 7 = .ok (.anewarray 9, 3) := by decide +kernel
theorem dX4_init_10 : decode cX4_init 10 = .ok (.putfield 11, 3) := by decide +kernel
theorem dX4_init_13 : decode cX4_init 13 = .ok (.iconst 0, 1) := by decide +kernel
theorem dX4_init_14 : decode cX4_init 14 = .ok (.istore_n 2, 1) := by decide +kernel
theorem dX4_init_15 : decode cX4_init 15 = .ok (.iload_n 2, 1) := by decide +kernel
theorem dX4_init_16 : decode cX4_init 16 = .ok (.iload_n 1, 1) := by decide +kernel
theorem dX4_init_17 : decode cX4_init 17 = .ok (.if_icmp .ge 28, 3) := by decide +kernel
theorem dX4_init_20 : decode cX4_init 20 = .ok (.iload_n 2, 1) := by decide +kernel
theorem dX4_init_21 : decode cX4_init 21 = .ok (.bipush 80, 2) := by decide +kernel
theorem dX4_init_23 : decode cX4_init 23 = .ok (.if_icmp .ge 22, 3) := by decide +kernel
theorem dX4_init_26 : decode cX4_init 26 = .ok (.aload_n 0, 1) := by decide +kernel
theorem dX4_init_27 : decode cX4_init 27 = .ok (.getfield 11, 3) := by decide +kernel
theorem dX4_init_30 : decode cX4_init 30 = .ok (.iload_n 2, 1) := by decide +kernel
theorem dX4_init_31 : decode cX4_init 31 = .ok (.new 9, 3) := by decide +kernel
theorem dX4_init_34 : decode cX4_init 34 = .ok (.dup, 1) := by decide +kernel
theorem dX4_init_35 : decode cX4_init 35 = .ok (.invokespecial 17, 3) := by decide +kernel
theorem dX4_init_38 : decode cX4_init 38 = .ok (.aastore, 1) := by decide +kernel
theorem dX4_init_39 : decode cX4_init 39 = .ok (.iinc 2 1, 3) := by decide +kernel
theorem dX4_init_42 : decode cX4_init 42 = .ok (.goto (-27), 3) := by decide +kernel
theorem dX4_init_45 : decode cX4_init 45 = .ok (.return_, 1) := by decide +kernel
theorem dX4_begin_0 : decode cX4_begin 0 = .ok (.aload_n 0, 1) := by decide +kernel
theorem dX4_begin_1 : decode cX4_begin 1 = .ok (.iconst 0, 1) := by decide +kernel
theorem dX4_begin_2 : decode cX4_begin 2 = .ok (.putfield 18, 3) := by decide +kernel
theorem dX4_begin_5 : decode cX4_begin 5 = .ok (.aload_n 0, 1) := by decide +kernel
theorem dX4_begin_6 : decode cX4_begin 6 = .ok (.iload_n 1, 1) := by decide +kernel
theorem dX4_begin_7 : decode cX4_begin 7 = .ok (.putfield 22, 3) := by decide +kernel
theorem dX4_begin_10 : decode cX4_begin 10 = .ok (.return_, 1) := by decide +kernel
theorem dX4_find_0 : decode cX4_find 0 = .ok (.aload_n 0, 1) := by decide +kernel
theorem dX4_find_1 : decode cX4_find 1 = .ok (.aload_n 1, 1) := by decide +kernel
theorem dX4_find_2 : decode cX4_find 2 = .ok (.invokevirtual 25, 3) := by decide +kernel
theorem dX4_find_5 : decode cX4_find 5 = .ok (.istore_n 2, 1) := by decide +kernel
theorem dX4_find_6 : decode cX4_find 6 = .ok (.iload_n 2, 1) := by decide +kernel
theorem dX4_find_7 : decode cX4_find 7 = .ok (.ifCond .le 33, 3) := by decide +kernel
theorem dX4_find_10 : decode cX4_find 10 = .ok (.aload_n 0, 1) := by decide +kernel
theorem dX4_find_11 : decode cX4_find 11 = .ok (.aload_n 0, 1) := by decide +kernel
theorem dX4_find_12 : decode cX4_find 12 = .ok (.getfield 11, 3) := by decide +kernel
theorem dX4_find_15 : decode cX4_find 15 = .ok (.iload_n 2, 1) := by decide +kernel
theorem dX4_find_16 : decode cX4_find 16 = .ok (.iconst 1, 1) := by decide +kernel
theorem dX4_find_17 : decode cX4_find 17 = .ok (.isub, 1) := by decide +kernel
theorem dX4_find_18 : decode cX4_find 18 = .ok (.aaload, 1) := by decide +kernel
theorem dX4_find_19 : decode cX4_find 19 = .ok (.getfield 29, 3) := by decide +kernel
theorem dX4_find_22 : decode cX4_find 22 = .ok (.aload_n 1, 1) := by decide +kernel
theorem dX4_find_23 : decode cX4_find 23 = .ok (.invokevirtual 33, 3) := by decide +kernel
theorem dX4_find_26 : decode cX4_find 26 = .ok (.ifCond .ne 14, 3) := by decide +kernel
theorem dX4_find_29 : decode cX4_find 29 = .ok (.aload_n 0, 1) := by decide +kernel
theorem dX4_find_30 : decode cX4_find 30 = .ok (.getfield 11, 3) := by decide +kernel
theorem dX4_find_33 : decode cX4_find 33 = .ok (.iload_n 2, 1) := by decide +kernel
theorem dX4_find_34 : decode cX4_find 34 = .ok (.iconst 1, 1) := by decide +kernel
theorem dX4_find_35 : decode cX4_find 35 = .ok (.isub, 1) := by decide +kernel
theorem dX4_find_36 : decode cX4_find 36 = .ok (.aaload, 1) := by decide +kernel
theorem dX4_find_37 : decode cX4_find 37 = .ok (.goto 4, 3) := by decide +kernel
theorem dX4_find_40 : decode cX4_find 40 = .ok (.aconst_null, 1) := by decide +kernel
theorem dX4_find_41 : decode cX4_find 41 = .ok (.areturn, 1) := by decide +kernel
theorem dX4_findOrAdd_0 : decode cX4_findOrAdd 0 = .ok (.aload_n 0, 1) := by decide +kernel
theorem dX4_findOrAdd_1 : decode cX4_findOrAdd 1 = .ok (.aload_n 1, 1) := by decide +kernel
theorem dX4_findOrAdd_2 : decode cX4_findOrAdd 2 = .ok (.invokevirtual 25, 3) := by decide +kernel
theorem dX4_findOrAdd_5 : decode cX4_findOrAdd 5 = .ok (.istore_n 2, 1) := by decide +kernel
theorem dX4_findOrAdd_6 : decode cX4_findOrAdd 6 = .ok (.iload_n 2, 1) := by decide +kernel
theorem dX4_findOrAdd_7 : decode cX4_findOrAdd 7 = .ok (.ifCond .le 31, 3) := by decide +kernel
theorem dX4_findOrAdd_10 : decode cX4_findOrAdd 10 = .ok (.aload_n 0, 1) := by decide +kernel
theorem dX4_findOrAdd_11 : decode cX4_findOrAdd 11 = .ok (.aload_n 0, 1) := by decide +kernel
theorem dX4_findOrAdd_12 : decode cX4_findOrAdd 12 = .ok (.getfield 11, 3) := by decide +kernel
theorem dX4_findOrAdd_15 : decode cX4_findOrAdd 15 = .ok (.iload_n 2, 1) := by decide +kernel
theorem dX4_findOrAdd_16 : decode cX4_findOrAdd 16 = .ok (.iconst 1, 1) := by decide +kernel
theorem dX4_findOrAdd_17 : decode cX4_findOrAdd 17 = .ok (.isub, 1) := by decide +kernel
theorem dX4_findOrAdd_18 : decode cX4_findOrAdd 18 = .ok (.aaload, 1) := by decide +kernel
theorem dX4_findOrAdd_19 : decode cX4_findOrAdd 19 = .ok (.getfield 29, 3) := by decide +kernel
theorem dX4_findOrAdd_22 : decode cX4_findOrAdd 22 = .ok (.aload_n 1, 1) := by decide +kernel
theorem dX4_findOrAdd_23 : decode cX4_findOrAdd 23 = .ok (.invokevirtual 33, 3) := by decide +kernel
theorem dX4_findOrAdd_26 : decode cX4_findOrAdd 26 = .ok (.ifCond .ne 12, 3) := by decide +kernel
theorem dX4_findOrAdd_29 : decode cX4_findOrAdd 29 = .ok (.aload_n 0, 1) := by decide +kernel
theorem dX4_findOrAdd_30 : decode cX4_findOrAdd 30 = .ok (.getfield 11, 3) := by decide +kernel
theorem dX4_findOrAdd_33 : decode cX4_findOrAdd 33 = .ok (.iload_n 2, 1) := by decide +kernel
theorem dX4_findOrAdd_34 : decode cX4_findOrAdd 34 = .ok (.iconst 1, 1) := by decide +kernel
theorem dX4_findOrAdd_35 : decode cX4_findOrAdd 35 = .ok (.isub, 1) := by decide +kernel
theorem dX4_findOrAdd_36 : decode cX4_findOrAdd 36 = .ok (.aaload, 1) := by decide +kernel
theorem dX4_findOrAdd_37 : decode cX4_findOrAdd 37 = .ok (.areturn, 1) := by decide +kernel
theorem dX4_findOrAdd_38 : decode cX4_findOrAdd 38 = .ok (.aload_n 0, 1) := by decide +kernel
theorem dX4_findOrAdd_39 : decode cX4_findOrAdd 39 = .ok (.getfield 18, 3) := by decide +kernel
theorem dX4_findOrAdd_42 : decode cX4_findOrAdd 42 = .ok (.bipush 80, 2) := by decide +kernel
theorem dX4_findOrAdd_44 : decode cX4_findOrAdd 44 = .ok (.if_icmp .lt 5, 3) := by decide +kernel
theorem dX4_findOrAdd_47 : decode cX4_findOrAdd 47 = .ok (.aconst_null, 1) := by decide +kernel
theorem dX4_findOrAdd_48 : decode cX4_findOrAdd 48 = .ok (.areturn, 1) := by decide +kernel
theorem dX4_findOrAdd_49 : decode cX4_findOrAdd 49 = .ok (.aload_n 0, 1) := by decide +kernel
theorem dX4_findOrAdd_50 : decode cX4_findOrAdd 50 = .ok (.getfield 11, 3) := by decide +kernel
theorem dX4_findOrAdd_53 : decode cX4_findOrAdd 53 = .ok (.aload_n 0, 1) := by decide +kernel
theorem dX4_findOrAdd_54 : decode cX4_findOrAdd 54 = .ok (.getfield 18, 3) := by decide +kernel
theorem dX4_findOrAdd_57 : decode cX4_findOrAdd 57 = .ok (.aaload, 1) := by decide +kernel
theorem dX4_findOrAdd_58 : decode cX4_findOrAdd 58 = .ok (.astore_n 3, 1) := by decide +kernel
theorem dX4_findOrAdd_59 : decode cX4_findOrAdd 59 = .ok (.aload_n 0, 1) := by decide +kernel
theorem dX4_findOrAdd_60 : decode cX4_findOrAdd 60 = .ok (.getfield 18, 3) := by decide +kernel
theorem dX4_findOrAdd_63 : decode cX4_findOrAdd 63 = .ok (.istore 4, 2) := by decide +kernel
theorem dX4_findOrAdd_65 : decode cX4_findOrAdd 65 = .ok (.iload 4, 2) := by decide +kernel
theorem dX4_findOrAdd_67 : decode cX4_findOrAdd 67 = .ok (.iload_n 2, 1) := by decide +kernel
theorem dX4_findOrAdd_68 : decode cX4_findOrAdd 68 = .ok (.if_icmp .le 25, 3) := by decide +kernel
theorem dX4_findOrAdd_71 : decode cX4_findOrAdd 71 = .ok (.aload_n 0, 1) := by decide +kernel
theorem dX4_findOrAdd_72 : decode cX4_findOrAdd 72 = .ok (.getfield 11, 3) := by decide +kernel
theorem dX4_findOrAdd_75 : decode cX4_findOrAdd 75 = .ok (.iload 4, 2) := by decide +kernel
theorem dX4_findOrAdd_77 : decode cX4_findOrAdd 77 = .ok (.aload_n 0, 1) := by decide +kernel
theorem dX4_findOrAdd_78 : decode cX4_findOrAdd 78 = .ok (.getfield 11, 3) := by decide +kernel
theorem dX4_findOrAdd_81 : decode cX4_findOrAdd 81 = .ok (.iload 4, 2) := by decide +kernel
theorem dX4_findOrAdd_83 : decode cX4_findOrAdd 83 = .ok (.iconst 1, 1) := by decide +kernel
theorem dX4_findOrAdd_84 : decode cX4_findOrAdd 84 = .ok (.isub, 1) := by decide +kernel
theorem dX4_findOrAdd_85 : decode cX4_findOrAdd 85 = .ok (.aaload, 1) := by decide +kernel
theorem dX4_findOrAdd_86 : decode cX4_findOrAdd 86 = .ok (.aastore, 1) := by decide +kernel
theorem dX4_findOrAdd_87 : decode cX4_findOrAdd 87 = .ok (.iinc 4 (-1), 3) := by decide +kernel
theorem dX4_findOrAdd_90 : decode cX4_findOrAdd 90 = .ok (.goto (-25), 3) := by decide +kernel
theorem dX4_findOrAdd_93 : decode cX4_findOrAdd 93 = .ok (.aload_n 0, 1) := by decide +kernel
theorem dX4_findOrAdd_94 : decode cX4_findOrAdd 94 = .ok (.getfield 11, 3) := by decide +kernel
theorem dX4_findOrAdd_97 : decode cX4_findOrAdd 97 = .ok (.iload_n 2, 1) := by decide +kernel
theorem dX4_findOrAdd_98 : decode cX4_findOrAdd 98 = .ok (.aload_n 3, 1) := by decide +kernel
theorem dX4_findOrAdd_99 : decode cX4_findOrAdd 99 = .ok (.aastore, 1) := by decide +kernel
theorem dX4_findOrAdd_100 : decode cX4_findOrAdd 100 = .ok (.aload_n 0, 1) := by decide +kernel
theorem dX4_findOrAdd_101 : decode cX4_findOrAdd 101 = .ok (.dup, 1) := by decide +kernel
theorem dX4_findOrAdd_102 : decode cX4_findOrAdd 102 = .ok (.getfield 18, 3) := by decide +kernel
theorem dX4_findOrAdd_105 : decode cX4_findOrAdd 105 = .ok (.iconst 1, 1) := by decide +kernel
theorem dX4_findOrAdd_106 : decode cX4_findOrAdd 106 = .ok (.iadd, 1) := by decide +kernel
theorem dX4_findOrAdd_107 : decode cX4_findOrAdd 107 = .ok (.putfield 18, 3) := by decide +kernel
theorem dX4_findOrAdd_110 : decode cX4_findOrAdd 110 = .ok (.aload_n 3, 1) := by decide +kernel
theorem dX4_findOrAdd_111 : decode cX4_findOrAdd 111 = .ok (.aload_n 1, 1) := by decide +kernel
theorem dX4_findOrAdd_112 : decode cX4_findOrAdd 112 = .ok (.invokevirtual 37, 3) := by decide +kernel
theorem dX4_findOrAdd_115 : decode cX4_findOrAdd 115 = .ok (.aload_n 3, 1) := by decide +kernel
theorem dX4_findOrAdd_116 : decode cX4_findOrAdd 116 = .ok (.areturn, 1) := by decide +kernel
theorem dX4_firstBehind_0 : decode cX4_firstBehind 0 = .ok (.aload_n 0, 1) := by decide +kernel
theorem dX4_firstBehind_1 : decode cX4_firstBehind 1 = .ok (.getfield 18, 3) := by decide +kernel
theorem dX4_firstBehind_4 : decode cX4_firstBehind 4 = .ok (.istore_n 2, 1) := by decide +kernel
theorem dX4_firstBehind_5 : decode cX4_firstBehind 5 = .ok (.iload_n 2, 1) := by decide +kernel
theorem dX4_firstBehind_6 : decode cX4_firstBehind 6 = .ok (.ifCond .le 28, 3) := by decide +kernel
theorem dX4_firstBehind_9 : decode cX4_firstBehind 9 = .ok (.aload_n 0, 1) := by decide +kernel
theorem dX4_firstBehind_10 : decode cX4_firstBehind 10 = .ok (.aload_n 0, 1) := by decide +kernel
theorem dX4_firstBehind_11 : decode cX4_firstBehind 11 = .ok (.getfield 11, 3) := by decide +kernel
theorem dX4_firstBehind_14 : decode cX4_firstBehind 14 = .ok (.iload_n 2, 1) := by decide +kernel
theorem dX4_firstBehind_15 : decode cX4_firstBehind 15 = .ok (.iconst 1, 1) := by decide +kernel
theorem dX4_firstBehind_16 : decode cX4_firstBehind 16 = .ok (.isub, 1) := by decide +kernel
theorem dX4_firstBehind_17 : decode cX4_firstBehind 17 = .ok (.aaload, 1) := by decide +kernel
theorem dX4_firstBehind_18 : decode cX4_firstBehind 18 = .ok (.getfield 29, 3) := by decide +kernel
theorem dX4_firstBehind_21 : decode cX4_firstBehind 21 = .ok (.aload_n 1, 1) := by decide +kernel
theorem dX4_firstBehind_22 : decode cX4_firstBehind 22 = .ok (.invokevirtual 33, 3) := by decide +kernel
theorem dX4_firstBehind_25 : decode cX4_firstBehind 25 = .ok (.ifCond .le 9, 3) := by decide +kernel
theorem dX4_firstBehind_28 : decode cX4_firstBehind 28 = .ok (.iinc 2 (-1), 3) := by decide +kernel
theorem dX4_firstBehind_31 : decode cX4_firstBehind 31 = .ok (.goto (-26), 3) := by decide +kernel
theorem dX4_firstBehind_34 : decode cX4_firstBehind 34 = .ok (.iload_n 2, 1) := by decide +kernel
theorem dX4_firstBehind_35 : decode cX4_firstBehind 35 = .ok (.ireturn, 1) := by decide +kernel
theorem dX4_order_0 : decode cX4_order 0 = .ok (.iconst 0, 1) := by decide +kernel
theorem dX4_order_1 : decode cX4_order 1 = .ok (.istore_n 3, 1) := by decide +kernel
theorem dX4_order_2 : decode cX4_order 2 = .ok (.iload_n 3, 1) := by decide +kernel
theorem dX4_order_3 : decode cX4_order 3 = .ok (.aload_n 0, 1) := by decide +kernel
theorem dX4_order_4 : decode cX4_order 4 = .ok (.getfield 22, 3) := by decide +kernel
theorem dX4_order_7 : decode cX4_order 7 = .ok (.if_icmp .ge 33, 3) := by decide +kernel
theorem dX4_order_10 : decode cX4_order 10 = .ok (.aload_n 1, 1) := by decide +kernel
theorem dX4_order_11 : decode cX4_order 11 = .ok (.iload_n 3, 1) := by decide +kernel
theorem dX4_order_12 : decode cX4_order 12 = .ok (.iaload, 1) := by decide +kernel
theorem dX4_order_13 : decode cX4_order 13 = .ok (.aload_n 2, 1) := by decide +kernel
theorem dX4_order_14 : decode cX4_order 14 = .ok (.iload_n 3, 1) := by decide +kernel
theorem dX4_order_15 : decode cX4_order 15 = .ok (.iaload, 1) := by decide +kernel
theorem dX4_order_16 : decode cX4_order 16 = .ok (.if_icmp .eq 18, 3) := by decide +kernel
theorem dX4_order_19 : decode cX4_order 19 = .ok (.aload_n 1, 1) := by decide +kernel
theorem dX4_order_20 : decode cX4_order 20 = .ok (.iload_n 3, 1) := by decide +kernel
theorem dX4_order_21 : decode cX4_order 21 = .ok (.iaload, 1) := by decide +kernel
theorem dX4_order_22 : decode cX4_order 22 = .ok (.aload_n 2, 1) := by decide +kernel
theorem dX4_order_23 : decode cX4_order 23 = .ok (.iload_n 3, 1) := by decide +kernel
theorem dX4_order_24 : decode cX4_order 24 = .ok (.iaload, 1) := by decide +kernel
theorem dX4_order_25 : decode cX4_order 25 = .ok (.if_icmp .ge 7, 3) := by decide +kernel
theorem dX4_order_28 : decode cX4_order 28 = .ok (.iconst (-1), 1) := by decide +kernel
theorem dX4_order_29 : decode cX4_order 29 = .ok (.goto 4, 3) := by decide +kernel
theorem dX4_order_32 : decode cX4_order 32 = .ok (.iconst 1, 1) := by decide +kernel
theorem dX4_order_33 : decode cX4_order 33 = .ok (.ireturn, 1) := by decide +kernel
theorem dX4_order_34 : decode cX4_order 34 = .ok (.iinc 3 1, 3) := by decide +kernel
theorem dX4_order_37 : decode cX4_order 37 = .ok (.goto (-35), 3) := by decide +kernel
theorem dX4_order_40 : decode cX4_order 40 = .ok (.iconst 0, 1) := by decide +kernel
theorem dX4_order_41 : decode cX4_order 41 = .ok (.ireturn, 1) := by decide +kernel
theorem dX4_howManyHold_0 : decode cX4_howManyHold 0 = .ok (.iconst 0, 1) := by decide +kernel
theorem dX4_howManyHold_1 : decode cX4_howManyHold 1 = .ok (.istore_n 3, 1) := by decide +kernel
theorem dX4_howManyHold_2 : decode cX4_howManyHold 2 = .ok (.iconst 0, 1) := by decide +kernel
theorem dX4_howManyHold_3 : decode cX4_howManyHold 3 = .ok (.istore 4, 2) := by decide +kernel
theorem dX4_howManyHold_5 : decode cX4_howManyHold 5 = .ok (.iload 4, 2) := by decide +kernel
theorem dX4_howManyHold_7 : decode cX4_howManyHold 7 = .ok (.aload_n 0, 1) := by decide +kernel
theorem dX4_howManyHold_8 : decode cX4_howManyHold 8 = .ok (.getfield 18, 3) := by decide +kernel
theorem dX4_howManyHold_11 : decode cX4_howManyHold 11 = .ok (.if_icmp .ge 29, 3) := by decide +kernel
theorem dX4_howManyHold_14 : decode cX4_howManyHold 14 = .ok (.aload_n 0, 1) := by decide +kernel
theorem dX4_howManyHold_15 : decode cX4_howManyHold 15 = .ok (.getfield 11, 3) := by decide +kernel
theorem dX4_howManyHold_18 : decode cX4_howManyHold 18 = .ok (.iload 4, 2) := by decide +kernel
theorem dX4_howManyHold_20 : decode cX4_howManyHold 20 = .ok (.aaload, 1) := by decide +kernel
theorem dX4_howManyHold_21 : decode cX4_howManyHold 21 = .ok (.getfield 41, 3) := by decide +kernel
theorem dX4_howManyHold_24 : decode cX4_howManyHold 24 = .ok (.lload_n 1, 1) := by decide +kernel
theorem dX4_howManyHold_25 : decode cX4_howManyHold 25 = .ok (.invokevirtual 45, 3) := by decide +kernel
theorem dX4_howManyHold_28 : decode cX4_howManyHold 28 = .ok (.ifCond .eq 6, 3) := by decide +kernel
theorem dX4_howManyHold_31 : decode cX4_howManyHold 31 = .ok (.iinc 3 1, 3) := by decide +kernel
theorem dX4_howManyHold_34 : decode cX4_howManyHold 34 = .ok (.iinc 4 1, 3) := by decide +kernel
theorem dX4_howManyHold_37 : decode cX4_howManyHold 37 = .ok (.goto (-32), 3) := by decide +kernel
theorem dX4_howManyHold_40 : decode cX4_howManyHold 40 = .ok (.iload_n 3, 1) := by decide +kernel
theorem dX4_howManyHold_41 : decode cX4_howManyHold 41 = .ok (.ireturn, 1) := by decide +kernel
theorem dX5_init_0 : decode cX5_init 0 = .ok (.aload_n 0, 1) := by decide +kernel
theorem dX5_init_1 : decode cX5_init 1 = .ok (.invokespecial 3, 3) := by decide +kernel
theorem dX5_init_4 : decode cX5_init 4 = .ok (.aload_n 0, 1) := by decide +kernel
theorem dX5_init_5 : decode cX5_init 5 = .ok (.bipush 6, 2) := by decide +kernel
theorem dX5_init_7 : decode cX5_init 7 = .ok (.newarray .int, 2) := by decide +kernel
theorem dX5_init_9 : decode cX5_init 9 = .ok (.putfield 9, 3) := by decide +kernel
theorem dX5_init_12 : decode cX5_init 12 = .ok (.aload_n 0, 1) := by decide +kernel
theorem dX5_init_13 : decode cX5_init 13 = .ok (.new 15, 3) := by decide +kernel
theorem dX5_init_16 : decode cX5_init 16 = .ok (.dup, 1) := by decide +kernel
theorem dX5_init_17 : decode cX5_init 17 = .ok (.invokespecial 17, 3) := by decide +kernel
theorem dX5_init_20 : decode cX5_init 20 = .ok (.putfield 18, 3) := by decide +kernel
theorem dX5_init_23 : decode cX5_init 23 = .ok (.return_, 1) := by decide +kernel
theorem dX5_become_0 : decode cX5_become 0 = .ok (.aload_n 1, 1) := by decide +kernel
theorem dX5_become_1 : decode cX5_become 1 = .ok (.iconst 0, 1) := by decide +kernel
theorem dX5_become_2 : decode cX5_become 2 = .ok (.aload_n 0, 1) := by decide +kernel
theorem dX5_become_3 : decode cX5_become 3 = .ok (.getfield 9, 3) := by decide +kernel
theorem dX5_become_6 : decode cX5_become 6 = .ok (.iconst 0, 1) := by decide +kernel
theorem dX5_become_7 : decode cX5_become 7 = .ok (.bipush 6, 2) := by decide +kernel
theorem dX5_become_9 : decode cX5_become 9 = .ok (.invokestatic 22, 3) := by decide +kernel
theorem dX5_become_12 : decode cX5_become 12 = .ok (.aload_n 0, 1) := by decide +kernel
theorem dX5_become_13 : decode cX5_become 13 = .ok (.getfield 18, 3) := by decide +kernel
theorem dX5_become_16 : decode cX5_become 16 = .ok (.invokevirtual 28, 3) := by decide +kernel
theorem dX5_become_19 : decode cX5_become 19 = .ok (.return_, 1) := by decide +kernel
theorem dX6_init_0 : decode cX6_init 0 = .ok (.aload_n 0, 1) := by decide +kernel
theorem dX6_init_1 : decode cX6_init 1 = .ok (.invokespecial 3, 3) := by decide +kernel
theorem dX6_init_4 : decode cX6_init 4 = .ok (.aload_n 0, 1) := by decide +kernel
theorem dX6_init_5 : decode cX6_init 5 = .ok (.bipush 12, 2) := by decide +kernel
theorem dX6_init_7 : decode cX6_init 7 = .ok (.newarray .long, 2) := by decide +kernel
theorem dX6_init_9 : decode cX6_init 9 = .ok (.putfield 9, 3) := by decide +kernel
theorem dX6_init_12 : decode cX6_init 12 = .ok (.aload_n 0, 1) := by decide +kernel
theorem dX6_init_13 : decode cX6_init 13 = .ok (.bipush 12, 2) := by decide +kernel
theorem dX6_init_15 : decode cX6_init 15 = .ok (.newarray .long, 2) := by decide +kernel
theorem dX6_init_17 : decode cX6_init 17 = .ok (.putfield 15, 3) := by decide +kernel
theorem dX6_init_20 : decode cX6_init 20 = .ok (.return_, 1) := by decide +kernel
theorem dX6_becomeFalse_0 : decode cX6_becomeFalse 0 = .ok (.aload_n 0, 1) := by decide +kernel
theorem dX6_becomeFalse_1 : decode cX6_becomeFalse 1 = .ok (.iconst 0, 1) := by decide +kernel
theorem dX6_becomeFalse_2 : decode cX6_becomeFalse 2 = .ok (.putfield 18, 3) := by decide +kernel
theorem dX6_becomeFalse_5 : decode cX6_becomeFalse 5 = .ok (.return_, 1) := by decide +kernel
theorem dX6_becomeTrue_0 : decode cX6_becomeTrue 0 = .ok (.aload_n 0, 1) := by decide +kernel
theorem dX6_becomeTrue_1 : decode cX6_becomeTrue 1 = .ok (.lconst 0, 1) := by decide +kernel
theorem dX6_becomeTrue_2 : decode cX6_becomeTrue 2 = .ok (.lconst 0, 1) := by decide +kernel
theorem dX6_becomeTrue_3 : decode cX6_becomeTrue 3 = .ok (.invokevirtual 22, 3) := by decide +kernel
theorem dX6_becomeTrue_6 : decode cX6_becomeTrue 6 = .ok (.return_, 1) := by decide +kernel
theorem dX6_becomeTerm_0 : decode cX6_becomeTerm 0 = .ok (.aload_n 0, 1) := by decide +kernel
theorem dX6_becomeTerm_1 : decode cX6_becomeTerm 1 = .ok (.getfield 9, 3) := by decide +kernel
theorem dX6_becomeTerm_4 : decode cX6_becomeTerm 4 = .ok (.iconst 0, 1) := by decide +kernel
theorem dX6_becomeTerm_5 : decode cX6_becomeTerm 5 = .ok (.lload_n 1, 1) := by decide +kernel
theorem dX6_becomeTerm_6 : decode cX6_becomeTerm 6 = .ok (.lastore, 1) := by decide +kernel
theorem dX6_becomeTerm_7 : decode cX6_becomeTerm 7 = .ok (.aload_n 0, 1) := by decide +kernel
theorem dX6_becomeTerm_8 : decode cX6_becomeTerm 8 = .ok (.getfield 15, 3) := by decide +kernel
theorem dX6_becomeTerm_11 : decode cX6_becomeTerm 11 = .ok (.iconst 0, 1) := by decide +kernel
theorem dX6_becomeTerm_12 : decode cX6_becomeTerm 12 = .ok (.lload_n 3, 1) := by decide +kernel
theorem dX6_becomeTerm_13 : decode cX6_becomeTerm 13 = .ok (.lastore, 1) := by decide +kernel
theorem dX6_becomeTerm_14 : decode cX6_becomeTerm 14 = .ok (.aload_n 0, 1) := by decide +kernel
theorem dX6_becomeTerm_15 : decode cX6_becomeTerm 15 = .ok (.iconst 1, 1) := by decide +kernel
theorem dX6_becomeTerm_16 : decode cX6_becomeTerm 16 = .ok (.putfield 18, 3) := by decide +kernel
theorem dX6_becomeTerm_19 : decode cX6_becomeTerm 19 = .ok (.return_, 1) := by decide +kernel
theorem dX6_insert_0 : decode cX6_insert 0 = .ok (.aload_n 0, 1) := by decide +kernel
theorem dX6_insert_1 : decode cX6_insert 1 = .ok (.getfield 18, 3) := by decide +kernel
theorem dX6_insert_4 : decode cX6_insert 4 = .ok (.bipush 12, 2) := by decide +kernel
theorem dX6_insert_6 : decode cX6_insert 6 = .ok (.if_icmp .lt 4, 3) := by decide +kernel
theorem dX6_insert_9 : decode cX6_insert 9 = .ok (.return_, 1) := by decide +kernel
theorem dX6_insert_10 : decode cX6_insert 10 = .ok (.aload_n 0, 1) := by decide +kernel
theorem dX6_insert_11 : decode cX6_insert 11 = .ok (.getfield 18, 3) := by decide +kernel
theorem dX6_insert_14 : decode cX6_insert 14 = .ok (.istore 5, 2) := by decide +kernel
theorem dX6_insert_16 : decode cX6_insert 16 = .ok (.iload 5, 2) := by decide +kernel
theorem dX6_insert_18 : decode cX6_insert 18 = .ok (.ifCond .le 83, 3) := by decide +kernel
theorem dX6_insert_21 : decode cX6_insert 21 = .ok (.aload_n 0, 1) := by decide +kernel
theorem dX6_insert_22 : decode cX6_insert 22 = .ok (.getfield 9, 3) := by decide +kernel
theorem dX6_insert_25 : decode cX6_insert 25 = .ok (.iload 5, 2) := by decide +kernel
theorem dX6_insert_27 : decode cX6_insert 27 = .ok (.iconst 1, 1) := by decide +kernel
theorem dX6_insert_28 : decode cX6_insert 28 = .ok (.isub, 1) := by decide +kernel
theorem dX6_insert_29 : decode cX6_insert 29 = .ok (.laload, 1) := by decide +kernel
theorem dX6_insert_30 : decode cX6_insert 30 = .ok (.lload_n 1, 1) := by decide +kernel
theorem dX6_insert_31 : decode cX6_insert 31 = .ok (.lcmp, 1) := by decide +kernel
theorem dX6_insert_32 : decode cX6_insert 32 = .ok (.ifCond .gt 31, 3) := by decide +kernel
theorem dX6_insert_35 : decode cX6_insert 35 = .ok (.aload_n 0, 1) := by decide +kernel
theorem dX6_insert_36 : decode cX6_insert 36 = .ok (.getfield 9, 3) := by decide +kernel
theorem dX6_insert_39 : decode cX6_insert 39 = .ok (.iload 5, 2) := by decide +kernel
theorem dX6_insert_41 : decode cX6_insert 41 = .ok (.iconst 1, 1) := by decide +kernel
theorem dX6_insert_42 : decode cX6_insert 42 = .ok (.isub, 1) := by decide +kernel
theorem dX6_insert_43 : decode cX6_insert 43 = .ok (.laload, 1) := by decide +kernel
theorem dX6_insert_44 : decode cX6_insert 44 = .ok (.lload_n 1, 1) := by decide +kernel
theorem dX6_insert_45 : decode cX6_insert 45 = .ok (.lcmp, 1) := by decide +kernel
theorem dX6_insert_46 : decode cX6_insert 46 = .ok (.ifCond .ne 55, 3) := by decide +kernel
theorem dX6_insert_49 : decode cX6_insert 49 = .ok (.aload_n 0, 1) := by decide +kernel
theorem dX6_insert_50 : decode cX6_insert 50 = .ok (.getfield 15, 3) := by decide +kernel
theorem dX6_insert_53 : decode cX6_insert 53 = .ok (.iload 5, 2) := by decide +kernel
theorem dX6_insert_55 : decode cX6_insert 55 = .ok (.iconst 1, 1) := by decide +kernel
theorem dX6_insert_56 : decode cX6_insert 56 = .ok (.isub, 1) := by decide +kernel
theorem dX6_insert_57 : decode cX6_insert 57 = .ok (.laload, 1) := by decide +kernel
theorem dX6_insert_58 : decode cX6_insert 58 = .ok (.lload_n 3, 1) := by decide +kernel
theorem dX6_insert_59 : decode cX6_insert 59 = .ok (.lcmp, 1) := by decide +kernel
theorem dX6_insert_60 : decode cX6_insert 60 = .ok (.ifCond .le 41, 3) := by decide +kernel
theorem dX6_insert_63 : decode cX6_insert 63 = .ok (.aload_n 0, 1) := by decide +kernel
theorem dX6_insert_64 : decode cX6_insert 64 = .ok (.getfield 9, 3) := by decide +kernel
theorem dX6_insert_67 : decode cX6_insert 67 = .ok (.iload 5, 2) := by decide +kernel
theorem dX6_insert_69 : decode cX6_insert 69 = .ok (.aload_n 0, 1) := by decide +kernel
theorem dX6_insert_70 : decode cX6_insert 70 = .ok (.getfield 9, 3) := by decide +kernel
theorem dX6_insert_73 : decode cX6_insert 73 = .ok (.iload 5, 2) := by decide +kernel
theorem dX6_insert_75 : decode cX6_insert 75 = .ok (.iconst 1, 1) := by decide +kernel
theorem dX6_insert_76 : decode cX6_insert 76 = .ok (.isub, 1) := by decide +kernel
theorem dX6_insert_77 : decode cX6_insert 77 = .ok (.laload, 1) := by decide +kernel
theorem dX6_insert_78 : decode cX6_insert 78 = .ok (.lastore, 1) := by decide +kernel
theorem dX6_insert_79 : decode cX6_insert 79 = .ok (.aload_n 0, 1) := by decide +kernel
theorem dX6_insert_80 : decode cX6_insert 80 = .ok (.getfield 15, 3) := by decide +kernel
theorem dX6_insert_83 : decode cX6_insert 83 = .ok (.iload 5, 2) := by decide +kernel
theorem dX6_insert_85 : decode cX6_insert 85 = .ok (.aload_n 0, 1) := by decide +kernel
theorem dX6_insert_86 : decode cX6_insert 86 = .ok (.getfield 15, 3) := by decide +kernel
theorem dX6_insert_89 : decode cX6_insert 89 = .ok (.iload 5, 2) := by decide +kernel
theorem dX6_insert_91 : decode cX6_insert 91 = .ok (.iconst 1, 1) := by decide +kernel
theorem dX6_insert_92 : decode cX6_insert 92 = .ok (.isub, 1) := by decide +kernel
theorem dX6_insert_93 : decode cX6_insert 93 = .ok (.laload, 1) := by decide +kernel
theorem dX6_insert_94 : decode cX6_insert 94 = .ok (.lastore, 1) := by decide +kernel
theorem dX6_insert_95 : decode cX6_insert 95 = .ok (.iinc 5 (-1), 3) := by decide +kernel
theorem dX6_insert_98 : decode cX6_insert 98 = .ok (.goto (-82), 3) := by decide +kernel
theorem dX6_insert_101 : decode cX6_insert 101 = .ok (.aload_n 0, 1) := by decide +kernel
theorem dX6_insert_102 : decode cX6_insert 102 = .ok (.getfield 9, 3) := by decide +kernel
theorem dX6_insert_105 : decode cX6_insert 105 = .ok (.iload 5, 2) := by decide +kernel
theorem dX6_insert_107 : decode cX6_insert 107 = .ok (.lload_n 1, 1) := by decide +kernel
theorem dX6_insert_108 : decode cX6_insert 108 = .ok (.lastore, 1) := by decide +kernel
theorem dX6_insert_109 : decode cX6_insert 109 = .ok (.aload_n 0, 1) := by decide +kernel
theorem dX6_insert_110 : decode cX6_insert 110 = .ok (.getfield 15, 3) := by decide +kernel
theorem dX6_insert_113 : decode cX6_insert 113 = .ok (.iload 5, 2) := by decide +kernel
theorem dX6_insert_115 : decode cX6_insert 115 = .ok (.lload_n 3, 1) := by decide +kernel
theorem dX6_insert_116 : decode cX6_insert 116 = .ok (.lastore, 1) := by decide +kernel
theorem dX6_insert_117 : decode cX6_insert 117 = .ok (.aload_n 0, 1) := by decide +kernel
theorem dX6_insert_118 : decode cX6_insert 118 = .ok (.dup, 1) := by decide +kernel
theorem dX6_insert_119 : decode cX6_insert 119 = .ok (.getfield 18, 3) := by decide +kernel
theorem dX6_insert_122 : decode cX6_insert 122 = .ok (.iconst 1, 1) := by decide +kernel
theorem dX6_insert_123 : decode cX6_insert 123 = .ok (.iadd, 1) := by decide +kernel
theorem dX6_insert_124 : decode cX6_insert 124 = .ok (.putfield 18, 3) := by decide +kernel
theorem dX6_insert_127 : decode cX6_insert 127 = .ok (.return_, 1) := by decide +kernel
theorem dX6_firstThatHolds_0 : decode cX6_firstThatHolds 0 = .ok (.iconst 0, 1) := by decide +kernel
theorem dX6_firstThatHolds_1 : decode cX6_firstThatHolds 1 = .ok (.istore_n 3, 1) := by decide +kernel
theorem dX6_firstThatHolds_2 : decode cX6_firstThatHolds 2 = .ok (.iload_n 3, 1) := by decide +kernel
theorem dX6_firstThatHolds_3 : decode cX6_firstThatHolds 3 = .ok (.aload_n 0, 1) := by decide +kernel
theorem dX6_firstThatHolds_4 : decode cX6_firstThatHolds 4 = .ok (.getfield 18, 3) := by decide +kernel
theorem dX6_firstThatHolds_7 : decode cX6_firstThatHolds 7 = .ok (.if_icmp .ge 41, 3) := by decide +kernel
theorem dX6_firstThatHolds_10 : decode cX6_firstThatHolds 10 = .ok (.aload_n 0, 1) := by decide +kernel
theorem dX6_firstThatHolds_11 : decode cX6_firstThatHolds 11 = .ok (.getfield 9, 3) := by decide +kernel
theorem dX6_firstThatHolds_14 : decode cX6_firstThatHolds 14 = .ok (.iload_n 3, 1) := by decide +kernel
theorem dX6_firstThatHolds_15 : decode cX6_firstThatHolds 15 = .ok (.laload, 1) := by decide +kernel
theorem dX6_firstThatHolds_16 : decode cX6_firstThatHolds 16 = .ok (.lload_n 1, 1) := by decide +kernel
theorem dX6_firstThatHolds_17 : decode cX6_firstThatHolds 17 = .ok (.ldc2_w 26, 3) := by decide +kernel
theorem dX6_firstThatHolds_20 : decode cX6_firstThatHolds 20 = .ok (.lxor, 1) := by decide +kernel
theorem dX6_firstThatHolds_21 : decode cX6_firstThatHolds 21 = .ok (.land, 1) := by decide +kernel
theorem dX6_firstThatHolds_22 : decode cX6_firstThatHolds 22 = .ok (.lconst 0, 1) := by decide +kernel
theorem dX6_firstThatHolds_23 : decode cX6_firstThatHolds 23 = .ok (.lcmp, 1) := by decide +kernel
theorem dX6_firstThatHolds_24 : decode cX6_firstThatHolds 24 = .ok (.ifCond .ne 18, 3) := by decide +kernel
theorem dX6_firstThatHolds_27 : decode cX6_firstThatHolds 27 = .ok (.aload_n 0, 1) := by decide +kernel
theorem dX6_firstThatHolds_28 : decode cX6_firstThatHolds 28 = .ok (.getfield 15, 3) := by decide +kernel
theorem dX6_firstThatHolds_31 : decode cX6_firstThatHolds 31 = .ok (.iload_n 3, 1) := by decide +kernel
theorem dX6_firstThatHolds_32 : decode cX6_firstThatHolds 32 = .ok (.laload, 1) := by decide +kernel
theorem dX6_firstThatHolds_33 : decode cX6_firstThatHolds 33 = .ok (.lload_n 1, 1) := by decide +kernel
theorem dX6_firstThatHolds_34 : decode cX6_firstThatHolds 34 = .ok (.land, 1) := by decide +kernel
theorem dX6_firstThatHolds_35 : decode cX6_firstThatHolds 35 = .ok (.lconst 0, 1) := by decide +kernel
theorem dX6_firstThatHolds_36 : decode cX6_firstThatHolds 36 = .ok (.lcmp, 1) := by decide +kernel
theorem dX6_firstThatHolds_37 : decode cX6_firstThatHolds 37 = .ok (.ifCond .ne 5, 3) := by decide +kernel
theorem dX6_firstThatHolds_40 : decode cX6_firstThatHolds 40 = .ok (.iload_n 3, 1) := by decide +kernel
theorem dX6_firstThatHolds_41 : decode cX6_firstThatHolds 41 = .ok (.ireturn, 1) := by decide +kernel
theorem dX6_firstThatHolds_42 : decode cX6_firstThatHolds 42 = .ok (.iinc 3 1, 3) := by decide +kernel
theorem dX6_firstThatHolds_45 : decode cX6_firstThatHolds 45 = .ok (.goto (-43), 3) := by decide +kernel
theorem dX6_firstThatHolds_48 : decode cX6_firstThatHolds 48 = .ok (.iconst (-1), 1) := by decide +kernel
theorem dX6_firstThatHolds_49 : decode cX6_firstThatHolds 49 = .ok (.ireturn, 1) := by decide +kernel
theorem dX6_holdsWith_0 : decode cX6_holdsWith 0 = .ok (.aload_n 0, 1) := by decide +kernel
theorem dX6_holdsWith_1 : decode cX6_holdsWith 1 = .ok (.lload_n 1, 1) := by decide +kernel
theorem dX6_holdsWith_2 : decode cX6_holdsWith 2 = .ok (.invokevirtual 28, 3) := by decide +kernel
theorem dX6_holdsWith_5 : decode cX6_holdsWith 5 = .ok (.iconst (-1), 1) := by decide +kernel
theorem dX6_holdsWith_6 : decode cX6_holdsWith 6 = .ok (.if_icmp .eq 7, 3) := by decide +kernel
theorem dX6_holdsWith_9 : decode cX6_holdsWith 9 = .ok (.iconst 1, 1) := by decide +kernel
theorem dX6_holdsWith_10 : decode cX6_holdsWith 10 = .ok (.goto 4, 3) := by decide +kernel
theorem dX6_holdsWith_13 : decode cX6_holdsWith 13 = .ok (.iconst 0, 1) := by decide +kernel
theorem dX6_holdsWith_14 : decode cX6_holdsWith 14 = .ok (.ireturn, 1) := by decide +kernel
theorem dX6_rowsOfTerms_0 : decode cX6_rowsOfTerms 0 = .ok (.lconst 0, 1) := by decide +kernel
theorem dX6_rowsOfTerms_1 : decode cX6_rowsOfTerms 1 = .ok (.lstore_n 1, 1) := by decide +kernel
theorem dX6_rowsOfTerms_2 : decode cX6_rowsOfTerms 2 = .ok (.iconst 0, 1) := by decide +kernel
theorem dX6_rowsOfTerms_3 : decode cX6_rowsOfTerms 3 = .ok (.istore_n 3, 1) := by decide +kernel
theorem dX6_rowsOfTerms_4 : decode cX6_rowsOfTerms 4 = .ok (.iload_n 3, 1) := by decide +kernel
theorem dX6_rowsOfTerms_5 : decode cX6_rowsOfTerms 5 = .ok (.aload_n 0, 1) := by decide +kernel
theorem dX6_rowsOfTerms_6 : decode cX6_rowsOfTerms 6 = .ok (.getfield 18, 3) := by decide +kernel
theorem dX6_rowsOfTerms_9 : decode cX6_rowsOfTerms 9 = .ok (.if_icmp .ge 25, 3) := by decide +kernel
theorem dX6_rowsOfTerms_12 : decode cX6_rowsOfTerms 12 = .ok (.lload_n 1, 1) := by decide +kernel
theorem dX6_rowsOfTerms_13 : decode cX6_rowsOfTerms 13 = .ok (.aload_n 0, 1) := by decide +kernel
theorem dX6_rowsOfTerms_14 : decode cX6_rowsOfTerms 14 = .ok (.getfield 9, 3) := by decide +kernel
theorem dX6_rowsOfTerms_17 : decode cX6_rowsOfTerms 17 = .ok (.iload_n 3, 1) := by decide +kernel
theorem dX6_rowsOfTerms_18 : decode cX6_rowsOfTerms 18 = .ok (.laload, 1) := by decide +kernel
theorem dX6_rowsOfTerms_19 : decode cX6_rowsOfTerms 19 = .ok (.aload_n 0, 1) := by decide +kernel
theorem dX6_rowsOfTerms_20 : decode cX6_rowsOfTerms 20 = .ok (.getfield 15, 3) := by decide +kernel
theorem dX6_rowsOfTerms_23 : decode cX6_rowsOfTerms 23 = .ok (.iload_n 3, 1) := by decide +kernel
theorem dX6_rowsOfTerms_24 : decode cX6_rowsOfTerms 24 = .ok (.laload, 1) := by decide +kernel
theorem dX6_rowsOfTerms_25 : decode cX6_rowsOfTerms 25 = .ok (.lor, 1) := by decide +kernel
theorem dX6_rowsOfTerms_26 : decode cX6_rowsOfTerms 26 = .ok (.lor, 1) := by decide +kernel
theorem dX6_rowsOfTerms_27 : decode cX6_rowsOfTerms 27 = .ok (.lstore_n 1, 1) := by decide +kernel
theorem dX6_rowsOfTerms_28 : decode cX6_rowsOfTerms 28 = .ok (.iinc 3 1, 3) := by decide +kernel
theorem dX6_rowsOfTerms_31 : decode cX6_rowsOfTerms 31 = .ok (.goto (-27), 3) := by decide +kernel
theorem dX6_rowsOfTerms_34 : decode cX6_rowsOfTerms 34 = .ok (.lload_n 1, 1) := by decide +kernel
theorem dX6_rowsOfTerms_35 : decode cX6_rowsOfTerms 35 = .ok (.lreturn, 1) := by decide +kernel
theorem dX6_leastDropsToHold_0 : decode cX6_leastDropsToHold 0 = .ok (.iconst (-1), 1) := by decide +kernel
theorem dX6_leastDropsToHold_1 : decode cX6_leastDropsToHold 1 = .ok (.istore_n 3, 1) := by decide +kernel
theorem dX6_leastDropsToHold_2 : decode cX6_leastDropsToHold 2 = .ok (.iconst 0, 1) := by decide +kernel
theorem dX6_leastDropsToHold_3 : decode cX6_leastDropsToHold 3 = .ok (.istore 4, 2) := by decide +kernel
theorem dX6_leastDropsToHold_5 : decode cX6_leastDropsToHold 5 = .ok (.iload 4, 2) := by decide +kernel
theorem dX6_leastDropsToHold_7 : decode cX6_leastDropsToHold 7 = .ok (.aload_n 0, 1) := by decide +kernel
theorem dX6_leastDropsToHold_8 : decode cX6_leastDropsToHold 8 = .ok (.getfield 18, 3) := by decide +kernel
theorem dX6_leastDropsToHold_11 : decode cX6_leastDropsToHold 11 = .ok (.if_icmp .ge 55, 3) := by decide +kernel
theorem dX6_leastDropsToHold_14 : decode cX6_leastDropsToHold 14 = .ok (.aload_n 0, 1) := by decide +kernel
theorem dX6_leastDropsToHold_15 : decode cX6_leastDropsToHold 15 = .ok (.getfield 15, 3) := by decide +kernel
theorem dX6_leastDropsToHold_18 : decode cX6_leastDropsToHold 18 = .ok (.iload 4, 2) := by decide +kernel
theorem dX6_leastDropsToHold_20 : decode cX6_leastDropsToHold 20 = .ok (.laload, 1) := by decide +kernel
theorem dX6_leastDropsToHold_21 : decode cX6_leastDropsToHold 21 = .ok (.lload_n 1, 1) := by decide +kernel
theorem dX6_leastDropsToHold_22 : decode cX6_leastDropsToHold 22 = .ok (.land, 1) := by decide +kernel
theorem dX6_leastDropsToHold_23 : decode cX6_leastDropsToHold 23 = .ok (.invokestatic 32, 3) := by decide +kernel
theorem dX6_leastDropsToHold_26 : decode cX6_leastDropsToHold 26 = .ok (.istore 5, 2) := by decide +kernel
theorem dX6_leastDropsToHold_28 : decode cX6_leastDropsToHold 28 = .ok (.aload_n 0, 1) := by decide +kernel
theorem dX6_leastDropsToHold_29 : decode cX6_leastDropsToHold 29 = .ok (.getfield 9, 3) := by decide +kernel
theorem dX6_leastDropsToHold_32 : decode cX6_leastDropsToHold 32 = .ok (.iload 4, 2) := by decide +kernel
theorem dX6_leastDropsToHold_34 : decode cX6_leastDropsToHold 34 = .ok (.laload, 1) := by decide +kernel
theorem dX6_leastDropsToHold_35 : decode cX6_leastDropsToHold 35 = .ok (.lload_n 1, 1) := by decide +kernel
theorem dX6_leastDropsToHold_36 : decode cX6_leastDropsToHold 36 = .ok (.ldc2_w 26, 3) := by decide +kernel
theorem dX6_leastDropsToHold_39 : decode cX6_leastDropsToHold 39 = .ok (.lxor, 1) := by decide +kernel
theorem dX6_leastDropsToHold_40 : decode cX6_leastDropsToHold 40 = .ok (.land, 1) := by decide +kernel
theorem dX6_leastDropsToHold_41 : decode cX6_leastDropsToHold 41 = .ok (.lconst 0, 1) := by decide +kernel
theorem dX6_leastDropsToHold_42 : decode cX6_leastDropsToHold 42 = .ok (.lcmp, 1) := by decide +kernel
theorem dX6_leastDropsToHold_43 : decode cX6_leastDropsToHold 43 = .ok (.ifCond .ne 17, 3) := by decide +kernel
theorem dX6_leastDropsToHold_46 : decode cX6_leastDropsToHold 46 = .ok (.iload_n 3, 1) := by decide +kernel
theorem dX6_leastDropsToHold_47 : decode cX6_leastDropsToHold 47 = .ok (.iconst (-1), 1) := by decide +kernel
theorem dX6_leastDropsToHold_48 : decode cX6_leastDropsToHold 48 = .ok (.if_icmp .eq 9, 3) := by decide +kernel
theorem dX6_leastDropsToHold_51 : decode cX6_leastDropsToHold 51 = .ok (.iload 5, 2) := by decide +kernel
theorem dX6_leastDropsToHold_53 : decode cX6_leastDropsToHold 53 = .ok (.iload_n 3, 1) := by decide +kernel
theorem dX6_leastDropsToHold_54 : decode cX6_leastDropsToHold 54 = .ok (.if_icmp .ge 6, 3) := by decide +kernel
theorem dX6_leastDropsToHold_57 : decode cX6_leastDropsToHold 57 = .ok (.iload 5, 2) := by decide +kernel
theorem dX6_leastDropsToHold_59 : decode cX6_leastDropsToHold 59 = .ok (.istore_n 3, 1) := by decide +kernel
theorem dX6_leastDropsToHold_60 : decode cX6_leastDropsToHold 60 = .ok (.iinc 4 1, 3) := by decide +kernel
theorem dX6_leastDropsToHold_63 : decode cX6_leastDropsToHold 63 = .ok (.goto (-58), 3) := by decide +kernel
theorem dX6_leastDropsToHold_66 : decode cX6_leastDropsToHold 66 = .ok (.iload_n 3, 1) := by decide +kernel
theorem dX6_leastDropsToHold_67 : decode cX6_leastDropsToHold 67 = .ok (.ireturn, 1) := by decide +kernel
