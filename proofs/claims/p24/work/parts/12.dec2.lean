theorem dX8_init_0 : decode cX8_init 0 = .ok (.aload_n 0, 1) := by decide +kernel
theorem dX8_init_1 : decode cX8_init 1 = .ok (.invokespecial 1, 3) := by decide +kernel
theorem dX8_init_4 : decode cX8_init 4 = .ok (.aload_n 0, 1) := by decide +kernel
theorem dX8_init_5 : decode cX8_init 5 = .ok (.iconst 4, 1) := by decide +kernel
theorem dX8_init_6 : decode cX8_init 6 = .ok (.newarray .int, 2) := by decide +kernel
theorem dX8_init_8 : decode cX8_init 8 = .ok (.putfield 7, 3) := by decide +kernel
theorem dX8_init_11 : decode cX8_init 11 = .ok (.aload_n 0, 1) := by decide +kernel
theorem dX8_init_12 : decode cX8_init 12 = .ok (.bipush 36, 2) := by decide +kernel
theorem dX8_init_14 : decode cX8_init 14 = .ok (.newarray .int, 2) := by decide +kernel
theorem dX8_init_16 : decode cX8_init 16 = .ok (.putfield 13, 3) := by decide +kernel
theorem dX8_init_19 : decode cX8_init 19 = .ok (.aload_n 0, 1) := by decide +kernel
theorem dX8_init_20 : decode cX8_init 20 = .ok (.sipush 144, 3) := by decide +kernel
theorem dX8_init_23 : decode cX8_init 23 = .ok (.newarray .int, 2) := by decide +kernel
theorem dX8_init_25 : decode cX8_init 25 = .ok (.putfield 16, 3) := by decide +kernel
theorem dX8_init_28 : decode cX8_init 28 = .ok (.aload_n 0, 1) := by decide +kernel
theorem dX8_init_29 : decode cX8_init 29 = .ok (.bipush 16, 2) := by decide +kernel
theorem dX8_init_31 : decode cX8_init 31 = .ok (.newarray .int, 2) := by decide +kernel
theorem dX8_init_33 : decode cX8_init 33 = .ok (.putfield 19, 3) := by decide +kernel
theorem dX8_init_36 : decode cX8_init 36 = .ok (.aload_n 0, 1) := by decide +kernel
theorem dX8_init_37 : decode cX8_init 37 = .ok (.bipush 16, 2) := by decide +kernel
theorem dX8_init_39 : decode cX8_init 39 = .ok (.newarray .int, 2) := by decide +kernel
theorem dX8_init_41 : decode cX8_init 41 = .ok (.putfield 22, 3) := by decide +kernel
theorem dX8_init_44 : decode cX8_init 44 = .ok (.aload_n 0, 1) := by decide +kernel
theorem dX8_init_45 : decode cX8_init 45 = .ok (.bipush 16, 2) := by decide +kernel
theorem dX8_init_47 : decode cX8_init 47 = .ok (.newarray .int, 2) := by decide +kernel
theorem dX8_init_49 : decode cX8_init 49 = .ok (.putfield 25, 3) := by decide +kernel
theorem dX8_init_52 : decode cX8_init 52 = .ok (.aload_n 0, 1) := by decide +kernel
theorem dX8_init_53 : decode cX8_init 53 = .ok (.bipush 16, 2) := by decide +kernel
theorem dX8_init_55 : decode cX8_init 55 = .ok (.newarray .int, 2) := by decide +kernel
theorem dX8_init_57 : decode cX8_init 57 = .ok (.putfield 28, 3) := by decide +kernel
theorem dX8_init_60 : decode cX8_init 60 = .ok (.aload_n 0, 1) := by decide +kernel
theorem dX8_init_61 : decode cX8_init 61 = .ok (.bipush 16, 2) := by decide +kernel
theorem dX8_init_63 : decode cX8_init 63 = .ok (.newarray .int, 2) := by decide +kernel
theorem dX8_init_65 : decode cX8_init 65 = .ok (.putfield 31, 3) := by decide +kernel
theorem dX8_init_68 : decode cX8_init 68 = .ok (.aload_n 0, 1) := by decide +kernel
theorem dX8_init_69 : decode cX8_init 69 = .ok (.bipush 16, 2) := by decide +kernel
theorem dX8_init_71 : decode cX8_init 71 = .ok (.newarray .int, 2) := by decide +kernel
theorem dX8_init_73 : decode cX8_init 73 = .ok (.putfield 34, 3) := by decide +kernel
theorem dX8_init_76 : decode cX8_init 76 = .ok (.aload_n 0, 1) := by decide +kernel
theorem dX8_init_77 : decode cX8_init 77 = .ok (.bipush 16, 2) := by decide +kernel
theorem dX8_init_79 : decode cX8_init 79 = .ok (.newarray .int, 2) := by decide +kernel
theorem dX8_init_81 : decode cX8_init 81 = .ok (.putfield 37, 3) := by decide +kernel
theorem dX8_init_84 : decode cX8_init 84 = .ok (.aload_n 0, 1) := by decide +kernel
theorem dX8_init_85 : decode cX8_init 85 = .ok (.bipush 16, 2) := by decide +kernel
theorem dX8_init_87 : decode cX8_init 87 = .ok (.newarray .int, 2) := by decide +kernel
theorem dX8_init_89 : decode cX8_init 89 = .ok (.putfield 40, 3) := by decide +kernel
theorem dX8_init_92 : decode cX8_init 92 = .ok (.aload_n 0, 1) := by decide +kernel
theorem dX8_init_93 : decode cX8_init 93 = .ok (.sipush 8160, 3) := by decide +kernel
theorem dX8_init_96 : decode cX8_init 96 = .ok (.newarray .int, 2) := by decide +kernel
theorem dX8_init_98 : decode cX8_init 98 = .ok (.putfield 43, 3) := by decide +kernel
theorem dX8_init_101 : decode cX8_init 101 = .ok (.aload_n 0, 1) := by decide +kernel
theorem dX8_init_102 : decode cX8_init 102 = .ok (.bipush 17, 2) := by decide +kernel
theorem dX8_init_104 : decode cX8_init 104 = .ok (.newarray .int, 2) := by decide +kernel
theorem dX8_init_106 : decode cX8_init 106 = .ok (.putfield 46, 3) := by decide +kernel
theorem dX8_init_109 : decode cX8_init 109 = .ok (.aload_n 0, 1) := by decide +kernel
theorem dX8_init_110 : decode cX8_init 110 = .ok (.bipush 16, 2) := by decide +kernel
theorem dX8_init_112 : decode cX8_init 112 = .ok (.newarray .boolean, 2) := by decide +kernel
theorem dX8_init_114 : decode cX8_init 114 = .ok (.putfield 49, 3) := by decide +kernel
theorem dX8_init_117 : decode cX8_init 117 = .ok (.aload_n 0, 1) := by decide +kernel
theorem dX8_init_118 : decode cX8_init 118 = .ok (.sipush 1368, 3) := by decide +kernel
theorem dX8_init_121 : decode cX8_init 121 = .ok (.newarray .int, 2) := by decide +kernel
theorem dX8_init_123 : decode cX8_init 123 = .ok (.putfield 53, 3) := by decide +kernel
theorem dX8_init_126 : decode cX8_init 126 = .ok (.aload_n 0, 1) := by decide +kernel
theorem dX8_init_127 : decode cX8_init 127 = .ok (.sipush 16416, 3) := by decide +kernel
theorem dX8_init_130 : decode cX8_init 130 = .ok (.newarray .long, 2) := by decide +kernel
theorem dX8_init_132 : decode cX8_init 132 = .ok (.putfield 56, 3) := by decide +kernel
theorem dX8_init_135 : decode cX8_init 135 = .ok (.aload_n 0, 1) := by decide +kernel
theorem dX8_init_136 : decode cX8_init 136 = .ok (.sipush 16416, 3) := by decide +kernel
theorem dX8_init_139 : decode cX8_init 139 = .ok (.newarray .long, 2) := by decide +kernel
theorem dX8_init_141 : decode cX8_init 141 = .ok (.putfield 60, 3) := by decide +kernel
theorem dX8_init_144 : decode cX8_init 144 = .ok (.aload_n 0, 1) := by decide +kernel
theorem dX8_init_145 : decode cX8_init 145 = .ok (.sipush 160, 3) := by decide +kernel
theorem dX8_init_148 : decode cX8_init 148 = .ok (.newarray .long, 2) := by decide +kernel
theorem dX8_init_150 : decode cX8_init 150 = .ok (.putfield 63, 3) := by decide +kernel
theorem dX8_init_153 : decode cX8_init 153 = .ok (.aload_n 0, 1) := by decide +kernel
theorem dX8_init_154 : decode cX8_init 154 = .ok (.sipush 160, 3) := by decide +kernel
theorem dX8_init_157 : decode cX8_init 157 = .ok (.newarray .long, 2) := by decide +kernel
theorem dX8_init_159 : decode cX8_init 159 = .ok (.putfield 66, 3) := by decide +kernel
theorem dX8_init_162 : decode cX8_init 162 = .ok (.aload_n 0, 1) := by decide +kernel
theorem dX8_init_163 : decode cX8_init 163 = .ok (.bipush 6, 2) := by decide +kernel
theorem dX8_init_165 : decode cX8_init 165 = .ok (.newarray .int, 2) := by decide +kernel
theorem dX8_init_167 : decode cX8_init 167 = .ok (.putfield 69, 3) := by decide +kernel
theorem dX8_init_170 : decode cX8_init 170 = .ok (.aload_n 0, 1) := by decide +kernel
theorem dX8_init_171 : decode cX8_init 171 = .ok (.iconst 4, 1) := by decide +kernel
theorem dX8_init_172 : decode cX8_init 172 = .ok (.newarray .int, 2) := by decide +kernel
theorem dX8_init_174 : decode cX8_init 174 = .ok (.putfield 72, 3) := by decide +kernel
theorem dX8_init_177 : decode cX8_init 177 = .ok (.aload_n 0, 1) := by decide +kernel
theorem dX8_init_178 : decode cX8_init 178 = .ok (.bipush 36, 2) := by decide +kernel
theorem dX8_init_180 : decode cX8_init 180 = .ok (.newarray .int, 2) := by decide +kernel
theorem dX8_init_182 : decode cX8_init 182 = .ok (.putfield 75, 3) := by decide +kernel
theorem dX8_init_185 : decode cX8_init 185 = .ok (.return_, 1) := by decide +kernel
theorem dX8_heapTerm_0 : decode cX8_heapTerm 0 = .ok (.aload_n 0, 1) := by decide +kernel
theorem dX8_heapTerm_1 : decode cX8_heapTerm 1 = .ok (.getfield 63, 3) := by decide +kernel
theorem dX8_heapTerm_4 : decode cX8_heapTerm 4 = .ok (.aload_n 0, 1) := by decide +kernel
theorem dX8_heapTerm_5 : decode cX8_heapTerm 5 = .ok (.getfield 82, 3) := by decide +kernel
theorem dX8_heapTerm_8 : decode cX8_heapTerm 8 = .ok (.lload_n 1, 1) := by decide +kernel
theorem dX8_heapTerm_9 : decode cX8_heapTerm 9 = .ok (.lastore, 1) := by decide +kernel
theorem dX8_heapTerm_10 : decode cX8_heapTerm 10 = .ok (.aload_n 0, 1) := by decide +kernel
theorem dX8_heapTerm_11 : decode cX8_heapTerm 11 = .ok (.getfield 66, 3) := by decide +kernel
theorem dX8_heapTerm_14 : decode cX8_heapTerm 14 = .ok (.aload_n 0, 1) := by decide +kernel
theorem dX8_heapTerm_15 : decode cX8_heapTerm 15 = .ok (.getfield 82, 3) := by decide +kernel
theorem dX8_heapTerm_18 : decode cX8_heapTerm 18 = .ok (.lload_n 3, 1) := by decide +kernel
theorem dX8_heapTerm_19 : decode cX8_heapTerm 19 = .ok (.lastore, 1) := by decide +kernel
theorem dX8_heapTerm_20 : decode cX8_heapTerm 20 = .ok (.aload_n 0, 1) := by decide +kernel
theorem dX8_heapTerm_21 : decode cX8_heapTerm 21 = .ok (.dup, 1) := by decide +kernel
theorem dX8_heapTerm_22 : decode cX8_heapTerm 22 = .ok (.getfield 82, 3) := by decide +kernel
theorem dX8_heapTerm_25 : decode cX8_heapTerm 25 = .ok (.iconst 1, 1) := by decide +kernel
theorem dX8_heapTerm_26 : decode cX8_heapTerm 26 = .ok (.iadd, 1) := by decide +kernel
theorem dX8_heapTerm_27 : decode cX8_heapTerm 27 = .ok (.putfield 82, 3) := by decide +kernel
theorem dX8_heapTerm_30 : decode cX8_heapTerm 30 = .ok (.return_, 1) := by decide +kernel
theorem dX8_goes_0 : decode cX8_goes 0 = .ok (.iconst 0, 1) := by decide +kernel
theorem dX8_goes_1 : decode cX8_goes 1 = .ok (.istore_n 2, 1) := by decide +kernel
theorem dX8_goes_2 : decode cX8_goes 2 = .ok (.iload_n 2, 1) := by decide +kernel
theorem dX8_goes_3 : decode cX8_goes 3 = .ok (.aload_n 0, 1) := by decide +kernel
theorem dX8_goes_4 : decode cX8_goes 4 = .ok (.getfield 82, 3) := by decide +kernel
theorem dX8_goes_7 : decode cX8_goes 7 = .ok (.if_icmp .ge 114, 3) := by decide +kernel
theorem dX8_goes_10 : decode cX8_goes 10 = .ok (.aload_n 0, 1) := by decide +kernel
theorem dX8_goes_11 : decode cX8_goes 11 = .ok (.getfield 63, 3) := by decide +kernel
theorem dX8_goes_14 : decode cX8_goes 14 = .ok (.iload_n 2, 1) := by decide +kernel
theorem dX8_goes_15 : decode cX8_goes 15 = .ok (.laload, 1) := by decide +kernel
theorem dX8_goes_16 : decode cX8_goes 16 = .ok (.aload_n 0, 1) := by decide +kernel
theorem dX8_goes_17 : decode cX8_goes 17 = .ok (.getfield 63, 3) := by decide +kernel
theorem dX8_goes_20 : decode cX8_goes 20 = .ok (.iload_n 1, 1) := by decide +kernel
theorem dX8_goes_21 : decode cX8_goes 21 = .ok (.laload, 1) := by decide +kernel
theorem dX8_goes_22 : decode cX8_goes 22 = .ok (.ldc2_w 85, 3) := by decide +kernel
theorem dX8_goes_25 : decode cX8_goes 25 = .ok (.lxor, 1) := by decide +kernel
theorem dX8_goes_26 : decode cX8_goes 26 = .ok (.land, 1) := by decide +kernel
theorem dX8_goes_27 : decode cX8_goes 27 = .ok (.lconst 0, 1) := by decide +kernel
theorem dX8_goes_28 : decode cX8_goes 28 = .ok (.lcmp, 1) := by decide +kernel
theorem dX8_goes_29 : decode cX8_goes 29 = .ok (.ifCond .ne 29, 3) := by decide +kernel
theorem dX8_goes_32 : decode cX8_goes 32 = .ok (.aload_n 0, 1) := by decide +kernel
theorem dX8_goes_33 : decode cX8_goes 33 = .ok (.getfield 66, 3) := by decide +kernel
theorem dX8_goes_36 : decode cX8_goes 36 = .ok (.iload_n 2, 1) := by decide +kernel
theorem dX8_goes_37 : decode cX8_goes 37 = .ok (.laload, 1) := by decide +kernel
theorem dX8_goes_38 : decode cX8_goes 38 = .ok (.aload_n 0, 1) := by decide +kernel
theorem dX8_goes_39 : decode cX8_goes 39 = .ok (.getfield 66, 3) := by decide +kernel
theorem dX8_goes_42 : decode cX8_goes 42 = .ok (.iload_n 1, 1) := by decide +kernel
theorem dX8_goes_43 : decode cX8_goes 43 = .ok (.laload, 1) := by decide +kernel
theorem dX8_goes_44 : decode cX8_goes 44 = .ok (.ldc2_w 85, 3) := by decide +kernel
theorem dX8_goes_47 : decode cX8_goes 47 = .ok (.lxor, 1) := by decide +kernel
theorem dX8_goes_48 : decode cX8_goes 48 = .ok (.land, 1) := by decide +kernel
theorem dX8_goes_49 : decode cX8_goes 49 = .ok (.lconst 0, 1) := by decide +kernel
theorem dX8_goes_50 : decode cX8_goes 50 = .ok (.lcmp, 1) := by decide +kernel
theorem dX8_goes_51 : decode cX8_goes 51 = .ok (.ifCond .ne 7, 3) := by decide +kernel
theorem dX8_goes_54 : decode cX8_goes 54 = .ok (.iconst 1, 1) := by decide +kernel
theorem dX8_goes_55 : decode cX8_goes 55 = .ok (.goto 4, 3) := by decide +kernel
theorem dX8_goes_58 : decode cX8_goes 58 = .ok (.iconst 0, 1) := by decide +kernel
theorem dX8_goes_59 : decode cX8_goes 59 = .ok (.istore_n 3, 1) := by decide +kernel
theorem dX8_goes_60 : decode cX8_goes 60 = .ok (.aload_n 0, 1) := by decide +kernel
theorem dX8_goes_61 : decode cX8_goes 61 = .ok (.getfield 63, 3) := by decide +kernel
theorem dX8_goes_64 : decode cX8_goes 64 = .ok (.iload_n 2, 1) := by decide +kernel
theorem dX8_goes_65 : decode cX8_goes 65 = .ok (.laload, 1) := by decide +kernel
theorem dX8_goes_66 : decode cX8_goes 66 = .ok (.aload_n 0, 1) := by decide +kernel
theorem dX8_goes_67 : decode cX8_goes 67 = .ok (.getfield 63, 3) := by decide +kernel
theorem dX8_goes_70 : decode cX8_goes 70 = .ok (.iload_n 1, 1) := by decide +kernel
theorem dX8_goes_71 : decode cX8_goes 71 = .ok (.laload, 1) := by decide +kernel
theorem dX8_goes_72 : decode cX8_goes 72 = .ok (.lcmp, 1) := by decide +kernel
theorem dX8_goes_73 : decode cX8_goes 73 = .ok (.ifCond .ne 23, 3) := by decide +kernel
theorem dX8_goes_76 : decode cX8_goes 76 = .ok (.aload_n 0, 1) := by decide +kernel
theorem dX8_goes_77 : decode cX8_goes 77 = .ok (.getfield 66, 3) := by decide +kernel
theorem dX8_goes_80 : decode cX8_goes 80 = .ok (.iload_n 2, 1) := by decide +kernel
theorem dX8_goes_81 : decode cX8_goes 81 = .ok (.laload, 1) := by decide +kernel
theorem dX8_goes_82 : decode cX8_goes 82 = .ok (.aload_n 0, 1) := by decide +kernel
theorem dX8_goes_83 : decode cX8_goes 83 = .ok (.getfield 66, 3) := by decide +kernel
theorem dX8_goes_86 : decode cX8_goes 86 = .ok (.iload_n 1, 1) := by decide +kernel
theorem dX8_goes_87 : decode cX8_goes 87 = .ok (.laload, 1) := by decide +kernel
theorem dX8_goes_88 : decode cX8_goes 88 = .ok (.lcmp, 1) := by decide +kernel
theorem dX8_goes_89 : decode cX8_goes 89 = .ok (.ifCond .ne 7, 3) := by decide +kernel
theorem dX8_goes_92 : decode cX8_goes 92 = .ok (.iconst 1, 1) := by decide +kernel
theorem dX8_goes_93 : decode cX8_goes 93 = .ok (.goto 4, 3) := by decide +kernel
theorem dX8_goes_96 : decode cX8_goes 96 = .ok (.iconst 0, 1) := by decide +kernel
theorem dX8_goes_97 : decode cX8_goes 97 = .ok (.istore 4, 2) := by decide +kernel
theorem dX8_goes_99 : decode cX8_goes 99 = .ok (.iload_n 3, 1) := by decide +kernel
theorem dX8_goes_100 : decode cX8_goes 100 = .ok (.ifCond .eq 15, 3) := by decide +kernel
theorem dX8_goes_103 : decode cX8_goes 103 = .ok (.iload 4, 2) := by decide +kernel
theorem dX8_goes_105 : decode cX8_goes 105 = .ok (.ifCond .eq 8, 3) := by decide +kernel
theorem dX8_goes_108 : decode cX8_goes 108 = .ok (.iload_n 2, 1) := by decide +kernel
theorem dX8_goes_109 : decode cX8_goes 109 = .ok (.iload_n 1, 1) := by decide +kernel
theorem dX8_goes_110 : decode cX8_goes 110 = .ok (.if_icmp .ge 5, 3) := by decide +kernel
theorem dX8_goes_113 : decode cX8_goes 113 = .ok (.iconst 1, 1) := by decide +kernel
theorem dX8_goes_114 : decode cX8_goes 114 = .ok (.ireturn, 1) := by decide +kernel
theorem dX8_goes_115 : decode cX8_goes 115 = .ok (.iinc 2 1, 3) := by decide +kernel
theorem dX8_goes_118 : decode cX8_goes 118 = .ok (.goto (-116), 3) := by decide +kernel
theorem dX8_goes_121 : decode cX8_goes 121 = .ok (.iconst 0, 1) := by decide +kernel
theorem dX8_goes_122 : decode cX8_goes 122 = .ok (.ireturn, 1) := by decide +kernel
theorem dX8_settle_0 : decode cX8_settle 0 = .ok (.iconst 0, 1) := by decide +kernel
theorem dX8_settle_1 : decode cX8_settle 1 = .ok (.istore_n 2, 1) := by decide +kernel
theorem dX8_settle_2 : decode cX8_settle 2 = .ok (.iconst 0, 1) := by decide +kernel
theorem dX8_settle_3 : decode cX8_settle 3 = .ok (.istore_n 3, 1) := by decide +kernel
theorem dX8_settle_4 : decode cX8_settle 4 = .ok (.iload_n 3, 1) := by decide +kernel
theorem dX8_settle_5 : decode cX8_settle 5 = .ok (.aload_n 0, 1) := by decide +kernel
theorem dX8_settle_6 : decode cX8_settle 6 = .ok (.getfield 82, 3) := by decide +kernel
theorem dX8_settle_9 : decode cX8_settle 9 = .ok (.if_icmp .ge 20, 3) := by decide +kernel
theorem dX8_settle_12 : decode cX8_settle 12 = .ok (.aload_n 0, 1) := by decide +kernel
theorem dX8_settle_13 : decode cX8_settle 13 = .ok (.iload_n 3, 1) := by decide +kernel
theorem dX8_settle_14 : decode cX8_settle 14 = .ok (.invokevirtual 87, 3) := by decide +kernel
theorem dX8_settle_17 : decode cX8_settle 17 = .ok (.ifCond .ne 6, 3) := by decide +kernel
theorem dX8_settle_20 : decode cX8_settle 20 = .ok (.iinc 2 1, 3) := by decide +kernel
theorem dX8_settle_23 : decode cX8_settle 23 = .ok (.iinc 3 1, 3) := by decide +kernel
theorem dX8_settle_26 : decode cX8_settle 26 = .ok (.goto (-22), 3) := by decide +kernel
theorem dX8_settle_29 : decode cX8_settle 29 = .ok (.iload_n 2, 1) := by decide +kernel
theorem dX8_settle_30 : decode cX8_settle 30 = .ok (.bipush 12, 2) := by decide +kernel
theorem dX8_settle_32 : decode cX8_settle 32 = .ok (.if_icmp .le 16, 3) := by decide +kernel
theorem dX8_settle_35 : decode cX8_settle 35 = .ok (.aload_n 0, 1) := by decide +kernel
theorem dX8_settle_36 : decode cX8_settle 36 = .ok (.iconst 1, 1) := by decide +kernel
theorem dX8_settle_37 : decode cX8_settle 37 = .ok (.putfield 91, 3) := by decide +kernel
theorem dX8_settle_40 : decode cX8_settle 40 = .ok (.aload_n 0, 1) := by decide +kernel
theorem dX8_settle_41 : decode cX8_settle 41 = .ok (.getfield 53, 3) := by decide +kernel
theorem dX8_settle_44 : decode cX8_settle 44 = .ok (.iload_n 1, 1) := by decide +kernel
theorem dX8_settle_45 : decode cX8_settle 45 = .ok (.iconst 0, 1) := by decide +kernel
theorem dX8_settle_46 : decode cX8_settle 46 = .ok (.iastore, 1) := by decide +kernel
theorem dX8_settle_47 : decode cX8_settle 47 = .ok (.return_, 1) := by decide +kernel
theorem dX8_settle_48 : decode cX8_settle 48 = .ok (.iconst 0, 1) := by decide +kernel
theorem dX8_settle_49 : decode cX8_settle 49 = .ok (.istore_n 3, 1) := by decide +kernel
theorem dX8_settle_50 : decode cX8_settle 50 = .ok (.iconst 0, 1) := by decide +kernel
theorem dX8_settle_51 : decode cX8_settle 51 = .ok (.istore 4, 2) := by decide +kernel
theorem dX8_settle_53 : decode cX8_settle 53 = .ok (.iload 4, 2) := by decide +kernel
theorem dX8_settle_55 : decode cX8_settle 55 = .ok (.aload_n 0, 1) := by decide +kernel
theorem dX8_settle_56 : decode cX8_settle 56 = .ok (.getfield 82, 3) := by decide +kernel
theorem dX8_settle_59 : decode cX8_settle 59 = .ok (.if_icmp .ge 200, 3) := by decide +kernel
theorem dX8_settle_62 : decode cX8_settle 62 = .ok (.aload_n 0, 1) := by decide +kernel
theorem dX8_settle_63 : decode cX8_settle 63 = .ok (.iload 4, 2) := by decide +kernel
theorem dX8_settle_65 : decode cX8_settle 65 = .ok (.invokevirtual 87, 3) := by decide +kernel
theorem dX8_settle_68 : decode cX8_settle 68 = .ok (.ifCond .ne 185, 3) := by decide +kernel
theorem dX8_settle_71 : decode cX8_settle 71 = .ok (.iload_n 3, 1) := by decide +kernel
theorem dX8_settle_72 : decode cX8_settle 72 = .ok (.istore 5, 2) := by decide +kernel
theorem dX8_settle_74 : decode cX8_settle 74 = .ok (.iload 5, 2) := by decide +kernel
theorem dX8_settle_76 : decode cX8_settle 76 = .ok (.ifCond .le 136, 3) := by decide +kernel
theorem dX8_settle_79 : decode cX8_settle 79 = .ok (.aload_n 0, 1) := by decide +kernel
theorem dX8_settle_80 : decode cX8_settle 80 = .ok (.getfield 56, 3) := by decide +kernel
theorem dX8_settle_83 : decode cX8_settle 83 = .ok (.bipush 12, 2) := by decide +kernel
theorem dX8_settle_85 : decode cX8_settle 85 = .ok (.iload_n 1, 1) := by decide +kernel
theorem dX8_settle_86 : decode cX8_settle 86 = .ok (.imul, 1) := by decide +kernel
theorem dX8_settle_87 : decode cX8_settle 87 = .ok (.iload 5, 2) := by decide +kernel
theorem dX8_settle_89 : decode cX8_settle 89 = .ok (.iadd, 1) := by decide +kernel
theorem dX8_settle_90 : decode cX8_settle 90 = .ok (.iconst 1, 1) := by decide +kernel
theorem dX8_settle_91 : decode cX8_settle 91 = .ok (.isub, 1) := by decide +kernel
theorem dX8_settle_92 : decode cX8_settle 92 = .ok (.laload, 1) := by decide +kernel
theorem dX8_settle_93 : decode cX8_settle 93 = .ok (.aload_n 0, 1) := by decide +kernel
theorem dX8_settle_94 : decode cX8_settle 94 = .ok (.getfield 63, 3) := by decide +kernel
theorem dX8_settle_97 : decode cX8_settle 97 = .ok (.iload 4, 2) := by decide +kernel
theorem dX8_settle_99 : decode cX8_settle 99 = .ok (.laload, 1) := by decide +kernel
theorem dX8_settle_100 : decode cX8_settle 100 = .ok (.lcmp, 1) := by decide +kernel
theorem dX8_settle_101 : decode cX8_settle 101 = .ok (.ifCond .gt 53, 3) := by decide +kernel
theorem dX8_settle_104 : decode cX8_settle 104 = .ok (.aload_n 0, 1) := by decide +kernel
theorem dX8_settle_105 : decode cX8_settle 105 = .ok (.getfield 56, 3) := by decide +kernel
theorem dX8_settle_108 : decode cX8_settle 108 = .ok (.bipush 12, 2) := by decide +kernel
theorem dX8_settle_110 : decode cX8_settle 110 = .ok (.iload_n 1, 1) := by decide +kernel
theorem dX8_settle_111 : decode cX8_settle 111 = .ok (.imul, 1) := by decide +kernel
theorem dX8_settle_112 : decode cX8_settle 112 = .ok (.iload 5, 2) := by decide +kernel
theorem dX8_settle_114 : decode cX8_settle 114 = .ok (.iadd, 1) := by decide +kernel
theorem dX8_settle_115 : decode cX8_settle 115 = .ok (.iconst 1, 1) := by decide +kernel
theorem dX8_settle_116 : decode cX8_settle 116 = .ok (.isub, 1) := by decide +kernel
theorem dX8_settle_117 : decode cX8_settle 117 = .ok (.laload, 1) := by decide +kernel
theorem dX8_settle_118 : decode cX8_settle 118 = .ok (.aload_n 0, 1) := by decide +kernel
theorem dX8_settle_119 : decode cX8_settle 119 = .ok (.getfield 63, 3) := by decide +kernel
theorem dX8_settle_122 : decode cX8_settle 122 = .ok (.iload 4, 2) := by decide +kernel
theorem dX8_settle_124 : decode cX8_settle 124 = .ok (.laload, 1) := by decide +kernel
theorem dX8_settle_125 : decode cX8_settle 125 = .ok (.lcmp, 1) := by decide +kernel
theorem dX8_settle_126 : decode cX8_settle 126 = .ok (.ifCond .ne 86, 3) := by decide +kernel
theorem dX8_settle_129 : decode cX8_settle 129 = .ok (.aload_n 0, 1) := by decide +kernel
theorem dX8_settle_130 : decode cX8_settle 130 = .ok (.getfield 60, 3) := by decide +kernel
theorem dX8_settle_133 : decode cX8_settle 133 = .ok (.bipush 12, 2) := by decide +kernel
theorem dX8_settle_135 : decode cX8_settle 135 = .ok (.iload_n 1, 1) := by decide +kernel
theorem dX8_settle_136 : decode cX8_settle 136 = .ok (.imul, 1) := by decide +kernel
theorem dX8_settle_137 : decode cX8_settle 137 = .ok (.iload 5, 2) := by decide +kernel
theorem dX8_settle_139 : decode cX8_settle 139 = .ok (.iadd, 1) := by decide +kernel
theorem dX8_settle_140 : decode cX8_settle 140 = .ok (.iconst 1, 1) := by decide +kernel
theorem dX8_settle_141 : decode cX8_settle 141 = .ok (.isub, 1) := by decide +kernel
theorem dX8_settle_142 : decode cX8_settle 142 = .ok (.laload, 1) := by decide +kernel
theorem dX8_settle_143 : decode cX8_settle 143 = .ok (.aload_n 0, 1) := by decide +kernel
theorem dX8_settle_144 : decode cX8_settle 144 = .ok (.getfield 66, 3) := by decide +kernel
theorem dX8_settle_147 : decode cX8_settle 147 = .ok (.iload 4, 2) := by decide +kernel
theorem dX8_settle_149 : decode cX8_settle 149 = .ok (.laload, 1) := by decide +kernel
theorem dX8_settle_150 : decode cX8_settle 150 = .ok (.lcmp, 1) := by decide +kernel
theorem dX8_settle_151 : decode cX8_settle 151 = .ok (.ifCond .le 61, 3) := by decide +kernel
theorem dX8_settle_154 : decode cX8_settle 154 = .ok (.aload_n 0, 1) := by decide +kernel
theorem dX8_settle_155 : decode cX8_settle 155 = .ok (.getfield 56, 3) := by decide +kernel
theorem dX8_settle_158 : decode cX8_settle 158 = .ok (.bipush 12, 2) := by decide +kernel
theorem dX8_settle_160 : decode cX8_settle 160 = .ok (.iload_n 1, 1) := by decide +kernel
theorem dX8_settle_161 : decode cX8_settle 161 = .ok (.imul, 1) := by decide +kernel
theorem dX8_settle_162 : decode cX8_settle 162 = .ok (.iload 5, 2) := by decide +kernel
theorem dX8_settle_164 : decode cX8_settle 164 = .ok (.iadd, 1) := by decide +kernel
theorem dX8_settle_165 : decode cX8_settle 165 = .ok (.aload_n 0, 1) := by decide +kernel
theorem dX8_settle_166 : decode cX8_settle 166 = .ok (.getfield 56, 3) := by decide +kernel
theorem dX8_settle_169 : decode cX8_settle 169 = .ok (.bipush 12, 2) := by decide +kernel
theorem dX8_settle_171 : decode cX8_settle 171 = .ok (.iload_n 1, 1) := by decide +kernel
theorem dX8_settle_172 : decode cX8_settle 172 = .ok (.imul, 1) := by decide +kernel
theorem dX8_settle_173 : decode cX8_settle 173 = .ok (.iload 5, 2) := by decide +kernel
theorem dX8_settle_175 : decode cX8_settle 175 = .ok (.iadd, 1) := by decide +kernel
theorem dX8_settle_176 : decode cX8_settle 176 = .ok (.iconst 1, 1) := by decide +kernel
theorem dX8_settle_177 : decode cX8_settle 177 = .ok (.isub, 1) := by decide +kernel
theorem dX8_settle_178 : decode cX8_settle 178 = .ok (.laload, 1) := by decide +kernel
theorem dX8_settle_179 : decode cX8_settle 179 = .ok (.lastore, 1) := by decide +kernel
theorem dX8_settle_180 : decode cX8_settle 180 = .ok (.aload_n 0, 1) := by decide +kernel
theorem dX8_settle_181 : decode cX8_settle 181 = .ok (.getfield 60, 3) := by decide +kernel
theorem dX8_settle_184 : decode cX8_settle 184 = .ok (.bipush 12, 2) := by decide +kernel
theorem dX8_settle_186 : decode cX8_settle 186 = .ok (.iload_n 1, 1) := by decide +kernel
theorem dX8_settle_187 : decode cX8_settle 187 = .ok (.imul, 1) := by decide +kernel
theorem dX8_settle_188 : decode cX8_settle 188 = .ok (.iload 5, 2) := by decide +kernel
theorem dX8_settle_190 : decode cX8_settle 190 = .ok (.iadd, 1) := by decide +kernel
theorem dX8_settle_191 : decode cX8_settle 191 = .ok (.aload_n 0, 1) := by decide +kernel
theorem dX8_settle_192 : decode cX8_settle 192 = .ok (.getfield 60, 3) := by decide +kernel
theorem dX8_settle_195 : decode cX8_settle 195 = .ok (.bipush 12, 2) := by decide +kernel
theorem dX8_settle_197 : decode cX8_settle 197 = .ok (.iload_n 1, 1) := by decide +kernel
theorem dX8_settle_198 : decode cX8_settle 198 = .ok (.imul, 1) := by decide +kernel
theorem dX8_settle_199 : decode cX8_settle 199 = .ok (.iload 5, 2) := by decide +kernel
theorem dX8_settle_201 : decode cX8_settle 201 = .ok (.iadd, 1) := by decide +kernel
theorem dX8_settle_202 : decode cX8_settle 202 = .ok (.iconst 1, 1) := by decide +kernel
theorem dX8_settle_203 : decode cX8_settle 203 = .ok (.isub, 1) := by decide +kernel
theorem dX8_settle_204 : decode cX8_settle 204 = .ok (.laload, 1) := by decide +kernel
theorem dX8_settle_205 : decode cX8_settle 205 = .ok (.lastore, 1) := by decide +kernel
theorem dX8_settle_206 : decode cX8_settle 206 = .ok (.iinc 5 (-1), 3) := by decide +kernel
theorem dX8_settle_209 : decode cX8_settle 209 = .ok (.goto (-135), 3) := by decide +kernel
theorem dX8_settle_212 : decode cX8_settle 212 = .ok (.aload_n 0, 1) := by decide +kernel
theorem dX8_settle_213 : decode cX8_settle 213 = .ok (.getfield 56, 3) := by decide +kernel
theorem dX8_settle_216 : decode cX8_settle 216 = .ok (.bipush 12, 2) := by decide +kernel
theorem dX8_settle_218 : decode cX8_settle 218 = .ok (.iload_n 1, 1) := by decide +kernel
theorem dX8_settle_219 : decode cX8_settle 219 = .ok (.imul, 1) := by decide +kernel
theorem dX8_settle_220 : decode cX8_settle 220 = .ok (.iload 5, 2) := by decide +kernel
theorem dX8_settle_222 : decode cX8_settle 222 = .ok (.iadd, 1) := by decide +kernel
theorem dX8_settle_223 : decode cX8_settle 223 = .ok (.aload_n 0, 1) := by decide +kernel
theorem dX8_settle_224 : decode cX8_settle 224 = .ok (.getfield 63, 3) := by decide +kernel
theorem dX8_settle_227 : decode cX8_settle 227 = .ok (.iload 4, 2) := by decide +kernel
theorem dX8_settle_229 : decode cX8_settle 229 = .ok (.laload, 1) := by decide +kernel
theorem dX8_settle_230 : decode cX8_settle 230 = .ok (.lastore, 1) := by decide +kernel
theorem dX8_settle_231 : decode cX8_settle 231 = .ok (.aload_n 0, 1) := by decide +kernel
theorem dX8_settle_232 : decode cX8_settle 232 = .ok (.getfield 60, 3) := by decide +kernel
theorem dX8_settle_235 : decode cX8_settle 235 = .ok (.bipush 12, 2) := by decide +kernel
theorem dX8_settle_237 : decode cX8_settle 237 = .ok (.iload_n 1, 1) := by decide +kernel
theorem dX8_settle_238 : decode cX8_settle 238 = .ok (.imul, 1) := by decide +kernel
theorem dX8_settle_239 : decode cX8_settle 239 = .ok (.iload 5, 2) := by decide +kernel
theorem dX8_settle_241 : decode cX8_settle 241 = .ok (.iadd, 1) := by decide +kernel
theorem dX8_settle_242 : decode cX8_settle 242 = .ok (.aload_n 0, 1) := by decide +kernel
theorem dX8_settle_243 : decode cX8_settle 243 = .ok (.getfield 66, 3) := by decide +kernel
theorem dX8_settle_246 : decode cX8_settle 246 = .ok (.iload 4, 2) := by decide +kernel
theorem dX8_settle_248 : decode cX8_settle 248 = .ok (.laload, 1) := by decide +kernel
theorem dX8_settle_249 : decode cX8_settle 249 = .ok (.lastore, 1) := by decide +kernel
theorem dX8_settle_250 : decode cX8_settle 250 = .ok (.iinc 3 1, 3) := by decide +kernel
theorem dX8_settle_253 : decode cX8_settle 253 = .ok (.iinc 4 1, 3) := by decide +kernel
theorem dX8_settle_256 : decode cX8_settle 256 = .ok (.goto (-203), 3) := by decide +kernel
theorem dX8_settle_259 : decode cX8_settle 259 = .ok (.aload_n 0, 1) := by decide +kernel
theorem dX8_settle_260 : decode cX8_settle 260 = .ok (.getfield 53, 3) := by decide +kernel
theorem dX8_settle_263 : decode cX8_settle 263 = .ok (.iload_n 1, 1) := by decide +kernel
theorem dX8_settle_264 : decode cX8_settle 264 = .ok (.iload_n 3, 1) := by decide +kernel
theorem dX8_settle_265 : decode cX8_settle 265 = .ok (.iastore, 1) := by decide +kernel
theorem dX8_settle_266 : decode cX8_settle 266 = .ok (.return_, 1) := by decide +kernel
theorem dX8_either_0 : decode cX8_either 0 = .ok (.aload_n 0, 1) := by decide +kernel
theorem dX8_either_1 : decode cX8_either 1 = .ok (.iconst 0, 1) := by decide +kernel
theorem dX8_either_2 : decode cX8_either 2 = .ok (.putfield 82, 3) := by decide +kernel
theorem dX8_either_5 : decode cX8_either 5 = .ok (.iconst 0, 1) := by decide +kernel
theorem dX8_either_6 : decode cX8_either 6 = .ok (.istore 4, 2) := by decide +kernel
theorem dX8_either_8 : decode cX8_either 8 = .ok (.iload 4, 2) := by decide +kernel
theorem dX8_either_10 : decode cX8_either 10 = .ok (.aload_n 0, 1) := by decide +kernel
theorem dX8_either_11 : decode cX8_either 11 = .ok (.getfield 53, 3) := by decide +kernel
theorem dX8_either_14 : decode cX8_either 14 = .ok (.iload_n 2, 1) := by decide +kernel
theorem dX8_either_15 : decode cX8_either 15 = .ok (.iaload, 1) := by decide +kernel
theorem dX8_either_16 : decode cX8_either 16 = .ok (.if_icmp .ge 37, 3) := by decide +kernel
theorem dX8_either_19 : decode cX8_either 19 = .ok (.aload_n 0, 1) := by decide +kernel
theorem dX8_either_20 : decode cX8_either 20 = .ok (.aload_n 0, 1) := by decide +kernel
theorem dX8_either_21 : decode cX8_either 21 = .ok (.getfield 56, 3) := by decide +kernel
theorem dX8_either_24 : decode cX8_either 24 = .ok (.bipush 12, 2) := by decide +kernel
theorem dX8_either_26 : decode cX8_either 26 = .ok (.iload_n 2, 1) := by decide +kernel
theorem dX8_either_27 : decode cX8_either 27 = .ok (.imul, 1) := by decide +kernel
theorem dX8_either_28 : decode cX8_either 28 = .ok (.iload 4, 2) := by decide +kernel
theorem dX8_either_30 : decode cX8_either 30 = .ok (.iadd, 1) := by decide +kernel
theorem dX8_either_31 : decode cX8_either 31 = .ok (.laload, 1) := by decide +kernel
theorem dX8_either_32 : decode cX8_either 32 = .ok (.aload_n 0, 1) := by decide +kernel
theorem dX8_either_33 : decode cX8_either 33 = .ok (.getfield 60, 3) := by decide +kernel
theorem dX8_either_36 : decode cX8_either 36 = .ok (.bipush 12, 2) := by decide +kernel
theorem dX8_either_38 : decode cX8_either 38 = .ok (.iload_n 2, 1) := by decide +kernel
theorem dX8_either_39 : decode cX8_either 39 = .ok (.imul, 1) := by decide +kernel
theorem dX8_either_40 : decode cX8_either 40 = .ok (.iload 4, 2) := by decide +kernel
theorem dX8_either_42 : decode cX8_either 42 = .ok (.iadd, 1) := by decide +kernel
theorem dX8_either_43 : decode cX8_either 43 = .ok (.laload, 1) := by decide +kernel
theorem dX8_either_44 : decode cX8_either 44 = .ok (.invokevirtual 95, 3) := by decide +kernel
theorem dX8_either_47 : decode cX8_either 47 = .ok (.iinc 4 1, 3) := by decide +kernel
theorem dX8_either_50 : decode cX8_either 50 = .ok (.goto (-42), 3) := by decide +kernel
theorem dX8_either_53 : decode cX8_either 53 = .ok (.iconst 0, 1) := by decide +kernel
theorem dX8_either_54 : decode cX8_either 54 = .ok (.istore 4, 2) := by decide +kernel
theorem dX8_either_56 : decode cX8_either 56 = .ok (.iload 4, 2) := by decide +kernel
theorem dX8_either_58 : decode cX8_either 58 = .ok (.aload_n 0, 1) := by decide +kernel
theorem dX8_either_59 : decode cX8_either 59 = .ok (.getfield 53, 3) := by decide +kernel
theorem dX8_either_62 : decode cX8_either 62 = .ok (.iload_n 3, 1) := by decide +kernel
theorem dX8_either_63 : decode cX8_either 63 = .ok (.iaload, 1) := by decide +kernel
theorem dX8_either_64 : decode cX8_either 64 = .ok (.if_icmp .ge 37, 3) := by decide +kernel
theorem dX8_either_67 : decode cX8_either 67 = .ok (.aload_n 0, 1) := by decide +kernel
theorem dX8_either_68 : decode cX8_either 68 = .ok (.aload_n 0, 1) := by decide +kernel
theorem dX8_either_69 : decode cX8_either 69 = .ok (.getfield 56, 3) := by decide +kernel
theorem dX8_either_72 : decode cX8_either 72 = .ok (.bipush 12, 2) := by decide +kernel
theorem dX8_either_74 : decode cX8_either 74 = .ok (.iload_n 3, 1) := by decide +kernel
theorem dX8_either_75 : decode cX8_either 75 = .ok (.imul, 1) := by decide +kernel
theorem dX8_either_76 : decode cX8_either 76 = .ok (.iload 4, 2) := by decide +kernel
theorem dX8_either_78 : decode cX8_either 78 = .ok (.iadd, 1) := by decide +kernel
theorem dX8_either_79 : decode cX8_either 79 = .ok (.laload, 1) := by decide +kernel
theorem dX8_either_80 : decode cX8_either 80 = .ok (.aload_n 0, 1) := by decide +kernel
theorem dX8_either_81 : decode cX8_either 81 = .ok (.getfield 60, 3) := by decide +kernel
theorem dX8_either_84 : decode cX8_either 84 = .ok (.bipush 12, 2) := by decide +kernel
theorem dX8_either_86 : decode cX8_either 86 = .ok (.iload_n 3, 1) := by decide +kernel
theorem dX8_either_87 : decode cX8_either 87 = .ok (.imul, 1) := by decide +kernel
theorem dX8_either_88 : decode cX8_either 88 = .ok (.iload 4, 2) := by decide +kernel
theorem dX8_either_90 : decode cX8_either 90 = .ok (.iadd, 1) := by decide +kernel
theorem dX8_either_91 : decode cX8_either 91 = .ok (.laload, 1) := by decide +kernel
theorem dX8_either_92 : decode cX8_either 92 = .ok (.invokevirtual 95, 3) := by decide +kernel
theorem dX8_either_95 : decode cX8_either 95 = .ok (.iinc 4 1, 3) := by decide +kernel
theorem dX8_either_98 : decode cX8_either 98 = .ok (.goto (-42), 3) := by decide +kernel
theorem dX8_either_101 : decode cX8_either 101 = .ok (.aload_n 0, 1) := by decide +kernel
theorem dX8_either_102 : decode cX8_either 102 = .ok (.iload_n 1, 1) := by decide +kernel
theorem dX8_either_103 : decode cX8_either 103 = .ok (.invokevirtual 99, 3) := by decide +kernel
theorem dX8_either_106 : decode cX8_either 106 = .ok (.return_, 1) := by decide +kernel
theorem dX8_both_0 : decode cX8_both 0 = .ok (.aload_n 0, 1) := by decide +kernel
theorem dX8_both_1 : decode cX8_both 1 = .ok (.iconst 0, 1) := by decide +kernel
theorem dX8_both_2 : decode cX8_both 2 = .ok (.putfield 82, 3) := by decide +kernel
theorem dX8_both_5 : decode cX8_both 5 = .ok (.iconst 0, 1) := by decide +kernel
theorem dX8_both_6 : decode cX8_both 6 = .ok (.istore 4, 2) := by decide +kernel
theorem dX8_both_8 : decode cX8_both 8 = .ok (.iload 4, 2) := by decide +kernel
theorem dX8_both_10 : decode cX8_both 10 = .ok (.aload_n 0, 1) := by decide +kernel
theorem dX8_both_11 : decode cX8_both 11 = .ok (.getfield 53, 3) := by decide +kernel
theorem dX8_both_14 : decode cX8_both 14 = .ok (.iload_n 2, 1) := by decide +kernel
theorem dX8_both_15 : decode cX8_both 15 = .ok (.iaload, 1) := by decide +kernel
theorem dX8_both_16 : decode cX8_both 16 = .ok (.if_icmp .ge 101, 3) := by decide +kernel
theorem dX8_both_19 : decode cX8_both 19 = .ok (.iconst 0, 1) := by decide +kernel
theorem dX8_both_20 : decode cX8_both 20 = .ok (.istore 5, 2) := by decide +kernel
theorem dX8_both_22 : decode cX8_both 22 = .ok (.iload 5, 2) := by decide +kernel
theorem dX8_both_24 : decode cX8_both 24 = .ok (.aload_n 0, 1) := by decide +kernel
theorem dX8_both_25 : decode cX8_both 25 = .ok (.getfield 53, 3) := by decide +kernel
theorem dX8_both_28 : decode cX8_both 28 = .ok (.iload_n 3, 1) := by decide +kernel
theorem dX8_both_29 : decode cX8_both 29 = .ok (.iaload, 1) := by decide +kernel
theorem dX8_both_30 : decode cX8_both 30 = .ok (.if_icmp .ge 81, 3) := by decide +kernel
theorem dX8_both_33 : decode cX8_both 33 = .ok (.aload_n 0, 1) := by decide +kernel
theorem dX8_both_34 : decode cX8_both 34 = .ok (.getfield 56, 3) := by decide +kernel
theorem dX8_both_37 : decode cX8_both 37 = .ok (.bipush 12, 2) := by decide +kernel
theorem dX8_both_39 : decode cX8_both 39 = .ok (.iload_n 2, 1) := by decide +kernel
theorem dX8_both_40 : decode cX8_both 40 = .ok (.imul, 1) := by decide +kernel
theorem dX8_both_41 : decode cX8_both 41 = .ok (.iload 4, 2) := by decide +kernel
theorem dX8_both_43 : decode cX8_both 43 = .ok (.iadd, 1) := by decide +kernel
theorem dX8_both_44 : decode cX8_both 44 = .ok (.laload, 1) := by decide +kernel
theorem dX8_both_45 : decode cX8_both 45 = .ok (.aload_n 0, 1) := by decide +kernel
theorem dX8_both_46 : decode cX8_both 46 = .ok (.getfield 56, 3) := by decide +kernel
theorem dX8_both_49 : decode cX8_both 49 = .ok (.bipush 12, 2) := by decide +kernel
theorem dX8_both_51 : decode cX8_both 51 = .ok (.iload_n 3, 1) := by decide +kernel
theorem dX8_both_52 : decode cX8_both 52 = .ok (.imul, 1) := by decide +kernel
theorem dX8_both_53 : decode cX8_both 53 = .ok (.iload 5, 2) := by decide +kernel
theorem dX8_both_55 : decode cX8_both 55 = .ok (.iadd, 1) := by decide +kernel
theorem dX8_both_56 : decode cX8_both 56 = .ok (.laload, 1) := by decide +kernel
theorem dX8_both_57 : decode cX8_both 57 = .ok (.lor, 1) := by decide +kernel
theorem dX8_both_58 : decode cX8_both 58 = .ok (.lstore 6, 2) := by decide +kernel
theorem dX8_both_60 : decode cX8_both 60 = .ok (.aload_n 0, 1) := by decide +kernel
theorem dX8_both_61 : decode cX8_both 61 = .ok (.getfield 60, 3) := by decide +kernel
theorem dX8_both_64 : decode cX8_both 64 = .ok (.bipush 12, 2) := by decide +kernel
theorem dX8_both_66 : decode cX8_both 66 = .ok (.iload_n 2, 1) := by decide +kernel
theorem dX8_both_67 : decode cX8_both 67 = .ok (.imul, 1) := by decide +kernel
theorem dX8_both_68 : decode cX8_both 68 = .ok (.iload 4, 2) := by decide +kernel
theorem dX8_both_70 : decode cX8_both 70 = .ok (.iadd, 1) := by decide +kernel
theorem dX8_both_71 : decode cX8_both 71 = .ok (.laload, 1) := by decide +kernel
theorem dX8_both_72 : decode cX8_both 72 = .ok (.aload_n 0, 1) := by decide +kernel
theorem dX8_both_73 : decode cX8_both 73 = .ok (.getfield 60, 3) := by decide +kernel
theorem dX8_both_76 : decode cX8_both 76 = .ok (.bipush 12, 2) := by decide +kernel
theorem dX8_both_78 : decode cX8_both 78 = .ok (.iload_n 3, 1) := by decide +kernel
theorem dX8_both_79 : decode cX8_both 79 = .ok (.imul, 1) := by decide +kernel
theorem dX8_both_80 : decode cX8_both 80 = .ok (.iload 5, 2) := by decide +kernel
theorem dX8_both_82 : decode cX8_both 82 = .ok (.iadd, 1) := by decide +kernel
theorem dX8_both_83 : decode cX8_both 83 = .ok (.laload, 1) := by decide +kernel
theorem dX8_both_84 : decode cX8_both 84 = .ok (.lor, 1) := by decide +kernel
theorem dX8_both_85 : decode cX8_both 85 = .ok (.lstore 8, 2) := by decide +kernel
theorem dX8_both_87 : decode cX8_both 87 = .ok (.lload 6, 2) := by decide +kernel
theorem dX8_both_89 : decode cX8_both 89 = .ok (.lload 8, 2) := by decide +kernel
theorem dX8_both_91 : decode cX8_both 91 = .ok (.land, 1) := by decide +kernel
theorem dX8_both_92 : decode cX8_both 92 = .ok (.lconst 0, 1) := by decide +kernel
theorem dX8_both_93 : decode cX8_both 93 = .ok (.lcmp, 1) := by decide +kernel
theorem dX8_both_94 : decode cX8_both 94 = .ok (.ifCond .ne 11, 3) := by decide +kernel
theorem dX8_both_97 : decode cX8_both 97 = .ok (.aload_n 0, 1) := by decide +kernel
theorem dX8_both_98 : decode cX8_both 98 = .ok (.lload 6, 2) := by decide +kernel
theorem dX8_both_100 : decode cX8_both 100 = .ok (.lload 8, 2) := by decide +kernel
theorem dX8_both_102 : decode cX8_both 102 = .ok (.invokevirtual 95, 3) := by decide +kernel
theorem dX8_both_105 : decode cX8_both 105 = .ok (.iinc 5 1, 3) := by decide +kernel
theorem dX8_both_108 : decode cX8_both 108 = .ok (.goto (-86), 3) := by decide +kernel
theorem dX8_both_111 : decode cX8_both 111 = .ok (.iinc 4 1, 3) := by decide +kernel
theorem dX8_both_114 : decode cX8_both 114 = .ok (.goto (-106), 3) := by decide +kernel
theorem dX8_both_117 : decode cX8_both 117 = .ok (.aload_n 0, 1) := by decide +kernel
theorem dX8_both_118 : decode cX8_both 118 = .ok (.iload_n 1, 1) := by decide +kernel
theorem dX8_both_119 : decode cX8_both 119 = .ok (.invokevirtual 99, 3) := by decide +kernel
theorem dX8_both_122 : decode cX8_both 122 = .ok (.return_, 1) := by decide +kernel
theorem dX8_truth_0 : decode cX8_truth 0 = .ok (.aload_n 0, 1) := by decide +kernel
theorem dX8_truth_1 : decode cX8_truth 1 = .ok (.getfield 53, 3) := by decide +kernel
theorem dX8_truth_4 : decode cX8_truth 4 = .ok (.iload_n 1, 1) := by decide +kernel
theorem dX8_truth_5 : decode cX8_truth 5 = .ok (.iconst 1, 1) := by decide +kernel
theorem dX8_truth_6 : decode cX8_truth 6 = .ok (.iastore, 1) := by decide +kernel
theorem dX8_truth_7 : decode cX8_truth 7 = .ok (.aload_n 0, 1) := by decide +kernel
theorem dX8_truth_8 : decode cX8_truth 8 = .ok (.getfield 56, 3) := by decide +kernel
theorem dX8_truth_11 : decode cX8_truth 11 = .ok (.bipush 12, 2) := by decide +kernel
theorem dX8_truth_13 : decode cX8_truth 13 = .ok (.iload_n 1, 1) := by decide +kernel
theorem dX8_truth_14 : decode cX8_truth 14 = .ok (.imul, 1) := by decide +kernel
theorem dX8_truth_15 : decode cX8_truth 15 = .ok (.lconst 0, 1) := by decide +kernel
theorem dX8_truth_16 : decode cX8_truth 16 = .ok (.lastore, 1) := by decide +kernel
theorem dX8_truth_17 : decode cX8_truth 17 = .ok (.aload_n 0, 1) := by decide +kernel
theorem dX8_truth_18 : decode cX8_truth 18 = .ok (.getfield 60, 3) := by decide +kernel
theorem dX8_truth_21 : decode cX8_truth 21 = .ok (.bipush 12, 2) := by decide +kernel
theorem dX8_truth_23 : decode cX8_truth 23 = .ok (.iload_n 1, 1) := by decide +kernel
theorem dX8_truth_24 : decode cX8_truth 24 = .ok (.imul, 1) := by decide +kernel
theorem dX8_truth_25 : decode cX8_truth 25 = .ok (.lconst 0, 1) := by decide +kernel
theorem dX8_truth_26 : decode cX8_truth 26 = .ok (.lastore, 1) := by decide +kernel
theorem dX8_truth_27 : decode cX8_truth 27 = .ok (.return_, 1) := by decide +kernel
theorem dX8_copy_0 : decode cX8_copy 0 = .ok (.aload_n 0, 1) := by decide +kernel
theorem dX8_copy_1 : decode cX8_copy 1 = .ok (.getfield 53, 3) := by decide +kernel
theorem dX8_copy_4 : decode cX8_copy 4 = .ok (.iload_n 1, 1) := by decide +kernel
theorem dX8_copy_5 : decode cX8_copy 5 = .ok (.aload_n 0, 1) := by decide +kernel
theorem dX8_copy_6 : decode cX8_copy 6 = .ok (.getfield 53, 3) := by decide +kernel
theorem dX8_copy_9 : decode cX8_copy 9 = .ok (.iload_n 2, 1) := by decide +kernel
theorem dX8_copy_10 : decode cX8_copy 10 = .ok (.iaload, 1) := by decide +kernel
theorem dX8_copy_11 : decode cX8_copy 11 = .ok (.iastore, 1) := by decide +kernel
theorem dX8_copy_12 : decode cX8_copy 12 = .ok (.iconst 0, 1) := by decide +kernel
theorem dX8_copy_13 : decode cX8_copy 13 = .ok (.istore_n 3, 1) := by decide +kernel
theorem dX8_copy_14 : decode cX8_copy 14 = .ok (.iload_n 3, 1) := by decide +kernel
theorem dX8_copy_15 : decode cX8_copy 15 = .ok (.aload_n 0, 1) := by decide +kernel
theorem dX8_copy_16 : decode cX8_copy 16 = .ok (.getfield 53, 3) := by decide +kernel
theorem dX8_copy_19 : decode cX8_copy 19 = .ok (.iload_n 2, 1) := by decide +kernel
theorem dX8_copy_20 : decode cX8_copy 20 = .ok (.iaload, 1) := by decide +kernel
theorem dX8_copy_21 : decode cX8_copy 21 = .ok (.if_icmp .ge 53, 3) := by decide +kernel
theorem dX8_copy_24 : decode cX8_copy 24 = .ok (.aload_n 0, 1) := by decide +kernel
theorem dX8_copy_25 : decode cX8_copy 25 = .ok (.getfield 56, 3) := by decide +kernel
theorem dX8_copy_28 : decode cX8_copy 28 = .ok (.bipush 12, 2) := by decide +kernel
theorem dX8_copy_30 : decode cX8_copy 30 = .ok (.iload_n 1, 1) := by decide +kernel
theorem dX8_copy_31 : decode cX8_copy 31 = .ok (.imul, 1) := by decide +kernel
theorem dX8_copy_32 : decode cX8_copy 32 = .ok (.iload_n 3, 1) := by decide +kernel
theorem dX8_copy_33 : decode cX8_copy 33 = .ok (.iadd, 1) := by decide +kernel
theorem dX8_copy_34 : decode cX8_copy 34 = .ok (.aload_n 0, 1) := by decide +kernel
theorem dX8_copy_35 : decode cX8_copy 35 = .ok (.getfield 56, 3) := by decide +kernel
theorem dX8_copy_38 : decode cX8_copy 38 = .ok (.bipush 12, 2) := by decide +kernel
theorem dX8_copy_40 : decode cX8_copy 40 = .ok (.iload_n 2, 1) := by decide +kernel
theorem dX8_copy_41 : decode cX8_copy 41 = .ok (.imul, 1) := by decide +kernel
theorem dX8_copy_42 : decode cX8_copy 42 = .ok (.iload_n 3, 1) := by decide +kernel
theorem dX8_copy_43 : decode cX8_copy 43 = .ok (.iadd, 1) := by decide +kernel
theorem dX8_copy_44 : decode cX8_copy 44 = .ok (.laload, 1) := by decide +kernel
theorem dX8_copy_45 : decode cX8_copy 45 = .ok (.lastore, 1) := by decide +kernel
theorem dX8_copy_46 : decode cX8_copy 46 = .ok (.aload_n 0, 1) := by decide +kernel
theorem dX8_copy_47 : decode cX8_copy 47 = .ok (.getfield 60, 3) := by decide +kernel
theorem dX8_copy_50 : decode cX8_copy 50 = .ok (.bipush 12, 2) := by decide +kernel
theorem dX8_copy_52 : decode cX8_copy 52 = .ok (.iload_n 1, 1) := by decide +kernel
theorem dX8_copy_53 : decode cX8_copy 53 = .ok (.imul, 1) := by decide +kernel
theorem dX8_copy_54 : decode cX8_copy 54 = .ok (.iload_n 3, 1) := by decide +kernel
theorem dX8_copy_55 : decode cX8_copy 55 = .ok (.iadd, 1) := by decide +kernel
theorem dX8_copy_56 : decode cX8_copy 56 = .ok (.aload_n 0, 1) := by decide +kernel
theorem dX8_copy_57 : decode cX8_copy 57 = .ok (.getfield 60, 3) := by decide +kernel
theorem dX8_copy_60 : decode cX8_copy 60 = .ok (.bipush 12, 2) := by decide +kernel
theorem dX8_copy_62 : decode cX8_copy 62 = .ok (.iload_n 2, 1) := by decide +kernel
theorem dX8_copy_63 : decode cX8_copy 63 = .ok (.imul, 1) := by decide +kernel
theorem dX8_copy_64 : decode cX8_copy 64 = .ok (.iload_n 3, 1) := by decide +kernel
theorem dX8_copy_65 : decode cX8_copy 65 = .ok (.iadd, 1) := by decide +kernel
theorem dX8_copy_66 : decode cX8_copy 66 = .ok (.laload, 1) := by decide +kernel
theorem dX8_copy_67 : decode cX8_copy 67 = .ok (.lastore, 1) := by decide +kernel
theorem dX8_copy_68 : decode cX8_copy 68 = .ok (.iinc 3 1, 3) := by decide +kernel
theorem dX8_copy_71 : decode cX8_copy 71 = .ok (.goto (-57), 3) := by decide +kernel
theorem dX8_copy_74 : decode cX8_copy 74 = .ok (.return_, 1) := by decide +kernel
theorem dX8_not_0 : decode cX8_not 0 = .ok (.aload_n 0, 1) := by decide +kernel
theorem dX8_not_1 : decode cX8_not 1 = .ok (.iload_n 1, 1) := by decide +kernel
theorem dX8_not_2 : decode cX8_not 2 = .ok (.invokevirtual 103, 3) := by decide +kernel
theorem dX8_not_5 : decode cX8_not 5 = .ok (.iconst 0, 1) := by decide +kernel
theorem dX8_not_6 : decode cX8_not 6 = .ok (.istore_n 3, 1) := by decide +kernel
theorem dX8_not_7 : decode cX8_not 7 = .ok (.iload_n 3, 1) := by decide +kernel
theorem dX8_not_8 : decode cX8_not 8 = .ok (.aload_n 0, 1) := by decide +kernel
theorem dX8_not_9 : decode cX8_not 9 = .ok (.getfield 53, 3) := by decide +kernel
theorem dX8_not_12 : decode cX8_not 12 = .ok (.iload_n 2, 1) := by decide +kernel
theorem dX8_not_13 : decode cX8_not 13 = .ok (.iaload, 1) := by decide +kernel
theorem dX8_not_14 : decode cX8_not 14 = .ok (.if_icmp .ge 179, 3) := by decide +kernel
theorem dX8_not_17 : decode cX8_not 17 = .ok (.aload_n 0, 1) := by decide +kernel
theorem dX8_not_18 : decode cX8_not 18 = .ok (.getfield 91, 3) := by decide +kernel
theorem dX8_not_21 : decode cX8_not 21 = .ok (.ifCond .ne 172, 3) := by decide +kernel
theorem dX8_not_24 : decode cX8_not 24 = .ok (.aload_n 0, 1) := by decide +kernel
theorem dX8_not_25 : decode cX8_not 25 = .ok (.getfield 56, 3) := by decide +kernel
theorem dX8_not_28 : decode cX8_not 28 = .ok (.bipush 12, 2) := by decide +kernel
theorem dX8_not_30 : decode cX8_not 30 = .ok (.iload_n 2, 1) := by decide +kernel
theorem dX8_not_31 : decode cX8_not 31 = .ok (.imul, 1) := by decide +kernel
theorem dX8_not_32 : decode cX8_not 32 = .ok (.iload_n 3, 1) := by decide +kernel
theorem dX8_not_33 : decode cX8_not 33 = .ok (.iadd, 1) := by decide +kernel
theorem dX8_not_34 : decode cX8_not 34 = .ok (.laload, 1) := by decide +kernel
theorem dX8_not_35 : decode cX8_not 35 = .ok (.lstore 4, 2) := by decide +kernel
theorem dX8_not_37 : decode cX8_not 37 = .ok (.aload_n 0, 1) := by decide +kernel
theorem dX8_not_38 : decode cX8_not 38 = .ok (.getfield 60, 3) := by decide +kernel
theorem dX8_not_41 : decode cX8_not 41 = .ok (.bipush 12, 2) := by decide +kernel
theorem dX8_not_43 : decode cX8_not 43 = .ok (.iload_n 2, 1) := by decide +kernel
theorem dX8_not_44 : decode cX8_not 44 = .ok (.imul, 1) := by decide +kernel
theorem dX8_not_45 : decode cX8_not 45 = .ok (.iload_n 3, 1) := by decide +kernel
theorem dX8_not_46 : decode cX8_not 46 = .ok (.iadd, 1) := by decide +kernel
theorem dX8_not_47 : decode cX8_not 47 = .ok (.laload, 1) := by decide +kernel
theorem dX8_not_48 : decode cX8_not 48 = .ok (.lstore 6, 2) := by decide +kernel
theorem dX8_not_50 : decode cX8_not 50 = .ok (.aload_n 0, 1) := by decide +kernel
theorem dX8_not_51 : decode cX8_not 51 = .ok (.iconst 0, 1) := by decide +kernel
theorem dX8_not_52 : decode cX8_not 52 = .ok (.putfield 82, 3) := by decide +kernel
theorem dX8_not_55 : decode cX8_not 55 = .ok (.iconst 0, 1) := by decide +kernel
theorem dX8_not_56 : decode cX8_not 56 = .ok (.istore 8, 2) := by decide +kernel
theorem dX8_not_58 : decode cX8_not 58 = .ok (.iload 8, 2) := by decide +kernel
theorem dX8_not_60 : decode cX8_not 60 = .ok (.aload_n 0, 1) := by decide +kernel
theorem dX8_not_61 : decode cX8_not 61 = .ok (.getfield 53, 3) := by decide +kernel
theorem dX8_not_64 : decode cX8_not 64 = .ok (.iload_n 1, 1) := by decide +kernel
theorem dX8_not_65 : decode cX8_not 65 = .ok (.iaload, 1) := by decide +kernel
theorem dX8_not_66 : decode cX8_not 66 = .ok (.if_icmp .ge 116, 3) := by decide +kernel
theorem dX8_not_69 : decode cX8_not 69 = .ok (.iconst 0, 1) := by decide +kernel
theorem dX8_not_70 : decode cX8_not 70 = .ok (.istore 9, 2) := by decide +kernel
theorem dX8_not_72 : decode cX8_not 72 = .ok (.iload 9, 2) := by decide +kernel
theorem dX8_not_74 : decode cX8_not 74 = .ok (.bipush 36, 2) := by decide +kernel
theorem dX8_not_76 : decode cX8_not 76 = .ok (.if_icmp .ge 100, 3) := by decide +kernel
theorem dX8_not_79 : decode cX8_not 79 = .ok (.lconst 1, 1) := by decide +kernel
theorem dX8_not_80 : decode cX8_not 80 = .ok (.iload 9, 2) := by decide +kernel
theorem dX8_not_82 : decode cX8_not 82 = .ok (.lshl, 1) := by decide +kernel
theorem dX8_not_83 : decode cX8_not 83 = .ok (.lstore 10, 2) := by decide +kernel
theorem dX8_not_85 : decode cX8_not 85 = .ok (.lload 4, 2) := by decide +kernel
theorem dX8_not_87 : decode cX8_not 87 = .ok (.lload 10, 2) := by decide +kernel
theorem dX8_not_89 : decode cX8_not 89 = .ok (.land, 1) := by decide +kernel
theorem dX8_not_90 : decode cX8_not 90 = .ok (.lconst 0, 1) := by decide +kernel
theorem dX8_not_91 : decode cX8_not 91 = .ok (.lcmp, 1) := by decide +kernel
theorem dX8_not_92 : decode cX8_not 92 = .ok (.ifCond .eq 37, 3) := by decide +kernel
theorem dX8_not_95 : decode cX8_not 95 = .ok (.aload_n 0, 1) := by decide +kernel
theorem dX8_not_96 : decode cX8_not 96 = .ok (.aload_n 0, 1) := by decide +kernel
theorem dX8_not_97 : decode cX8_not 97 = .ok (.getfield 56, 3) := by decide +kernel
theorem dX8_not_100 : decode cX8_not 100 = .ok (.bipush 12, 2) := by decide +kernel
theorem dX8_not_102 : decode cX8_not 102 = .ok (.iload_n 1, 1) := by decide +kernel
theorem dX8_not_103 : decode cX8_not 103 = .ok (.imul, 1) := by decide +kernel
theorem dX8_not_104 : decode cX8_not 104 = .ok (.iload 8, 2) := by decide +kernel
theorem dX8_not_106 : decode cX8_not 106 = .ok (.iadd, 1) := by decide +kernel
theorem dX8_not_107 : decode cX8_not 107 = .ok (.laload, 1) := by decide +kernel
theorem dX8_not_108 : decode cX8_not 108 = .ok (.aload_n 0, 1) := by decide +kernel
theorem dX8_not_109 : decode cX8_not 109 = .ok (.getfield 60, 3) := by decide +kernel
theorem dX8_not_112 : decode cX8_not 112 = .ok (.bipush 12, 2) := by decide +kernel
theorem dX8_not_114 : decode cX8_not 114 = .ok (.iload_n 1, 1) := by decide +kernel
theorem dX8_not_115 : decode cX8_not 115 = .ok (.imul, 1) := by decide +kernel
theorem dX8_not_116 : decode cX8_not 116 = .ok (.iload 8, 2) := by decide +kernel
theorem dX8_not_118 : decode cX8_not 118 = .ok (.iadd, 1) := by decide +kernel
theorem dX8_not_119 : decode cX8_not 119 = .ok (.laload, 1) := by decide +kernel
theorem dX8_not_120 : decode cX8_not 120 = .ok (.lload 10, 2) := by decide +kernel
theorem dX8_not_122 : decode cX8_not 122 = .ok (.lor, 1) := by decide +kernel
theorem dX8_not_123 : decode cX8_not 123 = .ok (.invokevirtual 106, 3) := by decide +kernel
theorem dX8_not_126 : decode cX8_not 126 = .ok (.goto 44, 3) := by decide +kernel
theorem dX8_not_129 : decode cX8_not 129 = .ok (.lload 6, 2) := by decide +kernel
theorem dX8_not_131 : decode cX8_not 131 = .ok (.lload 10, 2) := by decide +kernel
theorem dX8_not_133 : decode cX8_not 133 = .ok (.land, 1) := by decide +kernel
theorem dX8_not_134 : decode cX8_not 134 = .ok (.lconst 0, 1) := by decide +kernel
theorem dX8_not_135 : decode cX8_not 135 = .ok (.lcmp, 1) := by decide +kernel
theorem dX8_not_136 : decode cX8_not 136 = .ok (.ifCond .eq 34, 3) := by decide +kernel
theorem dX8_not_139 : decode cX8_not 139 = .ok (.aload_n 0, 1) := by decide +kernel
theorem dX8_not_140 : decode cX8_not 140 = .ok (.aload_n 0, 1) := by decide +kernel
theorem dX8_not_141 : decode cX8_not 141 = .ok (.getfield 56, 3) := by decide +kernel
theorem dX8_not_144 : decode cX8_not 144 = .ok (.bipush 12, 2) := by decide +kernel
theorem dX8_not_146 : decode cX8_not 146 = .ok (.iload_n 1, 1) := by decide +kernel
theorem dX8_not_147 : decode cX8_not 147 = .ok (.imul, 1) := by decide +kernel
theorem dX8_not_148 : decode cX8_not 148 = .ok (.iload 8, 2) := by decide +kernel
theorem dX8_not_150 : decode cX8_not 150 = .ok (.iadd, 1) := by decide +kernel
theorem dX8_not_151 : decode cX8_not 151 = .ok (.laload, 1) := by decide +kernel
theorem dX8_not_152 : decode cX8_not 152 = .ok (.lload 10, 2) := by decide +kernel
theorem dX8_not_154 : decode cX8_not 154 = .ok (.lor, 1) := by decide +kernel
theorem dX8_not_155 : decode cX8_not 155 = .ok (.aload_n 0, 1) := by decide +kernel
theorem dX8_not_156 : decode cX8_not 156 = .ok (.getfield 60, 3) := by decide +kernel
theorem dX8_not_159 : decode cX8_not 159 = .ok (.bipush 12, 2) := by decide +kernel
theorem dX8_not_161 : decode cX8_not 161 = .ok (.iload_n 1, 1) := by decide +kernel
theorem dX8_not_162 : decode cX8_not 162 = .ok (.imul, 1) := by decide +kernel
theorem dX8_not_163 : decode cX8_not 163 = .ok (.iload 8, 2) := by decide +kernel
theorem dX8_not_165 : decode cX8_not 165 = .ok (.iadd, 1) := by decide +kernel
theorem dX8_not_166 : decode cX8_not 166 = .ok (.laload, 1) := by decide +kernel
theorem dX8_not_167 : decode cX8_not 167 = .ok (.invokevirtual 106, 3) := by decide +kernel
theorem dX8_not_170 : decode cX8_not 170 = .ok (.iinc 9 1, 3) := by decide +kernel
theorem dX8_not_173 : decode cX8_not 173 = .ok (.goto (-101), 3) := by decide +kernel
theorem dX8_not_176 : decode cX8_not 176 = .ok (.iinc 8 1, 3) := by decide +kernel
theorem dX8_not_179 : decode cX8_not 179 = .ok (.goto (-121), 3) := by decide +kernel
theorem dX8_not_182 : decode cX8_not 182 = .ok (.aload_n 0, 1) := by decide +kernel
theorem dX8_not_183 : decode cX8_not 183 = .ok (.iload_n 1, 1) := by decide +kernel
theorem dX8_not_184 : decode cX8_not 184 = .ok (.invokevirtual 99, 3) := by decide +kernel
theorem dX8_not_187 : decode cX8_not 187 = .ok (.iinc 3 1, 3) := by decide +kernel
theorem dX8_not_190 : decode cX8_not 190 = .ok (.goto (-183), 3) := by decide +kernel
theorem dX8_not_193 : decode cX8_not 193 = .ok (.return_, 1) := by decide +kernel
theorem dX8_turn_0 : decode cX8_turn 0 = .ok (.lload_n 1, 1) := by decide +kernel
theorem dX8_turn_1 : decode cX8_turn 1 = .ok (.lload_n 3, 1) := by decide +kernel
theorem dX8_turn_2 : decode cX8_turn 2 = .ok (.land, 1) := by decide +kernel
theorem dX8_turn_3 : decode cX8_turn 3 = .ok (.lconst 0, 1) := by decide +kernel
theorem dX8_turn_4 : decode cX8_turn 4 = .ok (.lcmp, 1) := by decide +kernel
theorem dX8_turn_5 : decode cX8_turn 5 = .ok (.ifCond .eq 4, 3) := by decide +kernel
theorem dX8_turn_8 : decode cX8_turn 8 = .ok (.return_, 1) := by decide +kernel
theorem dX8_turn_9 : decode cX8_turn 9 = .ok (.iconst 0, 1) := by decide +kernel
theorem dX8_turn_10 : decode cX8_turn 10 = .ok (.istore 5, 2) := by decide +kernel
theorem dX8_turn_12 : decode cX8_turn 12 = .ok (.iload 5, 2) := by decide +kernel
theorem dX8_turn_14 : decode cX8_turn 14 = .ok (.aload_n 0, 1) := by decide +kernel
theorem dX8_turn_15 : decode cX8_turn 15 = .ok (.getfield 82, 3) := by decide +kernel
theorem dX8_turn_18 : decode cX8_turn 18 = .ok (.if_icmp .ge 46, 3) := by decide +kernel
theorem dX8_turn_21 : decode cX8_turn 21 = .ok (.aload_n 0, 1) := by decide +kernel
theorem dX8_turn_22 : decode cX8_turn 22 = .ok (.getfield 63, 3) := by decide +kernel
theorem dX8_turn_25 : decode cX8_turn 25 = .ok (.iload 5, 2) := by decide +kernel
theorem dX8_turn_27 : decode cX8_turn 27 = .ok (.laload, 1) := by decide +kernel
theorem dX8_turn_28 : decode cX8_turn 28 = .ok (.lload_n 1, 1) := by decide +kernel
theorem dX8_turn_29 : decode cX8_turn 29 = .ok (.ldc2_w 85, 3) := by decide +kernel
theorem dX8_turn_32 : decode cX8_turn 32 = .ok (.lxor, 1) := by decide +kernel
theorem dX8_turn_33 : decode cX8_turn 33 = .ok (.land, 1) := by decide +kernel
theorem dX8_turn_34 : decode cX8_turn 34 = .ok (.lconst 0, 1) := by decide +kernel
theorem dX8_turn_35 : decode cX8_turn 35 = .ok (.lcmp, 1) := by decide +kernel
theorem dX8_turn_36 : decode cX8_turn 36 = .ok (.ifCond .ne 22, 3) := by decide +kernel
theorem dX8_turn_39 : decode cX8_turn 39 = .ok (.aload_n 0, 1) := by decide +kernel
theorem dX8_turn_40 : decode cX8_turn 40 = .ok (.getfield 66, 3) := by decide +kernel
theorem dX8_turn_43 : decode cX8_turn 43 = .ok (.iload 5, 2) := by decide +kernel
theorem dX8_turn_45 : decode cX8_turn 45 = .ok (.laload, 1) := by decide +kernel
theorem dX8_turn_46 : decode cX8_turn 46 = .ok (.lload_n 3, 1) := by decide +kernel
theorem dX8_turn_47 : decode cX8_turn 47 = .ok (.ldc2_w 85, 3) := by decide +kernel
theorem dX8_turn_50 : decode cX8_turn 50 = .ok (.lxor, 1) := by decide +kernel
theorem dX8_turn_51 : decode cX8_turn 51 = .ok (.land, 1) := by decide +kernel
theorem dX8_turn_52 : decode cX8_turn 52 = .ok (.lconst 0, 1) := by decide +kernel
theorem dX8_turn_53 : decode cX8_turn 53 = .ok (.lcmp, 1) := by decide +kernel
theorem dX8_turn_54 : decode cX8_turn 54 = .ok (.ifCond .ne 4, 3) := by decide +kernel
theorem dX8_turn_57 : decode cX8_turn 57 = .ok (.return_, 1) := by decide +kernel
theorem dX8_turn_58 : decode cX8_turn 58 = .ok (.iinc 5 1, 3) := by decide +kernel
theorem dX8_turn_61 : decode cX8_turn 61 = .ok (.goto (-49), 3) := by decide +kernel
theorem dX8_turn_64 : decode cX8_turn 64 = .ok (.iconst 0, 1) := by decide +kernel
theorem dX8_turn_65 : decode cX8_turn 65 = .ok (.istore 5, 2) := by decide +kernel
theorem dX8_turn_67 : decode cX8_turn 67 = .ok (.iconst 0, 1) := by decide +kernel
theorem dX8_turn_68 : decode cX8_turn 68 = .ok (.istore 6, 2) := by decide +kernel
theorem dX8_turn_70 : decode cX8_turn 70 = .ok (.iload 6, 2) := by decide +kernel
theorem dX8_turn_72 : decode cX8_turn 72 = .ok (.aload_n 0, 1) := by decide +kernel
theorem dX8_turn_73 : decode cX8_turn 73 = .ok (.getfield 82, 3) := by decide +kernel
theorem dX8_turn_76 : decode cX8_turn 76 = .ok (.if_icmp .ge 76, 3) := by decide +kernel
theorem dX8_turn_79 : decode cX8_turn 79 = .ok (.lload_n 1, 1) := by decide +kernel
theorem dX8_turn_80 : decode cX8_turn 80 = .ok (.aload_n 0, 1) := by decide +kernel
theorem dX8_turn_81 : decode cX8_turn 81 = .ok (.getfield 63, 3) := by decide +kernel
theorem dX8_turn_84 : decode cX8_turn 84 = .ok (.iload 6, 2) := by decide +kernel
theorem dX8_turn_86 : decode cX8_turn 86 = .ok (.laload, 1) := by decide +kernel
theorem dX8_turn_87 : decode cX8_turn 87 = .ok (.ldc2_w 85, 3) := by decide +kernel
theorem dX8_turn_90 : decode cX8_turn 90 = .ok (.lxor, 1) := by decide +kernel
theorem dX8_turn_91 : decode cX8_turn 91 = .ok (.land, 1) := by decide +kernel
theorem dX8_turn_92 : decode cX8_turn 92 = .ok (.lconst 0, 1) := by decide +kernel
theorem dX8_turn_93 : decode cX8_turn 93 = .ok (.lcmp, 1) := by decide +kernel
theorem dX8_turn_94 : decode cX8_turn 94 = .ok (.ifCond .ne 21, 3) := by decide +kernel
theorem dX8_turn_97 : decode cX8_turn 97 = .ok (.lload_n 3, 1) := by decide +kernel
theorem dX8_turn_98 : decode cX8_turn 98 = .ok (.aload_n 0, 1) := by decide +kernel
theorem dX8_turn_99 : decode cX8_turn 99 = .ok (.getfield 66, 3) := by decide +kernel
theorem dX8_turn_102 : decode cX8_turn 102 = .ok (.iload 6, 2) := by decide +kernel
theorem dX8_turn_104 : decode cX8_turn 104 = .ok (.laload, 1) := by decide +kernel
theorem dX8_turn_105 : decode cX8_turn 105 = .ok (.ldc2_w 85, 3) := by decide +kernel
theorem dX8_turn_108 : decode cX8_turn 108 = .ok (.lxor, 1) := by decide +kernel
theorem dX8_turn_109 : decode cX8_turn 109 = .ok (.land, 1) := by decide +kernel
theorem dX8_turn_110 : decode cX8_turn 110 = .ok (.lconst 0, 1) := by decide +kernel
theorem dX8_turn_111 : decode cX8_turn 111 = .ok (.lcmp, 1) := by decide +kernel
theorem dX8_turn_112 : decode cX8_turn 112 = .ok (.ifCond .eq 34, 3) := by decide +kernel
theorem dX8_turn_115 : decode cX8_turn 115 = .ok (.aload_n 0, 1) := by decide +kernel
theorem dX8_turn_116 : decode cX8_turn 116 = .ok (.getfield 63, 3) := by decide +kernel
theorem dX8_turn_119 : decode cX8_turn 119 = .ok (.iload 5, 2) := by decide +kernel
theorem dX8_turn_121 : decode cX8_turn 121 = .ok (.aload_n 0, 1) := by decide +kernel
theorem dX8_turn_122 : decode cX8_turn 122 = .ok (.getfield 63, 3) := by decide +kernel
theorem dX8_turn_125 : decode cX8_turn 125 = .ok (.iload 6, 2) := by decide +kernel
theorem dX8_turn_127 : decode cX8_turn 127 = .ok (.laload, 1) := by decide +kernel
theorem dX8_turn_128 : decode cX8_turn 128 = .ok (.lastore, 1) := by decide +kernel
theorem dX8_turn_129 : decode cX8_turn 129 = .ok (.aload_n 0, 1) := by decide +kernel
theorem dX8_turn_130 : decode cX8_turn 130 = .ok (.getfield 66, 3) := by decide +kernel
theorem dX8_turn_133 : decode cX8_turn 133 = .ok (.iload 5, 2) := by decide +kernel
theorem dX8_turn_135 : decode cX8_turn 135 = .ok (.aload_n 0, 1) := by decide +kernel
theorem dX8_turn_136 : decode cX8_turn 136 = .ok (.getfield 66, 3) := by decide +kernel
theorem dX8_turn_139 : decode cX8_turn 139 = .ok (.iload 6, 2) := by decide +kernel
theorem dX8_turn_141 : decode cX8_turn 141 = .ok (.laload, 1) := by decide +kernel
theorem dX8_turn_142 : decode cX8_turn 142 = .ok (.lastore, 1) := by decide +kernel
theorem dX8_turn_143 : decode cX8_turn 143 = .ok (.iinc 5 1, 3) := by decide +kernel
theorem dX8_turn_146 : decode cX8_turn 146 = .ok (.iinc 6 1, 3) := by decide +kernel
theorem dX8_turn_149 : decode cX8_turn 149 = .ok (.goto (-79), 3) := by decide +kernel
theorem dX8_turn_152 : decode cX8_turn 152 = .ok (.aload_n 0, 1) := by decide +kernel
theorem dX8_turn_153 : decode cX8_turn 153 = .ok (.iload 5, 2) := by decide +kernel
theorem dX8_turn_155 : decode cX8_turn 155 = .ok (.putfield 82, 3) := by decide +kernel
theorem dX8_turn_158 : decode cX8_turn 158 = .ok (.aload_n 0, 1) := by decide +kernel
theorem dX8_turn_159 : decode cX8_turn 159 = .ok (.getfield 82, 3) := by decide +kernel
theorem dX8_turn_162 : decode cX8_turn 162 = .ok (.sipush 160, 3) := by decide +kernel
theorem dX8_turn_165 : decode cX8_turn 165 = .ok (.if_icmp .ne 13, 3) := by decide +kernel
theorem dX8_turn_168 : decode cX8_turn 168 = .ok (.aload_n 0, 1) := by decide +kernel
theorem dX8_turn_169 : decode cX8_turn 169 = .ok (.iconst 1, 1) := by decide +kernel
theorem dX8_turn_170 : decode cX8_turn 170 = .ok (.putfield 91, 3) := by decide +kernel
theorem dX8_turn_173 : decode cX8_turn 173 = .ok (.aload_n 0, 1) := by decide +kernel
theorem dX8_turn_174 : decode cX8_turn 174 = .ok (.iconst 0, 1) := by decide +kernel
theorem dX8_turn_175 : decode cX8_turn 175 = .ok (.putfield 82, 3) := by decide +kernel
theorem dX8_turn_178 : decode cX8_turn 178 = .ok (.aload_n 0, 1) := by decide +kernel
theorem dX8_turn_179 : decode cX8_turn 179 = .ok (.lload_n 1, 1) := by decide +kernel
theorem dX8_turn_180 : decode cX8_turn 180 = .ok (.lload_n 3, 1) := by decide +kernel
theorem dX8_turn_181 : decode cX8_turn 181 = .ok (.invokevirtual 95, 3) := by decide +kernel
theorem dX8_turn_184 : decode cX8_turn 184 = .ok (.return_, 1) := by decide +kernel
theorem dX8_source_0 : decode cX8_source 0 = .ok (.aload_n 0, 1) := by decide +kernel
theorem dX8_source_1 : decode cX8_source 1 = .ok (.iconst 0, 1) := by decide +kernel
theorem dX8_source_2 : decode cX8_source 2 = .ok (.putfield 78, 3) := by decide +kernel
theorem dX8_source_5 : decode cX8_source 5 = .ok (.iload_n 1, 1) := by decide +kernel
theorem dX8_source_6 : decode cX8_source 6 = .ok (.iconst 1, 1) := by decide +kernel
theorem dX8_source_7 : decode cX8_source 7 = .ok (.if_icmp .lt 8, 3) := by decide +kernel
theorem dX8_source_10 : decode cX8_source 10 = .ok (.iload_n 1, 1) := by decide +kernel
theorem dX8_source_11 : decode cX8_source 11 = .ok (.iconst 4, 1) := by decide +kernel
theorem dX8_source_12 : decode cX8_source 12 = .ok (.if_icmp .le 6, 3) := by decide +kernel
theorem dX8_source_15 : decode cX8_source 15 = .ok (.bipush (-2), 2) := by decide +kernel
theorem dX8_source_17 : decode cX8_source 17 = .ok (.ireturn, 1) := by decide +kernel
theorem dX8_source_18 : decode cX8_source 18 = .ok (.aload_n 0, 1) := by decide +kernel
theorem dX8_source_19 : decode cX8_source 19 = .ok (.getfield 109, 3) := by decide +kernel
theorem dX8_source_22 : decode cX8_source 22 = .ok (.iconst 4, 1) := by decide +kernel
theorem dX8_source_23 : decode cX8_source 23 = .ok (.if_icmp .ne 6, 3) := by decide +kernel
theorem dX8_source_26 : decode cX8_source 26 = .ok (.bipush (-4), 2) := by decide +kernel
theorem dX8_source_28 : decode cX8_source 28 = .ok (.ireturn, 1) := by decide +kernel
theorem dX8_source_29 : decode cX8_source 29 = .ok (.aload_n 0, 1) := by decide +kernel
theorem dX8_source_30 : decode cX8_source 30 = .ok (.getfield 7, 3) := by decide +kernel
theorem dX8_source_33 : decode cX8_source 33 = .ok (.aload_n 0, 1) := by decide +kernel
theorem dX8_source_34 : decode cX8_source 34 = .ok (.getfield 109, 3) := by decide +kernel
theorem dX8_source_37 : decode cX8_source 37 = .ok (.iload_n 1, 1) := by decide +kernel
theorem dX8_source_38 : decode cX8_source 38 = .ok (.iastore, 1) := by decide +kernel
theorem dX8_source_39 : decode cX8_source 39 = .ok (.aload_n 0, 1) := by decide +kernel
theorem dX8_source_40 : decode cX8_source 40 = .ok (.dup, 1) := by decide +kernel
theorem dX8_source_41 : decode cX8_source 41 = .ok (.getfield 109, 3) := by decide +kernel
theorem dX8_source_44 : decode cX8_source 44 = .ok (.iconst 1, 1) := by decide +kernel
theorem dX8_source_45 : decode cX8_source 45 = .ok (.iadd, 1) := by decide +kernel
theorem dX8_source_46 : decode cX8_source 46 = .ok (.putfield 109, 3) := by decide +kernel
theorem dX8_source_49 : decode cX8_source 49 = .ok (.aload_n 0, 1) := by decide +kernel
theorem dX8_source_50 : decode cX8_source 50 = .ok (.getfield 109, 3) := by decide +kernel
theorem dX8_source_53 : decode cX8_source 53 = .ok (.iconst 1, 1) := by decide +kernel
theorem dX8_source_54 : decode cX8_source 54 = .ok (.isub, 1) := by decide +kernel
theorem dX8_source_55 : decode cX8_source 55 = .ok (.ireturn, 1) := by decide +kernel
theorem dX8_row_0 : decode cX8_row 0 = .ok (.aload_n 0, 1) := by decide +kernel
theorem dX8_row_1 : decode cX8_row 1 = .ok (.iconst 0, 1) := by decide +kernel
theorem dX8_row_2 : decode cX8_row 2 = .ok (.putfield 78, 3) := by decide +kernel
theorem dX8_row_5 : decode cX8_row 5 = .ok (.iload_n 1, 1) := by decide +kernel
theorem dX8_row_6 : decode cX8_row 6 = .ok (.ifCond .lt 11, 3) := by decide +kernel
theorem dX8_row_9 : decode cX8_row 9 = .ok (.iload_n 1, 1) := by decide +kernel
theorem dX8_row_10 : decode cX8_row 10 = .ok (.aload_n 0, 1) := by decide +kernel
theorem dX8_row_11 : decode cX8_row 11 = .ok (.getfield 109, 3) := by decide +kernel
theorem dX8_row_14 : decode cX8_row 14 = .ok (.if_icmp .lt 5, 3) := by decide +kernel
theorem dX8_row_17 : decode cX8_row 17 = .ok (.iconst (-1), 1) := by decide +kernel
theorem dX8_row_18 : decode cX8_row 18 = .ok (.ireturn, 1) := by decide +kernel
theorem dX8_row_19 : decode cX8_row 19 = .ok (.aload_n 0, 1) := by decide +kernel
theorem dX8_row_20 : decode cX8_row 20 = .ok (.getfield 112, 3) := by decide +kernel
theorem dX8_row_23 : decode cX8_row 23 = .ok (.bipush 36, 2) := by decide +kernel
theorem dX8_row_25 : decode cX8_row 25 = .ok (.if_icmp .ne 6, 3) := by decide +kernel
theorem dX8_row_28 : decode cX8_row 28 = .ok (.bipush (-4), 2) := by decide +kernel
theorem dX8_row_30 : decode cX8_row 30 = .ok (.ireturn, 1) := by decide +kernel
theorem dX8_row_31 : decode cX8_row 31 = .ok (.aload_n 0, 1) := by decide +kernel
theorem dX8_row_32 : decode cX8_row 32 = .ok (.getfield 13, 3) := by decide +kernel
theorem dX8_row_35 : decode cX8_row 35 = .ok (.aload_n 0, 1) := by decide +kernel
theorem dX8_row_36 : decode cX8_row 36 = .ok (.getfield 112, 3) := by decide +kernel
theorem dX8_row_39 : decode cX8_row 39 = .ok (.iload_n 1, 1) := by decide +kernel
theorem dX8_row_40 : decode cX8_row 40 = .ok (.iastore, 1) := by decide +kernel
theorem dX8_row_41 : decode cX8_row 41 = .ok (.aload_n 0, 1) := by decide +kernel
theorem dX8_row_42 : decode cX8_row 42 = .ok (.getfield 16, 3) := by decide +kernel
theorem dX8_row_45 : decode cX8_row 45 = .ok (.iconst 4, 1) := by decide +kernel
theorem dX8_row_46 : decode cX8_row 46 = .ok (.aload_n 0, 1) := by decide +kernel
theorem dX8_row_47 : decode cX8_row 47 = .ok (.getfield 112, 3) := by decide +kernel
theorem dX8_row_50 : decode cX8_row 50 = .ok (.imul, 1) := by decide +kernel
theorem dX8_row_51 : decode cX8_row 51 = .ok (.iload_n 2, 1) := by decide +kernel
theorem dX8_row_52 : decode cX8_row 52 = .ok (.iastore, 1) := by decide +kernel
theorem dX8_row_53 : decode cX8_row 53 = .ok (.aload_n 0, 1) := by decide +kernel
theorem dX8_row_54 : decode cX8_row 54 = .ok (.getfield 16, 3) := by decide +kernel
theorem dX8_row_57 : decode cX8_row 57 = .ok (.iconst 4, 1) := by decide +kernel
theorem dX8_row_58 : decode cX8_row 58 = .ok (.aload_n 0, 1) := by decide +kernel
theorem dX8_row_59 : decode cX8_row 59 = .ok (.getfield 112, 3) := by decide +kernel
theorem dX8_row_62 : decode cX8_row 62 = .ok (.imul, 1) := by decide +kernel
theorem dX8_row_63 : decode cX8_row 63 = .ok (.iconst 1, 1) := by decide +kernel
theorem dX8_row_64 : decode cX8_row 64 = .ok (.iadd, 1) := by decide +kernel
theorem dX8_row_65 : decode cX8_row 65 = .ok (.iload_n 3, 1) := by decide +kernel
theorem dX8_row_66 : decode cX8_row 66 = .ok (.iastore, 1) := by decide +kernel
theorem dX8_row_67 : decode cX8_row 67 = .ok (.aload_n 0, 1) := by decide +kernel
theorem dX8_row_68 : decode cX8_row 68 = .ok (.getfield 16, 3) := by decide +kernel
theorem dX8_row_71 : decode cX8_row 71 = .ok (.iconst 4, 1) := by decide +kernel
theorem dX8_row_72 : decode cX8_row 72 = .ok (.aload_n 0, 1) := by decide +kernel
theorem dX8_row_73 : decode cX8_row 73 = .ok (.getfield 112, 3) := by decide +kernel
theorem dX8_row_76 : decode cX8_row 76 = .ok (.imul, 1) := by decide +kernel
theorem dX8_row_77 : decode cX8_row 77 = .ok (.iconst 2, 1) := by decide +kernel
theorem dX8_row_78 : decode cX8_row 78 = .ok (.iadd, 1) := by decide +kernel
theorem dX8_row_79 : decode cX8_row 79 = .ok (.iload 4, 2) := by decide +kernel
theorem dX8_row_81 : decode cX8_row 81 = .ok (.iastore, 1) := by decide +kernel
theorem dX8_row_82 : decode cX8_row 82 = .ok (.aload_n 0, 1) := by decide +kernel
theorem dX8_row_83 : decode cX8_row 83 = .ok (.getfield 16, 3) := by decide +kernel
theorem dX8_row_86 : decode cX8_row 86 = .ok (.iconst 4, 1) := by decide +kernel
theorem dX8_row_87 : decode cX8_row 87 = .ok (.aload_n 0, 1) := by decide +kernel
theorem dX8_row_88 : decode cX8_row 88 = .ok (.getfield 112, 3) := by decide +kernel
theorem dX8_row_91 : decode cX8_row 91 = .ok (.imul, 1) := by decide +kernel
theorem dX8_row_92 : decode cX8_row 92 = .ok (.iconst 3, 1) := by decide +kernel
theorem dX8_row_93 : decode cX8_row 93 = .ok (.iadd, 1) := by decide +kernel
theorem dX8_row_94 : decode cX8_row 94 = .ok (.iload 5, 2) := by decide +kernel
theorem dX8_row_96 : decode cX8_row 96 = .ok (.iastore, 1) := by decide +kernel
theorem dX8_row_97 : decode cX8_row 97 = .ok (.aload_n 0, 1) := by decide +kernel
theorem dX8_row_98 : decode cX8_row 98 = .ok (.dup, 1) := by decide +kernel
theorem dX8_row_99 : decode cX8_row 99 = .ok (.getfield 115, 3) := by decide +kernel
theorem dX8_row_102 : decode cX8_row 102 = .ok (.lconst 1, 1) := by decide +kernel
theorem dX8_row_103 : decode cX8_row 103 = .ok (.aload_n 0, 1) := by decide +kernel
theorem dX8_row_104 : decode cX8_row 104 = .ok (.getfield 112, 3) := by decide +kernel
theorem dX8_row_107 : decode cX8_row 107 = .ok (.lshl, 1) := by decide +kernel
theorem dX8_row_108 : decode cX8_row 108 = .ok (.lor, 1) := by decide +kernel
theorem dX8_row_109 : decode cX8_row 109 = .ok (.putfield 115, 3) := by decide +kernel
theorem dX8_row_112 : decode cX8_row 112 = .ok (.aload_n 0, 1) := by decide +kernel
theorem dX8_row_113 : decode cX8_row 113 = .ok (.dup, 1) := by decide +kernel
theorem dX8_row_114 : decode cX8_row 114 = .ok (.getfield 112, 3) := by decide +kernel
theorem dX8_row_117 : decode cX8_row 117 = .ok (.iconst 1, 1) := by decide +kernel
theorem dX8_row_118 : decode cX8_row 118 = .ok (.iadd, 1) := by decide +kernel
theorem dX8_row_119 : decode cX8_row 119 = .ok (.putfield 112, 3) := by decide +kernel
theorem dX8_row_122 : decode cX8_row 122 = .ok (.aload_n 0, 1) := by decide +kernel
theorem dX8_row_123 : decode cX8_row 123 = .ok (.getfield 46, 3) := by decide +kernel
theorem dX8_row_126 : decode cX8_row 126 = .ok (.bipush 16, 2) := by decide +kernel
theorem dX8_row_128 : decode cX8_row 128 = .ok (.iconst 0, 1) := by decide +kernel
theorem dX8_row_129 : decode cX8_row 129 = .ok (.iastore, 1) := by decide +kernel
theorem dX8_row_130 : decode cX8_row 130 = .ok (.aload_n 0, 1) := by decide +kernel
theorem dX8_row_131 : decode cX8_row 131 = .ok (.getfield 112, 3) := by decide +kernel
theorem dX8_row_134 : decode cX8_row 134 = .ok (.iconst 1, 1) := by decide +kernel
theorem dX8_row_135 : decode cX8_row 135 = .ok (.isub, 1) := by decide +kernel
theorem dX8_row_136 : decode cX8_row 136 = .ok (.ireturn, 1) := by decide +kernel
theorem dX8_isNode_0 : decode cX8_isNode 0 = .ok (.iload_n 1, 1) := by decide +kernel
theorem dX8_isNode_1 : decode cX8_isNode 1 = .ok (.ifCond .lt 15, 3) := by decide +kernel
theorem dX8_isNode_4 : decode cX8_isNode 4 = .ok (.iload_n 1, 1) := by decide +kernel
theorem dX8_isNode_5 : decode cX8_isNode 5 = .ok (.aload_n 0, 1) := by decide +kernel
theorem dX8_isNode_6 : decode cX8_isNode 6 = .ok (.getfield 119, 3) := by decide +kernel
theorem dX8_isNode_9 : decode cX8_isNode 9 = .ok (.if_icmp .ge 7, 3) := by decide +kernel
theorem dX8_isNode_12 : decode cX8_isNode 12 = .ok (.iconst 1, 1) := by decide +kernel
theorem dX8_isNode_13 : decode cX8_isNode 13 = .ok (.goto 4, 3) := by decide +kernel
theorem dX8_isNode_16 : decode cX8_isNode 16 = .ok (.iconst 0, 1) := by decide +kernel
theorem dX8_isNode_17 : decode cX8_isNode 17 = .ok (.ireturn, 1) := by decide +kernel
theorem dX8_isColumn_0 : decode cX8_isColumn 0 = .ok (.iload_n 2, 1) := by decide +kernel
theorem dX8_isColumn_1 : decode cX8_isColumn 1 = .ok (.ifCond .lt 17, 3) := by decide +kernel
theorem dX8_isColumn_4 : decode cX8_isColumn 4 = .ok (.iload_n 2, 1) := by decide +kernel
theorem dX8_isColumn_5 : decode cX8_isColumn 5 = .ok (.aload_n 0, 1) := by decide +kernel
theorem dX8_isColumn_6 : decode cX8_isColumn 6 = .ok (.getfield 40, 3) := by decide +kernel
theorem dX8_isColumn_9 : decode cX8_isColumn 9 = .ok (.iload_n 1, 1) := by decide +kernel
theorem dX8_isColumn_10 : decode cX8_isColumn 10 = .ok (.iaload, 1) := by decide +kernel
theorem dX8_isColumn_11 : decode cX8_isColumn 11 = .ok (.if_icmp .ge 7, 3) := by decide +kernel
theorem dX8_isColumn_14 : decode cX8_isColumn 14 = .ok (.iconst 1, 1) := by decide +kernel
theorem dX8_isColumn_15 : decode cX8_isColumn 15 = .ok (.goto 4, 3) := by decide +kernel
theorem dX8_isColumn_18 : decode cX8_isColumn 18 = .ok (.iconst 0, 1) := by decide +kernel
theorem dX8_isColumn_19 : decode cX8_isColumn 19 = .ok (.ireturn, 1) := by decide +kernel
theorem dX8_node_0 : decode cX8_node 0 = .ok (.aload_n 0, 1) := by decide +kernel
theorem dX8_node_1 : decode cX8_node 1 = .ok (.getfield 119, 3) := by decide +kernel
theorem dX8_node_4 : decode cX8_node 4 = .ok (.bipush 16, 2) := by decide +kernel
theorem dX8_node_6 : decode cX8_node 6 = .ok (.if_icmp .ne 6, 3) := by decide +kernel
theorem dX8_node_9 : decode cX8_node 9 = .ok (.bipush (-4), 2) := by decide +kernel
theorem dX8_node_11 : decode cX8_node 11 = .ok (.ireturn, 1) := by decide +kernel
theorem dX8_node_12 : decode cX8_node 12 = .ok (.aload_n 0, 1) := by decide +kernel
theorem dX8_node_13 : decode cX8_node 13 = .ok (.getfield 19, 3) := by decide +kernel
theorem dX8_node_16 : decode cX8_node 16 = .ok (.aload_n 0, 1) := by decide +kernel
theorem dX8_node_17 : decode cX8_node 17 = .ok (.getfield 119, 3) := by decide +kernel
theorem dX8_node_20 : decode cX8_node 20 = .ok (.iload_n 1, 1) := by decide +kernel
theorem dX8_node_21 : decode cX8_node 21 = .ok (.iastore, 1) := by decide +kernel
theorem dX8_node_22 : decode cX8_node 22 = .ok (.aload_n 0, 1) := by decide +kernel
theorem dX8_node_23 : decode cX8_node 23 = .ok (.getfield 22, 3) := by decide +kernel
theorem dX8_node_26 : decode cX8_node 26 = .ok (.aload_n 0, 1) := by decide +kernel
theorem dX8_node_27 : decode cX8_node 27 = .ok (.getfield 119, 3) := by decide +kernel
theorem dX8_node_30 : decode cX8_node 30 = .ok (.iload_n 2, 1) := by decide +kernel
theorem dX8_node_31 : decode cX8_node 31 = .ok (.iastore, 1) := by decide +kernel
theorem dX8_node_32 : decode cX8_node 32 = .ok (.aload_n 0, 1) := by decide +kernel
theorem dX8_node_33 : decode cX8_node 33 = .ok (.getfield 25, 3) := by decide +kernel
theorem dX8_node_36 : decode cX8_node 36 = .ok (.aload_n 0, 1) := by decide +kernel
theorem dX8_node_37 : decode cX8_node 37 = .ok (.getfield 119, 3) := by decide +kernel
theorem dX8_node_40 : decode cX8_node 40 = .ok (.iload_n 3, 1) := by decide +kernel
theorem dX8_node_41 : decode cX8_node 41 = .ok (.iastore, 1) := by decide +kernel
theorem dX8_node_42 : decode cX8_node 42 = .ok (.aload_n 0, 1) := by decide +kernel
theorem dX8_node_43 : decode cX8_node 43 = .ok (.getfield 28, 3) := by decide +kernel
theorem dX8_node_46 : decode cX8_node 46 = .ok (.aload_n 0, 1) := by decide +kernel
theorem dX8_node_47 : decode cX8_node 47 = .ok (.getfield 119, 3) := by decide +kernel
theorem dX8_node_50 : decode cX8_node 50 = .ok (.iload 4, 2) := by decide +kernel
theorem dX8_node_52 : decode cX8_node 52 = .ok (.iastore, 1) := by decide +kernel
theorem dX8_node_53 : decode cX8_node 53 = .ok (.aload_n 0, 1) := by decide +kernel
theorem dX8_node_54 : decode cX8_node 54 = .ok (.getfield 31, 3) := by decide +kernel
theorem dX8_node_57 : decode cX8_node 57 = .ok (.aload_n 0, 1) := by decide +kernel
theorem dX8_node_58 : decode cX8_node 58 = .ok (.getfield 119, 3) := by decide +kernel
theorem dX8_node_61 : decode cX8_node 61 = .ok (.iload 5, 2) := by decide +kernel
theorem dX8_node_63 : decode cX8_node 63 = .ok (.iastore, 1) := by decide +kernel
theorem dX8_node_64 : decode cX8_node 64 = .ok (.aload_n 0, 1) := by decide +kernel
theorem dX8_node_65 : decode cX8_node 65 = .ok (.getfield 34, 3) := by decide +kernel
theorem dX8_node_68 : decode cX8_node 68 = .ok (.aload_n 0, 1) := by decide +kernel
theorem dX8_node_69 : decode cX8_node 69 = .ok (.getfield 119, 3) := by decide +kernel
theorem dX8_node_72 : decode cX8_node 72 = .ok (.iload 6, 2) := by decide +kernel
theorem dX8_node_74 : decode cX8_node 74 = .ok (.iastore, 1) := by decide +kernel
theorem dX8_node_75 : decode cX8_node 75 = .ok (.aload_n 0, 1) := by decide +kernel
theorem dX8_node_76 : decode cX8_node 76 = .ok (.getfield 37, 3) := by decide +kernel
theorem dX8_node_79 : decode cX8_node 79 = .ok (.aload_n 0, 1) := by decide +kernel
theorem dX8_node_80 : decode cX8_node 80 = .ok (.getfield 119, 3) := by decide +kernel
theorem dX8_node_83 : decode cX8_node 83 = .ok (.iload 7, 2) := by decide +kernel
theorem dX8_node_85 : decode cX8_node 85 = .ok (.iastore, 1) := by decide +kernel
theorem dX8_node_86 : decode cX8_node 86 = .ok (.aload_n 0, 1) := by decide +kernel
theorem dX8_node_87 : decode cX8_node 87 = .ok (.getfield 40, 3) := by decide +kernel
theorem dX8_node_90 : decode cX8_node 90 = .ok (.aload_n 0, 1) := by decide +kernel
theorem dX8_node_91 : decode cX8_node 91 = .ok (.getfield 119, 3) := by decide +kernel
theorem dX8_node_94 : decode cX8_node 94 = .ok (.iload 8, 2) := by decide +kernel
theorem dX8_node_96 : decode cX8_node 96 = .ok (.iastore, 1) := by decide +kernel
theorem dX8_node_97 : decode cX8_node 97 = .ok (.aload_n 0, 1) := by decide +kernel
theorem dX8_node_98 : decode cX8_node 98 = .ok (.dup, 1) := by decide +kernel
theorem dX8_node_99 : decode cX8_node 99 = .ok (.getfield 119, 3) := by decide +kernel
theorem dX8_node_102 : decode cX8_node 102 = .ok (.iconst 1, 1) := by decide +kernel
theorem dX8_node_103 : decode cX8_node 103 = .ok (.iadd, 1) := by decide +kernel
theorem dX8_node_104 : decode cX8_node 104 = .ok (.putfield 119, 3) := by decide +kernel
theorem dX8_node_107 : decode cX8_node 107 = .ok (.aload_n 0, 1) := by decide +kernel
theorem dX8_node_108 : decode cX8_node 108 = .ok (.getfield 119, 3) := by decide +kernel
theorem dX8_node_111 : decode cX8_node 111 = .ok (.iconst 1, 1) := by decide +kernel
theorem dX8_node_112 : decode cX8_node 112 = .ok (.isub, 1) := by decide +kernel
theorem dX8_node_113 : decode cX8_node 113 = .ok (.ireturn, 1) := by decide +kernel
theorem dX8_scan_0 : decode cX8_scan 0 = .ok (.aload_n 0, 1) := by decide +kernel
theorem dX8_scan_1 : decode cX8_scan 1 = .ok (.iconst 0, 1) := by decide +kernel
theorem dX8_scan_2 : decode cX8_scan 2 = .ok (.putfield 78, 3) := by decide +kernel
theorem dX8_scan_5 : decode cX8_scan 5 = .ok (.iload_n 1, 1) := by decide +kernel
theorem dX8_scan_6 : decode cX8_scan 6 = .ok (.ifCond .lt 11, 3) := by decide +kernel
theorem dX8_scan_9 : decode cX8_scan 9 = .ok (.iload_n 1, 1) := by decide +kernel
theorem dX8_scan_10 : decode cX8_scan 10 = .ok (.aload_n 0, 1) := by decide +kernel
theorem dX8_scan_11 : decode cX8_scan 11 = .ok (.getfield 109, 3) := by decide +kernel
theorem dX8_scan_14 : decode cX8_scan 14 = .ok (.if_icmp .lt 5, 3) := by decide +kernel
theorem dX8_scan_17 : decode cX8_scan 17 = .ok (.iconst (-1), 1) := by decide +kernel
theorem dX8_scan_18 : decode cX8_scan 18 = .ok (.ireturn, 1) := by decide +kernel
theorem dX8_scan_19 : decode cX8_scan 19 = .ok (.aload_n 0, 1) := by decide +kernel
theorem dX8_scan_20 : decode cX8_scan 20 = .ok (.iconst 0, 1) := by decide +kernel
theorem dX8_scan_21 : decode cX8_scan 21 = .ok (.iload_n 1, 1) := by decide +kernel
theorem dX8_scan_22 : decode cX8_scan 22 = .ok (.iconst 0, 1) := by decide +kernel
theorem dX8_scan_23 : decode cX8_scan 23 = .ok (.iconst 0, 1) := by decide +kernel
theorem dX8_scan_24 : decode cX8_scan 24 = .ok (.iconst 0, 1) := by decide +kernel
theorem dX8_scan_25 : decode cX8_scan 25 = .ok (.iconst 0, 1) := by decide +kernel
theorem dX8_scan_26 : decode cX8_scan 26 = .ok (.iconst 0, 1) := by decide +kernel
theorem dX8_scan_27 : decode cX8_scan 27 = .ok (.aload_n 0, 1) := by decide +kernel
theorem dX8_scan_28 : decode cX8_scan 28 = .ok (.getfield 7, 3) := by decide +kernel
theorem dX8_scan_31 : decode cX8_scan 31 = .ok (.iload_n 1, 1) := by decide +kernel
theorem dX8_scan_32 : decode cX8_scan 32 = .ok (.iaload, 1) := by decide +kernel
theorem dX8_scan_33 : decode cX8_scan 33 = .ok (.invokevirtual 122, 3) := by decide +kernel
theorem dX8_scan_36 : decode cX8_scan 36 = .ok (.ireturn, 1) := by decide +kernel
theorem dX8_pick_0 : decode cX8_pick 0 = .ok (.aload_n 0, 1) := by decide +kernel
theorem dX8_pick_1 : decode cX8_pick 1 = .ok (.iconst 0, 1) := by decide +kernel
theorem dX8_pick_2 : decode cX8_pick 2 = .ok (.putfield 78, 3) := by decide +kernel
theorem dX8_pick_5 : decode cX8_pick 5 = .ok (.aload_n 0, 1) := by decide +kernel
theorem dX8_pick_6 : decode cX8_pick 6 = .ok (.iload_n 1, 1) := by decide +kernel
theorem dX8_pick_7 : decode cX8_pick 7 = .ok (.invokevirtual 126, 3) := by decide +kernel
theorem dX8_pick_10 : decode cX8_pick 10 = .ok (.ifCond .eq 28, 3) := by decide +kernel
theorem dX8_pick_13 : decode cX8_pick 13 = .ok (.aload_n 0, 1) := by decide +kernel
theorem dX8_pick_14 : decode cX8_pick 14 = .ok (.iload_n 1, 1) := by decide +kernel
theorem dX8_pick_15 : decode cX8_pick 15 = .ok (.iload_n 2, 1) := by decide +kernel
theorem dX8_pick_16 : decode cX8_pick 16 = .ok (.invokevirtual 129, 3) := by decide +kernel
theorem dX8_pick_19 : decode cX8_pick 19 = .ok (.ifCond .eq 19, 3) := by decide +kernel
theorem dX8_pick_22 : decode cX8_pick 22 = .ok (.iload 4, 2) := by decide +kernel
theorem dX8_pick_24 : decode cX8_pick 24 = .ok (.iconst (-1), 1) := by decide +kernel
theorem dX8_pick_25 : decode cX8_pick 25 = .ok (.if_icmp .eq 15, 3) := by decide +kernel
theorem dX8_pick_28 : decode cX8_pick 28 = .ok (.aload_n 0, 1) := by decide +kernel
theorem dX8_pick_29 : decode cX8_pick 29 = .ok (.iload_n 1, 1) := by decide +kernel
theorem dX8_pick_30 : decode cX8_pick 30 = .ok (.iload 4, 2) := by decide +kernel
theorem dX8_pick_32 : decode cX8_pick 32 = .ok (.invokevirtual 129, 3) := by decide +kernel
theorem dX8_pick_35 : decode cX8_pick 35 = .ok (.ifCond .ne 5, 3) := by decide +kernel
theorem dX8_pick_38 : decode cX8_pick 38 = .ok (.iconst (-1), 1) := by decide +kernel
theorem dX8_pick_39 : decode cX8_pick 39 = .ok (.ireturn, 1) := by decide +kernel
theorem dX8_pick_40 : decode cX8_pick 40 = .ok (.iload_n 3, 1) := by decide +kernel
theorem dX8_pick_41 : decode cX8_pick 41 = .ok (.ifCond .lt 8, 3) := by decide +kernel
theorem dX8_pick_44 : decode cX8_pick 44 = .ok (.iload_n 3, 1) := by decide +kernel
theorem dX8_pick_45 : decode cX8_pick 45 = .ok (.iconst 2, 1) := by decide +kernel
theorem dX8_pick_46 : decode cX8_pick 46 = .ok (.if_icmp .le 6, 3) := by decide +kernel
theorem dX8_pick_49 : decode cX8_pick 49 = .ok (.bipush (-2), 2) := by decide +kernel
theorem dX8_pick_51 : decode cX8_pick 51 = .ok (.ireturn, 1) := by decide +kernel
theorem dX8_pick_52 : decode cX8_pick 52 = .ok (.aload_n 0, 1) := by decide +kernel
theorem dX8_pick_53 : decode cX8_pick 53 = .ok (.iconst 1, 1) := by decide +kernel
theorem dX8_pick_54 : decode cX8_pick 54 = .ok (.iload_n 1, 1) := by decide +kernel
theorem dX8_pick_55 : decode cX8_pick 55 = .ok (.iconst 0, 1) := by decide +kernel
theorem dX8_pick_56 : decode cX8_pick 56 = .ok (.iload_n 2, 1) := by decide +kernel
theorem dX8_pick_57 : decode cX8_pick 57 = .ok (.iload_n 3, 1) := by decide +kernel
theorem dX8_pick_58 : decode cX8_pick 58 = .ok (.iload 4, 2) := by decide +kernel
theorem dX8_pick_60 : decode cX8_pick 60 = .ok (.iload 5, 2) := by decide +kernel
theorem dX8_pick_62 : decode cX8_pick 62 = .ok (.aload_n 0, 1) := by decide +kernel
theorem dX8_pick_63 : decode cX8_pick 63 = .ok (.getfield 40, 3) := by decide +kernel
theorem dX8_pick_66 : decode cX8_pick 66 = .ok (.iload_n 1, 1) := by decide +kernel
theorem dX8_pick_67 : decode cX8_pick 67 = .ok (.iaload, 1) := by decide +kernel
theorem dX8_pick_68 : decode cX8_pick 68 = .ok (.invokevirtual 122, 3) := by decide +kernel
theorem dX8_pick_71 : decode cX8_pick 71 = .ok (.ireturn, 1) := by decide +kernel
theorem dX8_cols_0 : decode cX8_cols 0 = .ok (.aload_n 0, 1) := by decide +kernel
theorem dX8_cols_1 : decode cX8_cols 1 = .ok (.iconst 0, 1) := by decide +kernel
theorem dX8_cols_2 : decode cX8_cols 2 = .ok (.putfield 78, 3) := by decide +kernel
theorem dX8_cols_5 : decode cX8_cols 5 = .ok (.aload_n 0, 1) := by decide +kernel
theorem dX8_cols_6 : decode cX8_cols 6 = .ok (.iload_n 1, 1) := by decide +kernel
theorem dX8_cols_7 : decode cX8_cols 7 = .ok (.invokevirtual 126, 3) := by decide +kernel
theorem dX8_cols_10 : decode cX8_cols 10 = .ok (.ifCond .ne 5, 3) := by decide +kernel
theorem dX8_cols_13 : decode cX8_cols 13 = .ok (.iconst (-1), 1) := by decide +kernel
theorem dX8_cols_14 : decode cX8_cols 14 = .ok (.ireturn, 1) := by decide +kernel
theorem dX8_cols_15 : decode cX8_cols 15 = .ok (.iload_n 2, 1) := by decide +kernel
theorem dX8_cols_16 : decode cX8_cols 16 = .ok (.iconst 1, 1) := by decide +kernel
theorem dX8_cols_17 : decode cX8_cols 17 = .ok (.if_icmp .lt 9, 3) := by decide +kernel
theorem dX8_cols_20 : decode cX8_cols 20 = .ok (.iload_n 2, 1) := by decide +kernel
theorem dX8_cols_21 : decode cX8_cols 21 = .ok (.ldc 133, 2) := by decide +kernel
theorem dX8_cols_23 : decode cX8_cols 23 = .ok (.if_icmp .le 6, 3) := by decide +kernel
theorem dX8_cols_26 : decode cX8_cols 26 = .ok (.bipush (-2), 2) := by decide +kernel
theorem dX8_cols_28 : decode cX8_cols 28 = .ok (.ireturn, 1) := by decide +kernel
theorem dX8_cols_29 : decode cX8_cols 29 = .ok (.iconst 0, 1) := by decide +kernel
theorem dX8_cols_30 : decode cX8_cols 30 = .ok (.istore_n 3, 1) := by decide +kernel
theorem dX8_cols_31 : decode cX8_cols 31 = .ok (.iconst 0, 1) := by decide +kernel
theorem dX8_cols_32 : decode cX8_cols 32 = .ok (.istore 4, 2) := by decide +kernel
theorem dX8_cols_34 : decode cX8_cols 34 = .ok (.iload_n 2, 1) := by decide +kernel
theorem dX8_cols_35 : decode cX8_cols 35 = .ok (.istore 5, 2) := by decide +kernel
theorem dX8_cols_37 : decode cX8_cols 37 = .ok (.iload 5, 2) := by decide +kernel
theorem dX8_cols_39 : decode cX8_cols 39 = .ok (.ifCond .le 53, 3) := by decide +kernel
theorem dX8_cols_42 : decode cX8_cols 42 = .ok (.iload 5, 2) := by decide +kernel
theorem dX8_cols_44 : decode cX8_cols 44 = .ok (.bipush 10, 2) := by decide +kernel
theorem dX8_cols_46 : decode cX8_cols 46 = .ok (.irem, 1) := by decide +kernel
theorem dX8_cols_47 : decode cX8_cols 47 = .ok (.ifCond .ne 6, 3) := by decide +kernel
theorem dX8_cols_50 : decode cX8_cols 50 = .ok (.bipush (-2), 2) := by decide +kernel
theorem dX8_cols_52 : decode cX8_cols 52 = .ok (.ireturn, 1) := by decide +kernel
theorem dX8_cols_53 : decode cX8_cols 53 = .ok (.iload 4, 2) := by decide +kernel
theorem dX8_cols_55 : decode cX8_cols 55 = .ok (.ifCond .ne 17, 3) := by decide +kernel
theorem dX8_cols_58 : decode cX8_cols 58 = .ok (.iload 5, 2) := by decide +kernel
theorem dX8_cols_60 : decode cX8_cols 60 = .ok (.bipush 10, 2) := by decide +kernel
theorem dX8_cols_62 : decode cX8_cols 62 = .ok (.irem, 1) := by decide +kernel
theorem dX8_cols_63 : decode cX8_cols 63 = .ok (.aload_n 0, 1) := by decide +kernel
theorem dX8_cols_64 : decode cX8_cols 64 = .ok (.getfield 40, 3) := by decide +kernel
theorem dX8_cols_67 : decode cX8_cols 67 = .ok (.iload_n 1, 1) := by decide +kernel
theorem dX8_cols_68 : decode cX8_cols 68 = .ok (.iaload, 1) := by decide +kernel
theorem dX8_cols_69 : decode cX8_cols 69 = .ok (.if_icmp .le 7, 3) := by decide +kernel
theorem dX8_cols_72 : decode cX8_cols 72 = .ok (.iconst 1, 1) := by decide +kernel
theorem dX8_cols_73 : decode cX8_cols 73 = .ok (.goto 4, 3) := by decide +kernel
theorem dX8_cols_76 : decode cX8_cols 76 = .ok (.iconst 0, 1) := by decide +kernel
theorem dX8_cols_77 : decode cX8_cols 77 = .ok (.istore 4, 2) := by decide +kernel
theorem dX8_cols_79 : decode cX8_cols 79 = .ok (.iinc 3 1, 3) := by decide +kernel
theorem dX8_cols_82 : decode cX8_cols 82 = .ok (.iload 5, 2) := by decide +kernel
theorem dX8_cols_84 : decode cX8_cols 84 = .ok (.bipush 10, 2) := by decide +kernel
theorem dX8_cols_86 : decode cX8_cols 86 = .ok (.idiv, 1) := by decide +kernel
theorem dX8_cols_87 : decode cX8_cols 87 = .ok (.istore 5, 2) := by decide +kernel
theorem dX8_cols_89 : decode cX8_cols 89 = .ok (.goto (-52), 3) := by decide +kernel
theorem dX8_cols_92 : decode cX8_cols 92 = .ok (.iload 4, 2) := by decide +kernel
theorem dX8_cols_94 : decode cX8_cols 94 = .ok (.ifCond .eq 7, 3) := by decide +kernel
theorem dX8_cols_97 : decode cX8_cols 97 = .ok (.iconst (-1), 1) := by decide +kernel
theorem dX8_cols_98 : decode cX8_cols 98 = .ok (.goto 15, 3) := by decide +kernel
theorem dX8_cols_101 : decode cX8_cols 101 = .ok (.aload_n 0, 1) := by decide +kernel
theorem dX8_cols_102 : decode cX8_cols 102 = .ok (.iconst 2, 1) := by decide +kernel
theorem dX8_cols_103 : decode cX8_cols 103 = .ok (.iload_n 1, 1) := by decide +kernel
theorem dX8_cols_104 : decode cX8_cols 104 = .ok (.iconst 0, 1) := by decide +kernel
theorem dX8_cols_105 : decode cX8_cols 105 = .ok (.iload_n 2, 1) := by decide +kernel
theorem dX8_cols_106 : decode cX8_cols 106 = .ok (.iconst 0, 1) := by decide +kernel
theorem dX8_cols_107 : decode cX8_cols 107 = .ok (.iconst 0, 1) := by decide +kernel
theorem dX8_cols_108 : decode cX8_cols 108 = .ok (.iconst 0, 1) := by decide +kernel
theorem dX8_cols_109 : decode cX8_cols 109 = .ok (.iload_n 3, 1) := by decide +kernel
theorem dX8_cols_110 : decode cX8_cols 110 = .ok (.invokevirtual 122, 3) := by decide +kernel
theorem dX8_cols_113 : decode cX8_cols 113 = .ok (.ireturn, 1) := by decide +kernel
theorem dX8_join_0 : decode cX8_join 0 = .ok (.aload_n 0, 1) := by decide +kernel
theorem dX8_join_1 : decode cX8_join 1 = .ok (.iconst 0, 1) := by decide +kernel
theorem dX8_join_2 : decode cX8_join 2 = .ok (.putfield 78, 3) := by decide +kernel
theorem dX8_join_5 : decode cX8_join 5 = .ok (.aload_n 0, 1) := by decide +kernel
theorem dX8_join_6 : decode cX8_join 6 = .ok (.iload_n 1, 1) := by decide +kernel
theorem dX8_join_7 : decode cX8_join 7 = .ok (.invokevirtual 126, 3) := by decide +kernel
theorem dX8_join_10 : decode cX8_join 10 = .ok (.ifCond .eq 30, 3) := by decide +kernel
theorem dX8_join_13 : decode cX8_join 13 = .ok (.aload_n 0, 1) := by decide +kernel
theorem dX8_join_14 : decode cX8_join 14 = .ok (.iload_n 2, 1) := by decide +kernel
theorem dX8_join_15 : decode cX8_join 15 = .ok (.invokevirtual 126, 3) := by decide +kernel
theorem dX8_join_18 : decode cX8_join 18 = .ok (.ifCond .eq 22, 3) := by decide +kernel
theorem dX8_join_21 : decode cX8_join 21 = .ok (.aload_n 0, 1) := by decide +kernel
theorem dX8_join_22 : decode cX8_join 22 = .ok (.iload_n 1, 1) := by decide +kernel
theorem dX8_join_23 : decode cX8_join 23 = .ok (.iload_n 3, 1) := by decide +kernel
theorem dX8_join_24 : decode cX8_join 24 = .ok (.invokevirtual 129, 3) := by decide +kernel
theorem dX8_join_27 : decode cX8_join 27 = .ok (.ifCond .eq 13, 3) := by decide +kernel
theorem dX8_join_30 : decode cX8_join 30 = .ok (.aload_n 0, 1) := by decide +kernel
theorem dX8_join_31 : decode cX8_join 31 = .ok (.iload_n 2, 1) := by decide +kernel
theorem dX8_join_32 : decode cX8_join 32 = .ok (.iload 4, 2) := by decide +kernel
theorem dX8_join_34 : decode cX8_join 34 = .ok (.invokevirtual 129, 3) := by decide +kernel
theorem dX8_join_37 : decode cX8_join 37 = .ok (.ifCond .ne 5, 3) := by decide +kernel
theorem dX8_join_40 : decode cX8_join 40 = .ok (.iconst (-1), 1) := by decide +kernel
theorem dX8_join_41 : decode cX8_join 41 = .ok (.ireturn, 1) := by decide +kernel
theorem dX8_join_42 : decode cX8_join 42 = .ok (.aload_n 0, 1) := by decide +kernel
theorem dX8_join_43 : decode cX8_join 43 = .ok (.getfield 40, 3) := by decide +kernel
theorem dX8_join_46 : decode cX8_join 46 = .ok (.iload_n 1, 1) := by decide +kernel
theorem dX8_join_47 : decode cX8_join 47 = .ok (.iaload, 1) := by decide +kernel
theorem dX8_join_48 : decode cX8_join 48 = .ok (.aload_n 0, 1) := by decide +kernel
theorem dX8_join_49 : decode cX8_join 49 = .ok (.getfield 40, 3) := by decide +kernel
theorem dX8_join_52 : decode cX8_join 52 = .ok (.iload_n 2, 1) := by decide +kernel
theorem dX8_join_53 : decode cX8_join 53 = .ok (.iaload, 1) := by decide +kernel
theorem dX8_join_54 : decode cX8_join 54 = .ok (.iadd, 1) := by decide +kernel
theorem dX8_join_55 : decode cX8_join 55 = .ok (.istore 5, 2) := by decide +kernel
theorem dX8_join_57 : decode cX8_join 57 = .ok (.iload 5, 2) := by decide +kernel
theorem dX8_join_59 : decode cX8_join 59 = .ok (.bipush 6, 2) := by decide +kernel
theorem dX8_join_61 : decode cX8_join 61 = .ok (.if_icmp .le 8, 3) := by decide +kernel
theorem dX8_join_64 : decode cX8_join 64 = .ok (.bipush (-2), 2) := by decide +kernel
theorem dX8_join_66 : decode cX8_join 66 = .ok (.goto 17, 3) := by decide +kernel
theorem dX8_join_69 : decode cX8_join 69 = .ok (.aload_n 0, 1) := by decide +kernel
theorem dX8_join_70 : decode cX8_join 70 = .ok (.iconst 3, 1) := by decide +kernel
theorem dX8_join_71 : decode cX8_join 71 = .ok (.iload_n 1, 1) := by decide +kernel
theorem dX8_join_72 : decode cX8_join 72 = .ok (.iload_n 2, 1) := by decide +kernel
theorem dX8_join_73 : decode cX8_join 73 = .ok (.iload_n 3, 1) := by decide +kernel
theorem dX8_join_74 : decode cX8_join 74 = .ok (.iload 4, 2) := by decide +kernel
theorem dX8_join_76 : decode cX8_join 76 = .ok (.iconst 0, 1) := by decide +kernel
theorem dX8_join_77 : decode cX8_join 77 = .ok (.iconst 0, 1) := by decide +kernel
theorem dX8_join_78 : decode cX8_join 78 = .ok (.iload 5, 2) := by decide +kernel
theorem dX8_join_80 : decode cX8_join 80 = .ok (.invokevirtual 122, 3) := by decide +kernel
theorem dX8_join_83 : decode cX8_join 83 = .ok (.ireturn, 1) := by decide +kernel
theorem dX8_pair_0 : decode cX8_pair 0 = .ok (.aload_n 0, 1) := by decide +kernel
theorem dX8_pair_1 : decode cX8_pair 1 = .ok (.iload_n 2, 1) := by decide +kernel
theorem dX8_pair_2 : decode cX8_pair 2 = .ok (.invokevirtual 126, 3) := by decide +kernel
theorem dX8_pair_5 : decode cX8_pair 5 = .ok (.ifCond .eq 11, 3) := by decide +kernel
theorem dX8_pair_8 : decode cX8_pair 8 = .ok (.aload_n 0, 1) := by decide +kernel
theorem dX8_pair_9 : decode cX8_pair 9 = .ok (.iload_n 3, 1) := by decide +kernel
theorem dX8_pair_10 : decode cX8_pair 10 = .ok (.invokevirtual 126, 3) := by decide +kernel
theorem dX8_pair_13 : decode cX8_pair 13 = .ok (.ifCond .ne 5, 3) := by decide +kernel
theorem dX8_pair_16 : decode cX8_pair 16 = .ok (.iconst (-1), 1) := by decide +kernel
theorem dX8_pair_17 : decode cX8_pair 17 = .ok (.ireturn, 1) := by decide +kernel
theorem dX8_pair_18 : decode cX8_pair 18 = .ok (.aload_n 0, 1) := by decide +kernel
theorem dX8_pair_19 : decode cX8_pair 19 = .ok (.getfield 40, 3) := by decide +kernel
theorem dX8_pair_22 : decode cX8_pair 22 = .ok (.iload_n 2, 1) := by decide +kernel
theorem dX8_pair_23 : decode cX8_pair 23 = .ok (.iaload, 1) := by decide +kernel
theorem dX8_pair_24 : decode cX8_pair 24 = .ok (.aload_n 0, 1) := by decide +kernel
theorem dX8_pair_25 : decode cX8_pair 25 = .ok (.getfield 40, 3) := by decide +kernel
theorem dX8_pair_28 : decode cX8_pair 28 = .ok (.iload_n 3, 1) := by decide +kernel
theorem dX8_pair_29 : decode cX8_pair 29 = .ok (.iaload, 1) := by decide +kernel
theorem dX8_pair_30 : decode cX8_pair 30 = .ok (.if_icmp .eq 8, 3) := by decide +kernel
theorem dX8_pair_33 : decode cX8_pair 33 = .ok (.bipush (-2), 2) := by decide +kernel
theorem dX8_pair_35 : decode cX8_pair 35 = .ok (.goto 20, 3) := by decide +kernel
theorem dX8_pair_38 : decode cX8_pair 38 = .ok (.aload_n 0, 1) := by decide +kernel
theorem dX8_pair_39 : decode cX8_pair 39 = .ok (.iload_n 1, 1) := by decide +kernel
theorem dX8_pair_40 : decode cX8_pair 40 = .ok (.iload_n 2, 1) := by decide +kernel
theorem dX8_pair_41 : decode cX8_pair 41 = .ok (.iload_n 3, 1) := by decide +kernel
theorem dX8_pair_42 : decode cX8_pair 42 = .ok (.iconst 0, 1) := by decide +kernel
theorem dX8_pair_43 : decode cX8_pair 43 = .ok (.iconst 0, 1) := by decide +kernel
theorem dX8_pair_44 : decode cX8_pair 44 = .ok (.iconst 0, 1) := by decide +kernel
theorem dX8_pair_45 : decode cX8_pair 45 = .ok (.iconst 0, 1) := by decide +kernel
theorem dX8_pair_46 : decode cX8_pair 46 = .ok (.aload_n 0, 1) := by decide +kernel
theorem dX8_pair_47 : decode cX8_pair 47 = .ok (.getfield 40, 3) := by decide +kernel
theorem dX8_pair_50 : decode cX8_pair 50 = .ok (.iload_n 2, 1) := by decide +kernel
theorem dX8_pair_51 : decode cX8_pair 51 = .ok (.iaload, 1) := by decide +kernel
theorem dX8_pair_52 : decode cX8_pair 52 = .ok (.invokevirtual 122, 3) := by decide +kernel
theorem dX8_pair_55 : decode cX8_pair 55 = .ok (.ireturn, 1) := by decide +kernel
theorem dX8_unite_0 : decode cX8_unite 0 = .ok (.aload_n 0, 1) := by decide +kernel
theorem dX8_unite_1 : decode cX8_unite 1 = .ok (.iconst 0, 1) := by decide +kernel
theorem dX8_unite_2 : decode cX8_unite 2 = .ok (.putfield 78, 3) := by decide +kernel
theorem dX8_unite_5 : decode cX8_unite 5 = .ok (.aload_n 0, 1) := by decide +kernel
theorem dX8_unite_6 : decode cX8_unite 6 = .ok (.iconst 4, 1) := by decide +kernel
theorem dX8_unite_7 : decode cX8_unite 7 = .ok (.iload_n 1, 1) := by decide +kernel
theorem dX8_unite_8 : decode cX8_unite 8 = .ok (.iload_n 2, 1) := by decide +kernel
theorem dX8_unite_9 : decode cX8_unite 9 = .ok (.invokevirtual 134, 3) := by decide +kernel
theorem dX8_unite_12 : decode cX8_unite 12 = .ok (.ireturn, 1) := by decide +kernel
theorem dX8_minus_0 : decode cX8_minus 0 = .ok (.aload_n 0, 1) := by decide +kernel
theorem dX8_minus_1 : decode cX8_minus 1 = .ok (.iconst 0, 1) := by decide +kernel
theorem dX8_minus_2 : decode cX8_minus 2 = .ok (.putfield 78, 3) := by decide +kernel
theorem dX8_minus_5 : decode cX8_minus 5 = .ok (.aload_n 0, 1) := by decide +kernel
theorem dX8_minus_6 : decode cX8_minus 6 = .ok (.iconst 5, 1) := by decide +kernel
theorem dX8_minus_7 : decode cX8_minus 7 = .ok (.iload_n 1, 1) := by decide +kernel
theorem dX8_minus_8 : decode cX8_minus 8 = .ok (.iload_n 2, 1) := by decide +kernel
theorem dX8_minus_9 : decode cX8_minus 9 = .ok (.invokevirtual 134, 3) := by decide +kernel
theorem dX8_minus_12 : decode cX8_minus 12 = .ok (.ireturn, 1) := by decide +kernel
theorem dX8_fold_0 : decode cX8_fold 0 = .ok (.aload_n 0, 1) := by decide +kernel
theorem dX8_fold_1 : decode cX8_fold 1 = .ok (.iconst 0, 1) := by decide +kernel
theorem dX8_fold_2 : decode cX8_fold 2 = .ok (.putfield 78, 3) := by decide +kernel
theorem dX8_fold_5 : decode cX8_fold 5 = .ok (.aload_n 0, 1) := by decide +kernel
theorem dX8_fold_6 : decode cX8_fold 6 = .ok (.iload_n 1, 1) := by decide +kernel
theorem dX8_fold_7 : decode cX8_fold 7 = .ok (.invokevirtual 126, 3) := by decide +kernel
theorem dX8_fold_10 : decode cX8_fold 10 = .ok (.ifCond .eq 21, 3) := by decide +kernel
theorem dX8_fold_13 : decode cX8_fold 13 = .ok (.aload_n 0, 1) := by decide +kernel
theorem dX8_fold_14 : decode cX8_fold 14 = .ok (.iload_n 1, 1) := by decide +kernel
theorem dX8_fold_15 : decode cX8_fold 15 = .ok (.iload_n 2, 1) := by decide +kernel
theorem dX8_fold_16 : decode cX8_fold 16 = .ok (.invokevirtual 129, 3) := by decide +kernel
theorem dX8_fold_19 : decode cX8_fold 19 = .ok (.ifCond .eq 12, 3) := by decide +kernel
theorem dX8_fold_22 : decode cX8_fold 22 = .ok (.aload_n 0, 1) := by decide +kernel
theorem dX8_fold_23 : decode cX8_fold 23 = .ok (.iload_n 1, 1) := by decide +kernel
theorem dX8_fold_24 : decode cX8_fold 24 = .ok (.iload_n 3, 1) := by decide +kernel
theorem dX8_fold_25 : decode cX8_fold 25 = .ok (.invokevirtual 129, 3) := by decide +kernel
theorem dX8_fold_28 : decode cX8_fold 28 = .ok (.ifCond .ne 5, 3) := by decide +kernel
theorem dX8_fold_31 : decode cX8_fold 31 = .ok (.iconst (-1), 1) := by decide +kernel
theorem dX8_fold_32 : decode cX8_fold 32 = .ok (.ireturn, 1) := by decide +kernel
theorem dX8_fold_33 : decode cX8_fold 33 = .ok (.iload 4, 2) := by decide +kernel
theorem dX8_fold_35 : decode cX8_fold 35 = .ok (.ifCond .lt 9, 3) := by decide +kernel
theorem dX8_fold_38 : decode cX8_fold 38 = .ok (.iload 4, 2) := by decide +kernel
theorem dX8_fold_40 : decode cX8_fold 40 = .ok (.iconst 3, 1) := by decide +kernel
theorem dX8_fold_41 : decode cX8_fold 41 = .ok (.if_icmp .le 8, 3) := by decide +kernel
theorem dX8_fold_44 : decode cX8_fold 44 = .ok (.bipush (-2), 2) := by decide +kernel
theorem dX8_fold_46 : decode cX8_fold 46 = .ok (.goto 17, 3) := by decide +kernel
theorem dX8_fold_49 : decode cX8_fold 49 = .ok (.aload_n 0, 1) := by decide +kernel
theorem dX8_fold_50 : decode cX8_fold 50 = .ok (.bipush 6, 2) := by decide +kernel
theorem dX8_fold_52 : decode cX8_fold 52 = .ok (.iload_n 1, 1) := by decide +kernel
theorem dX8_fold_53 : decode cX8_fold 53 = .ok (.iconst 0, 1) := by decide +kernel
theorem dX8_fold_54 : decode cX8_fold 54 = .ok (.iload_n 2, 1) := by decide +kernel
theorem dX8_fold_55 : decode cX8_fold 55 = .ok (.iload_n 3, 1) := by decide +kernel
theorem dX8_fold_56 : decode cX8_fold 56 = .ok (.iload 4, 2) := by decide +kernel
theorem dX8_fold_58 : decode cX8_fold 58 = .ok (.iconst 0, 1) := by decide +kernel
theorem dX8_fold_59 : decode cX8_fold 59 = .ok (.iconst 2, 1) := by decide +kernel
theorem dX8_fold_60 : decode cX8_fold 60 = .ok (.invokevirtual 122, 3) := by decide +kernel
theorem dX8_fold_63 : decode cX8_fold 63 = .ok (.ireturn, 1) := by decide +kernel
theorem dX8_columns_0 : decode cX8_columns 0 = .ok (.aload_n 0, 1) := by decide +kernel
theorem dX8_columns_1 : decode cX8_columns 1 = .ok (.iconst 0, 1) := by decide +kernel
theorem dX8_columns_2 : decode cX8_columns 2 = .ok (.putfield 78, 3) := by decide +kernel
theorem dX8_columns_5 : decode cX8_columns 5 = .ok (.aload_n 0, 1) := by decide +kernel
theorem dX8_columns_6 : decode cX8_columns 6 = .ok (.iload_n 1, 1) := by decide +kernel
theorem dX8_columns_7 : decode cX8_columns 7 = .ok (.invokevirtual 126, 3) := by decide +kernel
theorem dX8_columns_10 : decode cX8_columns 10 = .ok (.ifCond .eq 12, 3) := by decide +kernel
theorem dX8_columns_13 : decode cX8_columns 13 = .ok (.aload_n 0, 1) := by decide +kernel
theorem dX8_columns_14 : decode cX8_columns 14 = .ok (.getfield 40, 3) := by decide +kernel
theorem dX8_columns_17 : decode cX8_columns 17 = .ok (.iload_n 1, 1) := by decide +kernel
theorem dX8_columns_18 : decode cX8_columns 18 = .ok (.iaload, 1) := by decide +kernel
theorem dX8_columns_19 : decode cX8_columns 19 = .ok (.goto 4, 3) := by decide +kernel
theorem dX8_columns_22 : decode cX8_columns 22 = .ok (.iconst (-1), 1) := by decide +kernel
theorem dX8_columns_23 : decode cX8_columns 23 = .ok (.ireturn, 1) := by decide +kernel
theorem dX8_cellAt_0 : decode cX8_cellAt 0 = .ok (.aload_n 0, 1) := by decide +kernel
theorem dX8_cellAt_1 : decode cX8_cellAt 1 = .ok (.getfield 43, 3) := by decide +kernel
theorem dX8_cellAt_4 : decode cX8_cellAt 4 = .ok (.bipush 80, 2) := by decide +kernel
theorem dX8_cellAt_6 : decode cX8_cellAt 6 = .ok (.iload_n 1, 1) := by decide +kernel
theorem dX8_cellAt_7 : decode cX8_cellAt 7 = .ok (.imul, 1) := by decide +kernel
theorem dX8_cellAt_8 : decode cX8_cellAt 8 = .ok (.iload_n 2, 1) := by decide +kernel
theorem dX8_cellAt_9 : decode cX8_cellAt 9 = .ok (.iadd, 1) := by decide +kernel
theorem dX8_cellAt_10 : decode cX8_cellAt 10 = .ok (.bipush 6, 2) := by decide +kernel
theorem dX8_cellAt_12 : decode cX8_cellAt 12 = .ok (.imul, 1) := by decide +kernel
theorem dX8_cellAt_13 : decode cX8_cellAt 13 = .ok (.iload_n 3, 1) := by decide +kernel
theorem dX8_cellAt_14 : decode cX8_cellAt 14 = .ok (.iadd, 1) := by decide +kernel
theorem dX8_cellAt_15 : decode cX8_cellAt 15 = .ok (.iaload, 1) := by decide +kernel
theorem dX8_cellAt_16 : decode cX8_cellAt 16 = .ok (.ireturn, 1) := by decide +kernel
theorem dX8_against_0 : decode cX8_against 0 = .ok (.iconst 0, 1) := by decide +kernel
theorem dX8_against_1 : decode cX8_against 1 = .ok (.istore_n 3, 1) := by decide +kernel
theorem dX8_against_2 : decode cX8_against 2 = .ok (.iload_n 3, 1) := by decide +kernel
theorem dX8_against_3 : decode cX8_against 3 = .ok (.aload_n 0, 1) := by decide +kernel
theorem dX8_against_4 : decode cX8_against 4 = .ok (.getfield 40, 3) := by decide +kernel
theorem dX8_against_7 : decode cX8_against 7 = .ok (.iload_n 1, 1) := by decide +kernel
theorem dX8_against_8 : decode cX8_against 8 = .ok (.iaload, 1) := by decide +kernel
theorem dX8_against_9 : decode cX8_against 9 = .ok (.if_icmp .ge 46, 3) := by decide +kernel
theorem dX8_against_12 : decode cX8_against 12 = .ok (.aload_n 0, 1) := by decide +kernel
theorem dX8_against_13 : decode cX8_against 13 = .ok (.iload_n 1, 1) := by decide +kernel
theorem dX8_against_14 : decode cX8_against 14 = .ok (.iload_n 2, 1) := by decide +kernel
theorem dX8_against_15 : decode cX8_against 15 = .ok (.iload_n 3, 1) := by decide +kernel
theorem dX8_against_16 : decode cX8_against 16 = .ok (.invokevirtual 138, 3) := by decide +kernel
theorem dX8_against_19 : decode cX8_against 19 = .ok (.istore 4, 2) := by decide +kernel
theorem dX8_against_21 : decode cX8_against 21 = .ok (.aload_n 0, 1) := by decide +kernel
theorem dX8_against_22 : decode cX8_against 22 = .ok (.getfield 69, 3) := by decide +kernel
theorem dX8_against_25 : decode cX8_against 25 = .ok (.iload_n 3, 1) := by decide +kernel
theorem dX8_against_26 : decode cX8_against 26 = .ok (.iaload, 1) := by decide +kernel
theorem dX8_against_27 : decode cX8_against 27 = .ok (.iload 4, 2) := by decide +kernel
theorem dX8_against_29 : decode cX8_against 29 = .ok (.if_icmp .eq 20, 3) := by decide +kernel
theorem dX8_against_32 : decode cX8_against 32 = .ok (.aload_n 0, 1) := by decide +kernel
theorem dX8_against_33 : decode cX8_against 33 = .ok (.getfield 69, 3) := by decide +kernel
theorem dX8_against_36 : decode cX8_against 36 = .ok (.iload_n 3, 1) := by decide +kernel
theorem dX8_against_37 : decode cX8_against 37 = .ok (.iaload, 1) := by decide +kernel
theorem dX8_against_38 : decode cX8_against 38 = .ok (.iload 4, 2) := by decide +kernel
theorem dX8_against_40 : decode cX8_against 40 = .ok (.if_icmp .ge 7, 3) := by decide +kernel
theorem dX8_against_43 : decode cX8_against 43 = .ok (.iconst (-1), 1) := by decide +kernel
theorem dX8_against_44 : decode cX8_against 44 = .ok (.goto 4, 3) := by decide +kernel
theorem dX8_against_47 : decode cX8_against 47 = .ok (.iconst 1, 1) := by decide +kernel
theorem dX8_against_48 : decode cX8_against 48 = .ok (.ireturn, 1) := by decide +kernel
theorem dX8_against_49 : decode cX8_against 49 = .ok (.iinc 3 1, 3) := by decide +kernel
theorem dX8_against_52 : decode cX8_against 52 = .ok (.goto (-50), 3) := by decide +kernel
theorem dX8_against_55 : decode cX8_against 55 = .ok (.iconst 0, 1) := by decide +kernel
theorem dX8_against_56 : decode cX8_against 56 = .ok (.ireturn, 1) := by decide +kernel
theorem dX8_find_0 : decode cX8_find 0 = .ok (.iconst 0, 1) := by decide +kernel
theorem dX8_find_1 : decode cX8_find 1 = .ok (.istore_n 2, 1) := by decide +kernel
theorem dX8_find_2 : decode cX8_find 2 = .ok (.iload_n 2, 1) := by decide +kernel
theorem dX8_find_3 : decode cX8_find 3 = .ok (.aload_n 0, 1) := by decide +kernel
theorem dX8_find_4 : decode cX8_find 4 = .ok (.getfield 46, 3) := by decide +kernel
theorem dX8_find_7 : decode cX8_find 7 = .ok (.iload_n 1, 1) := by decide +kernel
theorem dX8_find_8 : decode cX8_find 8 = .ok (.iaload, 1) := by decide +kernel
theorem dX8_find_9 : decode cX8_find 9 = .ok (.if_icmp .ge 20, 3) := by decide +kernel
theorem dX8_find_12 : decode cX8_find 12 = .ok (.aload_n 0, 1) := by decide +kernel
theorem dX8_find_13 : decode cX8_find 13 = .ok (.iload_n 1, 1) := by decide +kernel
theorem dX8_find_14 : decode cX8_find 14 = .ok (.iload_n 2, 1) := by decide +kernel
theorem dX8_find_15 : decode cX8_find 15 = .ok (.invokevirtual 141, 3) := by decide +kernel
theorem dX8_find_18 : decode cX8_find 18 = .ok (.ifCond .ne 5, 3) := by decide +kernel
theorem dX8_find_21 : decode cX8_find 21 = .ok (.iload_n 2, 1) := by decide +kernel
theorem dX8_find_22 : decode cX8_find 22 = .ok (.ireturn, 1) := by decide +kernel
theorem dX8_find_23 : decode cX8_find 23 = .ok (.iinc 2 1, 3) := by decide +kernel
theorem dX8_find_26 : decode cX8_find 26 = .ok (.goto (-24), 3) := by decide +kernel
theorem dX8_find_29 : decode cX8_find 29 = .ok (.iconst (-1), 1) := by decide +kernel
theorem dX8_find_30 : decode cX8_find 30 = .ok (.ireturn, 1) := by decide +kernel
theorem dX8_comes_0 : decode cX8_comes 0 = .ok (.aload_n 0, 1) := by decide +kernel
theorem dX8_comes_1 : decode cX8_comes 1 = .ok (.getfield 91, 3) := by decide +kernel
theorem dX8_comes_4 : decode cX8_comes 4 = .ok (.ifCond .ne 12, 3) := by decide +kernel
theorem dX8_comes_7 : decode cX8_comes 7 = .ok (.aload_n 0, 1) := by decide +kernel
theorem dX8_comes_8 : decode cX8_comes 8 = .ok (.getfield 53, 3) := by decide +kernel
theorem dX8_comes_11 : decode cX8_comes 11 = .ok (.iload_n 2, 1) := by decide +kernel
theorem dX8_comes_12 : decode cX8_comes 12 = .ok (.iaload, 1) := by decide +kernel
theorem dX8_comes_13 : decode cX8_comes 13 = .ok (.ifCond .ne 4, 3) := by decide +kernel
theorem dX8_comes_16 : decode cX8_comes 16 = .ok (.return_, 1) := by decide +kernel
theorem dX8_comes_17 : decode cX8_comes 17 = .ok (.aload_n 0, 1) := by decide +kernel
theorem dX8_comes_18 : decode cX8_comes 18 = .ok (.iload_n 1, 1) := by decide +kernel
theorem dX8_comes_19 : decode cX8_comes 19 = .ok (.invokevirtual 145, 3) := by decide +kernel
theorem dX8_comes_22 : decode cX8_comes 22 = .ok (.istore_n 3, 1) := by decide +kernel
theorem dX8_comes_23 : decode cX8_comes 23 = .ok (.iload_n 3, 1) := by decide +kernel
theorem dX8_comes_24 : decode cX8_comes 24 = .ok (.iconst (-1), 1) := by decide +kernel
theorem dX8_comes_25 : decode cX8_comes 25 = .ok (.if_icmp .eq 21, 3) := by decide +kernel
theorem dX8_comes_28 : decode cX8_comes 28 = .ok (.aload_n 0, 1) := by decide +kernel
theorem dX8_comes_29 : decode cX8_comes 29 = .ok (.bipush 80, 2) := by decide +kernel
theorem dX8_comes_31 : decode cX8_comes 31 = .ok (.iload_n 1, 1) := by decide +kernel
theorem dX8_comes_32 : decode cX8_comes 32 = .ok (.imul, 1) := by decide +kernel
theorem dX8_comes_33 : decode cX8_comes 33 = .ok (.iload_n 3, 1) := by decide +kernel
theorem dX8_comes_34 : decode cX8_comes 34 = .ok (.iadd, 1) := by decide +kernel
theorem dX8_comes_35 : decode cX8_comes 35 = .ok (.bipush 80, 2) := by decide +kernel
theorem dX8_comes_37 : decode cX8_comes 37 = .ok (.iload_n 1, 1) := by decide +kernel
theorem dX8_comes_38 : decode cX8_comes 38 = .ok (.imul, 1) := by decide +kernel
theorem dX8_comes_39 : decode cX8_comes 39 = .ok (.iload_n 3, 1) := by decide +kernel
theorem dX8_comes_40 : decode cX8_comes 40 = .ok (.iadd, 1) := by decide +kernel
theorem dX8_comes_41 : decode cX8_comes 41 = .ok (.iload_n 2, 1) := by decide +kernel
theorem dX8_comes_42 : decode cX8_comes 42 = .ok (.invokevirtual 149, 3) := by decide +kernel
theorem dX8_comes_45 : decode cX8_comes 45 = .ok (.return_, 1) := by decide +kernel
theorem dX8_comes_46 : decode cX8_comes 46 = .ok (.aload_n 0, 1) := by decide +kernel
theorem dX8_comes_47 : decode cX8_comes 47 = .ok (.getfield 46, 3) := by decide +kernel
theorem dX8_comes_50 : decode cX8_comes 50 = .ok (.iload_n 1, 1) := by decide +kernel
theorem dX8_comes_51 : decode cX8_comes 51 = .ok (.iaload, 1) := by decide +kernel
theorem dX8_comes_52 : decode cX8_comes 52 = .ok (.bipush 80, 2) := by decide +kernel
theorem dX8_comes_54 : decode cX8_comes 54 = .ok (.if_icmp .ne 9, 3) := by decide +kernel
theorem dX8_comes_57 : decode cX8_comes 57 = .ok (.aload_n 0, 1) := by decide +kernel
theorem dX8_comes_58 : decode cX8_comes 58 = .ok (.iconst 1, 1) := by decide +kernel
theorem dX8_comes_59 : decode cX8_comes 59 = .ok (.putfield 91, 3) := by decide +kernel
theorem dX8_comes_62 : decode cX8_comes 62 = .ok (.return_, 1) := by decide +kernel
theorem dX8_comes_63 : decode cX8_comes 63 = .ok (.aload_n 0, 1) := by decide +kernel
theorem dX8_comes_64 : decode cX8_comes 64 = .ok (.getfield 46, 3) := by decide +kernel
theorem dX8_comes_67 : decode cX8_comes 67 = .ok (.iload_n 1, 1) := by decide +kernel
theorem dX8_comes_68 : decode cX8_comes 68 = .ok (.iaload, 1) := by decide +kernel
theorem dX8_comes_69 : decode cX8_comes 69 = .ok (.istore 4, 2) := by decide +kernel
theorem dX8_comes_71 : decode cX8_comes 71 = .ok (.iload 4, 2) := by decide +kernel
theorem dX8_comes_73 : decode cX8_comes 73 = .ok (.ifCond .le 95, 3) := by decide +kernel
theorem dX8_comes_76 : decode cX8_comes 76 = .ok (.aload_n 0, 1) := by decide +kernel
theorem dX8_comes_77 : decode cX8_comes 77 = .ok (.iload_n 1, 1) := by decide +kernel
theorem dX8_comes_78 : decode cX8_comes 78 = .ok (.iload 4, 2) := by decide +kernel
theorem dX8_comes_80 : decode cX8_comes 80 = .ok (.iconst 1, 1) := by decide +kernel
theorem dX8_comes_81 : decode cX8_comes 81 = .ok (.isub, 1) := by decide +kernel
theorem dX8_comes_82 : decode cX8_comes 82 = .ok (.invokevirtual 141, 3) := by decide +kernel
theorem dX8_comes_85 : decode cX8_comes 85 = .ok (.ifCond .ge 83, 3) := by decide +kernel
theorem dX8_comes_88 : decode cX8_comes 88 = .ok (.iconst 0, 1) := by decide +kernel
theorem dX8_comes_89 : decode cX8_comes 89 = .ok (.istore 5, 2) := by decide +kernel
theorem dX8_comes_91 : decode cX8_comes 91 = .ok (.iload 5, 2) := by decide +kernel
theorem dX8_comes_93 : decode cX8_comes 93 = .ok (.bipush 6, 2) := by decide +kernel
theorem dX8_comes_95 : decode cX8_comes 95 = .ok (.if_icmp .ge 47, 3) := by decide +kernel
theorem dX8_comes_98 : decode cX8_comes 98 = .ok (.aload_n 0, 1) := by decide +kernel
theorem dX8_comes_99 : decode cX8_comes 99 = .ok (.getfield 43, 3) := by decide +kernel
theorem dX8_comes_102 : decode cX8_comes 102 = .ok (.bipush 80, 2) := by decide +kernel
theorem dX8_comes_104 : decode cX8_comes 104 = .ok (.iload_n 1, 1) := by decide +kernel
theorem dX8_comes_105 : decode cX8_comes 105 = .ok (.imul, 1) := by decide +kernel
theorem dX8_comes_106 : decode cX8_comes 106 = .ok (.iload 4, 2) := by decide +kernel
theorem dX8_comes_108 : decode cX8_comes 108 = .ok (.iadd, 1) := by decide +kernel
theorem dX8_comes_109 : decode cX8_comes 109 = .ok (.bipush 6, 2) := by decide +kernel
theorem dX8_comes_111 : decode cX8_comes 111 = .ok (.imul, 1) := by decide +kernel
theorem dX8_comes_112 : decode cX8_comes 112 = .ok (.iload 5, 2) := by decide +kernel
theorem dX8_comes_114 : decode cX8_comes 114 = .ok (.iadd, 1) := by decide +kernel
theorem dX8_comes_115 : decode cX8_comes 115 = .ok (.aload_n 0, 1) := by decide +kernel
theorem dX8_comes_116 : decode cX8_comes 116 = .ok (.getfield 43, 3) := by decide +kernel
theorem dX8_comes_119 : decode cX8_comes 119 = .ok (.bipush 80, 2) := by decide +kernel
theorem dX8_comes_121 : decode cX8_comes 121 = .ok (.iload_n 1, 1) := by decide +kernel
theorem dX8_comes_122 : decode cX8_comes 122 = .ok (.imul, 1) := by decide +kernel
theorem dX8_comes_123 : decode cX8_comes 123 = .ok (.iload 4, 2) := by decide +kernel
theorem dX8_comes_125 : decode cX8_comes 125 = .ok (.iadd, 1) := by decide +kernel
theorem dX8_comes_126 : decode cX8_comes 126 = .ok (.iconst 1, 1) := by decide +kernel
theorem dX8_comes_127 : decode cX8_comes 127 = .ok (.isub, 1) := by decide +kernel
theorem dX8_comes_128 : decode cX8_comes 128 = .ok (.bipush 6, 2) := by decide +kernel
theorem dX8_comes_130 : decode cX8_comes 130 = .ok (.imul, 1) := by decide +kernel
theorem dX8_comes_131 : decode cX8_comes 131 = .ok (.iload 5, 2) := by decide +kernel
theorem dX8_comes_133 : decode cX8_comes 133 = .ok (.iadd, 1) := by decide +kernel
theorem dX8_comes_134 : decode cX8_comes 134 = .ok (.iaload, 1) := by decide +kernel
theorem dX8_comes_135 : decode cX8_comes 135 = .ok (.iastore, 1) := by decide +kernel
theorem dX8_comes_136 : decode cX8_comes 136 = .ok (.iinc 5 1, 3) := by decide +kernel
theorem dX8_comes_139 : decode cX8_comes 139 = .ok (.goto (-48), 3) := by decide +kernel
theorem dX8_comes_142 : decode cX8_comes 142 = .ok (.aload_n 0, 1) := by decide +kernel
theorem dX8_comes_143 : decode cX8_comes 143 = .ok (.bipush 80, 2) := by decide +kernel
theorem dX8_comes_145 : decode cX8_comes 145 = .ok (.iload_n 1, 1) := by decide +kernel
theorem dX8_comes_146 : decode cX8_comes 146 = .ok (.imul, 1) := by decide +kernel
theorem dX8_comes_147 : decode cX8_comes 147 = .ok (.iload 4, 2) := by decide +kernel
theorem dX8_comes_149 : decode cX8_comes 149 = .ok (.iadd, 1) := by decide +kernel
theorem dX8_comes_150 : decode cX8_comes 150 = .ok (.bipush 80, 2) := by decide +kernel
theorem dX8_comes_152 : decode cX8_comes 152 = .ok (.iload_n 1, 1) := by decide +kernel
theorem dX8_comes_153 : decode cX8_comes 153 = .ok (.imul, 1) := by decide +kernel
theorem dX8_comes_154 : decode cX8_comes 154 = .ok (.iload 4, 2) := by decide +kernel
theorem dX8_comes_156 : decode cX8_comes 156 = .ok (.iadd, 1) := by decide +kernel
theorem dX8_comes_157 : decode cX8_comes 157 = .ok (.iconst 1, 1) := by decide +kernel
theorem dX8_comes_158 : decode cX8_comes 158 = .ok (.isub, 1) := by decide +kernel
theorem dX8_comes_159 : decode cX8_comes 159 = .ok (.invokevirtual 153, 3) := by decide +kernel
theorem dX8_comes_162 : decode cX8_comes 162 = .ok (.iinc 4 (-1), 3) := by decide +kernel
theorem dX8_comes_165 : decode cX8_comes 165 = .ok (.goto (-94), 3) := by decide +kernel
theorem dX8_comes_168 : decode cX8_comes 168 = .ok (.iconst 0, 1) := by decide +kernel
theorem dX8_comes_169 : decode cX8_comes 169 = .ok (.istore 5, 2) := by decide +kernel
theorem dX8_comes_171 : decode cX8_comes 171 = .ok (.iload 5, 2) := by decide +kernel
theorem dX8_comes_173 : decode cX8_comes 173 = .ok (.bipush 6, 2) := by decide +kernel
theorem dX8_comes_175 : decode cX8_comes 175 = .ok (.if_icmp .ge 34, 3) := by decide +kernel
theorem dX8_comes_178 : decode cX8_comes 178 = .ok (.aload_n 0, 1) := by decide +kernel
theorem dX8_comes_179 : decode cX8_comes 179 = .ok (.getfield 43, 3) := by decide +kernel
theorem dX8_comes_182 : decode cX8_comes 182 = .ok (.bipush 80, 2) := by decide +kernel
theorem dX8_comes_184 : decode cX8_comes 184 = .ok (.iload_n 1, 1) := by decide +kernel
theorem dX8_comes_185 : decode cX8_comes 185 = .ok (.imul, 1) := by decide +kernel
theorem dX8_comes_186 : decode cX8_comes 186 = .ok (.iload 4, 2) := by decide +kernel
theorem dX8_comes_188 : decode cX8_comes 188 = .ok (.iadd, 1) := by decide +kernel
theorem dX8_comes_189 : decode cX8_comes 189 = .ok (.bipush 6, 2) := by decide +kernel
theorem dX8_comes_191 : decode cX8_comes 191 = .ok (.imul, 1) := by decide +kernel
theorem dX8_comes_192 : decode cX8_comes 192 = .ok (.iload 5, 2) := by decide +kernel
theorem dX8_comes_194 : decode cX8_comes 194 = .ok (.iadd, 1) := by decide +kernel
theorem dX8_comes_195 : decode cX8_comes 195 = .ok (.aload_n 0, 1) := by decide +kernel
theorem dX8_comes_196 : decode cX8_comes 196 = .ok (.getfield 69, 3) := by decide +kernel
theorem dX8_comes_199 : decode cX8_comes 199 = .ok (.iload 5, 2) := by decide +kernel
theorem dX8_comes_201 : decode cX8_comes 201 = .ok (.iaload, 1) := by decide +kernel
theorem dX8_comes_202 : decode cX8_comes 202 = .ok (.iastore, 1) := by decide +kernel
theorem dX8_comes_203 : decode cX8_comes 203 = .ok (.iinc 5 1, 3) := by decide +kernel
theorem dX8_comes_206 : decode cX8_comes 206 = .ok (.goto (-35), 3) := by decide +kernel
theorem dX8_comes_209 : decode cX8_comes 209 = .ok (.aload_n 0, 1) := by decide +kernel
theorem dX8_comes_210 : decode cX8_comes 210 = .ok (.bipush 80, 2) := by decide +kernel
theorem dX8_comes_212 : decode cX8_comes 212 = .ok (.iload_n 1, 1) := by decide +kernel
theorem dX8_comes_213 : decode cX8_comes 213 = .ok (.imul, 1) := by decide +kernel
theorem dX8_comes_214 : decode cX8_comes 214 = .ok (.iload 4, 2) := by decide +kernel
theorem dX8_comes_216 : decode cX8_comes 216 = .ok (.iadd, 1) := by decide +kernel
theorem dX8_comes_217 : decode cX8_comes 217 = .ok (.iload_n 2, 1) := by decide +kernel
theorem dX8_comes_218 : decode cX8_comes 218 = .ok (.invokevirtual 153, 3) := by decide +kernel
theorem dX8_comes_221 : decode cX8_comes 221 = .ok (.aload_n 0, 1) := by decide +kernel
theorem dX8_comes_222 : decode cX8_comes 222 = .ok (.getfield 46, 3) := by decide +kernel
theorem dX8_comes_225 : decode cX8_comes 225 = .ok (.iload_n 1, 1) := by decide +kernel
theorem dX8_comes_226 : decode cX8_comes 226 = .ok (.dup2, 1) := by decide +kernel
theorem dX8_comes_227 : decode cX8_comes 227 = .ok (.iaload, 1) := by decide +kernel
theorem dX8_comes_228 : decode cX8_comes 228 = .ok (.iconst 1, 1) := by decide +kernel
theorem dX8_comes_229 : decode cX8_comes 229 = .ok (.iadd, 1) := by decide +kernel
theorem dX8_comes_230 : decode cX8_comes 230 = .ok (.iastore, 1) := by decide +kernel
theorem dX8_comes_231 : decode cX8_comes 231 = .ok (.return_, 1) := by decide +kernel
theorem dX8_take_0 : decode cX8_take 0 = .ok (.iconst 0, 1) := by decide +kernel
theorem dX8_take_1 : decode cX8_take 1 = .ok (.istore 4, 2) := by decide +kernel
theorem dX8_take_3 : decode cX8_take 3 = .ok (.iload 4, 2) := by decide +kernel
theorem dX8_take_5 : decode cX8_take 5 = .ok (.iload_n 3, 1) := by decide +kernel
theorem dX8_take_6 : decode cX8_take 6 = .ok (.if_icmp .ge 24, 3) := by decide +kernel
theorem dX8_take_9 : decode cX8_take 9 = .ok (.aload_n 0, 1) := by decide +kernel
theorem dX8_take_10 : decode cX8_take 10 = .ok (.getfield 69, 3) := by decide +kernel
theorem dX8_take_13 : decode cX8_take 13 = .ok (.iload 4, 2) := by decide +kernel
theorem dX8_take_15 : decode cX8_take 15 = .ok (.aload_n 0, 1) := by decide +kernel
theorem dX8_take_16 : decode cX8_take 16 = .ok (.iload_n 1, 1) := by decide +kernel
theorem dX8_take_17 : decode cX8_take 17 = .ok (.iload_n 2, 1) := by decide +kernel
theorem dX8_take_18 : decode cX8_take 18 = .ok (.iload 4, 2) := by decide +kernel
theorem dX8_take_20 : decode cX8_take 20 = .ok (.invokevirtual 138, 3) := by decide +kernel
theorem dX8_take_23 : decode cX8_take 23 = .ok (.iastore, 1) := by decide +kernel
theorem dX8_take_24 : decode cX8_take 24 = .ok (.iinc 4 1, 3) := by decide +kernel
theorem dX8_take_27 : decode cX8_take 27 = .ok (.goto (-24), 3) := by decide +kernel
theorem dX8_take_30 : decode cX8_take 30 = .ok (.return_, 1) := by decide +kernel
theorem dX8_make_0 : decode cX8_make 0 = .ok (.aload_n 0, 1) := by decide +kernel
theorem dX8_make_1 : decode cX8_make 1 = .ok (.getfield 46, 3) := by decide +kernel
theorem dX8_make_4 : decode cX8_make 4 = .ok (.iload_n 1, 1) := by decide +kernel
theorem dX8_make_5 : decode cX8_make 5 = .ok (.iconst 0, 1) := by decide +kernel
theorem dX8_make_6 : decode cX8_make 6 = .ok (.iastore, 1) := by decide +kernel
theorem dX8_make_7 : decode cX8_make 7 = .ok (.aload_n 0, 1) := by decide +kernel
theorem dX8_make_8 : decode cX8_make 8 = .ok (.getfield 22, 3) := by decide +kernel
theorem dX8_make_11 : decode cX8_make 11 = .ok (.iload_n 1, 1) := by decide +kernel
theorem dX8_make_12 : decode cX8_make 12 = .ok (.iaload, 1) := by decide +kernel
theorem dX8_make_13 : decode cX8_make 13 = .ok (.istore_n 2, 1) := by decide +kernel
theorem dX8_make_14 : decode cX8_make 14 = .ok (.aload_n 0, 1) := by decide +kernel
theorem dX8_make_15 : decode cX8_make 15 = .ok (.getfield 25, 3) := by decide +kernel
theorem dX8_make_18 : decode cX8_make 18 = .ok (.iload_n 1, 1) := by decide +kernel
theorem dX8_make_19 : decode cX8_make 19 = .ok (.iaload, 1) := by decide +kernel
theorem dX8_make_20 : decode cX8_make 20 = .ok (.istore_n 3, 1) := by decide +kernel
theorem dX8_make_21 : decode cX8_make 21 = .ok (.aload_n 0, 1) := by decide +kernel
theorem dX8_make_22 : decode cX8_make 22 = .ok (.getfield 19, 3) := by decide +kernel
theorem dX8_make_25 : decode cX8_make 25 = .ok (.iload_n 1, 1) := by decide +kernel
theorem dX8_make_26 : decode cX8_make 26 = .ok (.iaload, 1) := by decide +kernel
theorem dX8_make_27 : decode cX8_make 27 = .ok (.tableswitch 99 0 5 #[37, 46, 55, 64, 74, 89], 37) := by decide +kernel
theorem dX8_make_64 : decode cX8_make 64 = .ok (.aload_n 0, 1) := by decide +kernel
theorem dX8_make_65 : decode cX8_make 65 = .ok (.iload_n 1, 1) := by decide +kernel
theorem dX8_make_66 : decode cX8_make 66 = .ok (.iload_n 2, 1) := by decide +kernel
theorem dX8_make_67 : decode cX8_make 67 = .ok (.invokevirtual 157, 3) := by decide +kernel
theorem dX8_make_70 : decode cX8_make 70 = .ok (.goto 62, 3) := by decide +kernel
theorem dX8_make_73 : decode cX8_make 73 = .ok (.aload_n 0, 1) := by decide +kernel
theorem dX8_make_74 : decode cX8_make 74 = .ok (.iload_n 1, 1) := by decide +kernel
theorem dX8_make_75 : decode cX8_make 75 = .ok (.iload_n 2, 1) := by decide +kernel
theorem dX8_make_76 : decode cX8_make 76 = .ok (.invokevirtual 160, 3) := by decide +kernel
theorem dX8_make_79 : decode cX8_make 79 = .ok (.goto 53, 3) := by decide +kernel
theorem dX8_make_82 : decode cX8_make 82 = .ok (.aload_n 0, 1) := by decide +kernel
theorem dX8_make_83 : decode cX8_make 83 = .ok (.iload_n 1, 1) := by decide +kernel
theorem dX8_make_84 : decode cX8_make 84 = .ok (.iload_n 2, 1) := by decide +kernel
theorem dX8_make_85 : decode cX8_make 85 = .ok (.invokevirtual 163, 3) := by decide +kernel
theorem dX8_make_88 : decode cX8_make 88 = .ok (.goto 44, 3) := by decide +kernel
theorem dX8_make_91 : decode cX8_make 91 = .ok (.aload_n 0, 1) := by decide +kernel
theorem dX8_make_92 : decode cX8_make 92 = .ok (.iload_n 1, 1) := by decide +kernel
theorem dX8_make_93 : decode cX8_make 93 = .ok (.iload_n 2, 1) := by decide +kernel
theorem dX8_make_94 : decode cX8_make 94 = .ok (.iload_n 3, 1) := by decide +kernel
theorem dX8_make_95 : decode cX8_make 95 = .ok (.invokevirtual 166, 3) := by decide +kernel
theorem dX8_make_98 : decode cX8_make 98 = .ok (.goto 34, 3) := by decide +kernel
theorem dX8_make_101 : decode cX8_make 101 = .ok (.aload_n 0, 1) := by decide +kernel
theorem dX8_make_102 : decode cX8_make 102 = .ok (.iload_n 1, 1) := by decide +kernel
theorem dX8_make_103 : decode cX8_make 103 = .ok (.iload_n 2, 1) := by decide +kernel
theorem dX8_make_104 : decode cX8_make 104 = .ok (.invokevirtual 169, 3) := by decide +kernel
theorem dX8_make_107 : decode cX8_make 107 = .ok (.aload_n 0, 1) := by decide +kernel
theorem dX8_make_108 : decode cX8_make 108 = .ok (.iload_n 1, 1) := by decide +kernel
theorem dX8_make_109 : decode cX8_make 109 = .ok (.iload_n 3, 1) := by decide +kernel
theorem dX8_make_110 : decode cX8_make 110 = .ok (.invokevirtual 169, 3) := by decide +kernel
theorem dX8_make_113 : decode cX8_make 113 = .ok (.goto 19, 3) := by decide +kernel
theorem dX8_make_116 : decode cX8_make 116 = .ok (.aload_n 0, 1) := by decide +kernel
theorem dX8_make_117 : decode cX8_make 117 = .ok (.iload_n 1, 1) := by decide +kernel
theorem dX8_make_118 : decode cX8_make 118 = .ok (.iload_n 2, 1) := by decide +kernel
theorem dX8_make_119 : decode cX8_make 119 = .ok (.iload_n 3, 1) := by decide +kernel
theorem dX8_make_120 : decode cX8_make 120 = .ok (.invokevirtual 172, 3) := by decide +kernel
theorem dX8_make_123 : decode cX8_make 123 = .ok (.goto 9, 3) := by decide +kernel
theorem dX8_make_126 : decode cX8_make 126 = .ok (.aload_n 0, 1) := by decide +kernel
theorem dX8_make_127 : decode cX8_make 127 = .ok (.iload_n 1, 1) := by decide +kernel
theorem dX8_make_128 : decode cX8_make 128 = .ok (.iload_n 2, 1) := by decide +kernel
theorem dX8_make_129 : decode cX8_make 129 = .ok (.invokevirtual 175, 3) := by decide +kernel
theorem dX8_make_132 : decode cX8_make 132 = .ok (.return_, 1) := by decide +kernel
theorem dX8_makeScan_0 : decode cX8_makeScan 0 = .ok (.iconst 0, 1) := by decide +kernel
theorem dX8_makeScan_1 : decode cX8_makeScan 1 = .ok (.istore_n 3, 1) := by decide +kernel
theorem dX8_makeScan_2 : decode cX8_makeScan 2 = .ok (.iload_n 3, 1) := by decide +kernel
theorem dX8_makeScan_3 : decode cX8_makeScan 3 = .ok (.aload_n 0, 1) := by decide +kernel
theorem dX8_makeScan_4 : decode cX8_makeScan 4 = .ok (.getfield 112, 3) := by decide +kernel
theorem dX8_makeScan_7 : decode cX8_makeScan 7 = .ok (.if_icmp .ge 85, 3) := by decide +kernel
theorem dX8_makeScan_10 : decode cX8_makeScan 10 = .ok (.aload_n 0, 1) := by decide +kernel
theorem dX8_makeScan_11 : decode cX8_makeScan 11 = .ok (.getfield 91, 3) := by decide +kernel
theorem dX8_makeScan_14 : decode cX8_makeScan 14 = .ok (.ifCond .ne 78, 3) := by decide +kernel
theorem dX8_makeScan_17 : decode cX8_makeScan 17 = .ok (.aload_n 0, 1) := by decide +kernel
theorem dX8_makeScan_18 : decode cX8_makeScan 18 = .ok (.getfield 13, 3) := by decide +kernel
theorem dX8_makeScan_21 : decode cX8_makeScan 21 = .ok (.iload_n 3, 1) := by decide +kernel
theorem dX8_makeScan_22 : decode cX8_makeScan 22 = .ok (.iaload, 1) := by decide +kernel
theorem dX8_makeScan_23 : decode cX8_makeScan 23 = .ok (.iload_n 2, 1) := by decide +kernel
theorem dX8_makeScan_24 : decode cX8_makeScan 24 = .ok (.if_icmp .ne 62, 3) := by decide +kernel
theorem dX8_makeScan_27 : decode cX8_makeScan 27 = .ok (.iconst 0, 1) := by decide +kernel
theorem dX8_makeScan_28 : decode cX8_makeScan 28 = .ok (.istore 4, 2) := by decide +kernel
theorem dX8_makeScan_30 : decode cX8_makeScan 30 = .ok (.iload 4, 2) := by decide +kernel
theorem dX8_makeScan_32 : decode cX8_makeScan 32 = .ok (.iconst 4, 1) := by decide +kernel
theorem dX8_makeScan_33 : decode cX8_makeScan 33 = .ok (.if_icmp .ge 27, 3) := by decide +kernel
theorem dX8_makeScan_36 : decode cX8_makeScan 36 = .ok (.aload_n 0, 1) := by decide +kernel
theorem dX8_makeScan_37 : decode cX8_makeScan 37 = .ok (.getfield 69, 3) := by decide +kernel
theorem dX8_makeScan_40 : decode cX8_makeScan 40 = .ok (.iload 4, 2) := by decide +kernel
theorem dX8_makeScan_42 : decode cX8_makeScan 42 = .ok (.aload_n 0, 1) := by decide +kernel
theorem dX8_makeScan_43 : decode cX8_makeScan 43 = .ok (.getfield 16, 3) := by decide +kernel
theorem dX8_makeScan_46 : decode cX8_makeScan 46 = .ok (.iconst 4, 1) := by decide +kernel
theorem dX8_makeScan_47 : decode cX8_makeScan 47 = .ok (.iload_n 3, 1) := by decide +kernel
theorem dX8_makeScan_48 : decode cX8_makeScan 48 = .ok (.imul, 1) := by decide +kernel
theorem dX8_makeScan_49 : decode cX8_makeScan 49 = .ok (.iload 4, 2) := by decide +kernel
theorem dX8_makeScan_51 : decode cX8_makeScan 51 = .ok (.iadd, 1) := by decide +kernel
theorem dX8_makeScan_52 : decode cX8_makeScan 52 = .ok (.iaload, 1) := by decide +kernel
theorem dX8_makeScan_53 : decode cX8_makeScan 53 = .ok (.iastore, 1) := by decide +kernel
theorem dX8_makeScan_54 : decode cX8_makeScan 54 = .ok (.iinc 4 1, 3) := by decide +kernel
theorem dX8_makeScan_57 : decode cX8_makeScan 57 = .ok (.goto (-27), 3) := by decide +kernel
theorem dX8_makeScan_60 : decode cX8_makeScan 60 = .ok (.aload_n 0, 1) := by decide +kernel
theorem dX8_makeScan_61 : decode cX8_makeScan 61 = .ok (.sipush 1360, 3) := by decide +kernel
theorem dX8_makeScan_64 : decode cX8_makeScan 64 = .ok (.invokevirtual 103, 3) := by decide +kernel
theorem dX8_makeScan_67 : decode cX8_makeScan 67 = .ok (.aload_n 0, 1) := by decide +kernel
theorem dX8_makeScan_68 : decode cX8_makeScan 68 = .ok (.getfield 56, 3) := by decide +kernel
theorem dX8_makeScan_71 : decode cX8_makeScan 71 = .ok (.sipush 16320, 3) := by decide +kernel
theorem dX8_makeScan_74 : decode cX8_makeScan 74 = .ok (.lconst 1, 1) := by decide +kernel
theorem dX8_makeScan_75 : decode cX8_makeScan 75 = .ok (.iload_n 3, 1) := by decide +kernel
theorem dX8_makeScan_76 : decode cX8_makeScan 76 = .ok (.lshl, 1) := by decide +kernel
theorem dX8_makeScan_77 : decode cX8_makeScan 77 = .ok (.lastore, 1) := by decide +kernel
theorem dX8_makeScan_78 : decode cX8_makeScan 78 = .ok (.aload_n 0, 1) := by decide +kernel
theorem dX8_makeScan_79 : decode cX8_makeScan 79 = .ok (.iload_n 1, 1) := by decide +kernel
theorem dX8_makeScan_80 : decode cX8_makeScan 80 = .ok (.sipush 1360, 3) := by decide +kernel
theorem dX8_makeScan_83 : decode cX8_makeScan 83 = .ok (.invokevirtual 178, 3) := by decide +kernel
theorem dX8_makeScan_86 : decode cX8_makeScan 86 = .ok (.iinc 3 1, 3) := by decide +kernel
theorem dX8_makeScan_89 : decode cX8_makeScan 89 = .ok (.goto (-87), 3) := by decide +kernel
theorem dX8_makeScan_92 : decode cX8_makeScan 92 = .ok (.return_, 1) := by decide +kernel
theorem dX8_makePick_0 : decode cX8_makePick 0 = .ok (.iconst 0, 1) := by decide +kernel
theorem dX8_makePick_1 : decode cX8_makePick 1 = .ok (.istore_n 3, 1) := by decide +kernel
theorem dX8_makePick_2 : decode cX8_makePick 2 = .ok (.iload_n 3, 1) := by decide +kernel
theorem dX8_makePick_3 : decode cX8_makePick 3 = .ok (.aload_n 0, 1) := by decide +kernel
theorem dX8_makePick_4 : decode cX8_makePick 4 = .ok (.getfield 46, 3) := by decide +kernel
theorem dX8_makePick_7 : decode cX8_makePick 7 = .ok (.iload_n 2, 1) := by decide +kernel
theorem dX8_makePick_8 : decode cX8_makePick 8 = .ok (.iaload, 1) := by decide +kernel
theorem dX8_makePick_9 : decode cX8_makePick 9 = .ok (.if_icmp .ge 147, 3) := by decide +kernel
theorem dX8_makePick_12 : decode cX8_makePick 12 = .ok (.aload_n 0, 1) := by decide +kernel
theorem dX8_makePick_13 : decode cX8_makePick 13 = .ok (.iload_n 2, 1) := by decide +kernel
theorem dX8_makePick_14 : decode cX8_makePick 14 = .ok (.iload_n 3, 1) := by decide +kernel
theorem dX8_makePick_15 : decode cX8_makePick 15 = .ok (.aload_n 0, 1) := by decide +kernel
theorem dX8_makePick_16 : decode cX8_makePick 16 = .ok (.getfield 28, 3) := by decide +kernel
theorem dX8_makePick_19 : decode cX8_makePick 19 = .ok (.iload_n 1, 1) := by decide +kernel
theorem dX8_makePick_20 : decode cX8_makePick 20 = .ok (.iaload, 1) := by decide +kernel
theorem dX8_makePick_21 : decode cX8_makePick 21 = .ok (.invokevirtual 138, 3) := by decide +kernel
theorem dX8_makePick_24 : decode cX8_makePick 24 = .ok (.istore 4, 2) := by decide +kernel
theorem dX8_makePick_26 : decode cX8_makePick 26 = .ok (.aload_n 0, 1) := by decide +kernel
theorem dX8_makePick_27 : decode cX8_makePick 27 = .ok (.getfield 34, 3) := by decide +kernel
theorem dX8_makePick_30 : decode cX8_makePick 30 = .ok (.iload_n 1, 1) := by decide +kernel
theorem dX8_makePick_31 : decode cX8_makePick 31 = .ok (.iaload, 1) := by decide +kernel
theorem dX8_makePick_32 : decode cX8_makePick 32 = .ok (.iconst (-1), 1) := by decide +kernel
theorem dX8_makePick_33 : decode cX8_makePick 33 = .ok (.if_icmp .ne 12, 3) := by decide +kernel
theorem dX8_makePick_36 : decode cX8_makePick 36 = .ok (.aload_n 0, 1) := by decide +kernel
theorem dX8_makePick_37 : decode cX8_makePick 37 = .ok (.getfield 37, 3) := by decide +kernel
theorem dX8_makePick_40 : decode cX8_makePick 40 = .ok (.iload_n 1, 1) := by decide +kernel
theorem dX8_makePick_41 : decode cX8_makePick 41 = .ok (.iaload, 1) := by decide +kernel
theorem dX8_makePick_42 : decode cX8_makePick 42 = .ok (.goto 15, 3) := by decide +kernel
theorem dX8_makePick_45 : decode cX8_makePick 45 = .ok (.aload_n 0, 1) := by decide +kernel
theorem dX8_makePick_46 : decode cX8_makePick 46 = .ok (.iload_n 2, 1) := by decide +kernel
theorem dX8_makePick_47 : decode cX8_makePick 47 = .ok (.iload_n 3, 1) := by decide +kernel
theorem dX8_makePick_48 : decode cX8_makePick 48 = .ok (.aload_n 0, 1) := by decide +kernel
theorem dX8_makePick_49 : decode cX8_makePick 49 = .ok (.getfield 34, 3) := by decide +kernel
theorem dX8_makePick_52 : decode cX8_makePick 52 = .ok (.iload_n 1, 1) := by decide +kernel
theorem dX8_makePick_53 : decode cX8_makePick 53 = .ok (.iaload, 1) := by decide +kernel
theorem dX8_makePick_54 : decode cX8_makePick 54 = .ok (.invokevirtual 138, 3) := by decide +kernel
theorem dX8_makePick_57 : decode cX8_makePick 57 = .ok (.istore 5, 2) := by decide +kernel
theorem dX8_makePick_59 : decode cX8_makePick 59 = .ok (.aload_n 0, 1) := by decide +kernel
theorem dX8_makePick_60 : decode cX8_makePick 60 = .ok (.getfield 31, 3) := by decide +kernel
theorem dX8_makePick_63 : decode cX8_makePick 63 = .ok (.iload_n 1, 1) := by decide +kernel
theorem dX8_makePick_64 : decode cX8_makePick 64 = .ok (.iaload, 1) := by decide +kernel
theorem dX8_makePick_65 : decode cX8_makePick 65 = .ok (.ifCond .ne 18, 3) := by decide +kernel
theorem dX8_makePick_68 : decode cX8_makePick 68 = .ok (.iload 4, 2) := by decide +kernel
theorem dX8_makePick_70 : decode cX8_makePick 70 = .ok (.iload 5, 2) := by decide +kernel
theorem dX8_makePick_72 : decode cX8_makePick 72 = .ok (.if_icmp .ge 7, 3) := by decide +kernel
theorem dX8_makePick_75 : decode cX8_makePick 75 = .ok (.iconst 1, 1) := by decide +kernel
theorem dX8_makePick_76 : decode cX8_makePick 76 = .ok (.goto 44, 3) := by decide +kernel
theorem dX8_makePick_79 : decode cX8_makePick 79 = .ok (.iconst 0, 1) := by decide +kernel
theorem dX8_makePick_80 : decode cX8_makePick 80 = .ok (.goto 40, 3) := by decide +kernel
theorem dX8_makePick_83 : decode cX8_makePick 83 = .ok (.aload_n 0, 1) := by decide +kernel
theorem dX8_makePick_84 : decode cX8_makePick 84 = .ok (.getfield 31, 3) := by decide +kernel
theorem dX8_makePick_87 : decode cX8_makePick 87 = .ok (.iload_n 1, 1) := by decide +kernel
theorem dX8_makePick_88 : decode cX8_makePick 88 = .ok (.iaload, 1) := by decide +kernel
theorem dX8_makePick_89 : decode cX8_makePick 89 = .ok (.iconst 1, 1) := by decide +kernel
theorem dX8_makePick_90 : decode cX8_makePick 90 = .ok (.if_icmp .ne 18, 3) := by decide +kernel
theorem dX8_makePick_93 : decode cX8_makePick 93 = .ok (.iload 4, 2) := by decide +kernel
theorem dX8_makePick_95 : decode cX8_makePick 95 = .ok (.iload 5, 2) := by decide +kernel
theorem dX8_makePick_97 : decode cX8_makePick 97 = .ok (.if_icmp .ne 7, 3) := by decide +kernel
theorem dX8_makePick_100 : decode cX8_makePick 100 = .ok (.iconst 1, 1) := by decide +kernel
theorem dX8_makePick_101 : decode cX8_makePick 101 = .ok (.goto 19, 3) := by decide +kernel
theorem dX8_makePick_104 : decode cX8_makePick 104 = .ok (.iconst 0, 1) := by decide +kernel
theorem dX8_makePick_105 : decode cX8_makePick 105 = .ok (.goto 15, 3) := by decide +kernel
theorem dX8_makePick_108 : decode cX8_makePick 108 = .ok (.iload 4, 2) := by decide +kernel
theorem dX8_makePick_110 : decode cX8_makePick 110 = .ok (.iload 5, 2) := by decide +kernel
theorem dX8_makePick_112 : decode cX8_makePick 112 = .ok (.if_icmp .le 7, 3) := by decide +kernel
theorem dX8_makePick_115 : decode cX8_makePick 115 = .ok (.iconst 1, 1) := by decide +kernel
theorem dX8_makePick_116 : decode cX8_makePick 116 = .ok (.goto 4, 3) := by decide +kernel
theorem dX8_makePick_119 : decode cX8_makePick 119 = .ok (.iconst 0, 1) := by decide +kernel
theorem dX8_makePick_120 : decode cX8_makePick 120 = .ok (.istore 6, 2) := by decide +kernel
theorem dX8_makePick_122 : decode cX8_makePick 122 = .ok (.iload 6, 2) := by decide +kernel
theorem dX8_makePick_124 : decode cX8_makePick 124 = .ok (.ifCond .eq 26, 3) := by decide +kernel
theorem dX8_makePick_127 : decode cX8_makePick 127 = .ok (.aload_n 0, 1) := by decide +kernel
theorem dX8_makePick_128 : decode cX8_makePick 128 = .ok (.iload_n 2, 1) := by decide +kernel
theorem dX8_makePick_129 : decode cX8_makePick 129 = .ok (.iload_n 3, 1) := by decide +kernel
theorem dX8_makePick_130 : decode cX8_makePick 130 = .ok (.aload_n 0, 1) := by decide +kernel
theorem dX8_makePick_131 : decode cX8_makePick 131 = .ok (.getfield 40, 3) := by decide +kernel
theorem dX8_makePick_134 : decode cX8_makePick 134 = .ok (.iload_n 2, 1) := by decide +kernel
theorem dX8_makePick_135 : decode cX8_makePick 135 = .ok (.iaload, 1) := by decide +kernel
theorem dX8_makePick_136 : decode cX8_makePick 136 = .ok (.invokevirtual 181, 3) := by decide +kernel
theorem dX8_makePick_139 : decode cX8_makePick 139 = .ok (.aload_n 0, 1) := by decide +kernel
theorem dX8_makePick_140 : decode cX8_makePick 140 = .ok (.iload_n 1, 1) := by decide +kernel
theorem dX8_makePick_141 : decode cX8_makePick 141 = .ok (.bipush 80, 2) := by decide +kernel
theorem dX8_makePick_143 : decode cX8_makePick 143 = .ok (.iload_n 2, 1) := by decide +kernel
theorem dX8_makePick_144 : decode cX8_makePick 144 = .ok (.imul, 1) := by decide +kernel
theorem dX8_makePick_145 : decode cX8_makePick 145 = .ok (.iload_n 3, 1) := by decide +kernel
theorem dX8_makePick_146 : decode cX8_makePick 146 = .ok (.iadd, 1) := by decide +kernel
theorem dX8_makePick_147 : decode cX8_makePick 147 = .ok (.invokevirtual 178, 3) := by decide +kernel
theorem dX8_makePick_150 : decode cX8_makePick 150 = .ok (.iinc 3 1, 3) := by decide +kernel
theorem dX8_makePick_153 : decode cX8_makePick 153 = .ok (.goto (-151), 3) := by decide +kernel
theorem dX8_makePick_156 : decode cX8_makePick 156 = .ok (.return_, 1) := by decide +kernel
theorem dX8_makeCols_0 : decode cX8_makeCols 0 = .ok (.iconst 0, 1) := by decide +kernel
theorem dX8_makeCols_1 : decode cX8_makeCols 1 = .ok (.istore_n 3, 1) := by decide +kernel
theorem dX8_makeCols_2 : decode cX8_makeCols 2 = .ok (.iload_n 3, 1) := by decide +kernel
theorem dX8_makeCols_3 : decode cX8_makeCols 3 = .ok (.aload_n 0, 1) := by decide +kernel
theorem dX8_makeCols_4 : decode cX8_makeCols 4 = .ok (.getfield 46, 3) := by decide +kernel
theorem dX8_makeCols_7 : decode cX8_makeCols 7 = .ok (.iload_n 2, 1) := by decide +kernel
theorem dX8_makeCols_8 : decode cX8_makeCols 8 = .ok (.iaload, 1) := by decide +kernel
theorem dX8_makeCols_9 : decode cX8_makeCols 9 = .ok (.if_icmp .ge 76, 3) := by decide +kernel
theorem dX8_makeCols_12 : decode cX8_makeCols 12 = .ok (.aload_n 0, 1) := by decide +kernel
theorem dX8_makeCols_13 : decode cX8_makeCols 13 = .ok (.getfield 91, 3) := by decide +kernel
theorem dX8_makeCols_16 : decode cX8_makeCols 16 = .ok (.ifCond .ne 69, 3) := by decide +kernel
theorem dX8_makeCols_19 : decode cX8_makeCols 19 = .ok (.iconst 0, 1) := by decide +kernel
theorem dX8_makeCols_20 : decode cX8_makeCols 20 = .ok (.istore 4, 2) := by decide +kernel
theorem dX8_makeCols_22 : decode cX8_makeCols 22 = .ok (.aload_n 0, 1) := by decide +kernel
theorem dX8_makeCols_23 : decode cX8_makeCols 23 = .ok (.getfield 28, 3) := by decide +kernel
theorem dX8_makeCols_26 : decode cX8_makeCols 26 = .ok (.iload_n 1, 1) := by decide +kernel
theorem dX8_makeCols_27 : decode cX8_makeCols 27 = .ok (.iaload, 1) := by decide +kernel
theorem dX8_makeCols_28 : decode cX8_makeCols 28 = .ok (.istore 5, 2) := by decide +kernel
theorem dX8_makeCols_30 : decode cX8_makeCols 30 = .ok (.iload 5, 2) := by decide +kernel
theorem dX8_makeCols_32 : decode cX8_makeCols 32 = .ok (.ifCond .le 36, 3) := by decide +kernel
theorem dX8_makeCols_35 : decode cX8_makeCols 35 = .ok (.aload_n 0, 1) := by decide +kernel
theorem dX8_makeCols_36 : decode cX8_makeCols 36 = .ok (.getfield 69, 3) := by decide +kernel
theorem dX8_makeCols_39 : decode cX8_makeCols 39 = .ok (.iload 4, 2) := by decide +kernel
theorem dX8_makeCols_41 : decode cX8_makeCols 41 = .ok (.aload_n 0, 1) := by decide +kernel
theorem dX8_makeCols_42 : decode cX8_makeCols 42 = .ok (.iload_n 2, 1) := by decide +kernel
theorem dX8_makeCols_43 : decode cX8_makeCols 43 = .ok (.iload_n 3, 1) := by decide +kernel
theorem dX8_makeCols_44 : decode cX8_makeCols 44 = .ok (.iload 5, 2) := by decide +kernel
theorem dX8_makeCols_46 : decode cX8_makeCols 46 = .ok (.bipush 10, 2) := by decide +kernel
theorem dX8_makeCols_48 : decode cX8_makeCols 48 = .ok (.irem, 1) := by decide +kernel
theorem dX8_makeCols_49 : decode cX8_makeCols 49 = .ok (.iconst 1, 1) := by decide +kernel
theorem dX8_makeCols_50 : decode cX8_makeCols 50 = .ok (.isub, 1) := by decide +kernel
theorem dX8_makeCols_51 : decode cX8_makeCols 51 = .ok (.invokevirtual 138, 3) := by decide +kernel
theorem dX8_makeCols_54 : decode cX8_makeCols 54 = .ok (.iastore, 1) := by decide +kernel
theorem dX8_makeCols_55 : decode cX8_makeCols 55 = .ok (.iinc 4 1, 3) := by decide +kernel
theorem dX8_makeCols_58 : decode cX8_makeCols 58 = .ok (.iload 5, 2) := by decide +kernel
theorem dX8_makeCols_60 : decode cX8_makeCols 60 = .ok (.bipush 10, 2) := by decide +kernel
theorem dX8_makeCols_62 : decode cX8_makeCols 62 = .ok (.idiv, 1) := by decide +kernel
theorem dX8_makeCols_63 : decode cX8_makeCols 63 = .ok (.istore 5, 2) := by decide +kernel
theorem dX8_makeCols_65 : decode cX8_makeCols 65 = .ok (.goto (-35), 3) := by decide +kernel
theorem dX8_makeCols_68 : decode cX8_makeCols 68 = .ok (.aload_n 0, 1) := by decide +kernel
theorem dX8_makeCols_69 : decode cX8_makeCols 69 = .ok (.iload_n 1, 1) := by decide +kernel
theorem dX8_makeCols_70 : decode cX8_makeCols 70 = .ok (.bipush 80, 2) := by decide +kernel
theorem dX8_makeCols_72 : decode cX8_makeCols 72 = .ok (.iload_n 2, 1) := by decide +kernel
theorem dX8_makeCols_73 : decode cX8_makeCols 73 = .ok (.imul, 1) := by decide +kernel
theorem dX8_makeCols_74 : decode cX8_makeCols 74 = .ok (.iload_n 3, 1) := by decide +kernel
theorem dX8_makeCols_75 : decode cX8_makeCols 75 = .ok (.iadd, 1) := by decide +kernel
theorem dX8_makeCols_76 : decode cX8_makeCols 76 = .ok (.invokevirtual 178, 3) := by decide +kernel
theorem dX8_makeCols_79 : decode cX8_makeCols 79 = .ok (.iinc 3 1, 3) := by decide +kernel
theorem dX8_makeCols_82 : decode cX8_makeCols 82 = .ok (.goto (-80), 3) := by decide +kernel
theorem dX8_makeCols_85 : decode cX8_makeCols 85 = .ok (.return_, 1) := by decide +kernel
theorem dX8_makeJoin_0 : decode cX8_makeJoin 0 = .ok (.iconst 0, 1) := by decide +kernel
theorem dX8_makeJoin_1 : decode cX8_makeJoin 1 = .ok (.istore 4, 2) := by decide +kernel
theorem dX8_makeJoin_3 : decode cX8_makeJoin 3 = .ok (.iload 4, 2) := by decide +kernel
theorem dX8_makeJoin_5 : decode cX8_makeJoin 5 = .ok (.aload_n 0, 1) := by decide +kernel
theorem dX8_makeJoin_6 : decode cX8_makeJoin 6 = .ok (.getfield 46, 3) := by decide +kernel
theorem dX8_makeJoin_9 : decode cX8_makeJoin 9 = .ok (.iload_n 2, 1) := by decide +kernel
theorem dX8_makeJoin_10 : decode cX8_makeJoin 10 = .ok (.iaload, 1) := by decide +kernel
theorem dX8_makeJoin_11 : decode cX8_makeJoin 11 = .ok (.if_icmp .ge 150, 3) := by decide +kernel
theorem dX8_makeJoin_14 : decode cX8_makeJoin 14 = .ok (.iconst 0, 1) := by decide +kernel
theorem dX8_makeJoin_15 : decode cX8_makeJoin 15 = .ok (.istore 5, 2) := by decide +kernel
theorem dX8_makeJoin_17 : decode cX8_makeJoin 17 = .ok (.iload 5, 2) := by decide +kernel
theorem dX8_makeJoin_19 : decode cX8_makeJoin 19 = .ok (.aload_n 0, 1) := by decide +kernel
theorem dX8_makeJoin_20 : decode cX8_makeJoin 20 = .ok (.getfield 46, 3) := by decide +kernel
theorem dX8_makeJoin_23 : decode cX8_makeJoin 23 = .ok (.iload_n 3, 1) := by decide +kernel
theorem dX8_makeJoin_24 : decode cX8_makeJoin 24 = .ok (.iaload, 1) := by decide +kernel
theorem dX8_makeJoin_25 : decode cX8_makeJoin 25 = .ok (.if_icmp .ge 130, 3) := by decide +kernel
theorem dX8_makeJoin_28 : decode cX8_makeJoin 28 = .ok (.aload_n 0, 1) := by decide +kernel
theorem dX8_makeJoin_29 : decode cX8_makeJoin 29 = .ok (.getfield 91, 3) := by decide +kernel
theorem dX8_makeJoin_32 : decode cX8_makeJoin 32 = .ok (.ifCond .ne 123, 3) := by decide +kernel
theorem dX8_makeJoin_35 : decode cX8_makeJoin 35 = .ok (.aload_n 0, 1) := by decide +kernel
theorem dX8_makeJoin_36 : decode cX8_makeJoin 36 = .ok (.iload_n 2, 1) := by decide +kernel
theorem dX8_makeJoin_37 : decode cX8_makeJoin 37 = .ok (.iload 4, 2) := by decide +kernel
theorem dX8_makeJoin_39 : decode cX8_makeJoin 39 = .ok (.aload_n 0, 1) := by decide +kernel
theorem dX8_makeJoin_40 : decode cX8_makeJoin 40 = .ok (.getfield 28, 3) := by decide +kernel
theorem dX8_makeJoin_43 : decode cX8_makeJoin 43 = .ok (.iload_n 1, 1) := by decide +kernel
theorem dX8_makeJoin_44 : decode cX8_makeJoin 44 = .ok (.iaload, 1) := by decide +kernel
theorem dX8_makeJoin_45 : decode cX8_makeJoin 45 = .ok (.invokevirtual 138, 3) := by decide +kernel
theorem dX8_makeJoin_48 : decode cX8_makeJoin 48 = .ok (.aload_n 0, 1) := by decide +kernel
theorem dX8_makeJoin_49 : decode cX8_makeJoin 49 = .ok (.iload_n 3, 1) := by decide +kernel
theorem dX8_makeJoin_50 : decode cX8_makeJoin 50 = .ok (.iload 5, 2) := by decide +kernel
theorem dX8_makeJoin_52 : decode cX8_makeJoin 52 = .ok (.aload_n 0, 1) := by decide +kernel
theorem dX8_makeJoin_53 : decode cX8_makeJoin 53 = .ok (.getfield 31, 3) := by decide +kernel
theorem dX8_makeJoin_56 : decode cX8_makeJoin 56 = .ok (.iload_n 1, 1) := by decide +kernel
theorem dX8_makeJoin_57 : decode cX8_makeJoin 57 = .ok (.iaload, 1) := by decide +kernel
theorem dX8_makeJoin_58 : decode cX8_makeJoin 58 = .ok (.invokevirtual 138, 3) := by decide +kernel
theorem dX8_makeJoin_61 : decode cX8_makeJoin 61 = .ok (.if_icmp .ne 88, 3) := by decide +kernel
theorem dX8_makeJoin_64 : decode cX8_makeJoin 64 = .ok (.aload_n 0, 1) := by decide +kernel
theorem dX8_makeJoin_65 : decode cX8_makeJoin 65 = .ok (.sipush 1360, 3) := by decide +kernel
theorem dX8_makeJoin_68 : decode cX8_makeJoin 68 = .ok (.bipush 80, 2) := by decide +kernel
theorem dX8_makeJoin_70 : decode cX8_makeJoin 70 = .ok (.iload_n 2, 1) := by decide +kernel
theorem dX8_makeJoin_71 : decode cX8_makeJoin 71 = .ok (.imul, 1) := by decide +kernel
theorem dX8_makeJoin_72 : decode cX8_makeJoin 72 = .ok (.iload 4, 2) := by decide +kernel
theorem dX8_makeJoin_74 : decode cX8_makeJoin 74 = .ok (.iadd, 1) := by decide +kernel
theorem dX8_makeJoin_75 : decode cX8_makeJoin 75 = .ok (.bipush 80, 2) := by decide +kernel
theorem dX8_makeJoin_77 : decode cX8_makeJoin 77 = .ok (.iload_n 3, 1) := by decide +kernel
theorem dX8_makeJoin_78 : decode cX8_makeJoin 78 = .ok (.imul, 1) := by decide +kernel
theorem dX8_makeJoin_79 : decode cX8_makeJoin 79 = .ok (.iload 5, 2) := by decide +kernel
theorem dX8_makeJoin_81 : decode cX8_makeJoin 81 = .ok (.iadd, 1) := by decide +kernel
theorem dX8_makeJoin_82 : decode cX8_makeJoin 82 = .ok (.invokevirtual 184, 3) := by decide +kernel
theorem dX8_makeJoin_85 : decode cX8_makeJoin 85 = .ok (.aload_n 0, 1) := by decide +kernel
theorem dX8_makeJoin_86 : decode cX8_makeJoin 86 = .ok (.iload_n 2, 1) := by decide +kernel
theorem dX8_makeJoin_87 : decode cX8_makeJoin 87 = .ok (.iload 4, 2) := by decide +kernel
theorem dX8_makeJoin_89 : decode cX8_makeJoin 89 = .ok (.aload_n 0, 1) := by decide +kernel
theorem dX8_makeJoin_90 : decode cX8_makeJoin 90 = .ok (.getfield 40, 3) := by decide +kernel
theorem dX8_makeJoin_93 : decode cX8_makeJoin 93 = .ok (.iload_n 2, 1) := by decide +kernel
theorem dX8_makeJoin_94 : decode cX8_makeJoin 94 = .ok (.iaload, 1) := by decide +kernel
theorem dX8_makeJoin_95 : decode cX8_makeJoin 95 = .ok (.invokevirtual 181, 3) := by decide +kernel
theorem dX8_makeJoin_98 : decode cX8_makeJoin 98 = .ok (.iconst 0, 1) := by decide +kernel
theorem dX8_makeJoin_99 : decode cX8_makeJoin 99 = .ok (.istore 6, 2) := by decide +kernel
theorem dX8_makeJoin_101 : decode cX8_makeJoin 101 = .ok (.iload 6, 2) := by decide +kernel
theorem dX8_makeJoin_103 : decode cX8_makeJoin 103 = .ok (.aload_n 0, 1) := by decide +kernel
theorem dX8_makeJoin_104 : decode cX8_makeJoin 104 = .ok (.getfield 40, 3) := by decide +kernel
theorem dX8_makeJoin_107 : decode cX8_makeJoin 107 = .ok (.iload_n 3, 1) := by decide +kernel
theorem dX8_makeJoin_108 : decode cX8_makeJoin 108 = .ok (.iaload, 1) := by decide +kernel
theorem dX8_makeJoin_109 : decode cX8_makeJoin 109 = .ok (.if_icmp .ge 32, 3) := by decide +kernel
theorem dX8_makeJoin_112 : decode cX8_makeJoin 112 = .ok (.aload_n 0, 1) := by decide +kernel
theorem dX8_makeJoin_113 : decode cX8_makeJoin 113 = .ok (.getfield 69, 3) := by decide +kernel
theorem dX8_makeJoin_116 : decode cX8_makeJoin 116 = .ok (.aload_n 0, 1) := by decide +kernel
theorem dX8_makeJoin_117 : decode cX8_makeJoin 117 = .ok (.getfield 40, 3) := by decide +kernel
theorem dX8_makeJoin_120 : decode cX8_makeJoin 120 = .ok (.iload_n 2, 1) := by decide +kernel
theorem dX8_makeJoin_121 : decode cX8_makeJoin 121 = .ok (.iaload, 1) := by decide +kernel
theorem dX8_makeJoin_122 : decode cX8_makeJoin 122 = .ok (.iload 6, 2) := by decide +kernel
theorem dX8_makeJoin_124 : decode cX8_makeJoin 124 = .ok (.iadd, 1) := by decide +kernel
theorem dX8_makeJoin_125 : decode cX8_makeJoin 125 = .ok (.aload_n 0, 1) := by decide +kernel
theorem dX8_makeJoin_126 : decode cX8_makeJoin 126 = .ok (.iload_n 3, 1) := by decide +kernel
theorem dX8_makeJoin_127 : decode cX8_makeJoin 127 = .ok (.iload 5, 2) := by decide +kernel
theorem dX8_makeJoin_129 : decode cX8_makeJoin 129 = .ok (.iload 6, 2) := by decide +kernel
theorem dX8_makeJoin_131 : decode cX8_makeJoin 131 = .ok (.invokevirtual 138, 3) := by decide +kernel
theorem dX8_makeJoin_134 : decode cX8_makeJoin 134 = .ok (.iastore, 1) := by decide +kernel
theorem dX8_makeJoin_135 : decode cX8_makeJoin 135 = .ok (.iinc 6 1, 3) := by decide +kernel
theorem dX8_makeJoin_138 : decode cX8_makeJoin 138 = .ok (.goto (-37), 3) := by decide +kernel
theorem dX8_makeJoin_141 : decode cX8_makeJoin 141 = .ok (.aload_n 0, 1) := by decide +kernel
theorem dX8_makeJoin_142 : decode cX8_makeJoin 142 = .ok (.iload_n 1, 1) := by decide +kernel
theorem dX8_makeJoin_143 : decode cX8_makeJoin 143 = .ok (.sipush 1360, 3) := by decide +kernel
theorem dX8_makeJoin_146 : decode cX8_makeJoin 146 = .ok (.invokevirtual 178, 3) := by decide +kernel
theorem dX8_makeJoin_149 : decode cX8_makeJoin 149 = .ok (.iinc 5 1, 3) := by decide +kernel
theorem dX8_makeJoin_152 : decode cX8_makeJoin 152 = .ok (.goto (-135), 3) := by decide +kernel
theorem dX8_makeJoin_155 : decode cX8_makeJoin 155 = .ok (.iinc 4 1, 3) := by decide +kernel
theorem dX8_makeJoin_158 : decode cX8_makeJoin 158 = .ok (.goto (-155), 3) := by decide +kernel
theorem dX8_makeJoin_161 : decode cX8_makeJoin 161 = .ok (.return_, 1) := by decide +kernel
theorem dX8_makeUnite_0 : decode cX8_makeUnite 0 = .ok (.iconst 0, 1) := by decide +kernel
theorem dX8_makeUnite_1 : decode cX8_makeUnite 1 = .ok (.istore_n 3, 1) := by decide +kernel
theorem dX8_makeUnite_2 : decode cX8_makeUnite 2 = .ok (.iload_n 3, 1) := by decide +kernel
theorem dX8_makeUnite_3 : decode cX8_makeUnite 3 = .ok (.aload_n 0, 1) := by decide +kernel
theorem dX8_makeUnite_4 : decode cX8_makeUnite 4 = .ok (.getfield 46, 3) := by decide +kernel
theorem dX8_makeUnite_7 : decode cX8_makeUnite 7 = .ok (.iload_n 2, 1) := by decide +kernel
theorem dX8_makeUnite_8 : decode cX8_makeUnite 8 = .ok (.iaload, 1) := by decide +kernel
theorem dX8_makeUnite_9 : decode cX8_makeUnite 9 = .ok (.if_icmp .ge 39, 3) := by decide +kernel
theorem dX8_makeUnite_12 : decode cX8_makeUnite 12 = .ok (.aload_n 0, 1) := by decide +kernel
theorem dX8_makeUnite_13 : decode cX8_makeUnite 13 = .ok (.getfield 91, 3) := by decide +kernel
theorem dX8_makeUnite_16 : decode cX8_makeUnite 16 = .ok (.ifCond .ne 32, 3) := by decide +kernel
theorem dX8_makeUnite_19 : decode cX8_makeUnite 19 = .ok (.aload_n 0, 1) := by decide +kernel
theorem dX8_makeUnite_20 : decode cX8_makeUnite 20 = .ok (.iload_n 2, 1) := by decide +kernel
theorem dX8_makeUnite_21 : decode cX8_makeUnite 21 = .ok (.iload_n 3, 1) := by decide +kernel
theorem dX8_makeUnite_22 : decode cX8_makeUnite 22 = .ok (.aload_n 0, 1) := by decide +kernel
theorem dX8_makeUnite_23 : decode cX8_makeUnite 23 = .ok (.getfield 40, 3) := by decide +kernel
theorem dX8_makeUnite_26 : decode cX8_makeUnite 26 = .ok (.iload_n 2, 1) := by decide +kernel
theorem dX8_makeUnite_27 : decode cX8_makeUnite 27 = .ok (.iaload, 1) := by decide +kernel
theorem dX8_makeUnite_28 : decode cX8_makeUnite 28 = .ok (.invokevirtual 181, 3) := by decide +kernel
theorem dX8_makeUnite_31 : decode cX8_makeUnite 31 = .ok (.aload_n 0, 1) := by decide +kernel
theorem dX8_makeUnite_32 : decode cX8_makeUnite 32 = .ok (.iload_n 1, 1) := by decide +kernel
theorem dX8_makeUnite_33 : decode cX8_makeUnite 33 = .ok (.bipush 80, 2) := by decide +kernel
theorem dX8_makeUnite_35 : decode cX8_makeUnite 35 = .ok (.iload_n 2, 1) := by decide +kernel
theorem dX8_makeUnite_36 : decode cX8_makeUnite 36 = .ok (.imul, 1) := by decide +kernel
theorem dX8_makeUnite_37 : decode cX8_makeUnite 37 = .ok (.iload_n 3, 1) := by decide +kernel
theorem dX8_makeUnite_38 : decode cX8_makeUnite 38 = .ok (.iadd, 1) := by decide +kernel
theorem dX8_makeUnite_39 : decode cX8_makeUnite 39 = .ok (.invokevirtual 178, 3) := by decide +kernel
theorem dX8_makeUnite_42 : decode cX8_makeUnite 42 = .ok (.iinc 3 1, 3) := by decide +kernel
theorem dX8_makeUnite_45 : decode cX8_makeUnite 45 = .ok (.goto (-43), 3) := by decide +kernel
theorem dX8_makeUnite_48 : decode cX8_makeUnite 48 = .ok (.return_, 1) := by decide +kernel
theorem dX8_makeMinus_0 : decode cX8_makeMinus 0 = .ok (.iconst 0, 1) := by decide +kernel
theorem dX8_makeMinus_1 : decode cX8_makeMinus 1 = .ok (.istore 4, 2) := by decide +kernel
theorem dX8_makeMinus_3 : decode cX8_makeMinus 3 = .ok (.iload 4, 2) := by decide +kernel
theorem dX8_makeMinus_5 : decode cX8_makeMinus 5 = .ok (.aload_n 0, 1) := by decide +kernel
theorem dX8_makeMinus_6 : decode cX8_makeMinus 6 = .ok (.getfield 46, 3) := by decide +kernel
theorem dX8_makeMinus_9 : decode cX8_makeMinus 9 = .ok (.iload_n 2, 1) := by decide +kernel
theorem dX8_makeMinus_10 : decode cX8_makeMinus 10 = .ok (.iaload, 1) := by decide +kernel
theorem dX8_makeMinus_11 : decode cX8_makeMinus 11 = .ok (.if_icmp .ge 138, 3) := by decide +kernel
theorem dX8_makeMinus_14 : decode cX8_makeMinus 14 = .ok (.aload_n 0, 1) := by decide +kernel
theorem dX8_makeMinus_15 : decode cX8_makeMinus 15 = .ok (.getfield 91, 3) := by decide +kernel
theorem dX8_makeMinus_18 : decode cX8_makeMinus 18 = .ok (.ifCond .ne 131, 3) := by decide +kernel
theorem dX8_makeMinus_21 : decode cX8_makeMinus 21 = .ok (.aload_n 0, 1) := by decide +kernel
theorem dX8_makeMinus_22 : decode cX8_makeMinus 22 = .ok (.iload_n 2, 1) := by decide +kernel
theorem dX8_makeMinus_23 : decode cX8_makeMinus 23 = .ok (.iload 4, 2) := by decide +kernel
theorem dX8_makeMinus_25 : decode cX8_makeMinus 25 = .ok (.aload_n 0, 1) := by decide +kernel
theorem dX8_makeMinus_26 : decode cX8_makeMinus 26 = .ok (.getfield 40, 3) := by decide +kernel
theorem dX8_makeMinus_29 : decode cX8_makeMinus 29 = .ok (.iload_n 2, 1) := by decide +kernel
theorem dX8_makeMinus_30 : decode cX8_makeMinus 30 = .ok (.iaload, 1) := by decide +kernel
theorem dX8_makeMinus_31 : decode cX8_makeMinus 31 = .ok (.invokevirtual 181, 3) := by decide +kernel
theorem dX8_makeMinus_34 : decode cX8_makeMinus 34 = .ok (.iconst (-1), 1) := by decide +kernel
theorem dX8_makeMinus_35 : decode cX8_makeMinus 35 = .ok (.istore 5, 2) := by decide +kernel
theorem dX8_makeMinus_37 : decode cX8_makeMinus 37 = .ok (.iconst 0, 1) := by decide +kernel
theorem dX8_makeMinus_38 : decode cX8_makeMinus 38 = .ok (.istore 6, 2) := by decide +kernel
theorem dX8_makeMinus_40 : decode cX8_makeMinus 40 = .ok (.iload 6, 2) := by decide +kernel
theorem dX8_makeMinus_42 : decode cX8_makeMinus 42 = .ok (.aload_n 0, 1) := by decide +kernel
theorem dX8_makeMinus_43 : decode cX8_makeMinus 43 = .ok (.getfield 46, 3) := by decide +kernel
theorem dX8_makeMinus_46 : decode cX8_makeMinus 46 = .ok (.iload_n 3, 1) := by decide +kernel
theorem dX8_makeMinus_47 : decode cX8_makeMinus 47 = .ok (.iaload, 1) := by decide +kernel
theorem dX8_makeMinus_48 : decode cX8_makeMinus 48 = .ok (.if_icmp .ge 28, 3) := by decide +kernel
theorem dX8_makeMinus_51 : decode cX8_makeMinus 51 = .ok (.aload_n 0, 1) := by decide +kernel
theorem dX8_makeMinus_52 : decode cX8_makeMinus 52 = .ok (.iload_n 3, 1) := by decide +kernel
theorem dX8_makeMinus_53 : decode cX8_makeMinus 53 = .ok (.iload 6, 2) := by decide +kernel
theorem dX8_makeMinus_55 : decode cX8_makeMinus 55 = .ok (.invokevirtual 141, 3) := by decide +kernel
theorem dX8_makeMinus_58 : decode cX8_makeMinus 58 = .ok (.ifCond .ne 8, 3) := by decide +kernel
theorem dX8_makeMinus_61 : decode cX8_makeMinus 61 = .ok (.iload 6, 2) := by decide +kernel
theorem dX8_makeMinus_63 : decode cX8_makeMinus 63 = .ok (.goto 5, 3) := by decide +kernel
theorem dX8_makeMinus_66 : decode cX8_makeMinus 66 = .ok (.iload 5, 2) := by decide +kernel
theorem dX8_makeMinus_68 : decode cX8_makeMinus 68 = .ok (.istore 5, 2) := by decide +kernel
theorem dX8_makeMinus_70 : decode cX8_makeMinus 70 = .ok (.iinc 6 1, 3) := by decide +kernel
theorem dX8_makeMinus_73 : decode cX8_makeMinus 73 = .ok (.goto (-33), 3) := by decide +kernel
theorem dX8_makeMinus_76 : decode cX8_makeMinus 76 = .ok (.iload 5, 2) := by decide +kernel
theorem dX8_makeMinus_78 : decode cX8_makeMinus 78 = .ok (.iconst (-1), 1) := by decide +kernel
theorem dX8_makeMinus_79 : decode cX8_makeMinus 79 = .ok (.if_icmp .ne 18, 3) := by decide +kernel
theorem dX8_makeMinus_82 : decode cX8_makeMinus 82 = .ok (.aload_n 0, 1) := by decide +kernel
theorem dX8_makeMinus_83 : decode cX8_makeMinus 83 = .ok (.iload_n 1, 1) := by decide +kernel
theorem dX8_makeMinus_84 : decode cX8_makeMinus 84 = .ok (.bipush 80, 2) := by decide +kernel
theorem dX8_makeMinus_86 : decode cX8_makeMinus 86 = .ok (.iload_n 2, 1) := by decide +kernel
theorem dX8_makeMinus_87 : decode cX8_makeMinus 87 = .ok (.imul, 1) := by decide +kernel
theorem dX8_makeMinus_88 : decode cX8_makeMinus 88 = .ok (.iload 4, 2) := by decide +kernel
theorem dX8_makeMinus_90 : decode cX8_makeMinus 90 = .ok (.iadd, 1) := by decide +kernel
theorem dX8_makeMinus_91 : decode cX8_makeMinus 91 = .ok (.invokevirtual 178, 3) := by decide +kernel
theorem dX8_makeMinus_94 : decode cX8_makeMinus 94 = .ok (.goto 49, 3) := by decide +kernel
theorem dX8_makeMinus_97 : decode cX8_makeMinus 97 = .ok (.aload_n 0, 1) := by decide +kernel
theorem dX8_makeMinus_98 : decode cX8_makeMinus 98 = .ok (.sipush 1361, 3) := by decide +kernel
theorem dX8_makeMinus_101 : decode cX8_makeMinus 101 = .ok (.bipush 80, 2) := by decide +kernel
theorem dX8_makeMinus_103 : decode cX8_makeMinus 103 = .ok (.iload_n 3, 1) := by decide +kernel
theorem dX8_makeMinus_104 : decode cX8_makeMinus 104 = .ok (.imul, 1) := by decide +kernel
theorem dX8_makeMinus_105 : decode cX8_makeMinus 105 = .ok (.iload 5, 2) := by decide +kernel
theorem dX8_makeMinus_107 : decode cX8_makeMinus 107 = .ok (.iadd, 1) := by decide +kernel
theorem dX8_makeMinus_108 : decode cX8_makeMinus 108 = .ok (.invokevirtual 187, 3) := by decide +kernel
theorem dX8_makeMinus_111 : decode cX8_makeMinus 111 = .ok (.aload_n 0, 1) := by decide +kernel
theorem dX8_makeMinus_112 : decode cX8_makeMinus 112 = .ok (.getfield 91, 3) := by decide +kernel
theorem dX8_makeMinus_115 : decode cX8_makeMinus 115 = .ok (.ifCond .ne 20, 3) := by decide +kernel
theorem dX8_makeMinus_118 : decode cX8_makeMinus 118 = .ok (.aload_n 0, 1) := by decide +kernel
theorem dX8_makeMinus_119 : decode cX8_makeMinus 119 = .ok (.sipush 1360, 3) := by decide +kernel
theorem dX8_makeMinus_122 : decode cX8_makeMinus 122 = .ok (.bipush 80, 2) := by decide +kernel
theorem dX8_makeMinus_124 : decode cX8_makeMinus 124 = .ok (.iload_n 2, 1) := by decide +kernel
theorem dX8_makeMinus_125 : decode cX8_makeMinus 125 = .ok (.imul, 1) := by decide +kernel
theorem dX8_makeMinus_126 : decode cX8_makeMinus 126 = .ok (.iload 4, 2) := by decide +kernel
theorem dX8_makeMinus_128 : decode cX8_makeMinus 128 = .ok (.iadd, 1) := by decide +kernel
theorem dX8_makeMinus_129 : decode cX8_makeMinus 129 = .ok (.sipush 1361, 3) := by decide +kernel
theorem dX8_makeMinus_132 : decode cX8_makeMinus 132 = .ok (.invokevirtual 184, 3) := by decide +kernel
theorem dX8_makeMinus_135 : decode cX8_makeMinus 135 = .ok (.aload_n 0, 1) := by decide +kernel
theorem dX8_makeMinus_136 : decode cX8_makeMinus 136 = .ok (.iload_n 1, 1) := by decide +kernel
theorem dX8_makeMinus_137 : decode cX8_makeMinus 137 = .ok (.sipush 1360, 3) := by decide +kernel
theorem dX8_makeMinus_140 : decode cX8_makeMinus 140 = .ok (.invokevirtual 178, 3) := by decide +kernel
theorem dX8_makeMinus_143 : decode cX8_makeMinus 143 = .ok (.iinc 4 1, 3) := by decide +kernel
theorem dX8_makeMinus_146 : decode cX8_makeMinus 146 = .ok (.goto (-143), 3) := by decide +kernel
theorem dX8_makeMinus_149 : decode cX8_makeMinus 149 = .ok (.return_, 1) := by decide +kernel
theorem dX8_makeFold_0 : decode cX8_makeFold 0 = .ok (.iconst 0, 1) := by decide +kernel
theorem dX8_makeFold_1 : decode cX8_makeFold 1 = .ok (.istore_n 3, 1) := by decide +kernel
theorem dX8_makeFold_2 : decode cX8_makeFold 2 = .ok (.iload_n 3, 1) := by decide +kernel
theorem dX8_makeFold_3 : decode cX8_makeFold 3 = .ok (.aload_n 0, 1) := by decide +kernel
theorem dX8_makeFold_4 : decode cX8_makeFold 4 = .ok (.getfield 46, 3) := by decide +kernel
theorem dX8_makeFold_7 : decode cX8_makeFold 7 = .ok (.iload_n 2, 1) := by decide +kernel
theorem dX8_makeFold_8 : decode cX8_makeFold 8 = .ok (.iaload, 1) := by decide +kernel
theorem dX8_makeFold_9 : decode cX8_makeFold 9 = .ok (.if_icmp .ge 138, 3) := by decide +kernel
theorem dX8_makeFold_12 : decode cX8_makeFold 12 = .ok (.aload_n 0, 1) := by decide +kernel
theorem dX8_makeFold_13 : decode cX8_makeFold 13 = .ok (.getfield 91, 3) := by decide +kernel
theorem dX8_makeFold_16 : decode cX8_makeFold 16 = .ok (.ifCond .ne 131, 3) := by decide +kernel
theorem dX8_makeFold_19 : decode cX8_makeFold 19 = .ok (.iconst 0, 1) := by decide +kernel
theorem dX8_makeFold_20 : decode cX8_makeFold 20 = .ok (.istore 4, 2) := by decide +kernel
theorem dX8_makeFold_22 : decode cX8_makeFold 22 = .ok (.iconst 1, 1) := by decide +kernel
theorem dX8_makeFold_23 : decode cX8_makeFold 23 = .ok (.istore 5, 2) := by decide +kernel
theorem dX8_makeFold_25 : decode cX8_makeFold 25 = .ok (.iconst 0, 1) := by decide +kernel
theorem dX8_makeFold_26 : decode cX8_makeFold 26 = .ok (.istore 6, 2) := by decide +kernel
theorem dX8_makeFold_28 : decode cX8_makeFold 28 = .ok (.iload 6, 2) := by decide +kernel
theorem dX8_makeFold_30 : decode cX8_makeFold 30 = .ok (.aload_n 0, 1) := by decide +kernel
theorem dX8_makeFold_31 : decode cX8_makeFold 31 = .ok (.getfield 46, 3) := by decide +kernel
theorem dX8_makeFold_34 : decode cX8_makeFold 34 = .ok (.iload_n 2, 1) := by decide +kernel
theorem dX8_makeFold_35 : decode cX8_makeFold 35 = .ok (.iaload, 1) := by decide +kernel
theorem dX8_makeFold_36 : decode cX8_makeFold 36 = .ok (.if_icmp .ge 73, 3) := by decide +kernel
theorem dX8_makeFold_39 : decode cX8_makeFold 39 = .ok (.aload_n 0, 1) := by decide +kernel
theorem dX8_makeFold_40 : decode cX8_makeFold 40 = .ok (.iload_n 2, 1) := by decide +kernel
theorem dX8_makeFold_41 : decode cX8_makeFold 41 = .ok (.iload 6, 2) := by decide +kernel
theorem dX8_makeFold_43 : decode cX8_makeFold 43 = .ok (.aload_n 0, 1) := by decide +kernel
theorem dX8_makeFold_44 : decode cX8_makeFold 44 = .ok (.getfield 28, 3) := by decide +kernel
theorem dX8_makeFold_47 : decode cX8_makeFold 47 = .ok (.iload_n 1, 1) := by decide +kernel
theorem dX8_makeFold_48 : decode cX8_makeFold 48 = .ok (.iaload, 1) := by decide +kernel
theorem dX8_makeFold_49 : decode cX8_makeFold 49 = .ok (.invokevirtual 138, 3) := by decide +kernel
theorem dX8_makeFold_52 : decode cX8_makeFold 52 = .ok (.aload_n 0, 1) := by decide +kernel
theorem dX8_makeFold_53 : decode cX8_makeFold 53 = .ok (.iload_n 2, 1) := by decide +kernel
theorem dX8_makeFold_54 : decode cX8_makeFold 54 = .ok (.iload_n 3, 1) := by decide +kernel
theorem dX8_makeFold_55 : decode cX8_makeFold 55 = .ok (.aload_n 0, 1) := by decide +kernel
theorem dX8_makeFold_56 : decode cX8_makeFold 56 = .ok (.getfield 28, 3) := by decide +kernel
theorem dX8_makeFold_59 : decode cX8_makeFold 59 = .ok (.iload_n 1, 1) := by decide +kernel
theorem dX8_makeFold_60 : decode cX8_makeFold 60 = .ok (.iaload, 1) := by decide +kernel
theorem dX8_makeFold_61 : decode cX8_makeFold 61 = .ok (.invokevirtual 138, 3) := by decide +kernel
theorem dX8_makeFold_64 : decode cX8_makeFold 64 = .ok (.if_icmp .ne 39, 3) := by decide +kernel
theorem dX8_makeFold_67 : decode cX8_makeFold 67 = .ok (.iload 5, 2) := by decide +kernel
theorem dX8_makeFold_69 : decode cX8_makeFold 69 = .ok (.ifCond .eq 13, 3) := by decide +kernel
theorem dX8_makeFold_72 : decode cX8_makeFold 72 = .ok (.iload 6, 2) := by decide +kernel
theorem dX8_makeFold_74 : decode cX8_makeFold 74 = .ok (.iload_n 3, 1) := by decide +kernel
theorem dX8_makeFold_75 : decode cX8_makeFold 75 = .ok (.if_icmp .lt 7, 3) := by decide +kernel
theorem dX8_makeFold_78 : decode cX8_makeFold 78 = .ok (.iconst 1, 1) := by decide +kernel
theorem dX8_makeFold_79 : decode cX8_makeFold 79 = .ok (.goto 4, 3) := by decide +kernel
theorem dX8_makeFold_82 : decode cX8_makeFold 82 = .ok (.iconst 0, 1) := by decide +kernel
theorem dX8_makeFold_83 : decode cX8_makeFold 83 = .ok (.istore 5, 2) := by decide +kernel
theorem dX8_makeFold_85 : decode cX8_makeFold 85 = .ok (.iload 4, 2) := by decide +kernel
theorem dX8_makeFold_87 : decode cX8_makeFold 87 = .ok (.iconst 4, 1) := by decide +kernel
theorem dX8_makeFold_88 : decode cX8_makeFold 88 = .ok (.if_icmp .ge 12, 3) := by decide +kernel
theorem dX8_makeFold_91 : decode cX8_makeFold 91 = .ok (.aload_n 0, 1) := by decide +kernel
theorem dX8_makeFold_92 : decode cX8_makeFold 92 = .ok (.getfield 72, 3) := by decide +kernel
theorem dX8_makeFold_95 : decode cX8_makeFold 95 = .ok (.iload 4, 2) := by decide +kernel
theorem dX8_makeFold_97 : decode cX8_makeFold 97 = .ok (.iload 6, 2) := by decide +kernel
theorem dX8_makeFold_99 : decode cX8_makeFold 99 = .ok (.iastore, 1) := by decide +kernel
theorem dX8_makeFold_100 : decode cX8_makeFold 100 = .ok (.iinc 4 1, 3) := by decide +kernel
theorem dX8_makeFold_103 : decode cX8_makeFold 103 = .ok (.iinc 6 1, 3) := by decide +kernel
theorem dX8_makeFold_106 : decode cX8_makeFold 106 = .ok (.goto (-78), 3) := by decide +kernel
theorem dX8_makeFold_109 : decode cX8_makeFold 109 = .ok (.iload 5, 2) := by decide +kernel
theorem dX8_makeFold_111 : decode cX8_makeFold 111 = .ok (.ifCond .eq 17, 3) := by decide +kernel
theorem dX8_makeFold_114 : decode cX8_makeFold 114 = .ok (.iload 4, 2) := by decide +kernel
theorem dX8_makeFold_116 : decode cX8_makeFold 116 = .ok (.iconst 4, 1) := by decide +kernel
theorem dX8_makeFold_117 : decode cX8_makeFold 117 = .ok (.if_icmp .le 11, 3) := by decide +kernel
theorem dX8_makeFold_120 : decode cX8_makeFold 120 = .ok (.aload_n 0, 1) := by decide +kernel
theorem dX8_makeFold_121 : decode cX8_makeFold 121 = .ok (.iconst 1, 1) := by decide +kernel
theorem dX8_makeFold_122 : decode cX8_makeFold 122 = .ok (.putfield 91, 3) := by decide +kernel
theorem dX8_makeFold_125 : decode cX8_makeFold 125 = .ok (.goto 16, 3) := by decide +kernel
theorem dX8_makeFold_128 : decode cX8_makeFold 128 = .ok (.iload 5, 2) := by decide +kernel
theorem dX8_makeFold_130 : decode cX8_makeFold 130 = .ok (.ifCond .eq 11, 3) := by decide +kernel
theorem dX8_makeFold_133 : decode cX8_makeFold 133 = .ok (.aload_n 0, 1) := by decide +kernel
theorem dX8_makeFold_134 : decode cX8_makeFold 134 = .ok (.iload_n 1, 1) := by decide +kernel
theorem dX8_makeFold_135 : decode cX8_makeFold 135 = .ok (.iload_n 2, 1) := by decide +kernel
theorem dX8_makeFold_136 : decode cX8_makeFold 136 = .ok (.iload 4, 2) := by decide +kernel
theorem dX8_makeFold_138 : decode cX8_makeFold 138 = .ok (.invokevirtual 190, 3) := by decide +kernel
theorem dX8_makeFold_141 : decode cX8_makeFold 141 = .ok (.iinc 3 1, 3) := by decide +kernel
theorem dX8_makeFold_144 : decode cX8_makeFold 144 = .ok (.goto (-142), 3) := by decide +kernel
theorem dX8_makeFold_147 : decode cX8_makeFold 147 = .ok (.return_, 1) := by decide +kernel
theorem dX8_makeGroup_0 : decode cX8_makeGroup 0 = .ok (.iconst 0, 1) := by decide +kernel
theorem dX8_makeGroup_1 : decode cX8_makeGroup 1 = .ok (.istore 4, 2) := by decide +kernel
theorem dX8_makeGroup_3 : decode cX8_makeGroup 3 = .ok (.iload 4, 2) := by decide +kernel
theorem dX8_makeGroup_5 : decode cX8_makeGroup 5 = .ok (.iload_n 3, 1) := by decide +kernel
theorem dX8_makeGroup_6 : decode cX8_makeGroup 6 = .ok (.if_icmp .ge 43, 3) := by decide +kernel
theorem dX8_makeGroup_9 : decode cX8_makeGroup 9 = .ok (.aload_n 0, 1) := by decide +kernel
theorem dX8_makeGroup_10 : decode cX8_makeGroup 10 = .ok (.getfield 91, 3) := by decide +kernel
theorem dX8_makeGroup_13 : decode cX8_makeGroup 13 = .ok (.ifCond .ne 36, 3) := by decide +kernel
theorem dX8_makeGroup_16 : decode cX8_makeGroup 16 = .ok (.iload_n 3, 1) := by decide +kernel
theorem dX8_makeGroup_17 : decode cX8_makeGroup 17 = .ok (.iconst 1, 1) := by decide +kernel
theorem dX8_makeGroup_18 : decode cX8_makeGroup 18 = .ok (.if_icmp .le 25, 3) := by decide +kernel
theorem dX8_makeGroup_21 : decode cX8_makeGroup 21 = .ok (.aload_n 0, 1) := by decide +kernel
theorem dX8_makeGroup_22 : decode cX8_makeGroup 22 = .ok (.sipush 1362, 3) := by decide +kernel
theorem dX8_makeGroup_25 : decode cX8_makeGroup 25 = .ok (.iload 4, 2) := by decide +kernel
theorem dX8_makeGroup_27 : decode cX8_makeGroup 27 = .ok (.iadd, 1) := by decide +kernel
theorem dX8_makeGroup_28 : decode cX8_makeGroup 28 = .ok (.bipush 80, 2) := by decide +kernel
theorem dX8_makeGroup_30 : decode cX8_makeGroup 30 = .ok (.iload_n 2, 1) := by decide +kernel
theorem dX8_makeGroup_31 : decode cX8_makeGroup 31 = .ok (.imul, 1) := by decide +kernel
theorem dX8_makeGroup_32 : decode cX8_makeGroup 32 = .ok (.aload_n 0, 1) := by decide +kernel
theorem dX8_makeGroup_33 : decode cX8_makeGroup 33 = .ok (.getfield 72, 3) := by decide +kernel
theorem dX8_makeGroup_36 : decode cX8_makeGroup 36 = .ok (.iload 4, 2) := by decide +kernel
theorem dX8_makeGroup_38 : decode cX8_makeGroup 38 = .ok (.iaload, 1) := by decide +kernel
theorem dX8_makeGroup_39 : decode cX8_makeGroup 39 = .ok (.iadd, 1) := by decide +kernel
theorem dX8_makeGroup_40 : decode cX8_makeGroup 40 = .ok (.invokevirtual 187, 3) := by decide +kernel
theorem dX8_makeGroup_43 : decode cX8_makeGroup 43 = .ok (.iinc 4 1, 3) := by decide +kernel
theorem dX8_makeGroup_46 : decode cX8_makeGroup 46 = .ok (.goto (-43), 3) := by decide +kernel
theorem dX8_makeGroup_49 : decode cX8_makeGroup 49 = .ok (.iconst 1, 1) := by decide +kernel
theorem dX8_makeGroup_50 : decode cX8_makeGroup 50 = .ok (.istore 4, 2) := by decide +kernel
theorem dX8_makeGroup_52 : decode cX8_makeGroup 52 = .ok (.iload 4, 2) := by decide +kernel
theorem dX8_makeGroup_54 : decode cX8_makeGroup 54 = .ok (.iconst 1, 1) := by decide +kernel
theorem dX8_makeGroup_55 : decode cX8_makeGroup 55 = .ok (.iload_n 3, 1) := by decide +kernel
theorem dX8_makeGroup_56 : decode cX8_makeGroup 56 = .ok (.ishl, 1) := by decide +kernel
theorem dX8_makeGroup_57 : decode cX8_makeGroup 57 = .ok (.if_icmp .ge 271, 3) := by decide +kernel
theorem dX8_makeGroup_60 : decode cX8_makeGroup 60 = .ok (.aload_n 0, 1) := by decide +kernel
theorem dX8_makeGroup_61 : decode cX8_makeGroup 61 = .ok (.getfield 91, 3) := by decide +kernel
theorem dX8_makeGroup_64 : decode cX8_makeGroup 64 = .ok (.ifCond .ne 264, 3) := by decide +kernel
theorem dX8_makeGroup_67 : decode cX8_makeGroup 67 = .ok (.aload_n 0, 1) := by decide +kernel
theorem dX8_makeGroup_68 : decode cX8_makeGroup 68 = .ok (.sipush 1360, 3) := by decide +kernel
theorem dX8_makeGroup_71 : decode cX8_makeGroup 71 = .ok (.invokevirtual 103, 3) := by decide +kernel
theorem dX8_makeGroup_74 : decode cX8_makeGroup 74 = .ok (.iconst 0, 1) := by decide +kernel
theorem dX8_makeGroup_75 : decode cX8_makeGroup 75 = .ok (.istore 5, 2) := by decide +kernel
theorem dX8_makeGroup_77 : decode cX8_makeGroup 77 = .ok (.iconst 0, 1) := by decide +kernel
theorem dX8_makeGroup_78 : decode cX8_makeGroup 78 = .ok (.istore 6, 2) := by decide +kernel
theorem dX8_makeGroup_80 : decode cX8_makeGroup 80 = .ok (.iconst 0, 1) := by decide +kernel
theorem dX8_makeGroup_81 : decode cX8_makeGroup 81 = .ok (.istore 7, 2) := by decide +kernel
theorem dX8_makeGroup_83 : decode cX8_makeGroup 83 = .ok (.iconst 0, 1) := by decide +kernel
theorem dX8_makeGroup_84 : decode cX8_makeGroup 84 = .ok (.istore 8, 2) := by decide +kernel
theorem dX8_makeGroup_86 : decode cX8_makeGroup 86 = .ok (.iconst 0, 1) := by decide +kernel
theorem dX8_makeGroup_87 : decode cX8_makeGroup 87 = .ok (.istore 9, 2) := by decide +kernel
theorem dX8_makeGroup_89 : decode cX8_makeGroup 89 = .ok (.iload 9, 2) := by decide +kernel
theorem dX8_makeGroup_91 : decode cX8_makeGroup 91 = .ok (.iload_n 3, 1) := by decide +kernel
theorem dX8_makeGroup_92 : decode cX8_makeGroup 92 = .ok (.if_icmp .ge 147, 3) := by decide +kernel
theorem dX8_makeGroup_95 : decode cX8_makeGroup 95 = .ok (.aload_n 0, 1) := by decide +kernel
theorem dX8_makeGroup_96 : decode cX8_makeGroup 96 = .ok (.getfield 91, 3) := by decide +kernel
theorem dX8_makeGroup_99 : decode cX8_makeGroup 99 = .ok (.ifCond .ne 140, 3) := by decide +kernel
theorem dX8_makeGroup_102 : decode cX8_makeGroup 102 = .ok (.iload 4, 2) := by decide +kernel
theorem dX8_makeGroup_104 : decode cX8_makeGroup 104 = .ok (.iload 9, 2) := by decide +kernel
theorem dX8_makeGroup_106 : decode cX8_makeGroup 106 = .ok (.ishr, 1) := by decide +kernel
theorem dX8_makeGroup_107 : decode cX8_makeGroup 107 = .ok (.iconst 1, 1) := by decide +kernel
theorem dX8_makeGroup_108 : decode cX8_makeGroup 108 = .ok (.iand, 1) := by decide +kernel
theorem dX8_makeGroup_109 : decode cX8_makeGroup 109 = .ok (.iconst 1, 1) := by decide +kernel
theorem dX8_makeGroup_110 : decode cX8_makeGroup 110 = .ok (.if_icmp .ne 7, 3) := by decide +kernel
theorem dX8_makeGroup_113 : decode cX8_makeGroup 113 = .ok (.iconst 1, 1) := by decide +kernel
theorem dX8_makeGroup_114 : decode cX8_makeGroup 114 = .ok (.goto 4, 3) := by decide +kernel
theorem dX8_makeGroup_117 : decode cX8_makeGroup 117 = .ok (.iconst 0, 1) := by decide +kernel
theorem dX8_makeGroup_118 : decode cX8_makeGroup 118 = .ok (.istore 10, 2) := by decide +kernel
theorem dX8_makeGroup_120 : decode cX8_makeGroup 120 = .ok (.aload_n 0, 1) := by decide +kernel
theorem dX8_makeGroup_121 : decode cX8_makeGroup 121 = .ok (.sipush 1360, 3) := by decide +kernel
theorem dX8_makeGroup_124 : decode cX8_makeGroup 124 = .ok (.sipush 1360, 3) := by decide +kernel
theorem dX8_makeGroup_127 : decode cX8_makeGroup 127 = .ok (.iload 10, 2) := by decide +kernel
theorem dX8_makeGroup_129 : decode cX8_makeGroup 129 = .ok (.ifCond .eq 18, 3) := by decide +kernel
theorem dX8_makeGroup_132 : decode cX8_makeGroup 132 = .ok (.bipush 80, 2) := by decide +kernel
theorem dX8_makeGroup_134 : decode cX8_makeGroup 134 = .ok (.iload_n 2, 1) := by decide +kernel
theorem dX8_makeGroup_135 : decode cX8_makeGroup 135 = .ok (.imul, 1) := by decide +kernel
theorem dX8_makeGroup_136 : decode cX8_makeGroup 136 = .ok (.aload_n 0, 1) := by decide +kernel
theorem dX8_makeGroup_137 : decode cX8_makeGroup 137 = .ok (.getfield 72, 3) := by decide +kernel
theorem dX8_makeGroup_140 : decode cX8_makeGroup 140 = .ok (.iload 9, 2) := by decide +kernel
theorem dX8_makeGroup_142 : decode cX8_makeGroup 142 = .ok (.iaload, 1) := by decide +kernel
theorem dX8_makeGroup_143 : decode cX8_makeGroup 143 = .ok (.iadd, 1) := by decide +kernel
theorem dX8_makeGroup_144 : decode cX8_makeGroup 144 = .ok (.goto 9, 3) := by decide +kernel
theorem dX8_makeGroup_147 : decode cX8_makeGroup 147 = .ok (.sipush 1362, 3) := by decide +kernel
theorem dX8_makeGroup_150 : decode cX8_makeGroup 150 = .ok (.iload 9, 2) := by decide +kernel
theorem dX8_makeGroup_152 : decode cX8_makeGroup 152 = .ok (.iadd, 1) := by decide +kernel
theorem dX8_makeGroup_153 : decode cX8_makeGroup 153 = .ok (.invokevirtual 184, 3) := by decide +kernel
theorem dX8_makeGroup_156 : decode cX8_makeGroup 156 = .ok (.aload_n 0, 1) := by decide +kernel
theorem dX8_makeGroup_157 : decode cX8_makeGroup 157 = .ok (.iload_n 2, 1) := by decide +kernel
theorem dX8_makeGroup_158 : decode cX8_makeGroup 158 = .ok (.aload_n 0, 1) := by decide +kernel
theorem dX8_makeGroup_159 : decode cX8_makeGroup 159 = .ok (.getfield 72, 3) := by decide +kernel
theorem dX8_makeGroup_162 : decode cX8_makeGroup 162 = .ok (.iload 9, 2) := by decide +kernel
theorem dX8_makeGroup_164 : decode cX8_makeGroup 164 = .ok (.iaload, 1) := by decide +kernel
theorem dX8_makeGroup_165 : decode cX8_makeGroup 165 = .ok (.aload_n 0, 1) := by decide +kernel
theorem dX8_makeGroup_166 : decode cX8_makeGroup 166 = .ok (.getfield 31, 3) := by decide +kernel
theorem dX8_makeGroup_169 : decode cX8_makeGroup 169 = .ok (.iload_n 1, 1) := by decide +kernel
theorem dX8_makeGroup_170 : decode cX8_makeGroup 170 = .ok (.iaload, 1) := by decide +kernel
theorem dX8_makeGroup_171 : decode cX8_makeGroup 171 = .ok (.invokevirtual 138, 3) := by decide +kernel
theorem dX8_makeGroup_174 : decode cX8_makeGroup 174 = .ok (.istore 11, 2) := by decide +kernel
theorem dX8_makeGroup_176 : decode cX8_makeGroup 176 = .ok (.iload 10, 2) := by decide +kernel
theorem dX8_makeGroup_178 : decode cX8_makeGroup 178 = .ok (.ifCond .eq 55, 3) := by decide +kernel
theorem dX8_makeGroup_181 : decode cX8_makeGroup 181 = .ok (.iload 5, 2) := by decide +kernel
theorem dX8_makeGroup_183 : decode cX8_makeGroup 183 = .ok (.ifCond .eq 10, 3) := by decide +kernel
theorem dX8_makeGroup_186 : decode cX8_makeGroup 186 = .ok (.iload 11, 2) := by decide +kernel
theorem dX8_makeGroup_188 : decode cX8_makeGroup 188 = .ok (.iload 7, 2) := by decide +kernel
theorem dX8_makeGroup_190 : decode cX8_makeGroup 190 = .ok (.if_icmp .ge 8, 3) := by decide +kernel
theorem dX8_makeGroup_193 : decode cX8_makeGroup 193 = .ok (.iload 11, 2) := by decide +kernel
theorem dX8_makeGroup_195 : decode cX8_makeGroup 195 = .ok (.goto 5, 3) := by decide +kernel
theorem dX8_makeGroup_198 : decode cX8_makeGroup 198 = .ok (.iload 7, 2) := by decide +kernel
theorem dX8_makeGroup_200 : decode cX8_makeGroup 200 = .ok (.istore 7, 2) := by decide +kernel
theorem dX8_makeGroup_202 : decode cX8_makeGroup 202 = .ok (.iload 5, 2) := by decide +kernel
theorem dX8_makeGroup_204 : decode cX8_makeGroup 204 = .ok (.ifCond .eq 10, 3) := by decide +kernel
theorem dX8_makeGroup_207 : decode cX8_makeGroup 207 = .ok (.iload 11, 2) := by decide +kernel
theorem dX8_makeGroup_209 : decode cX8_makeGroup 209 = .ok (.iload 8, 2) := by decide +kernel
theorem dX8_makeGroup_211 : decode cX8_makeGroup 211 = .ok (.if_icmp .le 8, 3) := by decide +kernel
theorem dX8_makeGroup_214 : decode cX8_makeGroup 214 = .ok (.iload 11, 2) := by decide +kernel
theorem dX8_makeGroup_216 : decode cX8_makeGroup 216 = .ok (.goto 5, 3) := by decide +kernel
theorem dX8_makeGroup_219 : decode cX8_makeGroup 219 = .ok (.iload 8, 2) := by decide +kernel
theorem dX8_makeGroup_221 : decode cX8_makeGroup 221 = .ok (.istore 8, 2) := by decide +kernel
theorem dX8_makeGroup_223 : decode cX8_makeGroup 223 = .ok (.iload 6, 2) := by decide +kernel
theorem dX8_makeGroup_225 : decode cX8_makeGroup 225 = .ok (.iload 11, 2) := by decide +kernel
theorem dX8_makeGroup_227 : decode cX8_makeGroup 227 = .ok (.iadd, 1) := by decide +kernel
theorem dX8_makeGroup_228 : decode cX8_makeGroup 228 = .ok (.istore 6, 2) := by decide +kernel
theorem dX8_makeGroup_230 : decode cX8_makeGroup 230 = .ok (.iinc 5 1, 3) := by decide +kernel
theorem dX8_makeGroup_233 : decode cX8_makeGroup 233 = .ok (.iinc 9 1, 3) := by decide +kernel
theorem dX8_makeGroup_236 : decode cX8_makeGroup 236 = .ok (.goto (-147), 3) := by decide +kernel
theorem dX8_makeGroup_239 : decode cX8_makeGroup 239 = .ok (.aload_n 0, 1) := by decide +kernel
theorem dX8_makeGroup_240 : decode cX8_makeGroup 240 = .ok (.getfield 69, 3) := by decide +kernel
theorem dX8_makeGroup_243 : decode cX8_makeGroup 243 = .ok (.iconst 0, 1) := by decide +kernel
theorem dX8_makeGroup_244 : decode cX8_makeGroup 244 = .ok (.aload_n 0, 1) := by decide +kernel
theorem dX8_makeGroup_245 : decode cX8_makeGroup 245 = .ok (.iload_n 2, 1) := by decide +kernel
theorem dX8_makeGroup_246 : decode cX8_makeGroup 246 = .ok (.aload_n 0, 1) := by decide +kernel
theorem dX8_makeGroup_247 : decode cX8_makeGroup 247 = .ok (.getfield 72, 3) := by decide +kernel
theorem dX8_makeGroup_250 : decode cX8_makeGroup 250 = .ok (.iconst 0, 1) := by decide +kernel
theorem dX8_makeGroup_251 : decode cX8_makeGroup 251 = .ok (.iaload, 1) := by decide +kernel
theorem dX8_makeGroup_252 : decode cX8_makeGroup 252 = .ok (.aload_n 0, 1) := by decide +kernel
theorem dX8_makeGroup_253 : decode cX8_makeGroup 253 = .ok (.getfield 28, 3) := by decide +kernel
theorem dX8_makeGroup_256 : decode cX8_makeGroup 256 = .ok (.iload_n 1, 1) := by decide +kernel
theorem dX8_makeGroup_257 : decode cX8_makeGroup 257 = .ok (.iaload, 1) := by decide +kernel
theorem dX8_makeGroup_258 : decode cX8_makeGroup 258 = .ok (.invokevirtual 138, 3) := by decide +kernel
theorem dX8_makeGroup_261 : decode cX8_makeGroup 261 = .ok (.iastore, 1) := by decide +kernel
theorem dX8_makeGroup_262 : decode cX8_makeGroup 262 = .ok (.aload_n 0, 1) := by decide +kernel
theorem dX8_makeGroup_263 : decode cX8_makeGroup 263 = .ok (.getfield 69, 3) := by decide +kernel
theorem dX8_makeGroup_266 : decode cX8_makeGroup 266 = .ok (.iconst 1, 1) := by decide +kernel
theorem dX8_makeGroup_267 : decode cX8_makeGroup 267 = .ok (.aload_n 0, 1) := by decide +kernel
theorem dX8_makeGroup_268 : decode cX8_makeGroup 268 = .ok (.getfield 34, 3) := by decide +kernel
theorem dX8_makeGroup_271 : decode cX8_makeGroup 271 = .ok (.iload_n 1, 1) := by decide +kernel
theorem dX8_makeGroup_272 : decode cX8_makeGroup 272 = .ok (.iaload, 1) := by decide +kernel
theorem dX8_makeGroup_273 : decode cX8_makeGroup 273 = .ok (.ifCond .ne 8, 3) := by decide +kernel
theorem dX8_makeGroup_276 : decode cX8_makeGroup 276 = .ok (.iload 5, 2) := by decide +kernel
theorem dX8_makeGroup_278 : decode cX8_makeGroup 278 = .ok (.goto 35, 3) := by decide +kernel
theorem dX8_makeGroup_281 : decode cX8_makeGroup 281 = .ok (.aload_n 0, 1) := by decide +kernel
theorem dX8_makeGroup_282 : decode cX8_makeGroup 282 = .ok (.getfield 34, 3) := by decide +kernel
theorem dX8_makeGroup_285 : decode cX8_makeGroup 285 = .ok (.iload_n 1, 1) := by decide +kernel
theorem dX8_makeGroup_286 : decode cX8_makeGroup 286 = .ok (.iaload, 1) := by decide +kernel
theorem dX8_makeGroup_287 : decode cX8_makeGroup 287 = .ok (.iconst 1, 1) := by decide +kernel
theorem dX8_makeGroup_288 : decode cX8_makeGroup 288 = .ok (.if_icmp .ne 8, 3) := by decide +kernel
theorem dX8_makeGroup_291 : decode cX8_makeGroup 291 = .ok (.iload 6, 2) := by decide +kernel
theorem dX8_makeGroup_293 : decode cX8_makeGroup 293 = .ok (.goto 20, 3) := by decide +kernel
theorem dX8_makeGroup_296 : decode cX8_makeGroup 296 = .ok (.aload_n 0, 1) := by decide +kernel
theorem dX8_makeGroup_297 : decode cX8_makeGroup 297 = .ok (.getfield 34, 3) := by decide +kernel
theorem dX8_makeGroup_300 : decode cX8_makeGroup 300 = .ok (.iload_n 1, 1) := by decide +kernel
theorem dX8_makeGroup_301 : decode cX8_makeGroup 301 = .ok (.iaload, 1) := by decide +kernel
theorem dX8_makeGroup_302 : decode cX8_makeGroup 302 = .ok (.iconst 2, 1) := by decide +kernel
theorem dX8_makeGroup_303 : decode cX8_makeGroup 303 = .ok (.if_icmp .ne 8, 3) := by decide +kernel
theorem dX8_makeGroup_306 : decode cX8_makeGroup 306 = .ok (.iload 7, 2) := by decide +kernel
theorem dX8_makeGroup_308 : decode cX8_makeGroup 308 = .ok (.goto 5, 3) := by decide +kernel
theorem dX8_makeGroup_311 : decode cX8_makeGroup 311 = .ok (.iload 8, 2) := by decide +kernel
theorem dX8_makeGroup_313 : decode cX8_makeGroup 313 = .ok (.iastore, 1) := by decide +kernel
theorem dX8_makeGroup_314 : decode cX8_makeGroup 314 = .ok (.aload_n 0, 1) := by decide +kernel
theorem dX8_makeGroup_315 : decode cX8_makeGroup 315 = .ok (.iload_n 1, 1) := by decide +kernel
theorem dX8_makeGroup_316 : decode cX8_makeGroup 316 = .ok (.sipush 1360, 3) := by decide +kernel
theorem dX8_makeGroup_319 : decode cX8_makeGroup 319 = .ok (.invokevirtual 178, 3) := by decide +kernel
theorem dX8_makeGroup_322 : decode cX8_makeGroup 322 = .ok (.iinc 4 1, 3) := by decide +kernel
theorem dX8_makeGroup_325 : decode cX8_makeGroup 325 = .ok (.goto (-273), 3) := by decide +kernel
theorem dX8_makeGroup_328 : decode cX8_makeGroup 328 = .ok (.return_, 1) := by decide +kernel
theorem dX8_run_0 : decode cX8_run 0 = .ok (.aload_n 0, 1) := by decide +kernel
theorem dX8_run_1 : decode cX8_run 1 = .ok (.iconst 0, 1) := by decide +kernel
theorem dX8_run_2 : decode cX8_run 2 = .ok (.putfield 78, 3) := by decide +kernel
theorem dX8_run_5 : decode cX8_run 5 = .ok (.aload_n 0, 1) := by decide +kernel
theorem dX8_run_6 : decode cX8_run 6 = .ok (.iload_n 1, 1) := by decide +kernel
theorem dX8_run_7 : decode cX8_run 7 = .ok (.invokevirtual 126, 3) := by decide +kernel
theorem dX8_run_10 : decode cX8_run 10 = .ok (.ifCond .ne 5, 3) := by decide +kernel
theorem dX8_run_13 : decode cX8_run 13 = .ok (.iconst (-1), 1) := by decide +kernel
theorem dX8_run_14 : decode cX8_run 14 = .ok (.ireturn, 1) := by decide +kernel
theorem dX8_run_15 : decode cX8_run 15 = .ok (.aload_n 0, 1) := by decide +kernel
theorem dX8_run_16 : decode cX8_run 16 = .ok (.iconst 0, 1) := by decide +kernel
theorem dX8_run_17 : decode cX8_run 17 = .ok (.putfield 91, 3) := by decide +kernel
theorem dX8_run_20 : decode cX8_run 20 = .ok (.iconst 0, 1) := by decide +kernel
theorem dX8_run_21 : decode cX8_run 21 = .ok (.istore_n 2, 1) := by decide +kernel
theorem dX8_run_22 : decode cX8_run 22 = .ok (.iload_n 2, 1) := by decide +kernel
theorem dX8_run_23 : decode cX8_run 23 = .ok (.bipush 16, 2) := by decide +kernel
theorem dX8_run_25 : decode cX8_run 25 = .ok (.if_icmp .ge 16, 3) := by decide +kernel
theorem dX8_run_28 : decode cX8_run 28 = .ok (.aload_n 0, 1) := by decide +kernel
theorem dX8_run_29 : decode cX8_run 29 = .ok (.getfield 49, 3) := by decide +kernel
theorem dX8_run_32 : decode cX8_run 32 = .ok (.iload_n 2, 1) := by decide +kernel
theorem dX8_run_33 : decode cX8_run 33 = .ok (.iconst 0, 1) := by decide +kernel
theorem dX8_run_34 : decode cX8_run 34 = .ok (.bastore, 1) := by decide +kernel
theorem dX8_run_35 : decode cX8_run 35 = .ok (.iinc 2 1, 3) := by decide +kernel
theorem dX8_run_38 : decode cX8_run 38 = .ok (.goto (-16), 3) := by decide +kernel
theorem dX8_run_41 : decode cX8_run 41 = .ok (.aload_n 0, 1) := by decide +kernel
theorem dX8_run_42 : decode cX8_run 42 = .ok (.getfield 49, 3) := by decide +kernel
theorem dX8_run_45 : decode cX8_run 45 = .ok (.iload_n 1, 1) := by decide +kernel
theorem dX8_run_46 : decode cX8_run 46 = .ok (.iconst 1, 1) := by decide +kernel
theorem dX8_run_47 : decode cX8_run 47 = .ok (.bastore, 1) := by decide +kernel
theorem dX8_run_48 : decode cX8_run 48 = .ok (.iload_n 1, 1) := by decide +kernel
theorem dX8_run_49 : decode cX8_run 49 = .ok (.istore_n 2, 1) := by decide +kernel
theorem dX8_run_50 : decode cX8_run 50 = .ok (.iload_n 2, 1) := by decide +kernel
theorem dX8_run_51 : decode cX8_run 51 = .ok (.ifCond .lt 81, 3) := by decide +kernel
theorem dX8_run_54 : decode cX8_run 54 = .ok (.aload_n 0, 1) := by decide +kernel
theorem dX8_run_55 : decode cX8_run 55 = .ok (.getfield 49, 3) := by decide +kernel
theorem dX8_run_58 : decode cX8_run 58 = .ok (.iload_n 2, 1) := by decide +kernel
theorem dX8_run_59 : decode cX8_run 59 = .ok (.baload, 1) := by decide +kernel
theorem dX8_run_60 : decode cX8_run 60 = .ok (.ifCond .eq 66, 3) := by decide +kernel
theorem dX8_run_63 : decode cX8_run 63 = .ok (.aload_n 0, 1) := by decide +kernel
theorem dX8_run_64 : decode cX8_run 64 = .ok (.getfield 19, 3) := by decide +kernel
theorem dX8_run_67 : decode cX8_run 67 = .ok (.iload_n 2, 1) := by decide +kernel
theorem dX8_run_68 : decode cX8_run 68 = .ok (.iaload, 1) := by decide +kernel
theorem dX8_run_69 : decode cX8_run 69 = .ok (.ifCond .eq 57, 3) := by decide +kernel
theorem dX8_run_72 : decode cX8_run 72 = .ok (.aload_n 0, 1) := by decide +kernel
theorem dX8_run_73 : decode cX8_run 73 = .ok (.getfield 49, 3) := by decide +kernel
theorem dX8_run_76 : decode cX8_run 76 = .ok (.aload_n 0, 1) := by decide +kernel
theorem dX8_run_77 : decode cX8_run 77 = .ok (.getfield 22, 3) := by decide +kernel
theorem dX8_run_80 : decode cX8_run 80 = .ok (.iload_n 2, 1) := by decide +kernel
theorem dX8_run_81 : decode cX8_run 81 = .ok (.iaload, 1) := by decide +kernel
theorem dX8_run_82 : decode cX8_run 82 = .ok (.iconst 1, 1) := by decide +kernel
theorem dX8_run_83 : decode cX8_run 83 = .ok (.bastore, 1) := by decide +kernel
theorem dX8_run_84 : decode cX8_run 84 = .ok (.aload_n 0, 1) := by decide +kernel
theorem dX8_run_85 : decode cX8_run 85 = .ok (.getfield 19, 3) := by decide +kernel
theorem dX8_run_88 : decode cX8_run 88 = .ok (.iload_n 2, 1) := by decide +kernel
theorem dX8_run_89 : decode cX8_run 89 = .ok (.iaload, 1) := by decide +kernel
theorem dX8_run_90 : decode cX8_run 90 = .ok (.iconst 3, 1) := by decide +kernel
theorem dX8_run_91 : decode cX8_run 91 = .ok (.if_icmp .eq 23, 3) := by decide +kernel
theorem dX8_run_94 : decode cX8_run 94 = .ok (.aload_n 0, 1) := by decide +kernel
theorem dX8_run_95 : decode cX8_run 95 = .ok (.getfield 19, 3) := by decide +kernel
theorem dX8_run_98 : decode cX8_run 98 = .ok (.iload_n 2, 1) := by decide +kernel
theorem dX8_run_99 : decode cX8_run 99 = .ok (.iaload, 1) := by decide +kernel
theorem dX8_run_100 : decode cX8_run 100 = .ok (.iconst 4, 1) := by decide +kernel
theorem dX8_run_101 : decode cX8_run 101 = .ok (.if_icmp .eq 13, 3) := by decide +kernel
theorem dX8_run_104 : decode cX8_run 104 = .ok (.aload_n 0, 1) := by decide +kernel
theorem dX8_run_105 : decode cX8_run 105 = .ok (.getfield 19, 3) := by decide +kernel
theorem dX8_run_108 : decode cX8_run 108 = .ok (.iload_n 2, 1) := by decide +kernel
theorem dX8_run_109 : decode cX8_run 109 = .ok (.iaload, 1) := by decide +kernel
theorem dX8_run_110 : decode cX8_run 110 = .ok (.iconst 5, 1) := by decide +kernel
theorem dX8_run_111 : decode cX8_run 111 = .ok (.if_icmp .ne 15, 3) := by decide +kernel
theorem dX8_run_114 : decode cX8_run 114 = .ok (.aload_n 0, 1) := by decide +kernel
theorem dX8_run_115 : decode cX8_run 115 = .ok (.getfield 49, 3) := by decide +kernel
theorem dX8_run_118 : decode cX8_run 118 = .ok (.aload_n 0, 1) := by decide +kernel
theorem dX8_run_119 : decode cX8_run 119 = .ok (.getfield 25, 3) := by decide +kernel
theorem dX8_run_122 : decode cX8_run 122 = .ok (.iload_n 2, 1) := by decide +kernel
theorem dX8_run_123 : decode cX8_run 123 = .ok (.iaload, 1) := by decide +kernel
theorem dX8_run_124 : decode cX8_run 124 = .ok (.iconst 1, 1) := by decide +kernel
theorem dX8_run_125 : decode cX8_run 125 = .ok (.bastore, 1) := by decide +kernel
theorem dX8_run_126 : decode cX8_run 126 = .ok (.iinc 2 (-1), 3) := by decide +kernel
theorem dX8_run_129 : decode cX8_run 129 = .ok (.goto (-79), 3) := by decide +kernel
theorem dX8_run_132 : decode cX8_run 132 = .ok (.iconst 0, 1) := by decide +kernel
theorem dX8_run_133 : decode cX8_run 133 = .ok (.istore_n 2, 1) := by decide +kernel
theorem dX8_run_134 : decode cX8_run 134 = .ok (.iload_n 2, 1) := by decide +kernel
theorem dX8_run_135 : decode cX8_run 135 = .ok (.iload_n 1, 1) := by decide +kernel
theorem dX8_run_136 : decode cX8_run 136 = .ok (.if_icmp .gt 30, 3) := by decide +kernel
theorem dX8_run_139 : decode cX8_run 139 = .ok (.aload_n 0, 1) := by decide +kernel
theorem dX8_run_140 : decode cX8_run 140 = .ok (.getfield 91, 3) := by decide +kernel
theorem dX8_run_143 : decode cX8_run 143 = .ok (.ifCond .ne 23, 3) := by decide +kernel
theorem dX8_run_146 : decode cX8_run 146 = .ok (.aload_n 0, 1) := by decide +kernel
theorem dX8_run_147 : decode cX8_run 147 = .ok (.getfield 49, 3) := by decide +kernel
theorem dX8_run_150 : decode cX8_run 150 = .ok (.iload_n 2, 1) := by decide +kernel
theorem dX8_run_151 : decode cX8_run 151 = .ok (.baload, 1) := by decide +kernel
theorem dX8_run_152 : decode cX8_run 152 = .ok (.ifCond .eq 8, 3) := by decide +kernel
theorem dX8_run_155 : decode cX8_run 155 = .ok (.aload_n 0, 1) := by decide +kernel
theorem dX8_run_156 : decode cX8_run 156 = .ok (.iload_n 2, 1) := by decide +kernel
theorem dX8_run_157 : decode cX8_run 157 = .ok (.invokevirtual 193, 3) := by decide +kernel
theorem dX8_run_160 : decode cX8_run 160 = .ok (.iinc 2 1, 3) := by decide +kernel
theorem dX8_run_163 : decode cX8_run 163 = .ok (.goto (-29), 3) := by decide +kernel
theorem dX8_run_166 : decode cX8_run 166 = .ok (.aload_n 0, 1) := by decide +kernel
theorem dX8_run_167 : decode cX8_run 167 = .ok (.getfield 91, 3) := by decide +kernel
theorem dX8_run_170 : decode cX8_run 170 = .ok (.ifCond .eq 6, 3) := by decide +kernel
theorem dX8_run_173 : decode cX8_run 173 = .ok (.bipush (-4), 2) := by decide +kernel
theorem dX8_run_175 : decode cX8_run 175 = .ok (.ireturn, 1) := by decide +kernel
theorem dX8_run_176 : decode cX8_run 176 = .ok (.aload_n 0, 1) := by decide +kernel
theorem dX8_run_177 : decode cX8_run 177 = .ok (.getfield 46, 3) := by decide +kernel
theorem dX8_run_180 : decode cX8_run 180 = .ok (.bipush 16, 2) := by decide +kernel
theorem dX8_run_182 : decode cX8_run 182 = .ok (.aload_n 0, 1) := by decide +kernel
theorem dX8_run_183 : decode cX8_run 183 = .ok (.getfield 46, 3) := by decide +kernel
theorem dX8_run_186 : decode cX8_run 186 = .ok (.iload_n 1, 1) := by decide +kernel
theorem dX8_run_187 : decode cX8_run 187 = .ok (.iaload, 1) := by decide +kernel
theorem dX8_run_188 : decode cX8_run 188 = .ok (.iastore, 1) := by decide +kernel
theorem dX8_run_189 : decode cX8_run 189 = .ok (.aload_n 0, 1) := by decide +kernel
theorem dX8_run_190 : decode cX8_run 190 = .ok (.aload_n 0, 1) := by decide +kernel
theorem dX8_run_191 : decode cX8_run 191 = .ok (.getfield 40, 3) := by decide +kernel
theorem dX8_run_194 : decode cX8_run 194 = .ok (.iload_n 1, 1) := by decide +kernel
theorem dX8_run_195 : decode cX8_run 195 = .ok (.iaload, 1) := by decide +kernel
theorem dX8_run_196 : decode cX8_run 196 = .ok (.putfield 196, 3) := by decide +kernel
theorem dX8_run_199 : decode cX8_run 199 = .ok (.iconst 0, 1) := by decide +kernel
theorem dX8_run_200 : decode cX8_run 200 = .ok (.istore_n 2, 1) := by decide +kernel
theorem dX8_run_201 : decode cX8_run 201 = .ok (.iload_n 2, 1) := by decide +kernel
theorem dX8_run_202 : decode cX8_run 202 = .ok (.aload_n 0, 1) := by decide +kernel
theorem dX8_run_203 : decode cX8_run 203 = .ok (.getfield 46, 3) := by decide +kernel
theorem dX8_run_206 : decode cX8_run 206 = .ok (.iload_n 1, 1) := by decide +kernel
theorem dX8_run_207 : decode cX8_run 207 = .ok (.iaload, 1) := by decide +kernel
theorem dX8_run_208 : decode cX8_run 208 = .ok (.if_icmp .ge 60, 3) := by decide +kernel
theorem dX8_run_211 : decode cX8_run 211 = .ok (.iconst 0, 1) := by decide +kernel
theorem dX8_run_212 : decode cX8_run 212 = .ok (.istore_n 3, 1) := by decide +kernel
theorem dX8_run_213 : decode cX8_run 213 = .ok (.iload_n 3, 1) := by decide +kernel
theorem dX8_run_214 : decode cX8_run 214 = .ok (.bipush 6, 2) := by decide +kernel
theorem dX8_run_216 : decode cX8_run 216 = .ok (.if_icmp .ge 31, 3) := by decide +kernel
theorem dX8_run_219 : decode cX8_run 219 = .ok (.aload_n 0, 1) := by decide +kernel
theorem dX8_run_220 : decode cX8_run 220 = .ok (.getfield 43, 3) := by decide +kernel
theorem dX8_run_223 : decode cX8_run 223 = .ok (.sipush 1280, 3) := by decide +kernel
theorem dX8_run_226 : decode cX8_run 226 = .ok (.iload_n 2, 1) := by decide +kernel
theorem dX8_run_227 : decode cX8_run 227 = .ok (.iadd, 1) := by decide +kernel
theorem dX8_run_228 : decode cX8_run 228 = .ok (.bipush 6, 2) := by decide +kernel
theorem dX8_run_230 : decode cX8_run 230 = .ok (.imul, 1) := by decide +kernel
theorem dX8_run_231 : decode cX8_run 231 = .ok (.iload_n 3, 1) := by decide +kernel
theorem dX8_run_232 : decode cX8_run 232 = .ok (.iadd, 1) := by decide +kernel
theorem dX8_run_233 : decode cX8_run 233 = .ok (.aload_n 0, 1) := by decide +kernel
theorem dX8_run_234 : decode cX8_run 234 = .ok (.iload_n 1, 1) := by decide +kernel
theorem dX8_run_235 : decode cX8_run 235 = .ok (.iload_n 2, 1) := by decide +kernel
theorem dX8_run_236 : decode cX8_run 236 = .ok (.iload_n 3, 1) := by decide +kernel
theorem dX8_run_237 : decode cX8_run 237 = .ok (.invokevirtual 138, 3) := by decide +kernel
theorem dX8_run_240 : decode cX8_run 240 = .ok (.iastore, 1) := by decide +kernel
theorem dX8_run_241 : decode cX8_run 241 = .ok (.iinc 3 1, 3) := by decide +kernel
theorem dX8_run_244 : decode cX8_run 244 = .ok (.goto (-31), 3) := by decide +kernel
theorem dX8_run_247 : decode cX8_run 247 = .ok (.aload_n 0, 1) := by decide +kernel
theorem dX8_run_248 : decode cX8_run 248 = .ok (.sipush 1280, 3) := by decide +kernel
theorem dX8_run_251 : decode cX8_run 251 = .ok (.iload_n 2, 1) := by decide +kernel
theorem dX8_run_252 : decode cX8_run 252 = .ok (.iadd, 1) := by decide +kernel
theorem dX8_run_253 : decode cX8_run 253 = .ok (.bipush 80, 2) := by decide +kernel
theorem dX8_run_255 : decode cX8_run 255 = .ok (.iload_n 1, 1) := by decide +kernel
theorem dX8_run_256 : decode cX8_run 256 = .ok (.imul, 1) := by decide +kernel
theorem dX8_run_257 : decode cX8_run 257 = .ok (.iload_n 2, 1) := by decide +kernel
theorem dX8_run_258 : decode cX8_run 258 = .ok (.iadd, 1) := by decide +kernel
theorem dX8_run_259 : decode cX8_run 259 = .ok (.invokevirtual 153, 3) := by decide +kernel
theorem dX8_run_262 : decode cX8_run 262 = .ok (.iinc 2 1, 3) := by decide +kernel
theorem dX8_run_265 : decode cX8_run 265 = .ok (.goto (-64), 3) := by decide +kernel
theorem dX8_run_268 : decode cX8_run 268 = .ok (.aload_n 0, 1) := by decide +kernel
theorem dX8_run_269 : decode cX8_run 269 = .ok (.getfield 46, 3) := by decide +kernel
theorem dX8_run_272 : decode cX8_run 272 = .ok (.iload_n 1, 1) := by decide +kernel
theorem dX8_run_273 : decode cX8_run 273 = .ok (.iaload, 1) := by decide +kernel
theorem dX8_run_274 : decode cX8_run 274 = .ok (.ireturn, 1) := by decide +kernel
theorem dX8_isTuple_0 : decode cX8_isTuple 0 = .ok (.iload_n 1, 1) := by decide +kernel
theorem dX8_isTuple_1 : decode cX8_isTuple 1 = .ok (.ifCond .lt 18, 3) := by decide +kernel
theorem dX8_isTuple_4 : decode cX8_isTuple 4 = .ok (.iload_n 1, 1) := by decide +kernel
theorem dX8_isTuple_5 : decode cX8_isTuple 5 = .ok (.aload_n 0, 1) := by decide +kernel
theorem dX8_isTuple_6 : decode cX8_isTuple 6 = .ok (.getfield 46, 3) := by decide +kernel
theorem dX8_isTuple_9 : decode cX8_isTuple 9 = .ok (.bipush 16, 2) := by decide +kernel
theorem dX8_isTuple_11 : decode cX8_isTuple 11 = .ok (.iaload, 1) := by decide +kernel
theorem dX8_isTuple_12 : decode cX8_isTuple 12 = .ok (.if_icmp .ge 7, 3) := by decide +kernel
theorem dX8_isTuple_15 : decode cX8_isTuple 15 = .ok (.iconst 1, 1) := by decide +kernel
theorem dX8_isTuple_16 : decode cX8_isTuple 16 = .ok (.goto 4, 3) := by decide +kernel
theorem dX8_isTuple_19 : decode cX8_isTuple 19 = .ok (.iconst 0, 1) := by decide +kernel
theorem dX8_isTuple_20 : decode cX8_isTuple 20 = .ok (.ireturn, 1) := by decide +kernel
theorem dX8_cell_0 : decode cX8_cell 0 = .ok (.aload_n 0, 1) := by decide +kernel
theorem dX8_cell_1 : decode cX8_cell 1 = .ok (.iconst 0, 1) := by decide +kernel
theorem dX8_cell_2 : decode cX8_cell 2 = .ok (.putfield 78, 3) := by decide +kernel
theorem dX8_cell_5 : decode cX8_cell 5 = .ok (.aload_n 0, 1) := by decide +kernel
theorem dX8_cell_6 : decode cX8_cell 6 = .ok (.iload_n 1, 1) := by decide +kernel
theorem dX8_cell_7 : decode cX8_cell 7 = .ok (.invokevirtual 199, 3) := by decide +kernel
theorem dX8_cell_10 : decode cX8_cell 10 = .ok (.ifCond .eq 15, 3) := by decide +kernel
theorem dX8_cell_13 : decode cX8_cell 13 = .ok (.iload_n 2, 1) := by decide +kernel
theorem dX8_cell_14 : decode cX8_cell 14 = .ok (.ifCond .lt 11, 3) := by decide +kernel
theorem dX8_cell_17 : decode cX8_cell 17 = .ok (.iload_n 2, 1) := by decide +kernel
theorem dX8_cell_18 : decode cX8_cell 18 = .ok (.aload_n 0, 1) := by decide +kernel
theorem dX8_cell_19 : decode cX8_cell 19 = .ok (.getfield 196, 3) := by decide +kernel
theorem dX8_cell_22 : decode cX8_cell 22 = .ok (.if_icmp .lt 10, 3) := by decide +kernel
theorem dX8_cell_25 : decode cX8_cell 25 = .ok (.aload_n 0, 1) := by decide +kernel
theorem dX8_cell_26 : decode cX8_cell 26 = .ok (.iconst 1, 1) := by decide +kernel
theorem dX8_cell_27 : decode cX8_cell 27 = .ok (.putfield 78, 3) := by decide +kernel
theorem dX8_cell_30 : decode cX8_cell 30 = .ok (.iconst 0, 1) := by decide +kernel
theorem dX8_cell_31 : decode cX8_cell 31 = .ok (.ireturn, 1) := by decide +kernel
theorem dX8_cell_32 : decode cX8_cell 32 = .ok (.aload_n 0, 1) := by decide +kernel
theorem dX8_cell_33 : decode cX8_cell 33 = .ok (.bipush 16, 2) := by decide +kernel
theorem dX8_cell_35 : decode cX8_cell 35 = .ok (.iload_n 1, 1) := by decide +kernel
theorem dX8_cell_36 : decode cX8_cell 36 = .ok (.iload_n 2, 1) := by decide +kernel
theorem dX8_cell_37 : decode cX8_cell 37 = .ok (.invokevirtual 138, 3) := by decide +kernel
theorem dX8_cell_40 : decode cX8_cell 40 = .ok (.ireturn, 1) := by decide +kernel
theorem dX8_ways_0 : decode cX8_ways 0 = .ok (.aload_n 0, 1) := by decide +kernel
theorem dX8_ways_1 : decode cX8_ways 1 = .ok (.iconst 0, 1) := by decide +kernel
theorem dX8_ways_2 : decode cX8_ways 2 = .ok (.putfield 78, 3) := by decide +kernel
theorem dX8_ways_5 : decode cX8_ways 5 = .ok (.aload_n 0, 1) := by decide +kernel
theorem dX8_ways_6 : decode cX8_ways 6 = .ok (.iload_n 1, 1) := by decide +kernel
theorem dX8_ways_7 : decode cX8_ways 7 = .ok (.invokevirtual 199, 3) := by decide +kernel
theorem dX8_ways_10 : decode cX8_ways 10 = .ok (.ifCond .eq 16, 3) := by decide +kernel
theorem dX8_ways_13 : decode cX8_ways 13 = .ok (.aload_n 0, 1) := by decide +kernel
theorem dX8_ways_14 : decode cX8_ways 14 = .ok (.getfield 53, 3) := by decide +kernel
theorem dX8_ways_17 : decode cX8_ways 17 = .ok (.sipush 1280, 3) := by decide +kernel
theorem dX8_ways_20 : decode cX8_ways 20 = .ok (.iload_n 1, 1) := by decide +kernel
theorem dX8_ways_21 : decode cX8_ways 21 = .ok (.iadd, 1) := by decide +kernel
theorem dX8_ways_22 : decode cX8_ways 22 = .ok (.iaload, 1) := by decide +kernel
theorem dX8_ways_23 : decode cX8_ways 23 = .ok (.goto 4, 3) := by decide +kernel
theorem dX8_ways_26 : decode cX8_ways 26 = .ok (.iconst (-1), 1) := by decide +kernel
theorem dX8_ways_27 : decode cX8_ways 27 = .ok (.ireturn, 1) := by decide +kernel
theorem dX8_way_0 : decode cX8_way 0 = .ok (.aload_n 0, 1) := by decide +kernel
theorem dX8_way_1 : decode cX8_way 1 = .ok (.iconst 0, 1) := by decide +kernel
theorem dX8_way_2 : decode cX8_way 2 = .ok (.putfield 78, 3) := by decide +kernel
theorem dX8_way_5 : decode cX8_way 5 = .ok (.aload_n 0, 1) := by decide +kernel
theorem dX8_way_6 : decode cX8_way 6 = .ok (.iload_n 1, 1) := by decide +kernel
theorem dX8_way_7 : decode cX8_way 7 = .ok (.invokevirtual 199, 3) := by decide +kernel
theorem dX8_way_10 : decode cX8_way 10 = .ok (.ifCond .eq 21, 3) := by decide +kernel
theorem dX8_way_13 : decode cX8_way 13 = .ok (.iload_n 2, 1) := by decide +kernel
theorem dX8_way_14 : decode cX8_way 14 = .ok (.ifCond .lt 17, 3) := by decide +kernel
theorem dX8_way_17 : decode cX8_way 17 = .ok (.iload_n 2, 1) := by decide +kernel
theorem dX8_way_18 : decode cX8_way 18 = .ok (.aload_n 0, 1) := by decide +kernel
theorem dX8_way_19 : decode cX8_way 19 = .ok (.getfield 53, 3) := by decide +kernel
theorem dX8_way_22 : decode cX8_way 22 = .ok (.sipush 1280, 3) := by decide +kernel
theorem dX8_way_25 : decode cX8_way 25 = .ok (.iload_n 1, 1) := by decide +kernel
theorem dX8_way_26 : decode cX8_way 26 = .ok (.iadd, 1) := by decide +kernel
theorem dX8_way_27 : decode cX8_way 27 = .ok (.iaload, 1) := by decide +kernel
theorem dX8_way_28 : decode cX8_way 28 = .ok (.if_icmp .lt 10, 3) := by decide +kernel
theorem dX8_way_31 : decode cX8_way 31 = .ok (.aload_n 0, 1) := by decide +kernel
theorem dX8_way_32 : decode cX8_way 32 = .ok (.iconst 1, 1) := by decide +kernel
theorem dX8_way_33 : decode cX8_way 33 = .ok (.putfield 78, 3) := by decide +kernel
theorem dX8_way_36 : decode cX8_way 36 = .ok (.lconst 0, 1) := by decide +kernel
theorem dX8_way_37 : decode cX8_way 37 = .ok (.lreturn, 1) := by decide +kernel
theorem dX8_way_38 : decode cX8_way 38 = .ok (.iload_n 3, 1) := by decide +kernel
theorem dX8_way_39 : decode cX8_way 39 = .ok (.ifCond .lt 8, 3) := by decide +kernel
theorem dX8_way_42 : decode cX8_way 42 = .ok (.iload_n 3, 1) := by decide +kernel
theorem dX8_way_43 : decode cX8_way 43 = .ok (.iconst 1, 1) := by decide +kernel
theorem dX8_way_44 : decode cX8_way 44 = .ok (.if_icmp .le 10, 3) := by decide +kernel
theorem dX8_way_47 : decode cX8_way 47 = .ok (.aload_n 0, 1) := by decide +kernel
theorem dX8_way_48 : decode cX8_way 48 = .ok (.iconst 2, 1) := by decide +kernel
theorem dX8_way_49 : decode cX8_way 49 = .ok (.putfield 78, 3) := by decide +kernel
theorem dX8_way_52 : decode cX8_way 52 = .ok (.lconst 0, 1) := by decide +kernel
theorem dX8_way_53 : decode cX8_way 53 = .ok (.lreturn, 1) := by decide +kernel
theorem dX8_way_54 : decode cX8_way 54 = .ok (.sipush 1280, 3) := by decide +kernel
theorem dX8_way_57 : decode cX8_way 57 = .ok (.iload_n 1, 1) := by decide +kernel
theorem dX8_way_58 : decode cX8_way 58 = .ok (.iadd, 1) := by decide +kernel
theorem dX8_way_59 : decode cX8_way 59 = .ok (.istore 4, 2) := by decide +kernel
theorem dX8_way_61 : decode cX8_way 61 = .ok (.iload_n 3, 1) := by decide +kernel
theorem dX8_way_62 : decode cX8_way 62 = .ok (.ifCond .ne 18, 3) := by decide +kernel
theorem dX8_way_65 : decode cX8_way 65 = .ok (.aload_n 0, 1) := by decide +kernel
theorem dX8_way_66 : decode cX8_way 66 = .ok (.getfield 56, 3) := by decide +kernel
theorem dX8_way_69 : decode cX8_way 69 = .ok (.bipush 12, 2) := by decide +kernel
theorem dX8_way_71 : decode cX8_way 71 = .ok (.iload 4, 2) := by decide +kernel
theorem dX8_way_73 : decode cX8_way 73 = .ok (.imul, 1) := by decide +kernel
theorem dX8_way_74 : decode cX8_way 74 = .ok (.iload_n 2, 1) := by decide +kernel
theorem dX8_way_75 : decode cX8_way 75 = .ok (.iadd, 1) := by decide +kernel
theorem dX8_way_76 : decode cX8_way 76 = .ok (.laload, 1) := by decide +kernel
theorem dX8_way_77 : decode cX8_way 77 = .ok (.goto 15, 3) := by decide +kernel
theorem dX8_way_80 : decode cX8_way 80 = .ok (.aload_n 0, 1) := by decide +kernel
theorem dX8_way_81 : decode cX8_way 81 = .ok (.getfield 60, 3) := by decide +kernel
theorem dX8_way_84 : decode cX8_way 84 = .ok (.bipush 12, 2) := by decide +kernel
theorem dX8_way_86 : decode cX8_way 86 = .ok (.iload 4, 2) := by decide +kernel
theorem dX8_way_88 : decode cX8_way 88 = .ok (.imul, 1) := by decide +kernel
theorem dX8_way_89 : decode cX8_way 89 = .ok (.iload_n 2, 1) := by decide +kernel
theorem dX8_way_90 : decode cX8_way 90 = .ok (.iadd, 1) := by decide +kernel
theorem dX8_way_91 : decode cX8_way 91 = .ok (.laload, 1) := by decide +kernel
theorem dX8_way_92 : decode cX8_way 92 = .ok (.lreturn, 1) := by decide +kernel
theorem dX8_drop_0 : decode cX8_drop 0 = .ok (.aload_n 0, 1) := by decide +kernel
theorem dX8_drop_1 : decode cX8_drop 1 = .ok (.iconst 0, 1) := by decide +kernel
theorem dX8_drop_2 : decode cX8_drop 2 = .ok (.putfield 78, 3) := by decide +kernel
theorem dX8_drop_5 : decode cX8_drop 5 = .ok (.iload_n 1, 1) := by decide +kernel
theorem dX8_drop_6 : decode cX8_drop 6 = .ok (.ifCond .lt 11, 3) := by decide +kernel
theorem dX8_drop_9 : decode cX8_drop 9 = .ok (.iload_n 1, 1) := by decide +kernel
theorem dX8_drop_10 : decode cX8_drop 10 = .ok (.aload_n 0, 1) := by decide +kernel
theorem dX8_drop_11 : decode cX8_drop 11 = .ok (.getfield 112, 3) := by decide +kernel
theorem dX8_drop_14 : decode cX8_drop 14 = .ok (.if_icmp .lt 5, 3) := by decide +kernel
theorem dX8_drop_17 : decode cX8_drop 17 = .ok (.iconst (-1), 1) := by decide +kernel
theorem dX8_drop_18 : decode cX8_drop 18 = .ok (.ireturn, 1) := by decide +kernel
theorem dX8_drop_19 : decode cX8_drop 19 = .ok (.aload_n 0, 1) := by decide +kernel
theorem dX8_drop_20 : decode cX8_drop 20 = .ok (.getfield 115, 3) := by decide +kernel
theorem dX8_drop_23 : decode cX8_drop 23 = .ok (.iload_n 1, 1) := by decide +kernel
theorem dX8_drop_24 : decode cX8_drop 24 = .ok (.lshr, 1) := by decide +kernel
theorem dX8_drop_25 : decode cX8_drop 25 = .ok (.lconst 1, 1) := by decide +kernel
theorem dX8_drop_26 : decode cX8_drop 26 = .ok (.land, 1) := by decide +kernel
theorem dX8_drop_27 : decode cX8_drop 27 = .ok (.lconst 0, 1) := by decide +kernel
theorem dX8_drop_28 : decode cX8_drop 28 = .ok (.lcmp, 1) := by decide +kernel
theorem dX8_drop_29 : decode cX8_drop 29 = .ok (.ifCond .ne 7, 3) := by decide +kernel
theorem dX8_drop_32 : decode cX8_drop 32 = .ok (.iconst 1, 1) := by decide +kernel
theorem dX8_drop_33 : decode cX8_drop 33 = .ok (.goto 4, 3) := by decide +kernel
theorem dX8_drop_36 : decode cX8_drop 36 = .ok (.iconst 0, 1) := by decide +kernel
theorem dX8_drop_37 : decode cX8_drop 37 = .ok (.istore_n 3, 1) := by decide +kernel
theorem dX8_drop_38 : decode cX8_drop 38 = .ok (.aload_n 0, 1) := by decide +kernel
theorem dX8_drop_39 : decode cX8_drop 39 = .ok (.iload_n 2, 1) := by decide +kernel
theorem dX8_drop_40 : decode cX8_drop 40 = .ok (.ifCond .eq 18, 3) := by decide +kernel
theorem dX8_drop_43 : decode cX8_drop 43 = .ok (.aload_n 0, 1) := by decide +kernel
theorem dX8_drop_44 : decode cX8_drop 44 = .ok (.getfield 115, 3) := by decide +kernel
theorem dX8_drop_47 : decode cX8_drop 47 = .ok (.lconst 1, 1) := by decide +kernel
theorem dX8_drop_48 : decode cX8_drop 48 = .ok (.iload_n 1, 1) := by decide +kernel
theorem dX8_drop_49 : decode cX8_drop 49 = .ok (.lshl, 1) := by decide +kernel
theorem dX8_drop_50 : decode cX8_drop 50 = .ok (.ldc2_w 85, 3) := by decide +kernel
theorem dX8_drop_53 : decode cX8_drop 53 = .ok (.lxor, 1) := by decide +kernel
theorem dX8_drop_54 : decode cX8_drop 54 = .ok (.land, 1) := by decide +kernel
theorem dX8_drop_55 : decode cX8_drop 55 = .ok (.goto 11, 3) := by decide +kernel
theorem dX8_drop_58 : decode cX8_drop 58 = .ok (.aload_n 0, 1) := by decide +kernel
theorem dX8_drop_59 : decode cX8_drop 59 = .ok (.getfield 115, 3) := by decide +kernel
theorem dX8_drop_62 : decode cX8_drop 62 = .ok (.lconst 1, 1) := by decide +kernel
theorem dX8_drop_63 : decode cX8_drop 63 = .ok (.iload_n 1, 1) := by decide +kernel
theorem dX8_drop_64 : decode cX8_drop 64 = .ok (.lshl, 1) := by decide +kernel
theorem dX8_drop_65 : decode cX8_drop 65 = .ok (.lor, 1) := by decide +kernel
theorem dX8_drop_66 : decode cX8_drop 66 = .ok (.putfield 115, 3) := by decide +kernel
theorem dX8_drop_69 : decode cX8_drop 69 = .ok (.iload_n 3, 1) := by decide +kernel
theorem dX8_drop_70 : decode cX8_drop 70 = .ok (.iload_n 2, 1) := by decide +kernel
theorem dX8_drop_71 : decode cX8_drop 71 = .ok (.if_icmp .ne 7, 3) := by decide +kernel
theorem dX8_drop_74 : decode cX8_drop 74 = .ok (.iconst 0, 1) := by decide +kernel
theorem dX8_drop_75 : decode cX8_drop 75 = .ok (.goto 4, 3) := by decide +kernel
theorem dX8_drop_78 : decode cX8_drop 78 = .ok (.iconst 1, 1) := by decide +kernel
theorem dX8_drop_79 : decode cX8_drop 79 = .ok (.ireturn, 1) := by decide +kernel
theorem dX8_first_0 : decode cX8_first 0 = .ok (.sipush 1280, 3) := by decide +kernel
theorem dX8_first_3 : decode cX8_first 3 = .ok (.iload_n 1, 1) := by decide +kernel
theorem dX8_first_4 : decode cX8_first 4 = .ok (.iadd, 1) := by decide +kernel
theorem dX8_first_5 : decode cX8_first 5 = .ok (.istore 4, 2) := by decide +kernel
theorem dX8_first_7 : decode cX8_first 7 = .ok (.iconst 0, 1) := by decide +kernel
theorem dX8_first_8 : decode cX8_first 8 = .ok (.istore 5, 2) := by decide +kernel
theorem dX8_first_10 : decode cX8_first 10 = .ok (.iload 5, 2) := by decide +kernel
theorem dX8_first_12 : decode cX8_first 12 = .ok (.aload_n 0, 1) := by decide +kernel
theorem dX8_first_13 : decode cX8_first 13 = .ok (.getfield 53, 3) := by decide +kernel
theorem dX8_first_16 : decode cX8_first 16 = .ok (.iload 4, 2) := by decide +kernel
theorem dX8_first_18 : decode cX8_first 18 = .ok (.iaload, 1) := by decide +kernel
theorem dX8_first_19 : decode cX8_first 19 = .ok (.if_icmp .ge 56, 3) := by decide +kernel
theorem dX8_first_22 : decode cX8_first 22 = .ok (.aload_n 0, 1) := by decide +kernel
theorem dX8_first_23 : decode cX8_first 23 = .ok (.getfield 56, 3) := by decide +kernel
theorem dX8_first_26 : decode cX8_first 26 = .ok (.bipush 12, 2) := by decide +kernel
theorem dX8_first_28 : decode cX8_first 28 = .ok (.iload 4, 2) := by decide +kernel
theorem dX8_first_30 : decode cX8_first 30 = .ok (.imul, 1) := by decide +kernel
theorem dX8_first_31 : decode cX8_first 31 = .ok (.iload 5, 2) := by decide +kernel
theorem dX8_first_33 : decode cX8_first 33 = .ok (.iadd, 1) := by decide +kernel
theorem dX8_first_34 : decode cX8_first 34 = .ok (.laload, 1) := by decide +kernel
theorem dX8_first_35 : decode cX8_first 35 = .ok (.lload_n 2, 1) := by decide +kernel
theorem dX8_first_36 : decode cX8_first 36 = .ok (.ldc2_w 85, 3) := by decide +kernel
theorem dX8_first_39 : decode cX8_first 39 = .ok (.lxor, 1) := by decide +kernel
theorem dX8_first_40 : decode cX8_first 40 = .ok (.land, 1) := by decide +kernel
theorem dX8_first_41 : decode cX8_first 41 = .ok (.lconst 0, 1) := by decide +kernel
theorem dX8_first_42 : decode cX8_first 42 = .ok (.lcmp, 1) := by decide +kernel
theorem dX8_first_43 : decode cX8_first 43 = .ok (.ifCond .ne 26, 3) := by decide +kernel
theorem dX8_first_46 : decode cX8_first 46 = .ok (.aload_n 0, 1) := by decide +kernel
theorem dX8_first_47 : decode cX8_first 47 = .ok (.getfield 60, 3) := by decide +kernel
theorem dX8_first_50 : decode cX8_first 50 = .ok (.bipush 12, 2) := by decide +kernel
theorem dX8_first_52 : decode cX8_first 52 = .ok (.iload 4, 2) := by decide +kernel
theorem dX8_first_54 : decode cX8_first 54 = .ok (.imul, 1) := by decide +kernel
theorem dX8_first_55 : decode cX8_first 55 = .ok (.iload 5, 2) := by decide +kernel
theorem dX8_first_57 : decode cX8_first 57 = .ok (.iadd, 1) := by decide +kernel
theorem dX8_first_58 : decode cX8_first 58 = .ok (.laload, 1) := by decide +kernel
theorem dX8_first_59 : decode cX8_first 59 = .ok (.lload_n 2, 1) := by decide +kernel
theorem dX8_first_60 : decode cX8_first 60 = .ok (.land, 1) := by decide +kernel
theorem dX8_first_61 : decode cX8_first 61 = .ok (.lconst 0, 1) := by decide +kernel
theorem dX8_first_62 : decode cX8_first 62 = .ok (.lcmp, 1) := by decide +kernel
theorem dX8_first_63 : decode cX8_first 63 = .ok (.ifCond .ne 6, 3) := by decide +kernel
theorem dX8_first_66 : decode cX8_first 66 = .ok (.iload 5, 2) := by decide +kernel
theorem dX8_first_68 : decode cX8_first 68 = .ok (.ireturn, 1) := by decide +kernel
theorem dX8_first_69 : decode cX8_first 69 = .ok (.iinc 5 1, 3) := by decide +kernel
theorem dX8_first_72 : decode cX8_first 72 = .ok (.goto (-62), 3) := by decide +kernel
theorem dX8_first_75 : decode cX8_first 75 = .ok (.iconst (-1), 1) := by decide +kernel
theorem dX8_first_76 : decode cX8_first 76 = .ok (.ireturn, 1) := by decide +kernel
theorem dX8_isSo_0 : decode cX8_isSo 0 = .ok (.aload_n 0, 1) := by decide +kernel
theorem dX8_isSo_1 : decode cX8_isSo 1 = .ok (.iload_n 1, 1) := by decide +kernel
theorem dX8_isSo_2 : decode cX8_isSo 2 = .ok (.lload_n 2, 1) := by decide +kernel
theorem dX8_isSo_3 : decode cX8_isSo 3 = .ok (.invokevirtual 202, 3) := by decide +kernel
theorem dX8_isSo_6 : decode cX8_isSo 6 = .ok (.iconst (-1), 1) := by decide +kernel
theorem dX8_isSo_7 : decode cX8_isSo 7 = .ok (.if_icmp .eq 7, 3) := by decide +kernel
theorem dX8_isSo_10 : decode cX8_isSo 10 = .ok (.iconst 1, 1) := by decide +kernel
theorem dX8_isSo_11 : decode cX8_isSo 11 = .ok (.goto 4, 3) := by decide +kernel
theorem dX8_isSo_14 : decode cX8_isSo 14 = .ok (.iconst 0, 1) := by decide +kernel
theorem dX8_isSo_15 : decode cX8_isSo 15 = .ok (.ireturn, 1) := by decide +kernel
theorem dX8_holds_0 : decode cX8_holds 0 = .ok (.aload_n 0, 1) := by decide +kernel
theorem dX8_holds_1 : decode cX8_holds 1 = .ok (.iconst 0, 1) := by decide +kernel
theorem dX8_holds_2 : decode cX8_holds 2 = .ok (.putfield 78, 3) := by decide +kernel
theorem dX8_holds_5 : decode cX8_holds 5 = .ok (.aload_n 0, 1) := by decide +kernel
theorem dX8_holds_6 : decode cX8_holds 6 = .ok (.iload_n 1, 1) := by decide +kernel
theorem dX8_holds_7 : decode cX8_holds 7 = .ok (.invokevirtual 199, 3) := by decide +kernel
theorem dX8_holds_10 : decode cX8_holds 10 = .ok (.ifCond .ne 7, 3) := by decide +kernel
theorem dX8_holds_13 : decode cX8_holds 13 = .ok (.iconst (-1), 1) := by decide +kernel
theorem dX8_holds_14 : decode cX8_holds 14 = .ok (.goto 20, 3) := by decide +kernel
theorem dX8_holds_17 : decode cX8_holds 17 = .ok (.aload_n 0, 1) := by decide +kernel
theorem dX8_holds_18 : decode cX8_holds 18 = .ok (.iload_n 1, 1) := by decide +kernel
theorem dX8_holds_19 : decode cX8_holds 19 = .ok (.aload_n 0, 1) := by decide +kernel
theorem dX8_holds_20 : decode cX8_holds 20 = .ok (.getfield 115, 3) := by decide +kernel
theorem dX8_holds_23 : decode cX8_holds 23 = .ok (.invokevirtual 206, 3) := by decide +kernel
theorem dX8_holds_26 : decode cX8_holds 26 = .ok (.ifCond .eq 7, 3) := by decide +kernel
theorem dX8_holds_29 : decode cX8_holds 29 = .ok (.iconst 1, 1) := by decide +kernel
theorem dX8_holds_30 : decode cX8_holds 30 = .ok (.goto 4, 3) := by decide +kernel
theorem dX8_holds_33 : decode cX8_holds 33 = .ok (.iconst 0, 1) := by decide +kernel
theorem dX8_holds_34 : decode cX8_holds 34 = .ok (.ireturn, 1) := by decide +kernel
theorem dX8_made_0 : decode cX8_made 0 = .ok (.aload_n 0, 1) := by decide +kernel
theorem dX8_made_1 : decode cX8_made 1 = .ok (.iconst 0, 1) := by decide +kernel
theorem dX8_made_2 : decode cX8_made 2 = .ok (.putfield 78, 3) := by decide +kernel
theorem dX8_made_5 : decode cX8_made 5 = .ok (.aload_n 0, 1) := by decide +kernel
theorem dX8_made_6 : decode cX8_made 6 = .ok (.iload_n 1, 1) := by decide +kernel
theorem dX8_made_7 : decode cX8_made 7 = .ok (.invokevirtual 199, 3) := by decide +kernel
theorem dX8_made_10 : decode cX8_made 10 = .ok (.ifCond .ne 7, 3) := by decide +kernel
theorem dX8_made_13 : decode cX8_made 13 = .ok (.iconst (-1), 1) := by decide +kernel
theorem dX8_made_14 : decode cX8_made 14 = .ok (.goto 12, 3) := by decide +kernel
theorem dX8_made_17 : decode cX8_made 17 = .ok (.aload_n 0, 1) := by decide +kernel
theorem dX8_made_18 : decode cX8_made 18 = .ok (.iload_n 1, 1) := by decide +kernel
theorem dX8_made_19 : decode cX8_made 19 = .ok (.aload_n 0, 1) := by decide +kernel
theorem dX8_made_20 : decode cX8_made 20 = .ok (.getfield 115, 3) := by decide +kernel
theorem dX8_made_23 : decode cX8_made 23 = .ok (.invokevirtual 202, 3) := by decide +kernel
theorem dX8_made_26 : decode cX8_made 26 = .ok (.ireturn, 1) := by decide +kernel
theorem dX8_under_0 : decode cX8_under 0 = .ok (.aload_n 0, 1) := by decide +kernel
theorem dX8_under_1 : decode cX8_under 1 = .ok (.iconst 0, 1) := by decide +kernel
theorem dX8_under_2 : decode cX8_under 2 = .ok (.putfield 78, 3) := by decide +kernel
theorem dX8_under_5 : decode cX8_under 5 = .ok (.aload_n 0, 1) := by decide +kernel
theorem dX8_under_6 : decode cX8_under 6 = .ok (.iload_n 1, 1) := by decide +kernel
theorem dX8_under_7 : decode cX8_under 7 = .ok (.invokevirtual 199, 3) := by decide +kernel
theorem dX8_under_10 : decode cX8_under 10 = .ok (.ifCond .ne 5, 3) := by decide +kernel
theorem dX8_under_13 : decode cX8_under 13 = .ok (.iconst (-1), 1) := by decide +kernel
theorem dX8_under_14 : decode cX8_under 14 = .ok (.ireturn, 1) := by decide +kernel
theorem dX8_under_15 : decode cX8_under 15 = .ok (.lload_n 2, 1) := by decide +kernel
theorem dX8_under_16 : decode cX8_under 16 = .ok (.lconst 0, 1) := by decide +kernel
theorem dX8_under_17 : decode cX8_under 17 = .ok (.lcmp, 1) := by decide +kernel
theorem dX8_under_18 : decode cX8_under 18 = .ok (.ifCond .lt 14, 3) := by decide +kernel
theorem dX8_under_21 : decode cX8_under 21 = .ok (.lload_n 2, 1) := by decide +kernel
theorem dX8_under_22 : decode cX8_under 22 = .ok (.aload_n 0, 1) := by decide +kernel
theorem dX8_under_23 : decode cX8_under 23 = .ok (.getfield 112, 3) := by decide +kernel
theorem dX8_under_26 : decode cX8_under 26 = .ok (.lshr, 1) := by decide +kernel
theorem dX8_under_27 : decode cX8_under 27 = .ok (.lconst 0, 1) := by decide +kernel
theorem dX8_under_28 : decode cX8_under 28 = .ok (.lcmp, 1) := by decide +kernel
theorem dX8_under_29 : decode cX8_under 29 = .ok (.ifCond .eq 6, 3) := by decide +kernel
theorem dX8_under_32 : decode cX8_under 32 = .ok (.bipush (-2), 2) := by decide +kernel
theorem dX8_under_34 : decode cX8_under 34 = .ok (.ireturn, 1) := by decide +kernel
theorem dX8_under_35 : decode cX8_under 35 = .ok (.aload_n 0, 1) := by decide +kernel
theorem dX8_under_36 : decode cX8_under 36 = .ok (.iload_n 1, 1) := by decide +kernel
theorem dX8_under_37 : decode cX8_under 37 = .ok (.lload_n 2, 1) := by decide +kernel
theorem dX8_under_38 : decode cX8_under 38 = .ok (.invokevirtual 206, 3) := by decide +kernel
theorem dX8_under_41 : decode cX8_under 41 = .ok (.ifCond .eq 7, 3) := by decide +kernel
theorem dX8_under_44 : decode cX8_under 44 = .ok (.iconst 1, 1) := by decide +kernel
theorem dX8_under_45 : decode cX8_under 45 = .ok (.goto 4, 3) := by decide +kernel
theorem dX8_under_48 : decode cX8_under 48 = .ok (.iconst 0, 1) := by decide +kernel
theorem dX8_under_49 : decode cX8_under 49 = .ok (.ireturn, 1) := by decide +kernel
theorem dX8_forward_0 : decode cX8_forward 0 = .ok (.aload_n 0, 1) := by decide +kernel
theorem dX8_forward_1 : decode cX8_forward 1 = .ok (.iconst 0, 1) := by decide +kernel
theorem dX8_forward_2 : decode cX8_forward 2 = .ok (.putfield 78, 3) := by decide +kernel
theorem dX8_forward_5 : decode cX8_forward 5 = .ok (.iload_n 1, 1) := by decide +kernel
theorem dX8_forward_6 : decode cX8_forward 6 = .ok (.ifCond .lt 11, 3) := by decide +kernel
theorem dX8_forward_9 : decode cX8_forward 9 = .ok (.iload_n 1, 1) := by decide +kernel
theorem dX8_forward_10 : decode cX8_forward 10 = .ok (.aload_n 0, 1) := by decide +kernel
theorem dX8_forward_11 : decode cX8_forward 11 = .ok (.getfield 112, 3) := by decide +kernel
theorem dX8_forward_14 : decode cX8_forward 14 = .ok (.if_icmp .lt 5, 3) := by decide +kernel
theorem dX8_forward_17 : decode cX8_forward 17 = .ok (.iconst (-1), 1) := by decide +kernel
theorem dX8_forward_18 : decode cX8_forward 18 = .ok (.ireturn, 1) := by decide +kernel
theorem dX8_forward_19 : decode cX8_forward 19 = .ok (.iconst 0, 1) := by decide +kernel
theorem dX8_forward_20 : decode cX8_forward 20 = .ok (.istore_n 2, 1) := by decide +kernel
theorem dX8_forward_21 : decode cX8_forward 21 = .ok (.iconst 0, 1) := by decide +kernel
theorem dX8_forward_22 : decode cX8_forward 22 = .ok (.istore_n 3, 1) := by decide +kernel
theorem dX8_forward_23 : decode cX8_forward 23 = .ok (.iload_n 3, 1) := by decide +kernel
theorem dX8_forward_24 : decode cX8_forward 24 = .ok (.aload_n 0, 1) := by decide +kernel
theorem dX8_forward_25 : decode cX8_forward 25 = .ok (.getfield 46, 3) := by decide +kernel
theorem dX8_forward_28 : decode cX8_forward 28 = .ok (.bipush 16, 2) := by decide +kernel
theorem dX8_forward_30 : decode cX8_forward 30 = .ok (.iaload, 1) := by decide +kernel
theorem dX8_forward_31 : decode cX8_forward 31 = .ok (.if_icmp .ge 42, 3) := by decide +kernel
theorem dX8_forward_34 : decode cX8_forward 34 = .ok (.iload_n 2, 1) := by decide +kernel
theorem dX8_forward_35 : decode cX8_forward 35 = .ok (.aload_n 0, 1) := by decide +kernel
theorem dX8_forward_36 : decode cX8_forward 36 = .ok (.iload_n 3, 1) := by decide +kernel
theorem dX8_forward_37 : decode cX8_forward 37 = .ok (.aload_n 0, 1) := by decide +kernel
theorem dX8_forward_38 : decode cX8_forward 38 = .ok (.getfield 115, 3) := by decide +kernel
theorem dX8_forward_41 : decode cX8_forward 41 = .ok (.invokevirtual 206, 3) := by decide +kernel
theorem dX8_forward_44 : decode cX8_forward 44 = .ok (.aload_n 0, 1) := by decide +kernel
theorem dX8_forward_45 : decode cX8_forward 45 = .ok (.iload_n 3, 1) := by decide +kernel
theorem dX8_forward_46 : decode cX8_forward 46 = .ok (.aload_n 0, 1) := by decide +kernel
theorem dX8_forward_47 : decode cX8_forward 47 = .ok (.getfield 115, 3) := by decide +kernel
theorem dX8_forward_50 : decode cX8_forward 50 = .ok (.lconst 1, 1) := by decide +kernel
theorem dX8_forward_51 : decode cX8_forward 51 = .ok (.iload_n 1, 1) := by decide +kernel
theorem dX8_forward_52 : decode cX8_forward 52 = .ok (.lshl, 1) := by decide +kernel
theorem dX8_forward_53 : decode cX8_forward 53 = .ok (.lxor, 1) := by decide +kernel
theorem dX8_forward_54 : decode cX8_forward 54 = .ok (.invokevirtual 206, 3) := by decide +kernel
theorem dX8_forward_57 : decode cX8_forward 57 = .ok (.if_icmp .eq 7, 3) := by decide +kernel
theorem dX8_forward_60 : decode cX8_forward 60 = .ok (.iconst 1, 1) := by decide +kernel
theorem dX8_forward_61 : decode cX8_forward 61 = .ok (.goto 4, 3) := by decide +kernel
theorem dX8_forward_64 : decode cX8_forward 64 = .ok (.iconst 0, 1) := by decide +kernel
theorem dX8_forward_65 : decode cX8_forward 65 = .ok (.iadd, 1) := by decide +kernel
theorem dX8_forward_66 : decode cX8_forward 66 = .ok (.istore_n 2, 1) := by decide +kernel
theorem dX8_forward_67 : decode cX8_forward 67 = .ok (.iinc 3 1, 3) := by decide +kernel
theorem dX8_forward_70 : decode cX8_forward 70 = .ok (.goto (-47), 3) := by decide +kernel
theorem dX8_forward_73 : decode cX8_forward 73 = .ok (.iload_n 2, 1) := by decide +kernel
theorem dX8_forward_74 : decode cX8_forward 74 = .ok (.ireturn, 1) := by decide +kernel
theorem dX8_stand_0 : decode cX8_stand 0 = .ok (.lconst 0, 1) := by decide +kernel
theorem dX8_stand_1 : decode cX8_stand 1 = .ok (.lstore_n 2, 1) := by decide +kernel
theorem dX8_stand_2 : decode cX8_stand 2 = .ok (.sipush 1280, 3) := by decide +kernel
theorem dX8_stand_5 : decode cX8_stand 5 = .ok (.iload_n 1, 1) := by decide +kernel
theorem dX8_stand_6 : decode cX8_stand 6 = .ok (.iadd, 1) := by decide +kernel
theorem dX8_stand_7 : decode cX8_stand 7 = .ok (.istore 4, 2) := by decide +kernel
theorem dX8_stand_9 : decode cX8_stand 9 = .ok (.iconst 0, 1) := by decide +kernel
theorem dX8_stand_10 : decode cX8_stand 10 = .ok (.istore 5, 2) := by decide +kernel
theorem dX8_stand_12 : decode cX8_stand 12 = .ok (.iload 5, 2) := by decide +kernel
theorem dX8_stand_14 : decode cX8_stand 14 = .ok (.aload_n 0, 1) := by decide +kernel
theorem dX8_stand_15 : decode cX8_stand 15 = .ok (.getfield 53, 3) := by decide +kernel
theorem dX8_stand_18 : decode cX8_stand 18 = .ok (.iload 4, 2) := by decide +kernel
theorem dX8_stand_20 : decode cX8_stand 20 = .ok (.iaload, 1) := by decide +kernel
theorem dX8_stand_21 : decode cX8_stand 21 = .ok (.if_icmp .ge 39, 3) := by decide +kernel
theorem dX8_stand_24 : decode cX8_stand 24 = .ok (.lload_n 2, 1) := by decide +kernel
theorem dX8_stand_25 : decode cX8_stand 25 = .ok (.aload_n 0, 1) := by decide +kernel
theorem dX8_stand_26 : decode cX8_stand 26 = .ok (.getfield 56, 3) := by decide +kernel
theorem dX8_stand_29 : decode cX8_stand 29 = .ok (.bipush 12, 2) := by decide +kernel
theorem dX8_stand_31 : decode cX8_stand 31 = .ok (.iload 4, 2) := by decide +kernel
theorem dX8_stand_33 : decode cX8_stand 33 = .ok (.imul, 1) := by decide +kernel
theorem dX8_stand_34 : decode cX8_stand 34 = .ok (.iload 5, 2) := by decide +kernel
theorem dX8_stand_36 : decode cX8_stand 36 = .ok (.iadd, 1) := by decide +kernel
theorem dX8_stand_37 : decode cX8_stand 37 = .ok (.laload, 1) := by decide +kernel
theorem dX8_stand_38 : decode cX8_stand 38 = .ok (.aload_n 0, 1) := by decide +kernel
theorem dX8_stand_39 : decode cX8_stand 39 = .ok (.getfield 60, 3) := by decide +kernel
theorem dX8_stand_42 : decode cX8_stand 42 = .ok (.bipush 12, 2) := by decide +kernel
theorem dX8_stand_44 : decode cX8_stand 44 = .ok (.iload 4, 2) := by decide +kernel
theorem dX8_stand_46 : decode cX8_stand 46 = .ok (.imul, 1) := by decide +kernel
theorem dX8_stand_47 : decode cX8_stand 47 = .ok (.iload 5, 2) := by decide +kernel
theorem dX8_stand_49 : decode cX8_stand 49 = .ok (.iadd, 1) := by decide +kernel
theorem dX8_stand_50 : decode cX8_stand 50 = .ok (.laload, 1) := by decide +kernel
theorem dX8_stand_51 : decode cX8_stand 51 = .ok (.lor, 1) := by decide +kernel
theorem dX8_stand_52 : decode cX8_stand 52 = .ok (.lor, 1) := by decide +kernel
theorem dX8_stand_53 : decode cX8_stand 53 = .ok (.lstore_n 2, 1) := by decide +kernel
theorem dX8_stand_54 : decode cX8_stand 54 = .ok (.iinc 5 1, 3) := by decide +kernel
theorem dX8_stand_57 : decode cX8_stand 57 = .ok (.goto (-45), 3) := by decide +kernel
theorem dX8_stand_60 : decode cX8_stand 60 = .ok (.aload_n 0, 1) := by decide +kernel
theorem dX8_stand_61 : decode cX8_stand 61 = .ok (.iconst 0, 1) := by decide +kernel
theorem dX8_stand_62 : decode cX8_stand 62 = .ok (.putfield 210, 3) := by decide +kernel
theorem dX8_stand_65 : decode cX8_stand 65 = .ok (.iconst 0, 1) := by decide +kernel
theorem dX8_stand_66 : decode cX8_stand 66 = .ok (.istore 5, 2) := by decide +kernel
theorem dX8_stand_68 : decode cX8_stand 68 = .ok (.iload 5, 2) := by decide +kernel
theorem dX8_stand_70 : decode cX8_stand 70 = .ok (.aload_n 0, 1) := by decide +kernel
theorem dX8_stand_71 : decode cX8_stand 71 = .ok (.getfield 112, 3) := by decide +kernel
theorem dX8_stand_74 : decode cX8_stand 74 = .ok (.if_icmp .ge 41, 3) := by decide +kernel
theorem dX8_stand_77 : decode cX8_stand 77 = .ok (.lload_n 2, 1) := by decide +kernel
theorem dX8_stand_78 : decode cX8_stand 78 = .ok (.iload 5, 2) := by decide +kernel
theorem dX8_stand_80 : decode cX8_stand 80 = .ok (.lshr, 1) := by decide +kernel
theorem dX8_stand_81 : decode cX8_stand 81 = .ok (.lconst 1, 1) := by decide +kernel
theorem dX8_stand_82 : decode cX8_stand 82 = .ok (.land, 1) := by decide +kernel
theorem dX8_stand_83 : decode cX8_stand 83 = .ok (.lconst 1, 1) := by decide +kernel
theorem dX8_stand_84 : decode cX8_stand 84 = .ok (.lcmp, 1) := by decide +kernel
theorem dX8_stand_85 : decode cX8_stand 85 = .ok (.ifCond .ne 24, 3) := by decide +kernel
theorem dX8_stand_88 : decode cX8_stand 88 = .ok (.aload_n 0, 1) := by decide +kernel
theorem dX8_stand_89 : decode cX8_stand 89 = .ok (.getfield 75, 3) := by decide +kernel
theorem dX8_stand_92 : decode cX8_stand 92 = .ok (.aload_n 0, 1) := by decide +kernel
theorem dX8_stand_93 : decode cX8_stand 93 = .ok (.getfield 210, 3) := by decide +kernel
theorem dX8_stand_96 : decode cX8_stand 96 = .ok (.iload 5, 2) := by decide +kernel
theorem dX8_stand_98 : decode cX8_stand 98 = .ok (.iastore, 1) := by decide +kernel
theorem dX8_stand_99 : decode cX8_stand 99 = .ok (.aload_n 0, 1) := by decide +kernel
theorem dX8_stand_100 : decode cX8_stand 100 = .ok (.dup, 1) := by decide +kernel
theorem dX8_stand_101 : decode cX8_stand 101 = .ok (.getfield 210, 3) := by decide +kernel
theorem dX8_stand_104 : decode cX8_stand 104 = .ok (.iconst 1, 1) := by decide +kernel
theorem dX8_stand_105 : decode cX8_stand 105 = .ok (.iadd, 1) := by decide +kernel
theorem dX8_stand_106 : decode cX8_stand 106 = .ok (.putfield 210, 3) := by decide +kernel
theorem dX8_stand_109 : decode cX8_stand 109 = .ok (.iinc 5 1, 3) := by decide +kernel
theorem dX8_stand_112 : decode cX8_stand 112 = .ok (.goto (-44), 3) := by decide +kernel
theorem dX8_stand_115 : decode cX8_stand 115 = .ok (.aload_n 0, 1) := by decide +kernel
theorem dX8_stand_116 : decode cX8_stand 116 = .ok (.getfield 210, 3) := by decide +kernel
theorem dX8_stand_119 : decode cX8_stand 119 = .ok (.bipush 16, 2) := by decide +kernel
theorem dX8_stand_121 : decode cX8_stand 121 = .ok (.if_icmp .gt 7, 3) := by decide +kernel
theorem dX8_stand_124 : decode cX8_stand 124 = .ok (.iconst 1, 1) := by decide +kernel
theorem dX8_stand_125 : decode cX8_stand 125 = .ok (.goto 4, 3) := by decide +kernel
theorem dX8_stand_128 : decode cX8_stand 128 = .ok (.iconst 0, 1) := by decide +kernel
theorem dX8_stand_129 : decode cX8_stand 129 = .ok (.ireturn, 1) := by decide +kernel
theorem dX8_rowsOf_0 : decode cX8_rowsOf 0 = .ok (.lconst 0, 1) := by decide +kernel
theorem dX8_rowsOf_1 : decode cX8_rowsOf 1 = .ok (.lstore_n 2, 1) := by decide +kernel
theorem dX8_rowsOf_2 : decode cX8_rowsOf 2 = .ok (.iconst 0, 1) := by decide +kernel
theorem dX8_rowsOf_3 : decode cX8_rowsOf 3 = .ok (.istore 4, 2) := by decide +kernel
theorem dX8_rowsOf_5 : decode cX8_rowsOf 5 = .ok (.iload 4, 2) := by decide +kernel
theorem dX8_rowsOf_7 : decode cX8_rowsOf 7 = .ok (.aload_n 0, 1) := by decide +kernel
theorem dX8_rowsOf_8 : decode cX8_rowsOf 8 = .ok (.getfield 210, 3) := by decide +kernel
theorem dX8_rowsOf_11 : decode cX8_rowsOf 11 = .ok (.if_icmp .ge 35, 3) := by decide +kernel
theorem dX8_rowsOf_14 : decode cX8_rowsOf 14 = .ok (.lload_n 2, 1) := by decide +kernel
theorem dX8_rowsOf_15 : decode cX8_rowsOf 15 = .ok (.iload_n 1, 1) := by decide +kernel
theorem dX8_rowsOf_16 : decode cX8_rowsOf 16 = .ok (.iload 4, 2) := by decide +kernel
theorem dX8_rowsOf_18 : decode cX8_rowsOf 18 = .ok (.ishr, 1) := by decide +kernel
theorem dX8_rowsOf_19 : decode cX8_rowsOf 19 = .ok (.iconst 1, 1) := by decide +kernel
theorem dX8_rowsOf_20 : decode cX8_rowsOf 20 = .ok (.iand, 1) := by decide +kernel
theorem dX8_rowsOf_21 : decode cX8_rowsOf 21 = .ok (.iconst 1, 1) := by decide +kernel
theorem dX8_rowsOf_22 : decode cX8_rowsOf 22 = .ok (.if_icmp .ne 15, 3) := by decide +kernel
theorem dX8_rowsOf_25 : decode cX8_rowsOf 25 = .ok (.lconst 1, 1) := by decide +kernel
theorem dX8_rowsOf_26 : decode cX8_rowsOf 26 = .ok (.aload_n 0, 1) := by decide +kernel
theorem dX8_rowsOf_27 : decode cX8_rowsOf 27 = .ok (.getfield 75, 3) := by decide +kernel
theorem dX8_rowsOf_30 : decode cX8_rowsOf 30 = .ok (.iload 4, 2) := by decide +kernel
theorem dX8_rowsOf_32 : decode cX8_rowsOf 32 = .ok (.iaload, 1) := by decide +kernel
theorem dX8_rowsOf_33 : decode cX8_rowsOf 33 = .ok (.lshl, 1) := by decide +kernel
theorem dX8_rowsOf_34 : decode cX8_rowsOf 34 = .ok (.goto 4, 3) := by decide +kernel
theorem dX8_rowsOf_37 : decode cX8_rowsOf 37 = .ok (.lconst 0, 1) := by decide +kernel
theorem dX8_rowsOf_38 : decode cX8_rowsOf 38 = .ok (.lor, 1) := by decide +kernel
theorem dX8_rowsOf_39 : decode cX8_rowsOf 39 = .ok (.lstore_n 2, 1) := by decide +kernel
theorem dX8_rowsOf_40 : decode cX8_rowsOf 40 = .ok (.iinc 4 1, 3) := by decide +kernel
theorem dX8_rowsOf_43 : decode cX8_rowsOf 43 = .ok (.goto (-38), 3) := by decide +kernel
theorem dX8_rowsOf_46 : decode cX8_rowsOf 46 = .ok (.lload_n 2, 1) := by decide +kernel
theorem dX8_rowsOf_47 : decode cX8_rowsOf 47 = .ok (.lreturn, 1) := by decide +kernel
theorem dX8_count_0 : decode cX8_count 0 = .ok (.aload_n 0, 1) := by decide +kernel
theorem dX8_count_1 : decode cX8_count 1 = .ok (.iconst 0, 1) := by decide +kernel
theorem dX8_count_2 : decode cX8_count 2 = .ok (.putfield 78, 3) := by decide +kernel
theorem dX8_count_5 : decode cX8_count 5 = .ok (.aload_n 0, 1) := by decide +kernel
theorem dX8_count_6 : decode cX8_count 6 = .ok (.iload_n 1, 1) := by decide +kernel
theorem dX8_count_7 : decode cX8_count 7 = .ok (.invokevirtual 199, 3) := by decide +kernel
theorem dX8_count_10 : decode cX8_count 10 = .ok (.ifCond .ne 5, 3) := by decide +kernel
theorem dX8_count_13 : decode cX8_count 13 = .ok (.iconst (-1), 1) := by decide +kernel
theorem dX8_count_14 : decode cX8_count 14 = .ok (.ireturn, 1) := by decide +kernel
theorem dX8_count_15 : decode cX8_count 15 = .ok (.aload_n 0, 1) := by decide +kernel
theorem dX8_count_16 : decode cX8_count 16 = .ok (.iload_n 1, 1) := by decide +kernel
theorem dX8_count_17 : decode cX8_count 17 = .ok (.invokevirtual 213, 3) := by decide +kernel
theorem dX8_count_20 : decode cX8_count 20 = .ok (.ifCond .ne 6, 3) := by decide +kernel
theorem dX8_count_23 : decode cX8_count 23 = .ok (.bipush (-4), 2) := by decide +kernel
theorem dX8_count_25 : decode cX8_count 25 = .ok (.ireturn, 1) := by decide +kernel
theorem dX8_count_26 : decode cX8_count 26 = .ok (.iconst 0, 1) := by decide +kernel
theorem dX8_count_27 : decode cX8_count 27 = .ok (.istore_n 2, 1) := by decide +kernel
theorem dX8_count_28 : decode cX8_count 28 = .ok (.iconst 0, 1) := by decide +kernel
theorem dX8_count_29 : decode cX8_count 29 = .ok (.istore_n 3, 1) := by decide +kernel
theorem dX8_count_30 : decode cX8_count 30 = .ok (.iload_n 3, 1) := by decide +kernel
theorem dX8_count_31 : decode cX8_count 31 = .ok (.iconst 1, 1) := by decide +kernel
theorem dX8_count_32 : decode cX8_count 32 = .ok (.aload_n 0, 1) := by decide +kernel
theorem dX8_count_33 : decode cX8_count 33 = .ok (.getfield 210, 3) := by decide +kernel
theorem dX8_count_36 : decode cX8_count 36 = .ok (.ishl, 1) := by decide +kernel
theorem dX8_count_37 : decode cX8_count 37 = .ok (.if_icmp .ge 30, 3) := by decide +kernel
theorem dX8_count_40 : decode cX8_count 40 = .ok (.iload_n 2, 1) := by decide +kernel
theorem dX8_count_41 : decode cX8_count 41 = .ok (.aload_n 0, 1) := by decide +kernel
theorem dX8_count_42 : decode cX8_count 42 = .ok (.iload_n 1, 1) := by decide +kernel
theorem dX8_count_43 : decode cX8_count 43 = .ok (.aload_n 0, 1) := by decide +kernel
theorem dX8_count_44 : decode cX8_count 44 = .ok (.iload_n 3, 1) := by decide +kernel
theorem dX8_count_45 : decode cX8_count 45 = .ok (.invokevirtual 216, 3) := by decide +kernel
theorem dX8_count_48 : decode cX8_count 48 = .ok (.invokevirtual 206, 3) := by decide +kernel
theorem dX8_count_51 : decode cX8_count 51 = .ok (.ifCond .eq 7, 3) := by decide +kernel
theorem dX8_count_54 : decode cX8_count 54 = .ok (.iconst 1, 1) := by decide +kernel
theorem dX8_count_55 : decode cX8_count 55 = .ok (.goto 4, 3) := by decide +kernel
theorem dX8_count_58 : decode cX8_count 58 = .ok (.iconst 0, 1) := by decide +kernel
theorem dX8_count_59 : decode cX8_count 59 = .ok (.iadd, 1) := by decide +kernel
theorem dX8_count_60 : decode cX8_count 60 = .ok (.istore_n 2, 1) := by decide +kernel
theorem dX8_count_61 : decode cX8_count 61 = .ok (.iinc 3 1, 3) := by decide +kernel
theorem dX8_count_64 : decode cX8_count 64 = .ok (.goto (-34), 3) := by decide +kernel
theorem dX8_count_67 : decode cX8_count 67 = .ok (.iload_n 2, 1) := by decide +kernel
theorem dX8_count_68 : decode cX8_count 68 = .ok (.ireturn, 1) := by decide +kernel
theorem dX8_matters_0 : decode cX8_matters 0 = .ok (.aload_n 0, 1) := by decide +kernel
theorem dX8_matters_1 : decode cX8_matters 1 = .ok (.iconst 0, 1) := by decide +kernel
theorem dX8_matters_2 : decode cX8_matters 2 = .ok (.putfield 78, 3) := by decide +kernel
theorem dX8_matters_5 : decode cX8_matters 5 = .ok (.aload_n 0, 1) := by decide +kernel
theorem dX8_matters_6 : decode cX8_matters 6 = .ok (.iload_n 1, 1) := by decide +kernel
theorem dX8_matters_7 : decode cX8_matters 7 = .ok (.invokevirtual 199, 3) := by decide +kernel
theorem dX8_matters_10 : decode cX8_matters 10 = .ok (.ifCond .eq 15, 3) := by decide +kernel
theorem dX8_matters_13 : decode cX8_matters 13 = .ok (.iload_n 2, 1) := by decide +kernel
theorem dX8_matters_14 : decode cX8_matters 14 = .ok (.ifCond .lt 11, 3) := by decide +kernel
theorem dX8_matters_17 : decode cX8_matters 17 = .ok (.iload_n 2, 1) := by decide +kernel
theorem dX8_matters_18 : decode cX8_matters 18 = .ok (.aload_n 0, 1) := by decide +kernel
theorem dX8_matters_19 : decode cX8_matters 19 = .ok (.getfield 112, 3) := by decide +kernel
theorem dX8_matters_22 : decode cX8_matters 22 = .ok (.if_icmp .lt 5, 3) := by decide +kernel
theorem dX8_matters_25 : decode cX8_matters 25 = .ok (.iconst (-1), 1) := by decide +kernel
theorem dX8_matters_26 : decode cX8_matters 26 = .ok (.ireturn, 1) := by decide +kernel
theorem dX8_matters_27 : decode cX8_matters 27 = .ok (.aload_n 0, 1) := by decide +kernel
theorem dX8_matters_28 : decode cX8_matters 28 = .ok (.iload_n 1, 1) := by decide +kernel
theorem dX8_matters_29 : decode cX8_matters 29 = .ok (.invokevirtual 213, 3) := by decide +kernel
theorem dX8_matters_32 : decode cX8_matters 32 = .ok (.ifCond .ne 6, 3) := by decide +kernel
theorem dX8_matters_35 : decode cX8_matters 35 = .ok (.bipush (-4), 2) := by decide +kernel
theorem dX8_matters_37 : decode cX8_matters 37 = .ok (.ireturn, 1) := by decide +kernel
theorem dX8_matters_38 : decode cX8_matters 38 = .ok (.iconst 0, 1) := by decide +kernel
theorem dX8_matters_39 : decode cX8_matters 39 = .ok (.istore_n 3, 1) := by decide +kernel
theorem dX8_matters_40 : decode cX8_matters 40 = .ok (.iload_n 3, 1) := by decide +kernel
theorem dX8_matters_41 : decode cX8_matters 41 = .ok (.iconst 1, 1) := by decide +kernel
theorem dX8_matters_42 : decode cX8_matters 42 = .ok (.aload_n 0, 1) := by decide +kernel
theorem dX8_matters_43 : decode cX8_matters 43 = .ok (.getfield 210, 3) := by decide +kernel
theorem dX8_matters_46 : decode cX8_matters 46 = .ok (.ishl, 1) := by decide +kernel
theorem dX8_matters_47 : decode cX8_matters 47 = .ok (.if_icmp .ge 47, 3) := by decide +kernel
theorem dX8_matters_50 : decode cX8_matters 50 = .ok (.aload_n 0, 1) := by decide +kernel
theorem dX8_matters_51 : decode cX8_matters 51 = .ok (.iload_n 3, 1) := by decide +kernel
theorem dX8_matters_52 : decode cX8_matters 52 = .ok (.invokevirtual 216, 3) := by decide +kernel
theorem dX8_matters_55 : decode cX8_matters 55 = .ok (.lstore 4, 2) := by decide +kernel
theorem dX8_matters_57 : decode cX8_matters 57 = .ok (.aload_n 0, 1) := by decide +kernel
theorem dX8_matters_58 : decode cX8_matters 58 = .ok (.iload_n 1, 1) := by decide +kernel
theorem dX8_matters_59 : decode cX8_matters 59 = .ok (.lload 4, 2) := by decide +kernel
theorem dX8_matters_61 : decode cX8_matters 61 = .ok (.lconst 1, 1) := by decide +kernel
theorem dX8_matters_62 : decode cX8_matters 62 = .ok (.iload_n 2, 1) := by decide +kernel
theorem dX8_matters_63 : decode cX8_matters 63 = .ok (.lshl, 1) := by decide +kernel
theorem dX8_matters_64 : decode cX8_matters 64 = .ok (.ldc2_w 85, 3) := by decide +kernel
theorem dX8_matters_67 : decode cX8_matters 67 = .ok (.lxor, 1) := by decide +kernel
theorem dX8_matters_68 : decode cX8_matters 68 = .ok (.land, 1) := by decide +kernel
theorem dX8_matters_69 : decode cX8_matters 69 = .ok (.invokevirtual 206, 3) := by decide +kernel
theorem dX8_matters_72 : decode cX8_matters 72 = .ok (.aload_n 0, 1) := by decide +kernel
theorem dX8_matters_73 : decode cX8_matters 73 = .ok (.iload_n 1, 1) := by decide +kernel
theorem dX8_matters_74 : decode cX8_matters 74 = .ok (.lload 4, 2) := by decide +kernel
theorem dX8_matters_76 : decode cX8_matters 76 = .ok (.lconst 1, 1) := by decide +kernel
theorem dX8_matters_77 : decode cX8_matters 77 = .ok (.iload_n 2, 1) := by decide +kernel
theorem dX8_matters_78 : decode cX8_matters 78 = .ok (.lshl, 1) := by decide +kernel
theorem dX8_matters_79 : decode cX8_matters 79 = .ok (.lor, 1) := by decide +kernel
theorem dX8_matters_80 : decode cX8_matters 80 = .ok (.invokevirtual 206, 3) := by decide +kernel
theorem dX8_matters_83 : decode cX8_matters 83 = .ok (.if_icmp .eq 5, 3) := by decide +kernel
theorem dX8_matters_86 : decode cX8_matters 86 = .ok (.iconst 1, 1) := by decide +kernel
theorem dX8_matters_87 : decode cX8_matters 87 = .ok (.ireturn, 1) := by decide +kernel
theorem dX8_matters_88 : decode cX8_matters 88 = .ok (.iinc 3 1, 3) := by decide +kernel
theorem dX8_matters_91 : decode cX8_matters 91 = .ok (.goto (-51), 3) := by decide +kernel
theorem dX8_matters_94 : decode cX8_matters 94 = .ok (.iconst 0, 1) := by decide +kernel
theorem dX8_matters_95 : decode cX8_matters 95 = .ok (.ireturn, 1) := by decide +kernel
theorem dX8_ones_0 : decode cX8_ones 0 = .ok (.iconst 0, 1) := by decide +kernel
theorem dX8_ones_1 : decode cX8_ones 1 = .ok (.istore_n 2, 1) := by decide +kernel
theorem dX8_ones_2 : decode cX8_ones 2 = .ok (.iconst 0, 1) := by decide +kernel
theorem dX8_ones_3 : decode cX8_ones 3 = .ok (.istore_n 3, 1) := by decide +kernel
theorem dX8_ones_4 : decode cX8_ones 4 = .ok (.iload_n 3, 1) := by decide +kernel
theorem dX8_ones_5 : decode cX8_ones 5 = .ok (.bipush 36, 2) := by decide +kernel
theorem dX8_ones_7 : decode cX8_ones 7 = .ok (.if_icmp .ge 27, 3) := by decide +kernel
theorem dX8_ones_10 : decode cX8_ones 10 = .ok (.iload_n 2, 1) := by decide +kernel
theorem dX8_ones_11 : decode cX8_ones 11 = .ok (.lload_n 0, 1) := by decide +kernel
theorem dX8_ones_12 : decode cX8_ones 12 = .ok (.iload_n 3, 1) := by decide +kernel
theorem dX8_ones_13 : decode cX8_ones 13 = .ok (.lshr, 1) := by decide +kernel
theorem dX8_ones_14 : decode cX8_ones 14 = .ok (.lconst 1, 1) := by decide +kernel
theorem dX8_ones_15 : decode cX8_ones 15 = .ok (.land, 1) := by decide +kernel
theorem dX8_ones_16 : decode cX8_ones 16 = .ok (.lconst 1, 1) := by decide +kernel
theorem dX8_ones_17 : decode cX8_ones 17 = .ok (.lcmp, 1) := by decide +kernel
theorem dX8_ones_18 : decode cX8_ones 18 = .ok (.ifCond .ne 7, 3) := by decide +kernel
theorem dX8_ones_21 : decode cX8_ones 21 = .ok (.iconst 1, 1) := by decide +kernel
theorem dX8_ones_22 : decode cX8_ones 22 = .ok (.goto 4, 3) := by decide +kernel
theorem dX8_ones_25 : decode cX8_ones 25 = .ok (.iconst 0, 1) := by decide +kernel
theorem dX8_ones_26 : decode cX8_ones 26 = .ok (.iadd, 1) := by decide +kernel
theorem dX8_ones_27 : decode cX8_ones 27 = .ok (.istore_n 2, 1) := by decide +kernel
theorem dX8_ones_28 : decode cX8_ones 28 = .ok (.iinc 3 1, 3) := by decide +kernel
theorem dX8_ones_31 : decode cX8_ones 31 = .ok (.goto (-27), 3) := by decide +kernel
theorem dX8_ones_34 : decode cX8_ones 34 = .ok (.iload_n 2, 1) := by decide +kernel
theorem dX8_ones_35 : decode cX8_ones 35 = .ok (.ireturn, 1) := by decide +kernel
theorem dX8_blame_0 : decode cX8_blame 0 = .ok (.aload_n 0, 1) := by decide +kernel
theorem dX8_blame_1 : decode cX8_blame 1 = .ok (.iconst 0, 1) := by decide +kernel
theorem dX8_blame_2 : decode cX8_blame 2 = .ok (.putfield 78, 3) := by decide +kernel
theorem dX8_blame_5 : decode cX8_blame 5 = .ok (.aload_n 0, 1) := by decide +kernel
theorem dX8_blame_6 : decode cX8_blame 6 = .ok (.iload_n 1, 1) := by decide +kernel
theorem dX8_blame_7 : decode cX8_blame 7 = .ok (.invokevirtual 199, 3) := by decide +kernel
theorem dX8_blame_10 : decode cX8_blame 10 = .ok (.ifCond .ne 5, 3) := by decide +kernel
theorem dX8_blame_13 : decode cX8_blame 13 = .ok (.iconst (-1), 1) := by decide +kernel
theorem dX8_blame_14 : decode cX8_blame 14 = .ok (.ireturn, 1) := by decide +kernel
theorem dX8_blame_15 : decode cX8_blame 15 = .ok (.aload_n 0, 1) := by decide +kernel
theorem dX8_blame_16 : decode cX8_blame 16 = .ok (.iload_n 1, 1) := by decide +kernel
theorem dX8_blame_17 : decode cX8_blame 17 = .ok (.invokevirtual 213, 3) := by decide +kernel
theorem dX8_blame_20 : decode cX8_blame 20 = .ok (.ifCond .ne 6, 3) := by decide +kernel
theorem dX8_blame_23 : decode cX8_blame 23 = .ok (.bipush (-4), 2) := by decide +kernel
theorem dX8_blame_25 : decode cX8_blame 25 = .ok (.ireturn, 1) := by decide +kernel
theorem dX8_blame_26 : decode cX8_blame 26 = .ok (.aload_n 0, 1) := by decide +kernel
theorem dX8_blame_27 : decode cX8_blame 27 = .ok (.iload_n 1, 1) := by decide +kernel
theorem dX8_blame_28 : decode cX8_blame 28 = .ok (.aload_n 0, 1) := by decide +kernel
theorem dX8_blame_29 : decode cX8_blame 29 = .ok (.getfield 115, 3) := by decide +kernel
theorem dX8_blame_32 : decode cX8_blame 32 = .ok (.invokevirtual 206, 3) := by decide +kernel
theorem dX8_blame_35 : decode cX8_blame 35 = .ok (.istore_n 2, 1) := by decide +kernel
theorem dX8_blame_36 : decode cX8_blame 36 = .ok (.iconst (-1), 1) := by decide +kernel
theorem dX8_blame_37 : decode cX8_blame 37 = .ok (.istore_n 3, 1) := by decide +kernel
theorem dX8_blame_38 : decode cX8_blame 38 = .ok (.iconst 0, 1) := by decide +kernel
theorem dX8_blame_39 : decode cX8_blame 39 = .ok (.istore 4, 2) := by decide +kernel
theorem dX8_blame_41 : decode cX8_blame 41 = .ok (.iload 4, 2) := by decide +kernel
theorem dX8_blame_43 : decode cX8_blame 43 = .ok (.iconst 1, 1) := by decide +kernel
theorem dX8_blame_44 : decode cX8_blame 44 = .ok (.aload_n 0, 1) := by decide +kernel
theorem dX8_blame_45 : decode cX8_blame 45 = .ok (.getfield 210, 3) := by decide +kernel
theorem dX8_blame_48 : decode cX8_blame 48 = .ok (.ishl, 1) := by decide +kernel
theorem dX8_blame_49 : decode cX8_blame 49 = .ok (.if_icmp .ge 79, 3) := by decide +kernel
theorem dX8_blame_52 : decode cX8_blame 52 = .ok (.aload_n 0, 1) := by decide +kernel
theorem dX8_blame_53 : decode cX8_blame 53 = .ok (.iload 4, 2) := by decide +kernel
theorem dX8_blame_55 : decode cX8_blame 55 = .ok (.invokevirtual 216, 3) := by decide +kernel
theorem dX8_blame_58 : decode cX8_blame 58 = .ok (.lstore 5, 2) := by decide +kernel
theorem dX8_blame_60 : decode cX8_blame 60 = .ok (.lload 5, 2) := by decide +kernel
theorem dX8_blame_62 : decode cX8_blame 62 = .ok (.aload_n 0, 1) := by decide +kernel
theorem dX8_blame_63 : decode cX8_blame 63 = .ok (.getfield 115, 3) := by decide +kernel
theorem dX8_blame_66 : decode cX8_blame 66 = .ok (.ldc2_w 85, 3) := by decide +kernel
theorem dX8_blame_69 : decode cX8_blame 69 = .ok (.lxor, 1) := by decide +kernel
theorem dX8_blame_70 : decode cX8_blame 70 = .ok (.land, 1) := by decide +kernel
theorem dX8_blame_71 : decode cX8_blame 71 = .ok (.lconst 0, 1) := by decide +kernel
theorem dX8_blame_72 : decode cX8_blame 72 = .ok (.lcmp, 1) := by decide +kernel
theorem dX8_blame_73 : decode cX8_blame 73 = .ok (.ifCond .ne 49, 3) := by decide +kernel
theorem dX8_blame_76 : decode cX8_blame 76 = .ok (.aload_n 0, 1) := by decide +kernel
theorem dX8_blame_77 : decode cX8_blame 77 = .ok (.iload_n 1, 1) := by decide +kernel
theorem dX8_blame_78 : decode cX8_blame 78 = .ok (.aload_n 0, 1) := by decide +kernel
theorem dX8_blame_79 : decode cX8_blame 79 = .ok (.getfield 115, 3) := by decide +kernel
theorem dX8_blame_82 : decode cX8_blame 82 = .ok (.lload 5, 2) := by decide +kernel
theorem dX8_blame_84 : decode cX8_blame 84 = .ok (.ldc2_w 85, 3) := by decide +kernel
theorem dX8_blame_87 : decode cX8_blame 87 = .ok (.lxor, 1) := by decide +kernel
theorem dX8_blame_88 : decode cX8_blame 88 = .ok (.land, 1) := by decide +kernel
theorem dX8_blame_89 : decode cX8_blame 89 = .ok (.invokevirtual 206, 3) := by decide +kernel
theorem dX8_blame_92 : decode cX8_blame 92 = .ok (.iload_n 2, 1) := by decide +kernel
theorem dX8_blame_93 : decode cX8_blame 93 = .ok (.if_icmp .eq 29, 3) := by decide +kernel
theorem dX8_blame_96 : decode cX8_blame 96 = .ok (.iload 4, 2) := by decide +kernel
theorem dX8_blame_98 : decode cX8_blame 98 = .ok (.i2l, 1) := by decide +kernel
theorem dX8_blame_99 : decode cX8_blame 99 = .ok (.invokestatic 220, 3) := by decide +kernel
theorem dX8_blame_102 : decode cX8_blame 102 = .ok (.istore 7, 2) := by decide +kernel
theorem dX8_blame_104 : decode cX8_blame 104 = .ok (.iload_n 3, 1) := by decide +kernel
theorem dX8_blame_105 : decode cX8_blame 105 = .ok (.iconst (-1), 1) := by decide +kernel
theorem dX8_blame_106 : decode cX8_blame 106 = .ok (.if_icmp .eq 9, 3) := by decide +kernel
theorem dX8_blame_109 : decode cX8_blame 109 = .ok (.iload 7, 2) := by decide +kernel
theorem dX8_blame_111 : decode cX8_blame 111 = .ok (.iload_n 3, 1) := by decide +kernel
theorem dX8_blame_112 : decode cX8_blame 112 = .ok (.if_icmp .ge 8, 3) := by decide +kernel
theorem dX8_blame_115 : decode cX8_blame 115 = .ok (.iload 7, 2) := by decide +kernel
theorem dX8_blame_117 : decode cX8_blame 117 = .ok (.goto 4, 3) := by decide +kernel
theorem dX8_blame_120 : decode cX8_blame 120 = .ok (.iload_n 3, 1) := by decide +kernel
theorem dX8_blame_121 : decode cX8_blame 121 = .ok (.istore_n 3, 1) := by decide +kernel
theorem dX8_blame_122 : decode cX8_blame 122 = .ok (.iinc 4 1, 3) := by decide +kernel
theorem dX8_blame_125 : decode cX8_blame 125 = .ok (.goto (-84), 3) := by decide +kernel
theorem dX8_blame_128 : decode cX8_blame 128 = .ok (.iload_n 3, 1) := by decide +kernel
theorem dX8_blame_129 : decode cX8_blame 129 = .ok (.ireturn, 1) := by decide +kernel
theorem dX8_told_0 : decode cX8_told 0 = .ok (.aload_n 0, 1) := by decide +kernel
theorem dX8_told_1 : decode cX8_told 1 = .ok (.iconst 0, 1) := by decide +kernel
theorem dX8_told_2 : decode cX8_told 2 = .ok (.putfield 78, 3) := by decide +kernel
theorem dX8_told_5 : decode cX8_told 5 = .ok (.iconst 0, 1) := by decide +kernel
theorem dX8_told_6 : decode cX8_told 6 = .ok (.istore_n 2, 1) := by decide +kernel
theorem dX8_told_7 : decode cX8_told 7 = .ok (.iload_n 1, 1) := by decide +kernel
theorem dX8_told_8 : decode cX8_told 8 = .ok (.tableswitch 112 0 5 #[40, 45, 50, 55, 63, 104], 40) := by decide +kernel
theorem dX8_told_48 : decode cX8_told 48 = .ok (.aload_n 0, 1) := by decide +kernel
theorem dX8_told_49 : decode cX8_told 49 = .ok (.getfield 109, 3) := by decide +kernel
theorem dX8_told_52 : decode cX8_told 52 = .ok (.ireturn, 1) := by decide +kernel
theorem dX8_told_53 : decode cX8_told 53 = .ok (.aload_n 0, 1) := by decide +kernel
theorem dX8_told_54 : decode cX8_told 54 = .ok (.getfield 112, 3) := by decide +kernel
theorem dX8_told_57 : decode cX8_told 57 = .ok (.ireturn, 1) := by decide +kernel
theorem dX8_told_58 : decode cX8_told 58 = .ok (.aload_n 0, 1) := by decide +kernel
theorem dX8_told_59 : decode cX8_told 59 = .ok (.getfield 119, 3) := by decide +kernel
theorem dX8_told_62 : decode cX8_told 62 = .ok (.ireturn, 1) := by decide +kernel
theorem dX8_told_63 : decode cX8_told 63 = .ok (.aload_n 0, 1) := by decide +kernel
theorem dX8_told_64 : decode cX8_told 64 = .ok (.getfield 46, 3) := by decide +kernel
theorem dX8_told_67 : decode cX8_told 67 = .ok (.bipush 16, 2) := by decide +kernel
theorem dX8_told_69 : decode cX8_told 69 = .ok (.iaload, 1) := by decide +kernel
theorem dX8_told_70 : decode cX8_told 70 = .ok (.ireturn, 1) := by decide +kernel
theorem dX8_told_71 : decode cX8_told 71 = .ok (.iconst 0, 1) := by decide +kernel
theorem dX8_told_72 : decode cX8_told 72 = .ok (.istore_n 3, 1) := by decide +kernel
theorem dX8_told_73 : decode cX8_told 73 = .ok (.iload_n 3, 1) := by decide +kernel
theorem dX8_told_74 : decode cX8_told 74 = .ok (.aload_n 0, 1) := by decide +kernel
theorem dX8_told_75 : decode cX8_told 75 = .ok (.getfield 46, 3) := by decide +kernel
theorem dX8_told_78 : decode cX8_told 78 = .ok (.bipush 16, 2) := by decide +kernel
theorem dX8_told_80 : decode cX8_told 80 = .ok (.iaload, 1) := by decide +kernel
theorem dX8_told_81 : decode cX8_told 81 = .ok (.if_icmp .ge 29, 3) := by decide +kernel
theorem dX8_told_84 : decode cX8_told 84 = .ok (.iload_n 2, 1) := by decide +kernel
theorem dX8_told_85 : decode cX8_told 85 = .ok (.aload_n 0, 1) := by decide +kernel
theorem dX8_told_86 : decode cX8_told 86 = .ok (.iload_n 3, 1) := by decide +kernel
theorem dX8_told_87 : decode cX8_told 87 = .ok (.aload_n 0, 1) := by decide +kernel
theorem dX8_told_88 : decode cX8_told 88 = .ok (.getfield 115, 3) := by decide +kernel
theorem dX8_told_91 : decode cX8_told 91 = .ok (.invokevirtual 206, 3) := by decide +kernel
theorem dX8_told_94 : decode cX8_told 94 = .ok (.ifCond .eq 7, 3) := by decide +kernel
theorem dX8_told_97 : decode cX8_told 97 = .ok (.iconst 1, 1) := by decide +kernel
theorem dX8_told_98 : decode cX8_told 98 = .ok (.goto 4, 3) := by decide +kernel
theorem dX8_told_101 : decode cX8_told 101 = .ok (.iconst 0, 1) := by decide +kernel
theorem dX8_told_102 : decode cX8_told 102 = .ok (.iadd, 1) := by decide +kernel
theorem dX8_told_103 : decode cX8_told 103 = .ok (.istore_n 2, 1) := by decide +kernel
theorem dX8_told_104 : decode cX8_told 104 = .ok (.iinc 3 1, 3) := by decide +kernel
theorem dX8_told_107 : decode cX8_told 107 = .ok (.goto (-34), 3) := by decide +kernel
theorem dX8_told_110 : decode cX8_told 110 = .ok (.iload_n 2, 1) := by decide +kernel
theorem dX8_told_111 : decode cX8_told 111 = .ok (.ireturn, 1) := by decide +kernel
theorem dX8_told_112 : decode cX8_told 112 = .ok (.aload_n 0, 1) := by decide +kernel
theorem dX8_told_113 : decode cX8_told 113 = .ok (.getfield 115, 3) := by decide +kernel
theorem dX8_told_116 : decode cX8_told 116 = .ok (.invokestatic 220, 3) := by decide +kernel
theorem dX8_told_119 : decode cX8_told 119 = .ok (.ireturn, 1) := by decide +kernel
theorem dX8_told_120 : decode cX8_told 120 = .ok (.bipush (-2), 2) := by decide +kernel
theorem dX8_told_122 : decode cX8_told 122 = .ok (.ireturn, 1) := by decide +kernel
theorem dX8_clear_0 : decode cX8_clear 0 = .ok (.aload_n 0, 1) := by decide +kernel
theorem dX8_clear_1 : decode cX8_clear 1 = .ok (.iconst 0, 1) := by decide +kernel
theorem dX8_clear_2 : decode cX8_clear 2 = .ok (.putfield 78, 3) := by decide +kernel
theorem dX8_clear_5 : decode cX8_clear 5 = .ok (.aload_n 0, 1) := by decide +kernel
theorem dX8_clear_6 : decode cX8_clear 6 = .ok (.iconst 0, 1) := by decide +kernel
theorem dX8_clear_7 : decode cX8_clear 7 = .ok (.putfield 109, 3) := by decide +kernel
theorem dX8_clear_10 : decode cX8_clear 10 = .ok (.aload_n 0, 1) := by decide +kernel
theorem dX8_clear_11 : decode cX8_clear 11 = .ok (.iconst 0, 1) := by decide +kernel
theorem dX8_clear_12 : decode cX8_clear 12 = .ok (.putfield 112, 3) := by decide +kernel
theorem dX8_clear_15 : decode cX8_clear 15 = .ok (.aload_n 0, 1) := by decide +kernel
theorem dX8_clear_16 : decode cX8_clear 16 = .ok (.iconst 0, 1) := by decide +kernel
theorem dX8_clear_17 : decode cX8_clear 17 = .ok (.putfield 119, 3) := by decide +kernel
theorem dX8_clear_20 : decode cX8_clear 20 = .ok (.aload_n 0, 1) := by decide +kernel
theorem dX8_clear_21 : decode cX8_clear 21 = .ok (.lconst 0, 1) := by decide +kernel
theorem dX8_clear_22 : decode cX8_clear 22 = .ok (.putfield 115, 3) := by decide +kernel
theorem dX8_clear_25 : decode cX8_clear 25 = .ok (.aload_n 0, 1) := by decide +kernel
theorem dX8_clear_26 : decode cX8_clear 26 = .ok (.getfield 46, 3) := by decide +kernel
theorem dX8_clear_29 : decode cX8_clear 29 = .ok (.bipush 16, 2) := by decide +kernel
theorem dX8_clear_31 : decode cX8_clear 31 = .ok (.iconst 0, 1) := by decide +kernel
theorem dX8_clear_32 : decode cX8_clear 32 = .ok (.iastore, 1) := by decide +kernel
theorem dX8_clear_33 : decode cX8_clear 33 = .ok (.return_, 1) := by decide +kernel
