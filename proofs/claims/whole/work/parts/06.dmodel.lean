theorem dX11_init_0 : decode cX11_init 0 = .ok (.aload_n 0, 1) := by decide +kernel
theorem dX11_init_1 : decode cX11_init 1 = .ok (.invokespecial 1, 3) := by decide +kernel
theorem dX11_init_4 : decode cX11_init 4 = .ok (.aload_n 0, 1) := by decide +kernel
theorem dX11_init_5 : decode cX11_init 5 = .ok (.bipush 40, 2) := by decide +kernel
theorem dX11_init_7 : decode cX11_init 7 = .ok (.newarray .int, 2) := by decide +kernel
theorem dX11_init_9 : decode cX11_init 9 = .ok (.putfield 7, 3) := by decide +kernel
theorem dX11_init_12 : decode cX11_init 12 = .ok (.aload_n 0, 1) := by decide +kernel
theorem dX11_init_13 : decode cX11_init 13 = .ok (.bipush 60, 2) := by decide +kernel
theorem dX11_init_15 : decode cX11_init 15 = .ok (.newarray .int, 2) := by decide +kernel
theorem dX11_init_17 : decode cX11_init 17 = .ok (.putfield 13, 3) := by decide +kernel
theorem dX11_init_20 : decode cX11_init 20 = .ok (.aload_n 0, 1) := by decide +kernel
theorem dX11_init_21 : decode cX11_init 21 = .ok (.bipush 120, 2) := by decide +kernel
theorem dX11_init_23 : decode cX11_init 23 = .ok (.newarray .int, 2) := by decide +kernel
theorem dX11_init_25 : decode cX11_init 25 = .ok (.putfield 16, 3) := by decide +kernel
theorem dX11_init_28 : decode cX11_init 28 = .ok (.aload_n 0, 1) := by decide +kernel
theorem dX11_init_29 : decode cX11_init 29 = .ok (.bipush 60, 2) := by decide +kernel
theorem dX11_init_31 : decode cX11_init 31 = .ok (.newarray .int, 2) := by decide +kernel
theorem dX11_init_33 : decode cX11_init 33 = .ok (.putfield 19, 3) := by decide +kernel
theorem dX11_init_36 : decode cX11_init 36 = .ok (.aload_n 0, 1) := by decide +kernel
theorem dX11_init_37 : decode cX11_init 37 = .ok (.bipush 72, 2) := by decide +kernel
theorem dX11_init_39 : decode cX11_init 39 = .ok (.newarray .int, 2) := by decide +kernel
theorem dX11_init_41 : decode cX11_init 41 = .ok (.putfield 22, 3) := by decide +kernel
theorem dX11_init_44 : decode cX11_init 44 = .ok (.aload_n 0, 1) := by decide +kernel
theorem dX11_init_45 : decode cX11_init 45 = .ok (.bipush 12, 2) := by decide +kernel
theorem dX11_init_47 : decode cX11_init 47 = .ok (.newarray .int, 2) := by decide +kernel
theorem dX11_init_49 : decode cX11_init 49 = .ok (.putfield 25, 3) := by decide +kernel
theorem dX11_init_52 : decode cX11_init 52 = .ok (.aload_n 0, 1) := by decide +kernel
theorem dX11_init_53 : decode cX11_init 53 = .ok (.bipush 40, 2) := by decide +kernel
theorem dX11_init_55 : decode cX11_init 55 = .ok (.newarray .int, 2) := by decide +kernel
theorem dX11_init_57 : decode cX11_init 57 = .ok (.putfield 28, 3) := by decide +kernel
theorem dX11_init_60 : decode cX11_init 60 = .ok (.aload_n 0, 1) := by decide +kernel
theorem dX11_init_61 : decode cX11_init 61 = .ok (.bipush 40, 2) := by decide +kernel
theorem dX11_init_63 : decode cX11_init 63 = .ok (.newarray .int, 2) := by decide +kernel
theorem dX11_init_65 : decode cX11_init 65 = .ok (.putfield 31, 3) := by decide +kernel
theorem dX11_init_68 : decode cX11_init 68 = .ok (.aload_n 0, 1) := by decide +kernel
theorem dX11_init_69 : decode cX11_init 69 = .ok (.bipush 40, 2) := by decide +kernel
theorem dX11_init_71 : decode cX11_init 71 = .ok (.newarray .int, 2) := by decide +kernel
theorem dX11_init_73 : decode cX11_init 73 = .ok (.putfield 34, 3) := by decide +kernel
theorem dX11_init_76 : decode cX11_init 76 = .ok (.aload_n 0, 1) := by decide +kernel
theorem dX11_init_77 : decode cX11_init 77 = .ok (.sipush 999, 3) := by decide +kernel
theorem dX11_init_80 : decode cX11_init 80 = .ok (.putfield 37, 3) := by decide +kernel
theorem dX11_init_83 : decode cX11_init 83 = .ok (.aload_n 0, 1) := by decide +kernel
theorem dX11_init_84 : decode cX11_init 84 = .ok (.bipush 36, 2) := by decide +kernel
theorem dX11_init_86 : decode cX11_init 86 = .ok (.newarray .int, 2) := by decide +kernel
theorem dX11_init_88 : decode cX11_init 88 = .ok (.putfield 41, 3) := by decide +kernel
theorem dX11_init_91 : decode cX11_init 91 = .ok (.aload_n 0, 1) := by decide +kernel
theorem dX11_init_92 : decode cX11_init 92 = .ok (.bipush 24, 2) := by decide +kernel
theorem dX11_init_94 : decode cX11_init 94 = .ok (.newarray .int, 2) := by decide +kernel
theorem dX11_init_96 : decode cX11_init 96 = .ok (.putfield 44, 3) := by decide +kernel
theorem dX11_init_99 : decode cX11_init 99 = .ok (.aload_n 0, 1) := by decide +kernel
theorem dX11_init_100 : decode cX11_init 100 = .ok (.bipush 24, 2) := by decide +kernel
theorem dX11_init_102 : decode cX11_init 102 = .ok (.newarray .int, 2) := by decide +kernel
theorem dX11_init_104 : decode cX11_init 104 = .ok (.putfield 47, 3) := by decide +kernel
theorem dX11_init_107 : decode cX11_init 107 = .ok (.aload_n 0, 1) := by decide +kernel
theorem dX11_init_108 : decode cX11_init 108 = .ok (.bipush 8, 2) := by decide +kernel
theorem dX11_init_110 : decode cX11_init 110 = .ok (.newarray .int, 2) := by decide +kernel
theorem dX11_init_112 : decode cX11_init 112 = .ok (.putfield 50, 3) := by decide +kernel
theorem dX11_init_115 : decode cX11_init 115 = .ok (.aload_n 0, 1) := by decide +kernel
theorem dX11_init_116 : decode cX11_init 116 = .ok (.bipush 8, 2) := by decide +kernel
theorem dX11_init_118 : decode cX11_init 118 = .ok (.newarray .int, 2) := by decide +kernel
theorem dX11_init_120 : decode cX11_init 120 = .ok (.putfield 53, 3) := by decide +kernel
theorem dX11_init_123 : decode cX11_init 123 = .ok (.aload_n 0, 1) := by decide +kernel
theorem dX11_init_124 : decode cX11_init 124 = .ok (.iconst 4, 1) := by decide +kernel
theorem dX11_init_125 : decode cX11_init 125 = .ok (.newarray .boolean, 2) := by decide +kernel
theorem dX11_init_127 : decode cX11_init 127 = .ok (.putfield 56, 3) := by decide +kernel
theorem dX11_init_130 : decode cX11_init 130 = .ok (.aload_n 0, 1) := by decide +kernel
theorem dX11_init_131 : decode cX11_init 131 = .ok (.iconst 4, 1) := by decide +kernel
theorem dX11_init_132 : decode cX11_init 132 = .ok (.newarray .int, 2) := by decide +kernel
theorem dX11_init_134 : decode cX11_init 134 = .ok (.putfield 60, 3) := by decide +kernel
theorem dX11_init_137 : decode cX11_init 137 = .ok (.aload_n 0, 1) := by decide +kernel
theorem dX11_init_138 : decode cX11_init 138 = .ok (.iconst 4, 1) := by decide +kernel
theorem dX11_init_139 : decode cX11_init 139 = .ok (.newarray .int, 2) := by decide +kernel
theorem dX11_init_141 : decode cX11_init 141 = .ok (.putfield 63, 3) := by decide +kernel
theorem dX11_init_144 : decode cX11_init 144 = .ok (.aload_n 0, 1) := by decide +kernel
theorem dX11_init_145 : decode cX11_init 145 = .ok (.sipush 240, 3) := by decide +kernel
theorem dX11_init_148 : decode cX11_init 148 = .ok (.newarray .int, 2) := by decide +kernel
theorem dX11_init_150 : decode cX11_init 150 = .ok (.putfield 66, 3) := by decide +kernel
theorem dX11_init_153 : decode cX11_init 153 = .ok (.aload_n 0, 1) := by decide +kernel
theorem dX11_init_154 : decode cX11_init 154 = .ok (.bipush 60, 2) := by decide +kernel
theorem dX11_init_156 : decode cX11_init 156 = .ok (.newarray .int, 2) := by decide +kernel
theorem dX11_init_158 : decode cX11_init 158 = .ok (.putfield 69, 3) := by decide +kernel
theorem dX11_init_161 : decode cX11_init 161 = .ok (.return_, 1) := by decide +kernel
theorem dX11_in_0 : decode cX11_in 0 = .ok (.iload_n 0, 1) := by decide +kernel
theorem dX11_in_1 : decode cX11_in 1 = .ok (.iload_n 1, 1) := by decide +kernel
theorem dX11_in_2 : decode cX11_in 2 = .ok (.if_icmp .lt 12, 3) := by decide +kernel
theorem dX11_in_5 : decode cX11_in 5 = .ok (.iload_n 0, 1) := by decide +kernel
theorem dX11_in_6 : decode cX11_in 6 = .ok (.iload_n 2, 1) := by decide +kernel
theorem dX11_in_7 : decode cX11_in 7 = .ok (.if_icmp .gt 7, 3) := by decide +kernel
theorem dX11_in_10 : decode cX11_in 10 = .ok (.iconst 1, 1) := by decide +kernel
theorem dX11_in_11 : decode cX11_in 11 = .ok (.goto 4, 3) := by decide +kernel
theorem dX11_in_14 : decode cX11_in 14 = .ok (.iconst 0, 1) := by decide +kernel
theorem dX11_in_15 : decode cX11_in 15 = .ok (.ireturn, 1) := by decide +kernel
theorem dX11_has_0 : decode cX11_has 0 = .ok (.iload_n 0, 1) := by decide +kernel
theorem dX11_has_1 : decode cX11_has 1 = .ok (.iload_n 1, 1) := by decide +kernel
theorem dX11_has_2 : decode cX11_has 2 = .ok (.ishr, 1) := by decide +kernel
theorem dX11_has_3 : decode cX11_has 3 = .ok (.iconst 1, 1) := by decide +kernel
theorem dX11_has_4 : decode cX11_has 4 = .ok (.iand, 1) := by decide +kernel
theorem dX11_has_5 : decode cX11_has 5 = .ok (.iconst 1, 1) := by decide +kernel
theorem dX11_has_6 : decode cX11_has 6 = .ok (.if_icmp .ne 7, 3) := by decide +kernel
theorem dX11_has_9 : decode cX11_has 9 = .ok (.iconst 1, 1) := by decide +kernel
theorem dX11_has_10 : decode cX11_has 10 = .ok (.goto 4, 3) := by decide +kernel
theorem dX11_has_13 : decode cX11_has 13 = .ok (.iconst 0, 1) := by decide +kernel
theorem dX11_has_14 : decode cX11_has 14 = .ok (.ireturn, 1) := by decide +kernel
theorem dX11_ones_0 : decode cX11_ones 0 = .ok (.iconst 0, 1) := by decide +kernel
theorem dX11_ones_1 : decode cX11_ones 1 = .ok (.istore_n 1, 1) := by decide +kernel
theorem dX11_ones_2 : decode cX11_ones 2 = .ok (.iconst 0, 1) := by decide +kernel
theorem dX11_ones_3 : decode cX11_ones 3 = .ok (.istore_n 2, 1) := by decide +kernel
theorem dX11_ones_4 : decode cX11_ones 4 = .ok (.iload_n 2, 1) := by decide +kernel
theorem dX11_ones_5 : decode cX11_ones 5 = .ok (.bipush 8, 2) := by decide +kernel
theorem dX11_ones_7 : decode cX11_ones 7 = .ok (.if_icmp .ge 17, 3) := by decide +kernel
theorem dX11_ones_10 : decode cX11_ones 10 = .ok (.iload_n 1, 1) := by decide +kernel
theorem dX11_ones_11 : decode cX11_ones 11 = .ok (.iload_n 0, 1) := by decide +kernel
theorem dX11_ones_12 : decode cX11_ones 12 = .ok (.iload_n 2, 1) := by decide +kernel
theorem dX11_ones_13 : decode cX11_ones 13 = .ok (.ishr, 1) := by decide +kernel
theorem dX11_ones_14 : decode cX11_ones 14 = .ok (.iconst 1, 1) := by decide +kernel
theorem dX11_ones_15 : decode cX11_ones 15 = .ok (.iand, 1) := by decide +kernel
theorem dX11_ones_16 : decode cX11_ones 16 = .ok (.iadd, 1) := by decide +kernel
theorem dX11_ones_17 : decode cX11_ones 17 = .ok (.istore_n 1, 1) := by decide +kernel
theorem dX11_ones_18 : decode cX11_ones 18 = .ok (.iinc 2 1, 3) := by decide +kernel
theorem dX11_ones_21 : decode cX11_ones 21 = .ok (.goto (-17), 3) := by decide +kernel
theorem dX11_ones_24 : decode cX11_ones 24 = .ok (.iload_n 1, 1) := by decide +kernel
theorem dX11_ones_25 : decode cX11_ones 25 = .ok (.ireturn, 1) := by decide +kernel
theorem dX11_no_0 : decode cX11_no 0 = .ok (.ldc2_w 72, 3) := by decide +kernel
theorem dX11_no_3 : decode cX11_no 3 = .ok (.iload_n 0, 1) := by decide +kernel
theorem dX11_no_4 : decode cX11_no 4 = .ok (.i2l, 1) := by decide +kernel
theorem dX11_no_5 : decode cX11_no 5 = .ok (.lsub, 1) := by decide +kernel
theorem dX11_no_6 : decode cX11_no 6 = .ok (.lreturn, 1) := by decide +kernel
theorem dX11_lowest_0 : decode cX11_lowest 0 = .ok (.lload_n 0, 1) := by decide +kernel
theorem dX11_lowest_1 : decode cX11_lowest 1 = .ok (.lstore 5, 2) := by decide +kernel
theorem dX11_lowest_3 : decode cX11_lowest 3 = .ok (.lload_n 2, 1) := by decide +kernel
theorem dX11_lowest_4 : decode cX11_lowest 4 = .ok (.lstore 7, 2) := by decide +kernel
theorem dX11_lowest_6 : decode cX11_lowest 6 = .ok (.lload 7, 2) := by decide +kernel
theorem dX11_lowest_8 : decode cX11_lowest 8 = .ok (.lconst 0, 1) := by decide +kernel
theorem dX11_lowest_9 : decode cX11_lowest 9 = .ok (.lcmp, 1) := by decide +kernel
theorem dX11_lowest_10 : decode cX11_lowest 10 = .ok (.ifCond .eq 21, 3) := by decide +kernel
theorem dX11_lowest_13 : decode cX11_lowest 13 = .ok (.lload 5, 2) := by decide +kernel
theorem dX11_lowest_15 : decode cX11_lowest 15 = .ok (.lload 7, 2) := by decide +kernel
theorem dX11_lowest_17 : decode cX11_lowest 17 = .ok (.lrem, 1) := by decide +kernel
theorem dX11_lowest_18 : decode cX11_lowest 18 = .ok (.lstore 9, 2) := by decide +kernel
theorem dX11_lowest_20 : decode cX11_lowest 20 = .ok (.lload 7, 2) := by decide +kernel
theorem dX11_lowest_22 : decode cX11_lowest 22 = .ok (.lstore 5, 2) := by decide +kernel
theorem dX11_lowest_24 : decode cX11_lowest 24 = .ok (.lload 9, 2) := by decide +kernel
theorem dX11_lowest_26 : decode cX11_lowest 26 = .ok (.lstore 7, 2) := by decide +kernel
theorem dX11_lowest_28 : decode cX11_lowest 28 = .ok (.goto (-22), 3) := by decide +kernel
theorem dX11_lowest_31 : decode cX11_lowest 31 = .ok (.iload 4, 2) := by decide +kernel
theorem dX11_lowest_33 : decode cX11_lowest 33 = .ok (.ifCond .ne 10, 3) := by decide +kernel
theorem dX11_lowest_36 : decode cX11_lowest 36 = .ok (.lload_n 0, 1) := by decide +kernel
theorem dX11_lowest_37 : decode cX11_lowest 37 = .ok (.lload 5, 2) := by decide +kernel
theorem dX11_lowest_39 : decode cX11_lowest 39 = .ok (.ldiv, 1) := by decide +kernel
theorem dX11_lowest_40 : decode cX11_lowest 40 = .ok (.goto 7, 3) := by decide +kernel
theorem dX11_lowest_43 : decode cX11_lowest 43 = .ok (.lload_n 2, 1) := by decide +kernel
theorem dX11_lowest_44 : decode cX11_lowest 44 = .ok (.lload 5, 2) := by decide +kernel
theorem dX11_lowest_46 : decode cX11_lowest 46 = .ok (.ldiv, 1) := by decide +kernel
theorem dX11_lowest_47 : decode cX11_lowest 47 = .ok (.lreturn, 1) := by decide +kernel
theorem dX11_way_0 : decode cX11_way 0 = .ok (.lload_n 0, 1) := by decide +kernel
theorem dX11_way_1 : decode cX11_way 1 = .ok (.lstore 8, 2) := by decide +kernel
theorem dX11_way_3 : decode cX11_way 3 = .ok (.lload_n 2, 1) := by decide +kernel
theorem dX11_way_4 : decode cX11_way 4 = .ok (.lstore 10, 2) := by decide +kernel
theorem dX11_way_6 : decode cX11_way 6 = .ok (.lload 4, 2) := by decide +kernel
theorem dX11_way_8 : decode cX11_way 8 = .ok (.lstore 12, 2) := by decide +kernel
theorem dX11_way_10 : decode cX11_way 10 = .ok (.lload 6, 2) := by decide +kernel
theorem dX11_way_12 : decode cX11_way 12 = .ok (.lstore 14, 2) := by decide +kernel
theorem dX11_way_14 : decode cX11_way 14 = .ok (.iconst 1, 1) := by decide +kernel
theorem dX11_way_15 : decode cX11_way 15 = .ok (.istore 16, 2) := by decide +kernel
theorem dX11_way_17 : decode cX11_way 17 = .ok (.lload 8, 2) := by decide +kernel
theorem dX11_way_19 : decode cX11_way 19 = .ok (.lload 10, 2) := by decide +kernel
theorem dX11_way_21 : decode cX11_way 21 = .ok (.ldiv, 1) := by decide +kernel
theorem dX11_way_22 : decode cX11_way 22 = .ok (.lstore 17, 2) := by decide +kernel
theorem dX11_way_24 : decode cX11_way 24 = .ok (.lload 12, 2) := by decide +kernel
theorem dX11_way_26 : decode cX11_way 26 = .ok (.lload 14, 2) := by decide +kernel
theorem dX11_way_28 : decode cX11_way 28 = .ok (.ldiv, 1) := by decide +kernel
theorem dX11_way_29 : decode cX11_way 29 = .ok (.lstore 19, 2) := by decide +kernel
theorem dX11_way_31 : decode cX11_way 31 = .ok (.lload 17, 2) := by decide +kernel
theorem dX11_way_33 : decode cX11_way 33 = .ok (.lload 19, 2) := by decide +kernel
theorem dX11_way_35 : decode cX11_way 35 = .ok (.lcmp, 1) := by decide +kernel
theorem dX11_way_36 : decode cX11_way 36 = .ok (.ifCond .eq 20, 3) := by decide +kernel
theorem dX11_way_39 : decode cX11_way 39 = .ok (.lload 17, 2) := by decide +kernel
theorem dX11_way_41 : decode cX11_way 41 = .ok (.lload 19, 2) := by decide +kernel
theorem dX11_way_43 : decode cX11_way 43 = .ok (.lcmp, 1) := by decide +kernel
theorem dX11_way_44 : decode cX11_way 44 = .ok (.ifCond .le 8, 3) := by decide +kernel
theorem dX11_way_47 : decode cX11_way 47 = .ok (.iload 16, 2) := by decide +kernel
theorem dX11_way_49 : decode cX11_way 49 = .ok (.goto 6, 3) := by decide +kernel
theorem dX11_way_52 : decode cX11_way 52 = .ok (.iload 16, 2) := by decide +kernel
theorem dX11_way_54 : decode cX11_way 54 = .ok (.ineg, 1) := by decide +kernel
theorem dX11_way_55 : decode cX11_way 55 = .ok (.ireturn, 1) := by decide +kernel
theorem dX11_way_56 : decode cX11_way 56 = .ok (.lload 8, 2) := by decide +kernel
theorem dX11_way_58 : decode cX11_way 58 = .ok (.lload 17, 2) := by decide +kernel
theorem dX11_way_60 : decode cX11_way 60 = .ok (.lload 10, 2) := by decide +kernel
theorem dX11_way_62 : decode cX11_way 62 = .ok (.lmul, 1) := by decide +kernel
theorem dX11_way_63 : decode cX11_way 63 = .ok (.lsub, 1) := by decide +kernel
theorem dX11_way_64 : decode cX11_way 64 = .ok (.lstore 8, 2) := by decide +kernel
theorem dX11_way_66 : decode cX11_way 66 = .ok (.lload 12, 2) := by decide +kernel
theorem dX11_way_68 : decode cX11_way 68 = .ok (.lload 19, 2) := by decide +kernel
theorem dX11_way_70 : decode cX11_way 70 = .ok (.lload 14, 2) := by decide +kernel
theorem dX11_way_72 : decode cX11_way 72 = .ok (.lmul, 1) := by decide +kernel
theorem dX11_way_73 : decode cX11_way 73 = .ok (.lsub, 1) := by decide +kernel
theorem dX11_way_74 : decode cX11_way 74 = .ok (.lstore 12, 2) := by decide +kernel
theorem dX11_way_76 : decode cX11_way 76 = .ok (.lload 8, 2) := by decide +kernel
theorem dX11_way_78 : decode cX11_way 78 = .ok (.lconst 0, 1) := by decide +kernel
theorem dX11_way_79 : decode cX11_way 79 = .ok (.lcmp, 1) := by decide +kernel
theorem dX11_way_80 : decode cX11_way 80 = .ok (.ifCond .eq 10, 3) := by decide +kernel
theorem dX11_way_83 : decode cX11_way 83 = .ok (.lload 12, 2) := by decide +kernel
theorem dX11_way_85 : decode cX11_way 85 = .ok (.lconst 0, 1) := by decide +kernel
theorem dX11_way_86 : decode cX11_way 86 = .ok (.lcmp, 1) := by decide +kernel
theorem dX11_way_87 : decode cX11_way 87 = .ok (.ifCond .ne 31, 3) := by decide +kernel
theorem dX11_way_90 : decode cX11_way 90 = .ok (.lload 8, 2) := by decide +kernel
theorem dX11_way_92 : decode cX11_way 92 = .ok (.lload 12, 2) := by decide +kernel
theorem dX11_way_94 : decode cX11_way 94 = .ok (.lcmp, 1) := by decide +kernel
theorem dX11_way_95 : decode cX11_way 95 = .ok (.ifCond .ne 7, 3) := by decide +kernel
theorem dX11_way_98 : decode cX11_way 98 = .ok (.iconst 0, 1) := by decide +kernel
theorem dX11_way_99 : decode cX11_way 99 = .ok (.goto 18, 3) := by decide +kernel
theorem dX11_way_102 : decode cX11_way 102 = .ok (.lload 8, 2) := by decide +kernel
theorem dX11_way_104 : decode cX11_way 104 = .ok (.lconst 0, 1) := by decide +kernel
theorem dX11_way_105 : decode cX11_way 105 = .ok (.lcmp, 1) := by decide +kernel
theorem dX11_way_106 : decode cX11_way 106 = .ok (.ifCond .le 8, 3) := by decide +kernel
theorem dX11_way_109 : decode cX11_way 109 = .ok (.iload 16, 2) := by decide +kernel
theorem dX11_way_111 : decode cX11_way 111 = .ok (.goto 6, 3) := by decide +kernel
theorem dX11_way_114 : decode cX11_way 114 = .ok (.iload 16, 2) := by decide +kernel
theorem dX11_way_116 : decode cX11_way 116 = .ok (.ineg, 1) := by decide +kernel
theorem dX11_way_117 : decode cX11_way 117 = .ok (.ireturn, 1) := by decide +kernel
theorem dX11_way_118 : decode cX11_way 118 = .ok (.lload 8, 2) := by decide +kernel
theorem dX11_way_120 : decode cX11_way 120 = .ok (.lstore 21, 2) := by decide +kernel
theorem dX11_way_122 : decode cX11_way 122 = .ok (.lload 10, 2) := by decide +kernel
theorem dX11_way_124 : decode cX11_way 124 = .ok (.lstore 8, 2) := by decide +kernel
theorem dX11_way_126 : decode cX11_way 126 = .ok (.lload 21, 2) := by decide +kernel
theorem dX11_way_128 : decode cX11_way 128 = .ok (.lstore 10, 2) := by decide +kernel
theorem dX11_way_130 : decode cX11_way 130 = .ok (.lload 12, 2) := by decide +kernel
theorem dX11_way_132 : decode cX11_way 132 = .ok (.lstore 21, 2) := by decide +kernel
theorem dX11_way_134 : decode cX11_way 134 = .ok (.lload 14, 2) := by decide +kernel
theorem dX11_way_136 : decode cX11_way 136 = .ok (.lstore 12, 2) := by decide +kernel
theorem dX11_way_138 : decode cX11_way 138 = .ok (.lload 21, 2) := by decide +kernel
theorem dX11_way_140 : decode cX11_way 140 = .ok (.lstore 14, 2) := by decide +kernel
theorem dX11_way_142 : decode cX11_way 142 = .ok (.iload 16, 2) := by decide +kernel
theorem dX11_way_144 : decode cX11_way 144 = .ok (.ineg, 1) := by decide +kernel
theorem dX11_way_145 : decode cX11_way 145 = .ok (.istore 16, 2) := by decide +kernel
theorem dX11_way_147 : decode cX11_way 147 = .ok (.goto (-130), 3) := by decide +kernel
set_option maxRecDepth 20000 in
theorem ggX11_type_X11_in : GoodIn wsX11_type wsX11_in := goodIn_r _ [6] (by decide +kernel) (by decide +kernel)
set_option maxRecDepth 20000 in
theorem gX11_type_X11_in : GoodIn wsX11_type (va_wsS RX11 74 yX11_in wsX11_in) := goodIn_app (goodIn_of _ (by decide +kernel)) ggX11_type_X11_in
theorem dX11_type_0 : decode cX11_type 0 = .ok (.iload_n 1, 1) := by decide +kernel
theorem dX11_type_1 : decode cX11_type 1 = .ok (.iconst 0, 1) := by decide +kernel
theorem dX11_type_2 : decode cX11_type 2 = .ok (.sipush 255, 3) := by decide +kernel
theorem dX11_type_5 : decode cX11_type 5 = .ok (.invokestatic 74, 3) := by decide +kernel
theorem dX11_type_8 : decode cX11_type 8 = .ok (.ifCond .ne 6, 3) := by decide +kernel
theorem dX11_type_11 : decode cX11_type 11 = .ok (.bipush (-2), 2) := by decide +kernel
theorem dX11_type_13 : decode cX11_type 13 = .ok (.ireturn, 1) := by decide +kernel
theorem dX11_type_14 : decode cX11_type 14 = .ok (.aload_n 0, 1) := by decide +kernel
theorem dX11_type_15 : decode cX11_type 15 = .ok (.getfield 78, 3) := by decide +kernel
theorem dX11_type_18 : decode cX11_type 18 = .ok (.bipush 40, 2) := by decide +kernel
theorem dX11_type_20 : decode cX11_type 20 = .ok (.if_icmp .ne 6, 3) := by decide +kernel
theorem dX11_type_23 : decode cX11_type 23 = .ok (.bipush (-4), 2) := by decide +kernel
theorem dX11_type_25 : decode cX11_type 25 = .ok (.ireturn, 1) := by decide +kernel
theorem dX11_type_26 : decode cX11_type 26 = .ok (.aload_n 0, 1) := by decide +kernel
theorem dX11_type_27 : decode cX11_type 27 = .ok (.getfield 7, 3) := by decide +kernel
theorem dX11_type_30 : decode cX11_type 30 = .ok (.aload_n 0, 1) := by decide +kernel
theorem dX11_type_31 : decode cX11_type 31 = .ok (.getfield 78, 3) := by decide +kernel
theorem dX11_type_34 : decode cX11_type 34 = .ok (.iload_n 1, 1) := by decide +kernel
theorem dX11_type_35 : decode cX11_type 35 = .ok (.iastore, 1) := by decide +kernel
theorem dX11_type_36 : decode cX11_type 36 = .ok (.aload_n 0, 1) := by decide +kernel
theorem dX11_type_37 : decode cX11_type 37 = .ok (.dup, 1) := by decide +kernel
theorem dX11_type_38 : decode cX11_type 38 = .ok (.getfield 78, 3) := by decide +kernel
theorem dX11_type_41 : decode cX11_type 41 = .ok (.iconst 1, 1) := by decide +kernel
theorem dX11_type_42 : decode cX11_type 42 = .ok (.iadd, 1) := by decide +kernel
theorem dX11_type_43 : decode cX11_type 43 = .ok (.putfield 78, 3) := by decide +kernel
theorem dX11_type_46 : decode cX11_type 46 = .ok (.aload_n 0, 1) := by decide +kernel
theorem dX11_type_47 : decode cX11_type 47 = .ok (.getfield 78, 3) := by decide +kernel
theorem dX11_type_50 : decode cX11_type 50 = .ok (.ireturn, 1) := by decide +kernel
theorem dX11_wipe_0 : decode cX11_wipe 0 = .ok (.aload_n 0, 1) := by decide +kernel
theorem dX11_wipe_1 : decode cX11_wipe 1 = .ok (.getfield 78, 3) := by decide +kernel
theorem dX11_wipe_4 : decode cX11_wipe 4 = .ok (.istore_n 1, 1) := by decide +kernel
theorem dX11_wipe_5 : decode cX11_wipe 5 = .ok (.aload_n 0, 1) := by decide +kernel
theorem dX11_wipe_6 : decode cX11_wipe 6 = .ok (.iconst 0, 1) := by decide +kernel
theorem dX11_wipe_7 : decode cX11_wipe 7 = .ok (.putfield 78, 3) := by decide +kernel
theorem dX11_wipe_10 : decode cX11_wipe 10 = .ok (.iload_n 1, 1) := by decide +kernel
theorem dX11_wipe_11 : decode cX11_wipe 11 = .ok (.ireturn, 1) := by decide +kernel
theorem dX11_byteAt_0 : decode cX11_byteAt 0 = .ok (.iload_n 1, 1) := by decide +kernel
theorem dX11_byteAt_1 : decode cX11_byteAt 1 = .ok (.aload_n 0, 1) := by decide +kernel
theorem dX11_byteAt_2 : decode cX11_byteAt 2 = .ok (.getfield 78, 3) := by decide +kernel
theorem dX11_byteAt_5 : decode cX11_byteAt 5 = .ok (.if_icmp .ge 12, 3) := by decide +kernel
theorem dX11_byteAt_8 : decode cX11_byteAt 8 = .ok (.aload_n 0, 1) := by decide +kernel
theorem dX11_byteAt_9 : decode cX11_byteAt 9 = .ok (.getfield 7, 3) := by decide +kernel
theorem dX11_byteAt_12 : decode cX11_byteAt 12 = .ok (.iload_n 1, 1) := by decide +kernel
theorem dX11_byteAt_13 : decode cX11_byteAt 13 = .ok (.iaload, 1) := by decide +kernel
theorem dX11_byteAt_14 : decode cX11_byteAt 14 = .ok (.goto 4, 3) := by decide +kernel
theorem dX11_byteAt_17 : decode cX11_byteAt 17 = .ok (.iconst (-1), 1) := by decide +kernel
theorem dX11_byteAt_18 : decode cX11_byteAt 18 = .ok (.ireturn, 1) := by decide +kernel
set_option maxRecDepth 20000 in
theorem ggX11_number_X11_byteAt : GoodIn wsX11_number wsX11_byteAt := goodIn_r _ [6, 7, 8, 12, 13, 14, 15, 16, 17, 18, 19, 20, 21, 22, 23, 24, 25, 26, 27, 28, 29, 30, 31, 32, 33, 34, 35, 36, 37, 38] (by decide +kernel) (by decide +kernel)
set_option maxRecDepth 20000 in
theorem gX11_number_X11_byteAt : GoodIn wsX11_number (wsV RX11 84 RX11 yX11_byteAt wsX11_byteAt) := goodIn_app (goodIn_of _ (by decide +kernel)) ggX11_number_X11_byteAt
set_option maxRecDepth 20000 in
theorem ggX11_number_X11_in : GoodIn wsX11_number wsX11_in := goodIn_r _ [11] (by decide +kernel) (by decide +kernel)
set_option maxRecDepth 20000 in
theorem gX11_number_X11_in : GoodIn wsX11_number (va_wsS RX11 74 yX11_in wsX11_in) := goodIn_app (goodIn_of _ (by decide +kernel)) ggX11_number_X11_in
theorem dX11_number_0 : decode cX11_number 0 = .ok (.aload_n 0, 1) := by decide +kernel
theorem dX11_number_1 : decode cX11_number 1 = .ok (.getfield 81, 3) := by decide +kernel
theorem dX11_number_4 : decode cX11_number 4 = .ok (.istore_n 2, 1) := by decide +kernel
theorem dX11_number_5 : decode cX11_number 5 = .ok (.iconst 0, 1) := by decide +kernel
theorem dX11_number_6 : decode cX11_number 6 = .ok (.istore_n 3, 1) := by decide +kernel
theorem dX11_number_7 : decode cX11_number 7 = .ok (.aload_n 0, 1) := by decide +kernel
theorem dX11_number_8 : decode cX11_number 8 = .ok (.getfield 81, 3) := by decide +kernel
theorem dX11_number_11 : decode cX11_number 11 = .ok (.iload_n 2, 1) := by decide +kernel
theorem dX11_number_12 : decode cX11_number 12 = .ok (.iconst 2, 1) := by decide +kernel
theorem dX11_number_13 : decode cX11_number 13 = .ok (.iadd, 1) := by decide +kernel
theorem dX11_number_14 : decode cX11_number 14 = .ok (.if_icmp .ge 59, 3) := by decide +kernel
theorem dX11_number_17 : decode cX11_number 17 = .ok (.aload_n 0, 1) := by decide +kernel
theorem dX11_number_18 : decode cX11_number 18 = .ok (.aload_n 0, 1) := by decide +kernel
theorem dX11_number_19 : decode cX11_number 19 = .ok (.getfield 81, 3) := by decide +kernel
theorem dX11_number_22 : decode cX11_number 22 = .ok (.invokevirtual 84, 3) := by decide +kernel
theorem dX11_number_25 : decode cX11_number 25 = .ok (.bipush 48, 2) := by decide +kernel
theorem dX11_number_27 : decode cX11_number 27 = .ok (.if_icmp .lt 46, 3) := by decide +kernel
theorem dX11_number_30 : decode cX11_number 30 = .ok (.aload_n 0, 1) := by decide +kernel
theorem dX11_number_31 : decode cX11_number 31 = .ok (.aload_n 0, 1) := by decide +kernel
theorem dX11_number_32 : decode cX11_number 32 = .ok (.getfield 81, 3) := by decide +kernel
theorem dX11_number_35 : decode cX11_number 35 = .ok (.invokevirtual 84, 3) := by decide +kernel
theorem dX11_number_38 : decode cX11_number 38 = .ok (.bipush 57, 2) := by decide +kernel
theorem dX11_number_40 : decode cX11_number 40 = .ok (.if_icmp .gt 33, 3) := by decide +kernel
theorem dX11_number_43 : decode cX11_number 43 = .ok (.bipush 10, 2) := by decide +kernel
theorem dX11_number_45 : decode cX11_number 45 = .ok (.iload_n 3, 1) := by decide +kernel
theorem dX11_number_46 : decode cX11_number 46 = .ok (.imul, 1) := by decide +kernel
theorem dX11_number_47 : decode cX11_number 47 = .ok (.aload_n 0, 1) := by decide +kernel
theorem dX11_number_48 : decode cX11_number 48 = .ok (.aload_n 0, 1) := by decide +kernel
theorem dX11_number_49 : decode cX11_number 49 = .ok (.getfield 81, 3) := by decide +kernel
theorem dX11_number_52 : decode cX11_number 52 = .ok (.invokevirtual 84, 3) := by decide +kernel
theorem dX11_number_55 : decode cX11_number 55 = .ok (.iadd, 1) := by decide +kernel
theorem dX11_number_56 : decode cX11_number 56 = .ok (.bipush 48, 2) := by decide +kernel
theorem dX11_number_58 : decode cX11_number 58 = .ok (.isub, 1) := by decide +kernel
theorem dX11_number_59 : decode cX11_number 59 = .ok (.istore_n 3, 1) := by decide +kernel
theorem dX11_number_60 : decode cX11_number 60 = .ok (.aload_n 0, 1) := by decide +kernel
theorem dX11_number_61 : decode cX11_number 61 = .ok (.dup, 1) := by decide +kernel
theorem dX11_number_62 : decode cX11_number 62 = .ok (.getfield 81, 3) := by decide +kernel
theorem dX11_number_65 : decode cX11_number 65 = .ok (.iconst 1, 1) := by decide +kernel
theorem dX11_number_66 : decode cX11_number 66 = .ok (.iadd, 1) := by decide +kernel
theorem dX11_number_67 : decode cX11_number 67 = .ok (.putfield 81, 3) := by decide +kernel
theorem dX11_number_70 : decode cX11_number 70 = .ok (.goto (-63), 3) := by decide +kernel
theorem dX11_number_73 : decode cX11_number 73 = .ok (.aload_n 0, 1) := by decide +kernel
theorem dX11_number_74 : decode cX11_number 74 = .ok (.getfield 81, 3) := by decide +kernel
theorem dX11_number_77 : decode cX11_number 77 = .ok (.iload_n 2, 1) := by decide +kernel
theorem dX11_number_78 : decode cX11_number 78 = .ok (.if_icmp .eq 13, 3) := by decide +kernel
theorem dX11_number_81 : decode cX11_number 81 = .ok (.iload_n 3, 1) := by decide +kernel
theorem dX11_number_82 : decode cX11_number 82 = .ok (.iload_n 1, 1) := by decide +kernel
theorem dX11_number_83 : decode cX11_number 83 = .ok (.bipush 59, 2) := by decide +kernel
theorem dX11_number_85 : decode cX11_number 85 = .ok (.invokestatic 74, 3) := by decide +kernel
theorem dX11_number_88 : decode cX11_number 88 = .ok (.ifCond .ne 10, 3) := by decide +kernel
theorem dX11_number_91 : decode cX11_number 91 = .ok (.aload_n 0, 1) := by decide +kernel
theorem dX11_number_92 : decode cX11_number 92 = .ok (.iload_n 2, 1) := by decide +kernel
theorem dX11_number_93 : decode cX11_number 93 = .ok (.putfield 81, 3) := by decide +kernel
theorem dX11_number_96 : decode cX11_number 96 = .ok (.iconst (-1), 1) := by decide +kernel
theorem dX11_number_97 : decode cX11_number 97 = .ok (.ireturn, 1) := by decide +kernel
theorem dX11_number_98 : decode cX11_number 98 = .ok (.iload_n 3, 1) := by decide +kernel
theorem dX11_number_99 : decode cX11_number 99 = .ok (.ireturn, 1) := by decide +kernel
set_option maxRecDepth 20000 in
theorem ggX11_faultNow_X11_number : GoodIn wsX11_faultNow wsX11_number := goodIn_r _ [8, 2, 9, 10, 11, 7, 12, 3, 13, 14, 15, 16, 17, 18, 19, 20, 21, 22, 23, 24, 25, 26, 27, 28, 29, 30, 31, 32, 33, 34, 35, 36, 37, 38, 39, 40, 41, 42, 43] (by decide +kernel) (by decide +kernel)
set_option maxRecDepth 20000 in
theorem gX11_faultNow_X11_number : GoodIn wsX11_faultNow (wsV RX11 88 RX11 yX11_number wsX11_number) := goodIn_app (goodIn_of _ (by decide +kernel)) ggX11_faultNow_X11_number
set_option maxRecDepth 20000 in
theorem ggX11_faultNow_X11_byteAt : GoodIn wsX11_faultNow wsX11_byteAt := goodIn_r _ [12, 3, 13, 17, 18, 19, 20, 21, 22, 23, 24, 25, 26, 27, 28, 29, 30, 31, 32, 33, 34, 35, 36, 37, 38, 39, 40, 41, 42, 43] (by decide +kernel) (by decide +kernel)
set_option maxRecDepth 20000 in
theorem gX11_faultNow_X11_byteAt : GoodIn wsX11_faultNow (wsV RX11 84 RX11 yX11_byteAt wsX11_byteAt) := goodIn_app (goodIn_of _ (by decide +kernel)) ggX11_faultNow_X11_byteAt
theorem dX11_faultNow_0 : decode cX11_faultNow 0 = .ok (.iconst 0, 1) := by decide +kernel
theorem dX11_faultNow_1 : decode cX11_faultNow 1 = .ok (.istore_n 1, 1) := by decide +kernel
theorem dX11_faultNow_2 : decode cX11_faultNow 2 = .ok (.iload_n 1, 1) := by decide +kernel
theorem dX11_faultNow_3 : decode cX11_faultNow 3 = .ok (.bipush 60, 2) := by decide +kernel
theorem dX11_faultNow_5 : decode cX11_faultNow 5 = .ok (.if_icmp .ge 16, 3) := by decide +kernel
theorem dX11_faultNow_8 : decode cX11_faultNow 8 = .ok (.aload_n 0, 1) := by decide +kernel
theorem dX11_faultNow_9 : decode cX11_faultNow 9 = .ok (.getfield 13, 3) := by decide +kernel
theorem dX11_faultNow_12 : decode cX11_faultNow 12 = .ok (.iload_n 1, 1) := by decide +kernel
theorem dX11_faultNow_13 : decode cX11_faultNow 13 = .ok (.iconst 0, 1) := by decide +kernel
theorem dX11_faultNow_14 : decode cX11_faultNow 14 = .ok (.iastore, 1) := by decide +kernel
theorem dX11_faultNow_15 : decode cX11_faultNow 15 = .ok (.iinc 1 1, 3) := by decide +kernel
theorem dX11_faultNow_18 : decode cX11_faultNow 18 = .ok (.goto (-16), 3) := by decide +kernel
theorem dX11_faultNow_21 : decode cX11_faultNow 21 = .ok (.aload_n 0, 1) := by decide +kernel
theorem dX11_faultNow_22 : decode cX11_faultNow 22 = .ok (.iconst 0, 1) := by decide +kernel
theorem dX11_faultNow_23 : decode cX11_faultNow 23 = .ok (.putfield 81, 3) := by decide +kernel
theorem dX11_faultNow_26 : decode cX11_faultNow 26 = .ok (.aload_n 0, 1) := by decide +kernel
theorem dX11_faultNow_27 : decode cX11_faultNow 27 = .ok (.iconst 0, 1) := by decide +kernel
theorem dX11_faultNow_28 : decode cX11_faultNow 28 = .ok (.invokevirtual 88, 3) := by decide +kernel
theorem dX11_faultNow_31 : decode cX11_faultNow 31 = .ok (.istore_n 1, 1) := by decide +kernel
theorem dX11_faultNow_32 : decode cX11_faultNow 32 = .ok (.iload_n 1, 1) := by decide +kernel
theorem dX11_faultNow_33 : decode cX11_faultNow 33 = .ok (.iconst (-1), 1) := by decide +kernel
theorem dX11_faultNow_34 : decode cX11_faultNow 34 = .ok (.if_icmp .ne 8, 3) := by decide +kernel
theorem dX11_faultNow_37 : decode cX11_faultNow 37 = .ok (.aload_n 0, 1) := by decide +kernel
theorem dX11_faultNow_38 : decode cX11_faultNow 38 = .ok (.getfield 81, 3) := by decide +kernel
theorem dX11_faultNow_41 : decode cX11_faultNow 41 = .ok (.ireturn, 1) := by decide +kernel
theorem dX11_faultNow_42 : decode cX11_faultNow 42 = .ok (.bipush 60, 2) := by decide +kernel
theorem dX11_faultNow_44 : decode cX11_faultNow 44 = .ok (.istore_n 2, 1) := by decide +kernel
theorem dX11_faultNow_45 : decode cX11_faultNow 45 = .ok (.aload_n 0, 1) := by decide +kernel
theorem dX11_faultNow_46 : decode cX11_faultNow 46 = .ok (.aload_n 0, 1) := by decide +kernel
theorem dX11_faultNow_47 : decode cX11_faultNow 47 = .ok (.getfield 81, 3) := by decide +kernel
theorem dX11_faultNow_50 : decode cX11_faultNow 50 = .ok (.invokevirtual 84, 3) := by decide +kernel
theorem dX11_faultNow_53 : decode cX11_faultNow 53 = .ok (.bipush 43, 2) := by decide +kernel
theorem dX11_faultNow_55 : decode cX11_faultNow 55 = .ok (.if_icmp .ne 29, 3) := by decide +kernel
theorem dX11_faultNow_58 : decode cX11_faultNow 58 = .ok (.aload_n 0, 1) := by decide +kernel
theorem dX11_faultNow_59 : decode cX11_faultNow 59 = .ok (.dup, 1) := by decide +kernel
theorem dX11_faultNow_60 : decode cX11_faultNow 60 = .ok (.getfield 81, 3) := by decide +kernel
theorem dX11_faultNow_63 : decode cX11_faultNow 63 = .ok (.iconst 1, 1) := by decide +kernel
theorem dX11_faultNow_64 : decode cX11_faultNow 64 = .ok (.iadd, 1) := by decide +kernel
theorem dX11_faultNow_65 : decode cX11_faultNow 65 = .ok (.putfield 81, 3) := by decide +kernel
theorem dX11_faultNow_68 : decode cX11_faultNow 68 = .ok (.aload_n 0, 1) := by decide +kernel
theorem dX11_faultNow_69 : decode cX11_faultNow 69 = .ok (.iconst 1, 1) := by decide +kernel
theorem dX11_faultNow_70 : decode cX11_faultNow 70 = .ok (.invokevirtual 88, 3) := by decide +kernel
theorem dX11_faultNow_73 : decode cX11_faultNow 73 = .ok (.istore_n 2, 1) := by decide +kernel
theorem dX11_faultNow_74 : decode cX11_faultNow 74 = .ok (.iload_n 2, 1) := by decide +kernel
theorem dX11_faultNow_75 : decode cX11_faultNow 75 = .ok (.iconst (-1), 1) := by decide +kernel
theorem dX11_faultNow_76 : decode cX11_faultNow 76 = .ok (.if_icmp .ne 8, 3) := by decide +kernel
theorem dX11_faultNow_79 : decode cX11_faultNow 79 = .ok (.aload_n 0, 1) := by decide +kernel
theorem dX11_faultNow_80 : decode cX11_faultNow 80 = .ok (.getfield 81, 3) := by decide +kernel
theorem dX11_faultNow_83 : decode cX11_faultNow 83 = .ok (.ireturn, 1) := by decide +kernel
theorem dX11_faultNow_84 : decode cX11_faultNow 84 = .ok (.iload_n 1, 1) := by decide +kernel
theorem dX11_faultNow_85 : decode cX11_faultNow 85 = .ok (.istore_n 3, 1) := by decide +kernel
theorem dX11_faultNow_86 : decode cX11_faultNow 86 = .ok (.iload_n 3, 1) := by decide +kernel
theorem dX11_faultNow_87 : decode cX11_faultNow 87 = .ok (.bipush 60, 2) := by decide +kernel
theorem dX11_faultNow_89 : decode cX11_faultNow 89 = .ok (.if_icmp .ge 17, 3) := by decide +kernel
theorem dX11_faultNow_92 : decode cX11_faultNow 92 = .ok (.aload_n 0, 1) := by decide +kernel
theorem dX11_faultNow_93 : decode cX11_faultNow 93 = .ok (.getfield 13, 3) := by decide +kernel
theorem dX11_faultNow_96 : decode cX11_faultNow 96 = .ok (.iload_n 3, 1) := by decide +kernel
theorem dX11_faultNow_97 : decode cX11_faultNow 97 = .ok (.iconst 1, 1) := by decide +kernel
theorem dX11_faultNow_98 : decode cX11_faultNow 98 = .ok (.iastore, 1) := by decide +kernel
theorem dX11_faultNow_99 : decode cX11_faultNow 99 = .ok (.iload_n 3, 1) := by decide +kernel
theorem dX11_faultNow_100 : decode cX11_faultNow 100 = .ok (.iload_n 2, 1) := by decide +kernel
theorem dX11_faultNow_101 : decode cX11_faultNow 101 = .ok (.iadd, 1) := by decide +kernel
theorem dX11_faultNow_102 : decode cX11_faultNow 102 = .ok (.istore_n 3, 1) := by decide +kernel
theorem dX11_faultNow_103 : decode cX11_faultNow 103 = .ok (.goto (-17), 3) := by decide +kernel
theorem dX11_faultNow_106 : decode cX11_faultNow 106 = .ok (.aload_n 0, 1) := by decide +kernel
theorem dX11_faultNow_107 : decode cX11_faultNow 107 = .ok (.getfield 81, 3) := by decide +kernel
theorem dX11_faultNow_110 : decode cX11_faultNow 110 = .ok (.aload_n 0, 1) := by decide +kernel
theorem dX11_faultNow_111 : decode cX11_faultNow 111 = .ok (.getfield 78, 3) := by decide +kernel
theorem dX11_faultNow_114 : decode cX11_faultNow 114 = .ok (.if_icmp .ne 5, 3) := by decide +kernel
theorem dX11_faultNow_117 : decode cX11_faultNow 117 = .ok (.iconst (-1), 1) := by decide +kernel
theorem dX11_faultNow_118 : decode cX11_faultNow 118 = .ok (.ireturn, 1) := by decide +kernel
theorem dX11_faultNow_119 : decode cX11_faultNow 119 = .ok (.aload_n 0, 1) := by decide +kernel
theorem dX11_faultNow_120 : decode cX11_faultNow 120 = .ok (.aload_n 0, 1) := by decide +kernel
theorem dX11_faultNow_121 : decode cX11_faultNow 121 = .ok (.getfield 81, 3) := by decide +kernel
theorem dX11_faultNow_124 : decode cX11_faultNow 124 = .ok (.invokevirtual 84, 3) := by decide +kernel
theorem dX11_faultNow_127 : decode cX11_faultNow 127 = .ok (.bipush 44, 2) := by decide +kernel
theorem dX11_faultNow_129 : decode cX11_faultNow 129 = .ok (.if_icmp .eq 8, 3) := by decide +kernel
theorem dX11_faultNow_132 : decode cX11_faultNow 132 = .ok (.aload_n 0, 1) := by decide +kernel
theorem dX11_faultNow_133 : decode cX11_faultNow 133 = .ok (.getfield 81, 3) := by decide +kernel
theorem dX11_faultNow_136 : decode cX11_faultNow 136 = .ok (.ireturn, 1) := by decide +kernel
theorem dX11_faultNow_137 : decode cX11_faultNow 137 = .ok (.aload_n 0, 1) := by decide +kernel
theorem dX11_faultNow_138 : decode cX11_faultNow 138 = .ok (.dup, 1) := by decide +kernel
theorem dX11_faultNow_139 : decode cX11_faultNow 139 = .ok (.getfield 81, 3) := by decide +kernel
theorem dX11_faultNow_142 : decode cX11_faultNow 142 = .ok (.iconst 1, 1) := by decide +kernel
theorem dX11_faultNow_143 : decode cX11_faultNow 143 = .ok (.iadd, 1) := by decide +kernel
theorem dX11_faultNow_144 : decode cX11_faultNow 144 = .ok (.putfield 81, 3) := by decide +kernel
theorem dX11_faultNow_147 : decode cX11_faultNow 147 = .ok (.goto (-121), 3) := by decide +kernel
set_option maxRecDepth 20000 in
theorem ggX11_fault_X11_faultNow : GoodIn wsX11_fault wsX11_faultNow := goodIn_r _ [5, 6, 7, 8, 9, 10, 11, 4, 12, 13, 14, 15, 16, 17, 18, 19, 20, 21, 22, 23, 24, 25, 26, 27, 28, 29, 30, 31, 32, 33, 34, 35, 36, 37, 38, 39, 40, 41, 42, 43, 44, 45, 46, 47] (by decide +kernel) (by decide +kernel)
set_option maxRecDepth 20000 in
theorem gX11_fault_X11_faultNow : GoodIn wsX11_fault (wsV RX11 91 RX11 yX11_faultNow wsX11_faultNow) := goodIn_app (goodIn_of _ (by decide +kernel)) ggX11_fault_X11_faultNow
theorem dX11_fault_0 : decode cX11_fault 0 = .ok (.aload_n 0, 1) := by decide +kernel
theorem dX11_fault_1 : decode cX11_fault 1 = .ok (.invokevirtual 91, 3) := by decide +kernel
theorem dX11_fault_4 : decode cX11_fault 4 = .ok (.ireturn, 1) := by decide +kernel
set_option maxRecDepth 20000 in
theorem ggX11_line_X11_in : GoodIn wsX11_line wsX11_in := goodIn_r _ [7] (by decide +kernel) (by decide +kernel)
set_option maxRecDepth 20000 in
theorem gX11_line_X11_in : GoodIn wsX11_line (va_wsS RX11 74 yX11_in wsX11_in) := goodIn_app (goodIn_of _ (by decide +kernel)) ggX11_line_X11_in
set_option maxRecDepth 20000 in
theorem ggX11_line_X11_faultNow : GoodIn wsX11_line wsX11_faultNow := goodIn_r _ [11, 2, 12, 3, 13, 14, 15, 6, 16, 17, 18, 19, 20, 21, 4, 5, 7, 30, 31, 32, 33, 34, 35, 36, 37, 38, 39, 40, 41, 42, 43, 44, 45, 46, 47, 48, 49, 50, 51, 52, 53, 54, 55, 56] (by decide +kernel) (by decide +kernel)
set_option maxRecDepth 20000 in
theorem gX11_line_X11_faultNow : GoodIn wsX11_line (wsV RX11 91 RX11 yX11_faultNow wsX11_faultNow) := goodIn_app (goodIn_of _ (by decide +kernel)) ggX11_line_X11_faultNow
set_option maxRecDepth 20000 in
theorem ggX11_line_X11_many : GoodIn wsX11_line wsX11_many := goodIn_r _ [25, 26, 27, 28, 6, 29, 1, 30, 31, 32, 33, 34, 35, 36, 37, 38, 39, 40, 41, 42, 43, 44, 45, 46, 47, 48, 49, 50, 51, 52, 53, 54, 55, 56] (by decide +kernel) (by decide +kernel)
set_option maxRecDepth 20000 in
theorem gX11_line_X11_many : GoodIn wsX11_line (wsV RX11 95 RX11 yX11_many wsX11_many) := goodIn_app (goodIn_of _ (by decide +kernel)) ggX11_line_X11_many
theorem dX11_line_0 : decode cX11_line 0 = .ok (.iload_n 1, 1) := by decide +kernel
theorem dX11_line_1 : decode cX11_line 1 = .ok (.iconst 0, 1) := by decide +kernel
theorem dX11_line_2 : decode cX11_line 2 = .ok (.iconst 1, 1) := by decide +kernel
theorem dX11_line_3 : decode cX11_line 3 = .ok (.invokestatic 74, 3) := by decide +kernel
theorem dX11_line_6 : decode cX11_line 6 = .ok (.ifCond .ne 6, 3) := by decide +kernel
theorem dX11_line_9 : decode cX11_line 9 = .ok (.bipush (-2), 2) := by decide +kernel
theorem dX11_line_11 : decode cX11_line 11 = .ok (.ireturn, 1) := by decide +kernel
theorem dX11_line_12 : decode cX11_line 12 = .ok (.aload_n 0, 1) := by decide +kernel
theorem dX11_line_13 : decode cX11_line 13 = .ok (.invokevirtual 91, 3) := by decide +kernel
theorem dX11_line_16 : decode cX11_line 16 = .ok (.iconst (-1), 1) := by decide +kernel
theorem dX11_line_17 : decode cX11_line 17 = .ok (.if_icmp .eq 6, 3) := by decide +kernel
theorem dX11_line_20 : decode cX11_line 20 = .ok (.bipush (-3), 2) := by decide +kernel
theorem dX11_line_22 : decode cX11_line 22 = .ok (.ireturn, 1) := by decide +kernel
theorem dX11_line_23 : decode cX11_line 23 = .ok (.iconst 0, 1) := by decide +kernel
theorem dX11_line_24 : decode cX11_line 24 = .ok (.istore_n 2, 1) := by decide +kernel
theorem dX11_line_25 : decode cX11_line 25 = .ok (.iload_n 2, 1) := by decide +kernel
theorem dX11_line_26 : decode cX11_line 26 = .ok (.bipush 60, 2) := by decide +kernel
theorem dX11_line_28 : decode cX11_line 28 = .ok (.if_icmp .ge 26, 3) := by decide +kernel
theorem dX11_line_31 : decode cX11_line 31 = .ok (.aload_n 0, 1) := by decide +kernel
theorem dX11_line_32 : decode cX11_line 32 = .ok (.getfield 16, 3) := by decide +kernel
theorem dX11_line_35 : decode cX11_line 35 = .ok (.bipush 60, 2) := by decide +kernel
theorem dX11_line_37 : decode cX11_line 37 = .ok (.iload_n 1, 1) := by decide +kernel
theorem dX11_line_38 : decode cX11_line 38 = .ok (.imul, 1) := by decide +kernel
theorem dX11_line_39 : decode cX11_line 39 = .ok (.iload_n 2, 1) := by decide +kernel
theorem dX11_line_40 : decode cX11_line 40 = .ok (.iadd, 1) := by decide +kernel
theorem dX11_line_41 : decode cX11_line 41 = .ok (.aload_n 0, 1) := by decide +kernel
theorem dX11_line_42 : decode cX11_line 42 = .ok (.getfield 13, 3) := by decide +kernel
theorem dX11_line_45 : decode cX11_line 45 = .ok (.iload_n 2, 1) := by decide +kernel
theorem dX11_line_46 : decode cX11_line 46 = .ok (.iaload, 1) := by decide +kernel
theorem dX11_line_47 : decode cX11_line 47 = .ok (.iastore, 1) := by decide +kernel
theorem dX11_line_48 : decode cX11_line 48 = .ok (.iinc 2 1, 3) := by decide +kernel
theorem dX11_line_51 : decode cX11_line 51 = .ok (.goto (-26), 3) := by decide +kernel
theorem dX11_line_54 : decode cX11_line 54 = .ok (.aload_n 0, 1) := by decide +kernel
theorem dX11_line_55 : decode cX11_line 55 = .ok (.iconst 0, 1) := by decide +kernel
theorem dX11_line_56 : decode cX11_line 56 = .ok (.putfield 78, 3) := by decide +kernel
theorem dX11_line_59 : decode cX11_line 59 = .ok (.aload_n 0, 1) := by decide +kernel
theorem dX11_line_60 : decode cX11_line 60 = .ok (.iload_n 1, 1) := by decide +kernel
theorem dX11_line_61 : decode cX11_line 61 = .ok (.invokevirtual 95, 3) := by decide +kernel
theorem dX11_line_64 : decode cX11_line 64 = .ok (.ireturn, 1) := by decide +kernel
theorem dX11_isBus_0 : decode cX11_isBus 0 = .ok (.iload_n 1, 1) := by decide +kernel
theorem dX11_isBus_1 : decode cX11_isBus 1 = .ok (.iconst 1, 1) := by decide +kernel
theorem dX11_isBus_2 : decode cX11_isBus 2 = .ok (.if_icmp .eq 13, 3) := by decide +kernel
theorem dX11_isBus_5 : decode cX11_isBus 5 = .ok (.aload_n 0, 1) := by decide +kernel
theorem dX11_isBus_6 : decode cX11_isBus 6 = .ok (.getfield 16, 3) := by decide +kernel
theorem dX11_isBus_9 : decode cX11_isBus 9 = .ok (.iload_n 2, 1) := by decide +kernel
theorem dX11_isBus_10 : decode cX11_isBus 10 = .ok (.iaload, 1) := by decide +kernel
theorem dX11_isBus_11 : decode cX11_isBus 11 = .ok (.iconst 1, 1) := by decide +kernel
theorem dX11_isBus_12 : decode cX11_isBus 12 = .ok (.if_icmp .eq 20, 3) := by decide +kernel
theorem dX11_isBus_15 : decode cX11_isBus 15 = .ok (.iload_n 1, 1) := by decide +kernel
theorem dX11_isBus_16 : decode cX11_isBus 16 = .ok (.ifCond .eq 20, 3) := by decide +kernel
theorem dX11_isBus_19 : decode cX11_isBus 19 = .ok (.aload_n 0, 1) := by decide +kernel
theorem dX11_isBus_20 : decode cX11_isBus 20 = .ok (.getfield 16, 3) := by decide +kernel
theorem dX11_isBus_23 : decode cX11_isBus 23 = .ok (.bipush 60, 2) := by decide +kernel
theorem dX11_isBus_25 : decode cX11_isBus 25 = .ok (.iload_n 2, 1) := by decide +kernel
theorem dX11_isBus_26 : decode cX11_isBus 26 = .ok (.iadd, 1) := by decide +kernel
theorem dX11_isBus_27 : decode cX11_isBus 27 = .ok (.iaload, 1) := by decide +kernel
theorem dX11_isBus_28 : decode cX11_isBus 28 = .ok (.iconst 1, 1) := by decide +kernel
theorem dX11_isBus_29 : decode cX11_isBus 29 = .ok (.if_icmp .ne 7, 3) := by decide +kernel
theorem dX11_isBus_32 : decode cX11_isBus 32 = .ok (.iconst 1, 1) := by decide +kernel
theorem dX11_isBus_33 : decode cX11_isBus 33 = .ok (.goto 4, 3) := by decide +kernel
theorem dX11_isBus_36 : decode cX11_isBus 36 = .ok (.iconst 0, 1) := by decide +kernel
theorem dX11_isBus_37 : decode cX11_isBus 37 = .ok (.ireturn, 1) := by decide +kernel
set_option maxRecDepth 20000 in
theorem ggX11_many_X11_isBus : GoodIn wsX11_many wsX11_isBus := goodIn_r _ [5, 6, 7, 8, 9, 10, 11, 12, 13, 14, 15, 16, 17, 18, 19, 20, 21, 22, 23, 24, 25, 26, 27, 28, 29, 30, 31, 32, 33] (by decide +kernel) (by decide +kernel)
set_option maxRecDepth 20000 in
theorem gX11_many_X11_isBus : GoodIn wsX11_many (wsV RX11 98 RX11 yX11_isBus wsX11_isBus) := goodIn_app (goodIn_of _ (by decide +kernel)) ggX11_many_X11_isBus
theorem dX11_many_0 : decode cX11_many 0 = .ok (.iconst 0, 1) := by decide +kernel
theorem dX11_many_1 : decode cX11_many 1 = .ok (.istore_n 2, 1) := by decide +kernel
theorem dX11_many_2 : decode cX11_many 2 = .ok (.iconst 0, 1) := by decide +kernel
theorem dX11_many_3 : decode cX11_many 3 = .ok (.istore_n 3, 1) := by decide +kernel
theorem dX11_many_4 : decode cX11_many 4 = .ok (.iload_n 3, 1) := by decide +kernel
theorem dX11_many_5 : decode cX11_many 5 = .ok (.bipush 60, 2) := by decide +kernel
theorem dX11_many_7 : decode cX11_many 7 = .ok (.if_icmp .ge 26, 3) := by decide +kernel
theorem dX11_many_10 : decode cX11_many 10 = .ok (.iload_n 2, 1) := by decide +kernel
theorem dX11_many_11 : decode cX11_many 11 = .ok (.aload_n 0, 1) := by decide +kernel
theorem dX11_many_12 : decode cX11_many 12 = .ok (.iload_n 1, 1) := by decide +kernel
theorem dX11_many_13 : decode cX11_many 13 = .ok (.iload_n 3, 1) := by decide +kernel
theorem dX11_many_14 : decode cX11_many 14 = .ok (.invokevirtual 98, 3) := by decide +kernel
theorem dX11_many_17 : decode cX11_many 17 = .ok (.ifCond .eq 7, 3) := by decide +kernel
theorem dX11_many_20 : decode cX11_many 20 = .ok (.iconst 1, 1) := by decide +kernel
theorem dX11_many_21 : decode cX11_many 21 = .ok (.goto 4, 3) := by decide +kernel
theorem dX11_many_24 : decode cX11_many 24 = .ok (.iconst 0, 1) := by decide +kernel
theorem dX11_many_25 : decode cX11_many 25 = .ok (.iadd, 1) := by decide +kernel
theorem dX11_many_26 : decode cX11_many 26 = .ok (.istore_n 2, 1) := by decide +kernel
theorem dX11_many_27 : decode cX11_many 27 = .ok (.iinc 3 1, 3) := by decide +kernel
theorem dX11_many_30 : decode cX11_many 30 = .ok (.goto (-26), 3) := by decide +kernel
theorem dX11_many_33 : decode cX11_many 33 = .ok (.iload_n 2, 1) := by decide +kernel
theorem dX11_many_34 : decode cX11_many 34 = .ok (.ireturn, 1) := by decide +kernel
set_option maxRecDepth 20000 in
theorem ggX11_waitOf_X11_isBus : GoodIn wsX11_waitOf wsX11_isBus := goodIn_r _ [5, 6, 7, 8, 9, 10, 11, 12, 13, 14, 15, 16, 17, 18, 19, 20, 21, 22, 23, 24, 25, 26, 27, 28, 29, 30, 31, 32, 33] (by decide +kernel) (by decide +kernel)
set_option maxRecDepth 20000 in
theorem gX11_waitOf_X11_isBus : GoodIn wsX11_waitOf (wsV RX11 98 RX11 yX11_isBus wsX11_isBus) := goodIn_app (goodIn_of _ (by decide +kernel)) ggX11_waitOf_X11_isBus
theorem dX11_waitOf_0 : decode cX11_waitOf 0 = .ok (.iconst 0, 1) := by decide +kernel
theorem dX11_waitOf_1 : decode cX11_waitOf 1 = .ok (.istore_n 3, 1) := by decide +kernel
theorem dX11_waitOf_2 : decode cX11_waitOf 2 = .ok (.aload_n 0, 1) := by decide +kernel
theorem dX11_waitOf_3 : decode cX11_waitOf 3 = .ok (.iload_n 1, 1) := by decide +kernel
theorem dX11_waitOf_4 : decode cX11_waitOf 4 = .ok (.iload_n 2, 1) := by decide +kernel
theorem dX11_waitOf_5 : decode cX11_waitOf 5 = .ok (.iload_n 3, 1) := by decide +kernel
theorem dX11_waitOf_6 : decode cX11_waitOf 6 = .ok (.iadd, 1) := by decide +kernel
theorem dX11_waitOf_7 : decode cX11_waitOf 7 = .ok (.bipush 60, 2) := by decide +kernel
theorem dX11_waitOf_9 : decode cX11_waitOf 9 = .ok (.irem, 1) := by decide +kernel
theorem dX11_waitOf_10 : decode cX11_waitOf 10 = .ok (.invokevirtual 98, 3) := by decide +kernel
theorem dX11_waitOf_13 : decode cX11_waitOf 13 = .ok (.ifCond .ne 9, 3) := by decide +kernel
theorem dX11_waitOf_16 : decode cX11_waitOf 16 = .ok (.iinc 3 1, 3) := by decide +kernel
theorem dX11_waitOf_19 : decode cX11_waitOf 19 = .ok (.goto (-17), 3) := by decide +kernel
theorem dX11_waitOf_22 : decode cX11_waitOf 22 = .ok (.iload_n 3, 1) := by decide +kernel
theorem dX11_waitOf_23 : decode cX11_waitOf 23 = .ok (.ireturn, 1) := by decide +kernel
set_option maxRecDepth 20000 in
theorem ggX11_waits_X11_in : GoodIn wsX11_waits wsX11_in := goodIn_r _ [4] (by decide +kernel) (by decide +kernel)
set_option maxRecDepth 20000 in
theorem gX11_waits_X11_in : GoodIn wsX11_waits (va_wsS RX11 74 yX11_in wsX11_in) := goodIn_app (goodIn_of _ (by decide +kernel)) ggX11_waits_X11_in
set_option maxRecDepth 20000 in
theorem ggX11_waits_X11_many : GoodIn wsX11_waits wsX11_many := goodIn_r _ [8, 9, 10, 11, 3, 12, 13, 18, 19, 20, 21, 22, 23, 24, 25, 26, 27, 28, 29, 30, 31, 32, 33, 34, 35, 36, 37, 38, 39, 40, 41, 42, 43, 44] (by decide +kernel) (by decide +kernel)
set_option maxRecDepth 20000 in
theorem gX11_waits_X11_many : GoodIn wsX11_waits (wsV RX11 95 RX11 yX11_many wsX11_many) := goodIn_app (goodIn_of _ (by decide +kernel)) ggX11_waits_X11_many
set_option maxRecDepth 20000 in
theorem ggX11_waits_X11_waitOf : GoodIn wsX11_waits wsX11_waitOf := goodIn_r _ [17, 9, 10, 11, 3, 12, 13, 18, 19, 20, 21, 22, 23, 24, 25, 26, 27, 28, 29, 30, 31, 32, 33, 34, 35, 36, 37, 38, 39, 40, 41, 42, 43, 44] (by decide +kernel) (by decide +kernel)
set_option maxRecDepth 20000 in
theorem gX11_waits_X11_waitOf : GoodIn wsX11_waits (wsV RX11 102 RX11 yX11_waitOf wsX11_waitOf) := goodIn_app (goodIn_of _ (by decide +kernel)) ggX11_waits_X11_waitOf
theorem dX11_waits_0 : decode cX11_waits 0 = .ok (.iload_n 1, 1) := by decide +kernel
theorem dX11_waits_1 : decode cX11_waits 1 = .ok (.iconst 0, 1) := by decide +kernel
theorem dX11_waits_2 : decode cX11_waits 2 = .ok (.iconst 2, 1) := by decide +kernel
theorem dX11_waits_3 : decode cX11_waits 3 = .ok (.invokestatic 74, 3) := by decide +kernel
theorem dX11_waits_6 : decode cX11_waits 6 = .ok (.ifCond .eq 13, 3) := by decide +kernel
theorem dX11_waits_9 : decode cX11_waits 9 = .ok (.iload_n 2, 1) := by decide +kernel
theorem dX11_waits_10 : decode cX11_waits 10 = .ok (.iconst 0, 1) := by decide +kernel
theorem dX11_waits_11 : decode cX11_waits 11 = .ok (.bipush 59, 2) := by decide +kernel
theorem dX11_waits_13 : decode cX11_waits 13 = .ok (.invokestatic 74, 3) := by decide +kernel
theorem dX11_waits_16 : decode cX11_waits 16 = .ok (.ifCond .ne 6, 3) := by decide +kernel
theorem dX11_waits_19 : decode cX11_waits 19 = .ok (.bipush (-2), 2) := by decide +kernel
theorem dX11_waits_21 : decode cX11_waits 21 = .ok (.ireturn, 1) := by decide +kernel
theorem dX11_waits_22 : decode cX11_waits 22 = .ok (.aload_n 0, 1) := by decide +kernel
theorem dX11_waits_23 : decode cX11_waits 23 = .ok (.iload_n 1, 1) := by decide +kernel
theorem dX11_waits_24 : decode cX11_waits 24 = .ok (.invokevirtual 95, 3) := by decide +kernel
theorem dX11_waits_27 : decode cX11_waits 27 = .ok (.ifCond .ne 8, 3) := by decide +kernel
theorem dX11_waits_30 : decode cX11_waits 30 = .ok (.bipush (-3), 2) := by decide +kernel
theorem dX11_waits_32 : decode cX11_waits 32 = .ok (.goto 9, 3) := by decide +kernel
theorem dX11_waits_35 : decode cX11_waits 35 = .ok (.aload_n 0, 1) := by decide +kernel
theorem dX11_waits_36 : decode cX11_waits 36 = .ok (.iload_n 1, 1) := by decide +kernel
theorem dX11_waits_37 : decode cX11_waits 37 = .ok (.iload_n 2, 1) := by decide +kernel
theorem dX11_waits_38 : decode cX11_waits 38 = .ok (.invokevirtual 102, 3) := by decide +kernel
theorem dX11_waits_41 : decode cX11_waits 41 = .ok (.ireturn, 1) := by decide +kernel
set_option maxRecDepth 20000 in
theorem ggX11_gapBehind_X11_waitOf : GoodIn wsX11_gapBehind wsX11_waitOf := goodIn_r _ [5, 6, 7, 8, 4, 9, 10, 11, 12, 13, 14, 15, 16, 17, 18, 19, 20, 21, 22, 23, 24, 25, 26, 27, 28, 29, 30, 31, 32, 33, 34, 35, 36, 37] (by decide +kernel) (by decide +kernel)
set_option maxRecDepth 20000 in
theorem gX11_gapBehind_X11_waitOf : GoodIn wsX11_gapBehind (wsV RX11 102 RX11 yX11_waitOf wsX11_waitOf) := goodIn_app (goodIn_of _ (by decide +kernel)) ggX11_gapBehind_X11_waitOf
theorem dX11_gapBehind_0 : decode cX11_gapBehind 0 = .ok (.iconst 1, 1) := by decide +kernel
theorem dX11_gapBehind_1 : decode cX11_gapBehind 1 = .ok (.aload_n 0, 1) := by decide +kernel
theorem dX11_gapBehind_2 : decode cX11_gapBehind 2 = .ok (.iload_n 1, 1) := by decide +kernel
theorem dX11_gapBehind_3 : decode cX11_gapBehind 3 = .ok (.iload_n 2, 1) := by decide +kernel
theorem dX11_gapBehind_4 : decode cX11_gapBehind 4 = .ok (.iconst 1, 1) := by decide +kernel
theorem dX11_gapBehind_5 : decode cX11_gapBehind 5 = .ok (.iadd, 1) := by decide +kernel
theorem dX11_gapBehind_6 : decode cX11_gapBehind 6 = .ok (.bipush 60, 2) := by decide +kernel
theorem dX11_gapBehind_8 : decode cX11_gapBehind 8 = .ok (.irem, 1) := by decide +kernel
theorem dX11_gapBehind_9 : decode cX11_gapBehind 9 = .ok (.invokevirtual 102, 3) := by decide +kernel
theorem dX11_gapBehind_12 : decode cX11_gapBehind 12 = .ok (.iadd, 1) := by decide +kernel
theorem dX11_gapBehind_13 : decode cX11_gapBehind 13 = .ok (.ireturn, 1) := by decide +kernel
set_option maxRecDepth 20000 in
theorem ggX11_met_X11_in : GoodIn wsX11_met wsX11_in := goodIn_r _ [4] (by decide +kernel) (by decide +kernel)
set_option maxRecDepth 20000 in
theorem gX11_met_X11_in : GoodIn wsX11_met (va_wsS RX11 74 yX11_in wsX11_in) := goodIn_app (goodIn_of _ (by decide +kernel)) ggX11_met_X11_in
set_option maxRecDepth 20000 in
theorem ggX11_met_X11_isBus : GoodIn wsX11_met wsX11_isBus := goodIn_r _ [8, 9, 18, 19, 20, 21, 22, 23, 24, 25, 26, 27, 28, 29, 30, 31, 32, 33, 34, 35, 36, 37, 38, 39, 40, 41, 42, 43, 44] (by decide +kernel) (by decide +kernel)
set_option maxRecDepth 20000 in
theorem gX11_met_X11_isBus : GoodIn wsX11_met (wsV RX11 98 RX11 yX11_isBus wsX11_isBus) := goodIn_app (goodIn_of _ (by decide +kernel)) ggX11_met_X11_isBus
set_option maxRecDepth 20000 in
theorem ggX11_met_X11_gapBehind : GoodIn wsX11_met wsX11_gapBehind := goodIn_r _ [13, 14, 15, 16, 3, 17, 5, 6, 7, 8, 9, 18, 19, 20, 21, 22, 23, 24, 25, 26, 27, 28, 29, 30, 31, 32, 33, 34, 35, 36, 37, 38, 39, 40, 41, 42, 43, 44] (by decide +kernel) (by decide +kernel)
set_option maxRecDepth 20000 in
theorem gX11_met_X11_gapBehind : GoodIn wsX11_met (wsV RX11 106 RX11 yX11_gapBehind wsX11_gapBehind) := goodIn_app (goodIn_of _ (by decide +kernel)) ggX11_met_X11_gapBehind
theorem dX11_met_0 : decode cX11_met 0 = .ok (.iload_n 1, 1) := by decide +kernel
theorem dX11_met_1 : decode cX11_met 1 = .ok (.iconst 0, 1) := by decide +kernel
theorem dX11_met_2 : decode cX11_met 2 = .ok (.iconst 2, 1) := by decide +kernel
theorem dX11_met_3 : decode cX11_met 3 = .ok (.invokestatic 74, 3) := by decide +kernel
theorem dX11_met_6 : decode cX11_met 6 = .ok (.ifCond .eq 13, 3) := by decide +kernel
theorem dX11_met_9 : decode cX11_met 9 = .ok (.iload_n 2, 1) := by decide +kernel
theorem dX11_met_10 : decode cX11_met 10 = .ok (.iconst 1, 1) := by decide +kernel
theorem dX11_met_11 : decode cX11_met 11 = .ok (.bipush 60, 2) := by decide +kernel
theorem dX11_met_13 : decode cX11_met 13 = .ok (.invokestatic 74, 3) := by decide +kernel
theorem dX11_met_16 : decode cX11_met 16 = .ok (.ifCond .ne 6, 3) := by decide +kernel
theorem dX11_met_19 : decode cX11_met 19 = .ok (.bipush (-2), 2) := by decide +kernel
theorem dX11_met_21 : decode cX11_met 21 = .ok (.ireturn, 1) := by decide +kernel
theorem dX11_met_22 : decode cX11_met 22 = .ok (.iconst 0, 1) := by decide +kernel
theorem dX11_met_23 : decode cX11_met 23 = .ok (.istore_n 3, 1) := by decide +kernel
theorem dX11_met_24 : decode cX11_met 24 = .ok (.iconst 0, 1) := by decide +kernel
theorem dX11_met_25 : decode cX11_met 25 = .ok (.istore 4, 2) := by decide +kernel
theorem dX11_met_27 : decode cX11_met 27 = .ok (.iload 4, 2) := by decide +kernel
theorem dX11_met_29 : decode cX11_met 29 = .ok (.bipush 60, 2) := by decide +kernel
theorem dX11_met_31 : decode cX11_met 31 = .ok (.if_icmp .ge 38, 3) := by decide +kernel
theorem dX11_met_34 : decode cX11_met 34 = .ok (.iload_n 3, 1) := by decide +kernel
theorem dX11_met_35 : decode cX11_met 35 = .ok (.aload_n 0, 1) := by decide +kernel
theorem dX11_met_36 : decode cX11_met 36 = .ok (.iload_n 1, 1) := by decide +kernel
theorem dX11_met_37 : decode cX11_met 37 = .ok (.iload 4, 2) := by decide +kernel
theorem dX11_met_39 : decode cX11_met 39 = .ok (.invokevirtual 98, 3) := by decide +kernel
theorem dX11_met_42 : decode cX11_met 42 = .ok (.ifCond .eq 18, 3) := by decide +kernel
theorem dX11_met_45 : decode cX11_met 45 = .ok (.aload_n 0, 1) := by decide +kernel
theorem dX11_met_46 : decode cX11_met 46 = .ok (.iload_n 1, 1) := by decide +kernel
theorem dX11_met_47 : decode cX11_met 47 = .ok (.iload 4, 2) := by decide +kernel
theorem dX11_met_49 : decode cX11_met 49 = .ok (.invokevirtual 106, 3) := by decide +kernel
theorem dX11_met_52 : decode cX11_met 52 = .ok (.iload_n 2, 1) := by decide +kernel
theorem dX11_met_53 : decode cX11_met 53 = .ok (.if_icmp .ne 7, 3) := by decide +kernel
theorem dX11_met_56 : decode cX11_met 56 = .ok (.iload_n 2, 1) := by decide +kernel
theorem dX11_met_57 : decode cX11_met 57 = .ok (.goto 4, 3) := by decide +kernel
theorem dX11_met_60 : decode cX11_met 60 = .ok (.iconst 0, 1) := by decide +kernel
theorem dX11_met_61 : decode cX11_met 61 = .ok (.iadd, 1) := by decide +kernel
theorem dX11_met_62 : decode cX11_met 62 = .ok (.istore_n 3, 1) := by decide +kernel
theorem dX11_met_63 : decode cX11_met 63 = .ok (.iinc 4 1, 3) := by decide +kernel
theorem dX11_met_66 : decode cX11_met 66 = .ok (.goto (-39), 3) := by decide +kernel
theorem dX11_met_69 : decode cX11_met 69 = .ok (.iload_n 3, 1) := by decide +kernel
theorem dX11_met_70 : decode cX11_met 70 = .ok (.ireturn, 1) := by decide +kernel
set_option maxRecDepth 20000 in
theorem ggX11_gapsNow_X11_many : GoodIn wsX11_gapsNow wsX11_many := goodIn_r _ [6, 7, 8, 9, 5, 10, 11, 27, 28, 29, 30, 31, 32, 33, 34, 35, 36, 37, 38, 39, 40, 41, 42, 43, 44, 45, 46, 47, 48, 49, 50, 51, 52, 53] (by decide +kernel) (by decide +kernel)
set_option maxRecDepth 20000 in
theorem gX11_gapsNow_X11_many : GoodIn wsX11_gapsNow (wsV RX11 95 RX11 yX11_many wsX11_many) := goodIn_app (goodIn_of _ (by decide +kernel)) ggX11_gapsNow_X11_many
set_option maxRecDepth 20000 in
theorem ggX11_gapsNow_X11_no : GoodIn wsX11_gapsNow wsX11_no := goodIn_r _ [14, 15] (by decide +kernel) (by decide +kernel)
set_option maxRecDepth 20000 in
theorem gX11_gapsNow_X11_no : GoodIn wsX11_gapsNow (va_wsS RX11 109 yX11_no wsX11_no) := goodIn_app (goodIn_of _ (by decide +kernel)) ggX11_gapsNow_X11_no
set_option maxRecDepth 20000 in
theorem ggX11_gapsNow_X11_isBus : GoodIn wsX11_gapsNow wsX11_isBus := goodIn_r _ [10, 11, 27, 28, 29, 30, 31, 32, 33, 34, 35, 36, 37, 38, 39, 40, 41, 42, 43, 44, 45, 46, 47, 48, 49, 50, 51, 52, 53] (by decide +kernel) (by decide +kernel)
set_option maxRecDepth 20000 in
theorem gX11_gapsNow_X11_isBus : GoodIn wsX11_gapsNow (wsV RX11 98 RX11 yX11_isBus wsX11_isBus) := goodIn_app (goodIn_of _ (by decide +kernel)) ggX11_gapsNow_X11_isBus
set_option maxRecDepth 20000 in
theorem ggX11_gapsNow_X11_gapBehind : GoodIn wsX11_gapsNow wsX11_gapBehind := goodIn_r _ [19, 20, 21, 22, 5, 23, 7, 8, 9, 10, 11, 27, 28, 29, 30, 31, 32, 33, 34, 35, 36, 37, 38, 39, 40, 41, 42, 43, 44, 45, 46, 47, 48, 49, 50, 51, 52, 53] (by decide +kernel) (by decide +kernel)
set_option maxRecDepth 20000 in
theorem gX11_gapsNow_X11_gapBehind : GoodIn wsX11_gapsNow (wsV RX11 106 RX11 yX11_gapBehind wsX11_gapBehind) := goodIn_app (goodIn_of _ (by decide +kernel)) ggX11_gapsNow_X11_gapBehind
set_option maxRecDepth 20000 in
theorem ggX11_gapsNow_X11_waitOf : GoodIn wsX11_gapsNow wsX11_waitOf := goodIn_r _ [23, 7, 8, 9, 5, 10, 11, 27, 28, 29, 30, 31, 32, 33, 34, 35, 36, 37, 38, 39, 40, 41, 42, 43, 44, 45, 46, 47, 48, 49, 50, 51, 52, 53] (by decide +kernel) (by decide +kernel)
set_option maxRecDepth 20000 in
theorem gX11_gapsNow_X11_waitOf : GoodIn wsX11_gapsNow (wsV RX11 102 RX11 yX11_waitOf wsX11_waitOf) := goodIn_app (goodIn_of _ (by decide +kernel)) ggX11_gapsNow_X11_waitOf
set_option maxRecDepth 20000 in
theorem ggX11_gapsNow_X11_lowest : GoodIn wsX11_gapsNow wsX11_lowest := goodIn_r _ [26] (by decide +kernel) (by decide +kernel)
set_option maxRecDepth 20000 in
theorem gX11_gapsNow_X11_lowest : GoodIn wsX11_gapsNow (va_wsS RX11 115 yX11_lowest wsX11_lowest) := goodIn_app (goodIn_of _ (by decide +kernel)) ggX11_gapsNow_X11_lowest
theorem dX11_gapsNow_0 : decode cX11_gapsNow 0 = .ok (.aload_n 0, 1) := by decide +kernel
theorem dX11_gapsNow_1 : decode cX11_gapsNow 1 = .ok (.iload_n 1, 1) := by decide +kernel
theorem dX11_gapsNow_2 : decode cX11_gapsNow 2 = .ok (.invokevirtual 95, 3) := by decide +kernel
theorem dX11_gapsNow_5 : decode cX11_gapsNow 5 = .ok (.istore 4, 2) := by decide +kernel
theorem dX11_gapsNow_7 : decode cX11_gapsNow 7 = .ok (.iload 4, 2) := by decide +kernel
theorem dX11_gapsNow_9 : decode cX11_gapsNow 9 = .ok (.ifCond .ne 9, 3) := by decide +kernel
theorem dX11_gapsNow_12 : decode cX11_gapsNow 12 = .ok (.bipush (-3), 2) := by decide +kernel
theorem dX11_gapsNow_14 : decode cX11_gapsNow 14 = .ok (.invokestatic 109, 3) := by decide +kernel
theorem dX11_gapsNow_17 : decode cX11_gapsNow 17 = .ok (.lreturn, 1) := by decide +kernel
theorem dX11_gapsNow_18 : decode cX11_gapsNow 18 = .ok (.lconst 0, 1) := by decide +kernel
theorem dX11_gapsNow_19 : decode cX11_gapsNow 19 = .ok (.lstore 5, 2) := by decide +kernel
theorem dX11_gapsNow_21 : decode cX11_gapsNow 21 = .ok (.lconst 0, 1) := by decide +kernel
theorem dX11_gapsNow_22 : decode cX11_gapsNow 22 = .ok (.lstore 7, 2) := by decide +kernel
theorem dX11_gapsNow_24 : decode cX11_gapsNow 24 = .ok (.iconst 0, 1) := by decide +kernel
theorem dX11_gapsNow_25 : decode cX11_gapsNow 25 = .ok (.istore 9, 2) := by decide +kernel
theorem dX11_gapsNow_27 : decode cX11_gapsNow 27 = .ok (.iload 9, 2) := by decide +kernel
theorem dX11_gapsNow_29 : decode cX11_gapsNow 29 = .ok (.bipush 60, 2) := by decide +kernel
theorem dX11_gapsNow_31 : decode cX11_gapsNow 31 = .ok (.if_icmp .ge 56, 3) := by decide +kernel
theorem dX11_gapsNow_34 : decode cX11_gapsNow 34 = .ok (.aload_n 0, 1) := by decide +kernel
theorem dX11_gapsNow_35 : decode cX11_gapsNow 35 = .ok (.iload_n 1, 1) := by decide +kernel
theorem dX11_gapsNow_36 : decode cX11_gapsNow 36 = .ok (.iload 9, 2) := by decide +kernel
theorem dX11_gapsNow_38 : decode cX11_gapsNow 38 = .ok (.invokevirtual 98, 3) := by decide +kernel
theorem dX11_gapsNow_41 : decode cX11_gapsNow 41 = .ok (.ifCond .eq 13, 3) := by decide +kernel
theorem dX11_gapsNow_44 : decode cX11_gapsNow 44 = .ok (.aload_n 0, 1) := by decide +kernel
theorem dX11_gapsNow_45 : decode cX11_gapsNow 45 = .ok (.iload_n 1, 1) := by decide +kernel
theorem dX11_gapsNow_46 : decode cX11_gapsNow 46 = .ok (.iload 9, 2) := by decide +kernel
theorem dX11_gapsNow_48 : decode cX11_gapsNow 48 = .ok (.invokevirtual 106, 3) := by decide +kernel
theorem dX11_gapsNow_51 : decode cX11_gapsNow 51 = .ok (.goto 4, 3) := by decide +kernel
theorem dX11_gapsNow_54 : decode cX11_gapsNow 54 = .ok (.iconst 0, 1) := by decide +kernel
theorem dX11_gapsNow_55 : decode cX11_gapsNow 55 = .ok (.istore 10, 2) := by decide +kernel
theorem dX11_gapsNow_57 : decode cX11_gapsNow 57 = .ok (.lload 5, 2) := by decide +kernel
theorem dX11_gapsNow_59 : decode cX11_gapsNow 59 = .ok (.iload 10, 2) := by decide +kernel
theorem dX11_gapsNow_61 : decode cX11_gapsNow 61 = .ok (.iload 10, 2) := by decide +kernel
theorem dX11_gapsNow_63 : decode cX11_gapsNow 63 = .ok (.imul, 1) := by decide +kernel
theorem dX11_gapsNow_64 : decode cX11_gapsNow 64 = .ok (.i2l, 1) := by decide +kernel
theorem dX11_gapsNow_65 : decode cX11_gapsNow 65 = .ok (.ladd, 1) := by decide +kernel
theorem dX11_gapsNow_66 : decode cX11_gapsNow 66 = .ok (.lstore 5, 2) := by decide +kernel
theorem dX11_gapsNow_68 : decode cX11_gapsNow 68 = .ok (.lload 7, 2) := by decide +kernel
theorem dX11_gapsNow_70 : decode cX11_gapsNow 70 = .ok (.aload_n 0, 1) := by decide +kernel
theorem dX11_gapsNow_71 : decode cX11_gapsNow 71 = .ok (.iload_n 1, 1) := by decide +kernel
theorem dX11_gapsNow_72 : decode cX11_gapsNow 72 = .ok (.iload 9, 2) := by decide +kernel
theorem dX11_gapsNow_74 : decode cX11_gapsNow 74 = .ok (.invokevirtual 102, 3) := by decide +kernel
theorem dX11_gapsNow_77 : decode cX11_gapsNow 77 = .ok (.i2l, 1) := by decide +kernel
theorem dX11_gapsNow_78 : decode cX11_gapsNow 78 = .ok (.ladd, 1) := by decide +kernel
theorem dX11_gapsNow_79 : decode cX11_gapsNow 79 = .ok (.lstore 7, 2) := by decide +kernel
theorem dX11_gapsNow_81 : decode cX11_gapsNow 81 = .ok (.iinc 9 1, 3) := by decide +kernel
theorem dX11_gapsNow_84 : decode cX11_gapsNow 84 = .ok (.goto (-57), 3) := by decide +kernel
theorem dX11_gapsNow_87 : decode cX11_gapsNow 87 = .ok (.iload_n 2, 1) := by decide +kernel
theorem dX11_gapsNow_88 : decode cX11_gapsNow 88 = .ok (.ifCond .ne 16, 3) := by decide +kernel
theorem dX11_gapsNow_91 : decode cX11_gapsNow 91 = .ok (.ldc2_w 113, 3) := by decide +kernel
theorem dX11_gapsNow_94 : decode cX11_gapsNow 94 = .ok (.iload 4, 2) := by decide +kernel
theorem dX11_gapsNow_96 : decode cX11_gapsNow 96 = .ok (.i2l, 1) := by decide +kernel
theorem dX11_gapsNow_97 : decode cX11_gapsNow 97 = .ok (.iload_n 3, 1) := by decide +kernel
theorem dX11_gapsNow_98 : decode cX11_gapsNow 98 = .ok (.invokestatic 115, 3) := by decide +kernel
theorem dX11_gapsNow_101 : decode cX11_gapsNow 101 = .ok (.goto 22, 3) := by decide +kernel
theorem dX11_gapsNow_104 : decode cX11_gapsNow 104 = .ok (.iload_n 2, 1) := by decide +kernel
theorem dX11_gapsNow_105 : decode cX11_gapsNow 105 = .ok (.iconst 1, 1) := by decide +kernel
theorem dX11_gapsNow_106 : decode cX11_gapsNow 106 = .ok (.if_icmp .ne 8, 3) := by decide +kernel
theorem dX11_gapsNow_109 : decode cX11_gapsNow 109 = .ok (.lload 5, 2) := by decide +kernel
theorem dX11_gapsNow_111 : decode cX11_gapsNow 111 = .ok (.goto 5, 3) := by decide +kernel
theorem dX11_gapsNow_114 : decode cX11_gapsNow 114 = .ok (.lload 7, 2) := by decide +kernel
theorem dX11_gapsNow_116 : decode cX11_gapsNow 116 = .ok (.ldc2_w 113, 3) := by decide +kernel
theorem dX11_gapsNow_119 : decode cX11_gapsNow 119 = .ok (.iload_n 3, 1) := by decide +kernel
theorem dX11_gapsNow_120 : decode cX11_gapsNow 120 = .ok (.invokestatic 115, 3) := by decide +kernel
theorem dX11_gapsNow_123 : decode cX11_gapsNow 123 = .ok (.lreturn, 1) := by decide +kernel
set_option maxRecDepth 20000 in
theorem ggX11_gaps_X11_in : GoodIn wsX11_gaps wsX11_in := goodIn_r _ [4] (by decide +kernel) (by decide +kernel)
set_option maxRecDepth 20000 in
theorem gX11_gaps_X11_in : GoodIn wsX11_gaps (va_wsS RX11 74 yX11_in wsX11_in) := goodIn_app (goodIn_of _ (by decide +kernel)) ggX11_gaps_X11_in
set_option maxRecDepth 20000 in
theorem ggX11_gaps_X11_gapsNow : GoodIn wsX11_gaps wsX11_gapsNow := goodIn_r _ [8, 9, 10, 11, 12, 3, 13, 14, 15, 16, 17, 18, 19, 20, 21, 22, 23, 24, 25, 26, 27, 28, 29, 30, 31, 32, 33, 34, 35, 36, 37, 38, 39, 40, 41, 42, 43, 44, 45, 46, 47, 48, 49, 50, 51, 52, 53, 54, 55, 56, 57, 58, 59, 60] (by decide +kernel) (by decide +kernel)
set_option maxRecDepth 20000 in
theorem gX11_gaps_X11_gapsNow : GoodIn wsX11_gaps (wsV RX11 119 RX11 yX11_gapsNow wsX11_gapsNow) := goodIn_app (goodIn_of _ (by decide +kernel)) ggX11_gaps_X11_gapsNow
set_option maxRecDepth 20000 in
theorem ggX11_gaps_X11_no : GoodIn wsX11_gaps wsX11_no := goodIn_r _ [21, 22] (by decide +kernel) (by decide +kernel)
set_option maxRecDepth 20000 in
theorem gX11_gaps_X11_no : GoodIn wsX11_gaps (va_wsS RX11 109 yX11_no wsX11_no) := goodIn_app (goodIn_of _ (by decide +kernel)) ggX11_gaps_X11_no
theorem dX11_gaps_0 : decode cX11_gaps 0 = .ok (.iload_n 1, 1) := by decide +kernel
theorem dX11_gaps_1 : decode cX11_gaps 1 = .ok (.iconst 0, 1) := by decide +kernel
theorem dX11_gaps_2 : decode cX11_gaps 2 = .ok (.iconst 2, 1) := by decide +kernel
theorem dX11_gaps_3 : decode cX11_gaps 3 = .ok (.invokestatic 74, 3) := by decide +kernel
theorem dX11_gaps_6 : decode cX11_gaps 6 = .ok (.ifCond .eq 31, 3) := by decide +kernel
theorem dX11_gaps_9 : decode cX11_gaps 9 = .ok (.iload_n 2, 1) := by decide +kernel
theorem dX11_gaps_10 : decode cX11_gaps 10 = .ok (.iconst 0, 1) := by decide +kernel
theorem dX11_gaps_11 : decode cX11_gaps 11 = .ok (.iconst 2, 1) := by decide +kernel
theorem dX11_gaps_12 : decode cX11_gaps 12 = .ok (.invokestatic 74, 3) := by decide +kernel
theorem dX11_gaps_15 : decode cX11_gaps 15 = .ok (.ifCond .eq 22, 3) := by decide +kernel
theorem dX11_gaps_18 : decode cX11_gaps 18 = .ok (.iload_n 3, 1) := by decide +kernel
theorem dX11_gaps_19 : decode cX11_gaps 19 = .ok (.iconst 0, 1) := by decide +kernel
theorem dX11_gaps_20 : decode cX11_gaps 20 = .ok (.iconst 1, 1) := by decide +kernel
theorem dX11_gaps_21 : decode cX11_gaps 21 = .ok (.invokestatic 74, 3) := by decide +kernel
theorem dX11_gaps_24 : decode cX11_gaps 24 = .ok (.ifCond .eq 13, 3) := by decide +kernel
theorem dX11_gaps_27 : decode cX11_gaps 27 = .ok (.aload_n 0, 1) := by decide +kernel
theorem dX11_gaps_28 : decode cX11_gaps 28 = .ok (.iload_n 1, 1) := by decide +kernel
theorem dX11_gaps_29 : decode cX11_gaps 29 = .ok (.iload_n 2, 1) := by decide +kernel
theorem dX11_gaps_30 : decode cX11_gaps 30 = .ok (.iload_n 3, 1) := by decide +kernel
theorem dX11_gaps_31 : decode cX11_gaps 31 = .ok (.invokevirtual 119, 3) := by decide +kernel
theorem dX11_gaps_34 : decode cX11_gaps 34 = .ok (.goto 8, 3) := by decide +kernel
theorem dX11_gaps_37 : decode cX11_gaps 37 = .ok (.bipush (-2), 2) := by decide +kernel
theorem dX11_gaps_39 : decode cX11_gaps 39 = .ok (.invokestatic 109, 3) := by decide +kernel
theorem dX11_gaps_42 : decode cX11_gaps 42 = .ok (.lreturn, 1) := by decide +kernel
theorem dX11_waitsIn_0 : decode cX11_waitsIn 0 = .ok (.iload_n 0, 1) := by decide +kernel
theorem dX11_waitsIn_1 : decode cX11_waitsIn 1 = .ok (.iload_n 0, 1) := by decide +kernel
theorem dX11_waitsIn_2 : decode cX11_waitsIn 2 = .ok (.iconst 1, 1) := by decide +kernel
theorem dX11_waitsIn_3 : decode cX11_waitsIn 3 = .ok (.isub, 1) := by decide +kernel
theorem dX11_waitsIn_4 : decode cX11_waitsIn 4 = .ok (.imul, 1) := by decide +kernel
theorem dX11_waitsIn_5 : decode cX11_waitsIn 5 = .ok (.iconst 2, 1) := by decide +kernel
theorem dX11_waitsIn_6 : decode cX11_waitsIn 6 = .ok (.idiv, 1) := by decide +kernel
theorem dX11_waitsIn_7 : decode cX11_waitsIn 7 = .ok (.ireturn, 1) := by decide +kernel
set_option maxRecDepth 20000 in
theorem ggX11_backFrom_X11_waitsIn : GoodIn wsX11_backFrom wsX11_waitsIn := goodIn_r _ [7] (by decide +kernel) (by decide +kernel)
set_option maxRecDepth 20000 in
theorem gX11_backFrom_X11_waitsIn : GoodIn wsX11_backFrom (va_wsS RX11 124 yX11_waitsIn wsX11_waitsIn) := goodIn_app (goodIn_of _ (by decide +kernel)) ggX11_backFrom_X11_waitsIn
theorem dX11_backFrom_0 : decode cX11_backFrom 0 = .ok (.iload_n 1, 1) := by decide +kernel
theorem dX11_backFrom_1 : decode cX11_backFrom 1 = .ok (.iconst 1, 1) := by decide +kernel
theorem dX11_backFrom_2 : decode cX11_backFrom 2 = .ok (.isub, 1) := by decide +kernel
theorem dX11_backFrom_3 : decode cX11_backFrom 3 = .ok (.istore 4, 2) := by decide +kernel
theorem dX11_backFrom_5 : decode cX11_backFrom 5 = .ok (.iload 4, 2) := by decide +kernel
theorem dX11_backFrom_7 : decode cX11_backFrom 7 = .ok (.ifCond .lt 189, 3) := by decide +kernel
theorem dX11_backFrom_10 : decode cX11_backFrom 10 = .ok (.iconst 0, 1) := by decide +kernel
theorem dX11_backFrom_11 : decode cX11_backFrom 11 = .ok (.istore 5, 2) := by decide +kernel
theorem dX11_backFrom_13 : decode cX11_backFrom 13 = .ok (.iload 5, 2) := by decide +kernel
theorem dX11_backFrom_15 : decode cX11_backFrom 15 = .ok (.iload_n 2, 1) := by decide +kernel
theorem dX11_backFrom_16 : decode cX11_backFrom 16 = .ok (.if_icmp .gt 174, 3) := by decide +kernel
theorem dX11_backFrom_19 : decode cX11_backFrom 19 = .ok (.aload_n 0, 1) := by decide +kernel
theorem dX11_backFrom_20 : decode cX11_backFrom 20 = .ok (.getfield 19, 3) := by decide +kernel
theorem dX11_backFrom_23 : decode cX11_backFrom 23 = .ok (.iload 4, 2) := by decide +kernel
theorem dX11_backFrom_25 : decode cX11_backFrom 25 = .ok (.iaload, 1) := by decide +kernel
theorem dX11_backFrom_26 : decode cX11_backFrom 26 = .ok (.iload 5, 2) := by decide +kernel
theorem dX11_backFrom_28 : decode cX11_backFrom 28 = .ok (.iadd, 1) := by decide +kernel
theorem dX11_backFrom_29 : decode cX11_backFrom 29 = .ok (.istore 6, 2) := by decide +kernel
theorem dX11_backFrom_31 : decode cX11_backFrom 31 = .ok (.ldc 123, 2) := by decide +kernel
theorem dX11_backFrom_33 : decode cX11_backFrom 33 = .ok (.istore 7, 2) := by decide +kernel
theorem dX11_backFrom_35 : decode cX11_backFrom 35 = .ok (.iload 6, 2) := by decide +kernel
theorem dX11_backFrom_37 : decode cX11_backFrom 37 = .ok (.bipush 59, 2) := by decide +kernel
theorem dX11_backFrom_39 : decode cX11_backFrom 39 = .ok (.if_icmp .gt 130, 3) := by decide +kernel
theorem dX11_backFrom_42 : decode cX11_backFrom 42 = .ok (.iload 4, 2) := by decide +kernel
theorem dX11_backFrom_44 : decode cX11_backFrom 44 = .ok (.ifCond .gt 9, 3) := by decide +kernel
theorem dX11_backFrom_47 : decode cX11_backFrom 47 = .ok (.iload 5, 2) := by decide +kernel
theorem dX11_backFrom_49 : decode cX11_backFrom 49 = .ok (.iload_n 3, 1) := by decide +kernel
theorem dX11_backFrom_50 : decode cX11_backFrom 50 = .ok (.if_icmp .ne 119, 3) := by decide +kernel
theorem dX11_backFrom_53 : decode cX11_backFrom 53 = .ok (.iload 4, 2) := by decide +kernel
theorem dX11_backFrom_55 : decode cX11_backFrom 55 = .ok (.iload_n 1, 1) := by decide +kernel
theorem dX11_backFrom_56 : decode cX11_backFrom 56 = .ok (.iconst 1, 1) := by decide +kernel
theorem dX11_backFrom_57 : decode cX11_backFrom 57 = .ok (.isub, 1) := by decide +kernel
theorem dX11_backFrom_58 : decode cX11_backFrom 58 = .ok (.if_icmp .ne 22, 3) := by decide +kernel
theorem dX11_backFrom_61 : decode cX11_backFrom 61 = .ok (.bipush 60, 2) := by decide +kernel
theorem dX11_backFrom_63 : decode cX11_backFrom 63 = .ok (.iload 6, 2) := by decide +kernel
theorem dX11_backFrom_65 : decode cX11_backFrom 65 = .ok (.isub, 1) := by decide +kernel
theorem dX11_backFrom_66 : decode cX11_backFrom 66 = .ok (.aload_n 0, 1) := by decide +kernel
theorem dX11_backFrom_67 : decode cX11_backFrom 67 = .ok (.getfield 19, 3) := by decide +kernel
theorem dX11_backFrom_70 : decode cX11_backFrom 70 = .ok (.iconst 0, 1) := by decide +kernel
theorem dX11_backFrom_71 : decode cX11_backFrom 71 = .ok (.iaload, 1) := by decide +kernel
theorem dX11_backFrom_72 : decode cX11_backFrom 72 = .ok (.iadd, 1) := by decide +kernel
theorem dX11_backFrom_73 : decode cX11_backFrom 73 = .ok (.iload_n 3, 1) := by decide +kernel
theorem dX11_backFrom_74 : decode cX11_backFrom 74 = .ok (.iadd, 1) := by decide +kernel
theorem dX11_backFrom_75 : decode cX11_backFrom 75 = .ok (.invokestatic 124, 3) := by decide +kernel
theorem dX11_backFrom_78 : decode cX11_backFrom 78 = .ok (.istore 7, 2) := by decide +kernel
theorem dX11_backFrom_80 : decode cX11_backFrom 80 = .ok (.iconst 0, 1) := by decide +kernel
theorem dX11_backFrom_81 : decode cX11_backFrom 81 = .ok (.istore 8, 2) := by decide +kernel
theorem dX11_backFrom_83 : decode cX11_backFrom 83 = .ok (.iload 8, 2) := by decide +kernel
theorem dX11_backFrom_85 : decode cX11_backFrom 85 = .ok (.iload_n 2, 1) := by decide +kernel
theorem dX11_backFrom_86 : decode cX11_backFrom 86 = .ok (.if_icmp .gt 83, 3) := by decide +kernel
theorem dX11_backFrom_89 : decode cX11_backFrom 89 = .ok (.iload 4, 2) := by decide +kernel
theorem dX11_backFrom_91 : decode cX11_backFrom 91 = .ok (.iconst 1, 1) := by decide +kernel
theorem dX11_backFrom_92 : decode cX11_backFrom 92 = .ok (.iadd, 1) := by decide +kernel
theorem dX11_backFrom_93 : decode cX11_backFrom 93 = .ok (.iload_n 1, 1) := by decide +kernel
theorem dX11_backFrom_94 : decode cX11_backFrom 94 = .ok (.if_icmp .ge 75, 3) := by decide +kernel
theorem dX11_backFrom_97 : decode cX11_backFrom 97 = .ok (.aload_n 0, 1) := by decide +kernel
theorem dX11_backFrom_98 : decode cX11_backFrom 98 = .ok (.getfield 19, 3) := by decide +kernel
theorem dX11_backFrom_101 : decode cX11_backFrom 101 = .ok (.iload 4, 2) := by decide +kernel
theorem dX11_backFrom_103 : decode cX11_backFrom 103 = .ok (.iconst 1, 1) := by decide +kernel
theorem dX11_backFrom_104 : decode cX11_backFrom 104 = .ok (.iadd, 1) := by decide +kernel
theorem dX11_backFrom_105 : decode cX11_backFrom 105 = .ok (.iaload, 1) := by decide +kernel
theorem dX11_backFrom_106 : decode cX11_backFrom 106 = .ok (.iload 8, 2) := by decide +kernel
theorem dX11_backFrom_108 : decode cX11_backFrom 108 = .ok (.iadd, 1) := by decide +kernel
theorem dX11_backFrom_109 : decode cX11_backFrom 109 = .ok (.iload 6, 2) := by decide +kernel
theorem dX11_backFrom_111 : decode cX11_backFrom 111 = .ok (.isub, 1) := by decide +kernel
theorem dX11_backFrom_112 : decode cX11_backFrom 112 = .ok (.istore 9, 2) := by decide +kernel
theorem dX11_backFrom_114 : decode cX11_backFrom 114 = .ok (.iload 9, 2) := by decide +kernel
theorem dX11_backFrom_116 : decode cX11_backFrom 116 = .ok (.ifCond .le 27, 3) := by decide +kernel
theorem dX11_backFrom_119 : decode cX11_backFrom 119 = .ok (.iload 9, 2) := by decide +kernel
theorem dX11_backFrom_121 : decode cX11_backFrom 121 = .ok (.invokestatic 124, 3) := by decide +kernel
theorem dX11_backFrom_124 : decode cX11_backFrom 124 = .ok (.aload_n 0, 1) := by decide +kernel
theorem dX11_backFrom_125 : decode cX11_backFrom 125 = .ok (.getfield 22, 3) := by decide +kernel
theorem dX11_backFrom_128 : decode cX11_backFrom 128 = .ok (.bipush 6, 2) := by decide +kernel
theorem dX11_backFrom_130 : decode cX11_backFrom 130 = .ok (.iload 4, 2) := by decide +kernel
theorem dX11_backFrom_132 : decode cX11_backFrom 132 = .ok (.iconst 1, 1) := by decide +kernel
theorem dX11_backFrom_133 : decode cX11_backFrom 133 = .ok (.iadd, 1) := by decide +kernel
theorem dX11_backFrom_134 : decode cX11_backFrom 134 = .ok (.imul, 1) := by decide +kernel
theorem dX11_backFrom_135 : decode cX11_backFrom 135 = .ok (.iload 8, 2) := by decide +kernel
theorem dX11_backFrom_137 : decode cX11_backFrom 137 = .ok (.iadd, 1) := by decide +kernel
theorem dX11_backFrom_138 : decode cX11_backFrom 138 = .ok (.iaload, 1) := by decide +kernel
theorem dX11_backFrom_139 : decode cX11_backFrom 139 = .ok (.iadd, 1) := by decide +kernel
theorem dX11_backFrom_140 : decode cX11_backFrom 140 = .ok (.goto 5, 3) := by decide +kernel
theorem dX11_backFrom_143 : decode cX11_backFrom 143 = .ok (.ldc 123, 2) := by decide +kernel
theorem dX11_backFrom_145 : decode cX11_backFrom 145 = .ok (.istore 10, 2) := by decide +kernel
theorem dX11_backFrom_147 : decode cX11_backFrom 147 = .ok (.iload 10, 2) := by decide +kernel
theorem dX11_backFrom_149 : decode cX11_backFrom 149 = .ok (.iload 7, 2) := by decide +kernel
theorem dX11_backFrom_151 : decode cX11_backFrom 151 = .ok (.if_icmp .ge 8, 3) := by decide +kernel
theorem dX11_backFrom_154 : decode cX11_backFrom 154 = .ok (.iload 10, 2) := by decide +kernel
theorem dX11_backFrom_156 : decode cX11_backFrom 156 = .ok (.goto 5, 3) := by decide +kernel
theorem dX11_backFrom_159 : decode cX11_backFrom 159 = .ok (.iload 7, 2) := by decide +kernel
theorem dX11_backFrom_161 : decode cX11_backFrom 161 = .ok (.istore 7, 2) := by decide +kernel
theorem dX11_backFrom_163 : decode cX11_backFrom 163 = .ok (.iinc 8 1, 3) := by decide +kernel
theorem dX11_backFrom_166 : decode cX11_backFrom 166 = .ok (.goto (-83), 3) := by decide +kernel
theorem dX11_backFrom_169 : decode cX11_backFrom 169 = .ok (.aload_n 0, 1) := by decide +kernel
theorem dX11_backFrom_170 : decode cX11_backFrom 170 = .ok (.getfield 22, 3) := by decide +kernel
theorem dX11_backFrom_173 : decode cX11_backFrom 173 = .ok (.bipush 6, 2) := by decide +kernel
theorem dX11_backFrom_175 : decode cX11_backFrom 175 = .ok (.iload 4, 2) := by decide +kernel
theorem dX11_backFrom_177 : decode cX11_backFrom 177 = .ok (.imul, 1) := by decide +kernel
theorem dX11_backFrom_178 : decode cX11_backFrom 178 = .ok (.iload 5, 2) := by decide +kernel
theorem dX11_backFrom_180 : decode cX11_backFrom 180 = .ok (.iadd, 1) := by decide +kernel
theorem dX11_backFrom_181 : decode cX11_backFrom 181 = .ok (.iload 7, 2) := by decide +kernel
theorem dX11_backFrom_183 : decode cX11_backFrom 183 = .ok (.iastore, 1) := by decide +kernel
theorem dX11_backFrom_184 : decode cX11_backFrom 184 = .ok (.iinc 5 1, 3) := by decide +kernel
theorem dX11_backFrom_187 : decode cX11_backFrom 187 = .ok (.goto (-174), 3) := by decide +kernel
theorem dX11_backFrom_190 : decode cX11_backFrom 190 = .ok (.iinc 4 (-1), 3) := by decide +kernel
theorem dX11_backFrom_193 : decode cX11_backFrom 193 = .ok (.goto (-188), 3) := by decide +kernel
theorem dX11_backFrom_196 : decode cX11_backFrom 196 = .ok (.aload_n 0, 1) := by decide +kernel
theorem dX11_backFrom_197 : decode cX11_backFrom 197 = .ok (.getfield 22, 3) := by decide +kernel
theorem dX11_backFrom_200 : decode cX11_backFrom 200 = .ok (.iload_n 3, 1) := by decide +kernel
theorem dX11_backFrom_201 : decode cX11_backFrom 201 = .ok (.iaload, 1) := by decide +kernel
theorem dX11_backFrom_202 : decode cX11_backFrom 202 = .ok (.ireturn, 1) := by decide +kernel
set_option maxRecDepth 20000 in
theorem ggX11_heldNow_X11_isBus : GoodIn wsX11_heldNow wsX11_isBus := goodIn_r _ [9, 10, 18, 19, 20, 21, 22, 23, 24, 25, 26, 27, 28, 29, 30, 31, 32, 33, 34, 35, 36, 37, 38, 39, 40, 41, 42, 43, 44] (by decide +kernel) (by decide +kernel)
set_option maxRecDepth 20000 in
theorem gX11_heldNow_X11_isBus : GoodIn wsX11_heldNow (wsV RX11 98 RX11 yX11_isBus wsX11_isBus) := goodIn_app (goodIn_of _ (by decide +kernel)) ggX11_heldNow_X11_isBus
set_option maxRecDepth 20000 in
theorem ggX11_heldNow_X11_backFrom : GoodIn wsX11_heldNow wsX11_backFrom := goodIn_r _ [14, 1, 2, 4, 15, 16, 8, 17, 18, 19, 20, 21, 22, 23, 24, 25, 26, 27, 28, 29, 30, 31, 32, 33, 34, 35, 36, 37, 38, 39, 40, 41, 42, 43, 44] (by decide +kernel) (by decide +kernel)
set_option maxRecDepth 20000 in
theorem gX11_heldNow_X11_backFrom : GoodIn wsX11_heldNow (wsV RX11 127 RX11 yX11_backFrom wsX11_backFrom) := goodIn_app (goodIn_of _ (by decide +kernel)) ggX11_heldNow_X11_backFrom
set_option maxRecDepth 20000 in
theorem ggX11_heldNow_X11_waitsIn : GoodIn wsX11_heldNow wsX11_waitsIn := goodIn_r _ [17] (by decide +kernel) (by decide +kernel)
set_option maxRecDepth 20000 in
theorem gX11_heldNow_X11_waitsIn : GoodIn wsX11_heldNow (va_wsS RX11 124 yX11_waitsIn wsX11_waitsIn) := goodIn_app (goodIn_of _ (by decide +kernel)) ggX11_heldNow_X11_waitsIn
theorem dX11_heldNow_0 : decode cX11_heldNow 0 = .ok (.iconst 0, 1) := by decide +kernel
theorem dX11_heldNow_1 : decode cX11_heldNow 1 = .ok (.istore 4, 2) := by decide +kernel
theorem dX11_heldNow_3 : decode cX11_heldNow 3 = .ok (.iconst 0, 1) := by decide +kernel
theorem dX11_heldNow_4 : decode cX11_heldNow 4 = .ok (.istore 5, 2) := by decide +kernel
theorem dX11_heldNow_6 : decode cX11_heldNow 6 = .ok (.iload 5, 2) := by decide +kernel
theorem dX11_heldNow_8 : decode cX11_heldNow 8 = .ok (.bipush 60, 2) := by decide +kernel
theorem dX11_heldNow_10 : decode cX11_heldNow 10 = .ok (.if_icmp .ge 31, 3) := by decide +kernel
theorem dX11_heldNow_13 : decode cX11_heldNow 13 = .ok (.aload_n 0, 1) := by decide +kernel
theorem dX11_heldNow_14 : decode cX11_heldNow 14 = .ok (.iload_n 1, 1) := by decide +kernel
theorem dX11_heldNow_15 : decode cX11_heldNow 15 = .ok (.iload 5, 2) := by decide +kernel
theorem dX11_heldNow_17 : decode cX11_heldNow 17 = .ok (.invokevirtual 98, 3) := by decide +kernel
theorem dX11_heldNow_20 : decode cX11_heldNow 20 = .ok (.ifCond .eq 15, 3) := by decide +kernel
theorem dX11_heldNow_23 : decode cX11_heldNow 23 = .ok (.aload_n 0, 1) := by decide +kernel
theorem dX11_heldNow_24 : decode cX11_heldNow 24 = .ok (.getfield 19, 3) := by decide +kernel
theorem dX11_heldNow_27 : decode cX11_heldNow 27 = .ok (.iload 4, 2) := by decide +kernel
theorem dX11_heldNow_29 : decode cX11_heldNow 29 = .ok (.iload 5, 2) := by decide +kernel
theorem dX11_heldNow_31 : decode cX11_heldNow 31 = .ok (.iastore, 1) := by decide +kernel
theorem dX11_heldNow_32 : decode cX11_heldNow 32 = .ok (.iinc 4 1, 3) := by decide +kernel
theorem dX11_heldNow_35 : decode cX11_heldNow 35 = .ok (.iinc 5 1, 3) := by decide +kernel
theorem dX11_heldNow_38 : decode cX11_heldNow 38 = .ok (.goto (-32), 3) := by decide +kernel
theorem dX11_heldNow_41 : decode cX11_heldNow 41 = .ok (.iload 4, 2) := by decide +kernel
theorem dX11_heldNow_43 : decode cX11_heldNow 43 = .ok (.ifCond .ne 6, 3) := by decide +kernel
theorem dX11_heldNow_46 : decode cX11_heldNow 46 = .ok (.bipush (-3), 2) := by decide +kernel
theorem dX11_heldNow_48 : decode cX11_heldNow 48 = .ok (.ireturn, 1) := by decide +kernel
theorem dX11_heldNow_49 : decode cX11_heldNow 49 = .ok (.iload 4, 2) := by decide +kernel
theorem dX11_heldNow_51 : decode cX11_heldNow 51 = .ok (.bipush 12, 2) := by decide +kernel
theorem dX11_heldNow_53 : decode cX11_heldNow 53 = .ok (.if_icmp .le 6, 3) := by decide +kernel
theorem dX11_heldNow_56 : decode cX11_heldNow 56 = .ok (.bipush (-4), 2) := by decide +kernel
theorem dX11_heldNow_58 : decode cX11_heldNow 58 = .ok (.ireturn, 1) := by decide +kernel
theorem dX11_heldNow_59 : decode cX11_heldNow 59 = .ok (.iload_n 3, 1) := by decide +kernel
theorem dX11_heldNow_60 : decode cX11_heldNow 60 = .ok (.iload 4, 2) := by decide +kernel
theorem dX11_heldNow_62 : decode cX11_heldNow 62 = .ok (.if_icmp .lt 6, 3) := by decide +kernel
theorem dX11_heldNow_65 : decode cX11_heldNow 65 = .ok (.bipush (-3), 2) := by decide +kernel
theorem dX11_heldNow_67 : decode cX11_heldNow 67 = .ok (.ireturn, 1) := by decide +kernel
theorem dX11_heldNow_68 : decode cX11_heldNow 68 = .ok (.iconst 0, 1) := by decide +kernel
theorem dX11_heldNow_69 : decode cX11_heldNow 69 = .ok (.istore 5, 2) := by decide +kernel
theorem dX11_heldNow_71 : decode cX11_heldNow 71 = .ok (.ldc 123, 2) := by decide +kernel
theorem dX11_heldNow_73 : decode cX11_heldNow 73 = .ok (.istore 6, 2) := by decide +kernel
theorem dX11_heldNow_75 : decode cX11_heldNow 75 = .ok (.iconst 0, 1) := by decide +kernel
theorem dX11_heldNow_76 : decode cX11_heldNow 76 = .ok (.istore 7, 2) := by decide +kernel
theorem dX11_heldNow_78 : decode cX11_heldNow 78 = .ok (.iload 7, 2) := by decide +kernel
theorem dX11_heldNow_80 : decode cX11_heldNow 80 = .ok (.iload_n 2, 1) := by decide +kernel
theorem dX11_heldNow_81 : decode cX11_heldNow 81 = .ok (.if_icmp .gt 52, 3) := by decide +kernel
theorem dX11_heldNow_84 : decode cX11_heldNow 84 = .ok (.aload_n 0, 1) := by decide +kernel
theorem dX11_heldNow_85 : decode cX11_heldNow 85 = .ok (.iload 4, 2) := by decide +kernel
theorem dX11_heldNow_87 : decode cX11_heldNow 87 = .ok (.iload_n 2, 1) := by decide +kernel
theorem dX11_heldNow_88 : decode cX11_heldNow 88 = .ok (.iload 7, 2) := by decide +kernel
theorem dX11_heldNow_90 : decode cX11_heldNow 90 = .ok (.invokevirtual 127, 3) := by decide +kernel
theorem dX11_heldNow_93 : decode cX11_heldNow 93 = .ok (.istore 8, 2) := by decide +kernel
theorem dX11_heldNow_95 : decode cX11_heldNow 95 = .ok (.iload 8, 2) := by decide +kernel
theorem dX11_heldNow_97 : decode cX11_heldNow 97 = .ok (.iload 6, 2) := by decide +kernel
theorem dX11_heldNow_99 : decode cX11_heldNow 99 = .ok (.if_icmp .ge 8, 3) := by decide +kernel
theorem dX11_heldNow_102 : decode cX11_heldNow 102 = .ok (.iload 7, 2) := by decide +kernel
theorem dX11_heldNow_104 : decode cX11_heldNow 104 = .ok (.goto 5, 3) := by decide +kernel
theorem dX11_heldNow_107 : decode cX11_heldNow 107 = .ok (.iload 5, 2) := by decide +kernel
theorem dX11_heldNow_109 : decode cX11_heldNow 109 = .ok (.istore 5, 2) := by decide +kernel
theorem dX11_heldNow_111 : decode cX11_heldNow 111 = .ok (.iload 8, 2) := by decide +kernel
theorem dX11_heldNow_113 : decode cX11_heldNow 113 = .ok (.iload 6, 2) := by decide +kernel
theorem dX11_heldNow_115 : decode cX11_heldNow 115 = .ok (.if_icmp .ge 8, 3) := by decide +kernel
theorem dX11_heldNow_118 : decode cX11_heldNow 118 = .ok (.iload 8, 2) := by decide +kernel
theorem dX11_heldNow_120 : decode cX11_heldNow 120 = .ok (.goto 5, 3) := by decide +kernel
theorem dX11_heldNow_123 : decode cX11_heldNow 123 = .ok (.iload 6, 2) := by decide +kernel
theorem dX11_heldNow_125 : decode cX11_heldNow 125 = .ok (.istore 6, 2) := by decide +kernel
theorem dX11_heldNow_127 : decode cX11_heldNow 127 = .ok (.iinc 7 1, 3) := by decide +kernel
theorem dX11_heldNow_130 : decode cX11_heldNow 130 = .ok (.goto (-52), 3) := by decide +kernel
theorem dX11_heldNow_133 : decode cX11_heldNow 133 = .ok (.iload_n 3, 1) := by decide +kernel
theorem dX11_heldNow_134 : decode cX11_heldNow 134 = .ok (.iconst (-1), 1) := by decide +kernel
theorem dX11_heldNow_135 : decode cX11_heldNow 135 = .ok (.if_icmp .ne 6, 3) := by decide +kernel
theorem dX11_heldNow_138 : decode cX11_heldNow 138 = .ok (.iload 6, 2) := by decide +kernel
theorem dX11_heldNow_140 : decode cX11_heldNow 140 = .ok (.ireturn, 1) := by decide +kernel
theorem dX11_heldNow_141 : decode cX11_heldNow 141 = .ok (.aload_n 0, 1) := by decide +kernel
theorem dX11_heldNow_142 : decode cX11_heldNow 142 = .ok (.iload 4, 2) := by decide +kernel
theorem dX11_heldNow_144 : decode cX11_heldNow 144 = .ok (.iload_n 2, 1) := by decide +kernel
theorem dX11_heldNow_145 : decode cX11_heldNow 145 = .ok (.iload 5, 2) := by decide +kernel
theorem dX11_heldNow_147 : decode cX11_heldNow 147 = .ok (.invokevirtual 127, 3) := by decide +kernel
theorem dX11_heldNow_150 : decode cX11_heldNow 150 = .ok (.istore 7, 2) := by decide +kernel
theorem dX11_heldNow_152 : decode cX11_heldNow 152 = .ok (.aload_n 0, 1) := by decide +kernel
theorem dX11_heldNow_153 : decode cX11_heldNow 153 = .ok (.getfield 25, 3) := by decide +kernel
theorem dX11_heldNow_156 : decode cX11_heldNow 156 = .ok (.iconst 0, 1) := by decide +kernel
theorem dX11_heldNow_157 : decode cX11_heldNow 157 = .ok (.iload 5, 2) := by decide +kernel
theorem dX11_heldNow_159 : decode cX11_heldNow 159 = .ok (.iastore, 1) := by decide +kernel
theorem dX11_heldNow_160 : decode cX11_heldNow 160 = .ok (.iconst 1, 1) := by decide +kernel
theorem dX11_heldNow_161 : decode cX11_heldNow 161 = .ok (.istore 8, 2) := by decide +kernel
theorem dX11_heldNow_163 : decode cX11_heldNow 163 = .ok (.iload 8, 2) := by decide +kernel
theorem dX11_heldNow_165 : decode cX11_heldNow 165 = .ok (.iload 4, 2) := by decide +kernel
theorem dX11_heldNow_167 : decode cX11_heldNow 167 = .ok (.if_icmp .ge 131, 3) := by decide +kernel
theorem dX11_heldNow_170 : decode cX11_heldNow 170 = .ok (.iconst (-1), 1) := by decide +kernel
theorem dX11_heldNow_171 : decode cX11_heldNow 171 = .ok (.istore 9, 2) := by decide +kernel
theorem dX11_heldNow_173 : decode cX11_heldNow 173 = .ok (.iconst 0, 1) := by decide +kernel
theorem dX11_heldNow_174 : decode cX11_heldNow 174 = .ok (.istore 10, 2) := by decide +kernel
theorem dX11_heldNow_176 : decode cX11_heldNow 176 = .ok (.iload 10, 2) := by decide +kernel
theorem dX11_heldNow_178 : decode cX11_heldNow 178 = .ok (.iload_n 2, 1) := by decide +kernel
theorem dX11_heldNow_179 : decode cX11_heldNow 179 = .ok (.if_icmp .gt 104, 3) := by decide +kernel
theorem dX11_heldNow_182 : decode cX11_heldNow 182 = .ok (.iload 9, 2) := by decide +kernel
theorem dX11_heldNow_184 : decode cX11_heldNow 184 = .ok (.iconst (-1), 1) := by decide +kernel
theorem dX11_heldNow_185 : decode cX11_heldNow 185 = .ok (.if_icmp .ne 98, 3) := by decide +kernel
theorem dX11_heldNow_188 : decode cX11_heldNow 188 = .ok (.aload_n 0, 1) := by decide +kernel
theorem dX11_heldNow_189 : decode cX11_heldNow 189 = .ok (.getfield 19, 3) := by decide +kernel
theorem dX11_heldNow_192 : decode cX11_heldNow 192 = .ok (.iload 8, 2) := by decide +kernel
theorem dX11_heldNow_194 : decode cX11_heldNow 194 = .ok (.iaload, 1) := by decide +kernel
theorem dX11_heldNow_195 : decode cX11_heldNow 195 = .ok (.iload 10, 2) := by decide +kernel
theorem dX11_heldNow_197 : decode cX11_heldNow 197 = .ok (.iadd, 1) := by decide +kernel
theorem dX11_heldNow_198 : decode cX11_heldNow 198 = .ok (.aload_n 0, 1) := by decide +kernel
theorem dX11_heldNow_199 : decode cX11_heldNow 199 = .ok (.getfield 19, 3) := by decide +kernel
theorem dX11_heldNow_202 : decode cX11_heldNow 202 = .ok (.iload 8, 2) := by decide +kernel
theorem dX11_heldNow_204 : decode cX11_heldNow 204 = .ok (.iconst 1, 1) := by decide +kernel
theorem dX11_heldNow_205 : decode cX11_heldNow 205 = .ok (.isub, 1) := by decide +kernel
theorem dX11_heldNow_206 : decode cX11_heldNow 206 = .ok (.iaload, 1) := by decide +kernel
theorem dX11_heldNow_207 : decode cX11_heldNow 207 = .ok (.isub, 1) := by decide +kernel
theorem dX11_heldNow_208 : decode cX11_heldNow 208 = .ok (.aload_n 0, 1) := by decide +kernel
theorem dX11_heldNow_209 : decode cX11_heldNow 209 = .ok (.getfield 25, 3) := by decide +kernel
theorem dX11_heldNow_212 : decode cX11_heldNow 212 = .ok (.iload 8, 2) := by decide +kernel
theorem dX11_heldNow_214 : decode cX11_heldNow 214 = .ok (.iconst 1, 1) := by decide +kernel
theorem dX11_heldNow_215 : decode cX11_heldNow 215 = .ok (.isub, 1) := by decide +kernel
theorem dX11_heldNow_216 : decode cX11_heldNow 216 = .ok (.iaload, 1) := by decide +kernel
theorem dX11_heldNow_217 : decode cX11_heldNow 217 = .ok (.isub, 1) := by decide +kernel
theorem dX11_heldNow_218 : decode cX11_heldNow 218 = .ok (.istore 11, 2) := by decide +kernel
theorem dX11_heldNow_220 : decode cX11_heldNow 220 = .ok (.iload 11, 2) := by decide +kernel
theorem dX11_heldNow_222 : decode cX11_heldNow 222 = .ok (.ifCond .le 52, 3) := by decide +kernel
theorem dX11_heldNow_225 : decode cX11_heldNow 225 = .ok (.iload 11, 2) := by decide +kernel
theorem dX11_heldNow_227 : decode cX11_heldNow 227 = .ok (.invokestatic 124, 3) := by decide +kernel
theorem dX11_heldNow_230 : decode cX11_heldNow 230 = .ok (.aload_n 0, 1) := by decide +kernel
theorem dX11_heldNow_231 : decode cX11_heldNow 231 = .ok (.getfield 22, 3) := by decide +kernel
theorem dX11_heldNow_234 : decode cX11_heldNow 234 = .ok (.bipush 6, 2) := by decide +kernel
theorem dX11_heldNow_236 : decode cX11_heldNow 236 = .ok (.iload 8, 2) := by decide +kernel
theorem dX11_heldNow_238 : decode cX11_heldNow 238 = .ok (.imul, 1) := by decide +kernel
theorem dX11_heldNow_239 : decode cX11_heldNow 239 = .ok (.iload 10, 2) := by decide +kernel
theorem dX11_heldNow_241 : decode cX11_heldNow 241 = .ok (.iadd, 1) := by decide +kernel
theorem dX11_heldNow_242 : decode cX11_heldNow 242 = .ok (.iaload, 1) := by decide +kernel
theorem dX11_heldNow_243 : decode cX11_heldNow 243 = .ok (.iadd, 1) := by decide +kernel
theorem dX11_heldNow_244 : decode cX11_heldNow 244 = .ok (.aload_n 0, 1) := by decide +kernel
theorem dX11_heldNow_245 : decode cX11_heldNow 245 = .ok (.getfield 22, 3) := by decide +kernel
theorem dX11_heldNow_248 : decode cX11_heldNow 248 = .ok (.bipush 6, 2) := by decide +kernel
theorem dX11_heldNow_250 : decode cX11_heldNow 250 = .ok (.iload 8, 2) := by decide +kernel
theorem dX11_heldNow_252 : decode cX11_heldNow 252 = .ok (.iconst 1, 1) := by decide +kernel
theorem dX11_heldNow_253 : decode cX11_heldNow 253 = .ok (.isub, 1) := by decide +kernel
theorem dX11_heldNow_254 : decode cX11_heldNow 254 = .ok (.imul, 1) := by decide +kernel
theorem dX11_heldNow_255 : decode cX11_heldNow 255 = .ok (.aload_n 0, 1) := by decide +kernel
theorem dX11_heldNow_256 : decode cX11_heldNow 256 = .ok (.getfield 25, 3) := by decide +kernel
theorem dX11_heldNow_259 : decode cX11_heldNow 259 = .ok (.iload 8, 2) := by decide +kernel
theorem dX11_heldNow_261 : decode cX11_heldNow 261 = .ok (.iconst 1, 1) := by decide +kernel
theorem dX11_heldNow_262 : decode cX11_heldNow 262 = .ok (.isub, 1) := by decide +kernel
theorem dX11_heldNow_263 : decode cX11_heldNow 263 = .ok (.iaload, 1) := by decide +kernel
theorem dX11_heldNow_264 : decode cX11_heldNow 264 = .ok (.iadd, 1) := by decide +kernel
theorem dX11_heldNow_265 : decode cX11_heldNow 265 = .ok (.iaload, 1) := by decide +kernel
theorem dX11_heldNow_266 : decode cX11_heldNow 266 = .ok (.if_icmp .ne 8, 3) := by decide +kernel
theorem dX11_heldNow_269 : decode cX11_heldNow 269 = .ok (.iload 10, 2) := by decide +kernel
theorem dX11_heldNow_271 : decode cX11_heldNow 271 = .ok (.goto 4, 3) := by decide +kernel
theorem dX11_heldNow_274 : decode cX11_heldNow 274 = .ok (.iconst (-1), 1) := by decide +kernel
theorem dX11_heldNow_275 : decode cX11_heldNow 275 = .ok (.istore 9, 2) := by decide +kernel
theorem dX11_heldNow_277 : decode cX11_heldNow 277 = .ok (.iinc 10 1, 3) := by decide +kernel
theorem dX11_heldNow_280 : decode cX11_heldNow 280 = .ok (.goto (-104), 3) := by decide +kernel
theorem dX11_heldNow_283 : decode cX11_heldNow 283 = .ok (.aload_n 0, 1) := by decide +kernel
theorem dX11_heldNow_284 : decode cX11_heldNow 284 = .ok (.getfield 25, 3) := by decide +kernel
theorem dX11_heldNow_287 : decode cX11_heldNow 287 = .ok (.iload 8, 2) := by decide +kernel
theorem dX11_heldNow_289 : decode cX11_heldNow 289 = .ok (.iload 9, 2) := by decide +kernel
theorem dX11_heldNow_291 : decode cX11_heldNow 291 = .ok (.iastore, 1) := by decide +kernel
theorem dX11_heldNow_292 : decode cX11_heldNow 292 = .ok (.iinc 8 1, 3) := by decide +kernel
theorem dX11_heldNow_295 : decode cX11_heldNow 295 = .ok (.goto (-132), 3) := by decide +kernel
theorem dX11_heldNow_298 : decode cX11_heldNow 298 = .ok (.iload 7, 2) := by decide +kernel
theorem dX11_heldNow_300 : decode cX11_heldNow 300 = .ok (.ldc 123, 2) := by decide +kernel
theorem dX11_heldNow_302 : decode cX11_heldNow 302 = .ok (.if_icmp .ge 12, 3) := by decide +kernel
theorem dX11_heldNow_305 : decode cX11_heldNow 305 = .ok (.aload_n 0, 1) := by decide +kernel
theorem dX11_heldNow_306 : decode cX11_heldNow 306 = .ok (.getfield 25, 3) := by decide +kernel
theorem dX11_heldNow_309 : decode cX11_heldNow 309 = .ok (.iload_n 3, 1) := by decide +kernel
theorem dX11_heldNow_310 : decode cX11_heldNow 310 = .ok (.iaload, 1) := by decide +kernel
theorem dX11_heldNow_311 : decode cX11_heldNow 311 = .ok (.goto 5, 3) := by decide +kernel
theorem dX11_heldNow_314 : decode cX11_heldNow 314 = .ok (.bipush (-3), 2) := by decide +kernel
theorem dX11_heldNow_316 : decode cX11_heldNow 316 = .ok (.ireturn, 1) := by decide +kernel
set_option maxRecDepth 20000 in
theorem ggX11_held_X11_in : GoodIn wsX11_held wsX11_in := goodIn_r _ [4] (by decide +kernel) (by decide +kernel)
set_option maxRecDepth 20000 in
theorem gX11_held_X11_in : GoodIn wsX11_held (va_wsS RX11 74 yX11_in wsX11_in) := goodIn_app (goodIn_of _ (by decide +kernel)) ggX11_held_X11_in
set_option maxRecDepth 20000 in
theorem ggX11_held_X11_heldNow : GoodIn wsX11_held wsX11_heldNow := goodIn_r _ [8, 9, 10, 11, 12, 13, 14, 15, 3, 16, 17, 18, 19, 20, 21, 22, 23, 24, 25, 26, 27, 28, 29, 30, 31, 32, 33, 34, 35, 36, 37, 38, 39, 40, 41, 42, 43, 44, 45, 46, 47, 48, 49, 50, 51] (by decide +kernel) (by decide +kernel)
set_option maxRecDepth 20000 in
theorem gX11_held_X11_heldNow : GoodIn wsX11_held (wsV RX11 131 RX11 yX11_heldNow wsX11_heldNow) := goodIn_app (goodIn_of _ (by decide +kernel)) ggX11_held_X11_heldNow
theorem dX11_held_0 : decode cX11_held 0 = .ok (.iload_n 1, 1) := by decide +kernel
theorem dX11_held_1 : decode cX11_held 1 = .ok (.iconst 0, 1) := by decide +kernel
theorem dX11_held_2 : decode cX11_held 2 = .ok (.iconst 1, 1) := by decide +kernel
theorem dX11_held_3 : decode cX11_held 3 = .ok (.invokestatic 74, 3) := by decide +kernel
theorem dX11_held_6 : decode cX11_held 6 = .ok (.ifCond .eq 32, 3) := by decide +kernel
theorem dX11_held_9 : decode cX11_held 9 = .ok (.iload_n 2, 1) := by decide +kernel
theorem dX11_held_10 : decode cX11_held 10 = .ok (.iconst 0, 1) := by decide +kernel
theorem dX11_held_11 : decode cX11_held 11 = .ok (.iconst 5, 1) := by decide +kernel
theorem dX11_held_12 : decode cX11_held 12 = .ok (.invokestatic 74, 3) := by decide +kernel
theorem dX11_held_15 : decode cX11_held 15 = .ok (.ifCond .eq 23, 3) := by decide +kernel
theorem dX11_held_18 : decode cX11_held 18 = .ok (.iload_n 3, 1) := by decide +kernel
theorem dX11_held_19 : decode cX11_held 19 = .ok (.iconst (-1), 1) := by decide +kernel
theorem dX11_held_20 : decode cX11_held 20 = .ok (.bipush 59, 2) := by decide +kernel
theorem dX11_held_22 : decode cX11_held 22 = .ok (.invokestatic 74, 3) := by decide +kernel
theorem dX11_held_25 : decode cX11_held 25 = .ok (.ifCond .eq 13, 3) := by decide +kernel
theorem dX11_held_28 : decode cX11_held 28 = .ok (.aload_n 0, 1) := by decide +kernel
theorem dX11_held_29 : decode cX11_held 29 = .ok (.iload_n 1, 1) := by decide +kernel
theorem dX11_held_30 : decode cX11_held 30 = .ok (.iload_n 2, 1) := by decide +kernel
theorem dX11_held_31 : decode cX11_held 31 = .ok (.iload_n 3, 1) := by decide +kernel
theorem dX11_held_32 : decode cX11_held 32 = .ok (.invokevirtual 131, 3) := by decide +kernel
theorem dX11_held_35 : decode cX11_held 35 = .ok (.goto 5, 3) := by decide +kernel
theorem dX11_held_38 : decode cX11_held 38 = .ok (.bipush (-2), 2) := by decide +kernel
theorem dX11_held_40 : decode cX11_held 40 = .ok (.ireturn, 1) := by decide +kernel
set_option maxRecDepth 20000 in
theorem ggX11_answerMore_X11_in : GoodIn wsX11_answerMore wsX11_in := goodIn_r _ [9] (by decide +kernel) (by decide +kernel)
set_option maxRecDepth 20000 in
theorem gX11_answerMore_X11_in : GoodIn wsX11_answerMore (va_wsS RX11 74 yX11_in wsX11_in) := goodIn_app (goodIn_of _ (by decide +kernel)) ggX11_answerMore_X11_in
theorem dX11_answerMore_0 : decode cX11_answerMore 0 = .ok (.iload_n 1, 1) := by decide +kernel
theorem dX11_answerMore_1 : decode cX11_answerMore 1 = .ok (.iconst 1, 1) := by decide +kernel
theorem dX11_answerMore_2 : decode cX11_answerMore 2 = .ok (.bipush 8, 2) := by decide +kernel
theorem dX11_answerMore_4 : decode cX11_answerMore 4 = .ok (.invokestatic 74, 3) := by decide +kernel
theorem dX11_answerMore_7 : decode cX11_answerMore 7 = .ok (.ifCond .eq 17, 3) := by decide +kernel
theorem dX11_answerMore_10 : decode cX11_answerMore 10 = .ok (.iload_n 2, 1) := by decide +kernel
theorem dX11_answerMore_11 : decode cX11_answerMore 11 = .ok (.aload_n 0, 1) := by decide +kernel
theorem dX11_answerMore_12 : decode cX11_answerMore 12 = .ok (.getfield 134, 3) := by decide +kernel
theorem dX11_answerMore_15 : decode cX11_answerMore 15 = .ok (.sipush 999, 3) := by decide +kernel
theorem dX11_answerMore_18 : decode cX11_answerMore 18 = .ok (.invokestatic 74, 3) := by decide +kernel
theorem dX11_answerMore_21 : decode cX11_answerMore 21 = .ok (.ifCond .ne 6, 3) := by decide +kernel
theorem dX11_answerMore_24 : decode cX11_answerMore 24 = .ok (.bipush (-2), 2) := by decide +kernel
theorem dX11_answerMore_26 : decode cX11_answerMore 26 = .ok (.ireturn, 1) := by decide +kernel
theorem dX11_answerMore_27 : decode cX11_answerMore 27 = .ok (.aload_n 0, 1) := by decide +kernel
theorem dX11_answerMore_28 : decode cX11_answerMore 28 = .ok (.getfield 137, 3) := by decide +kernel
theorem dX11_answerMore_31 : decode cX11_answerMore 31 = .ok (.bipush 40, 2) := by decide +kernel
theorem dX11_answerMore_33 : decode cX11_answerMore 33 = .ok (.if_icmp .ne 6, 3) := by decide +kernel
theorem dX11_answerMore_36 : decode cX11_answerMore 36 = .ok (.bipush (-4), 2) := by decide +kernel
theorem dX11_answerMore_38 : decode cX11_answerMore 38 = .ok (.ireturn, 1) := by decide +kernel
theorem dX11_answerMore_39 : decode cX11_answerMore 39 = .ok (.aload_n 0, 1) := by decide +kernel
theorem dX11_answerMore_40 : decode cX11_answerMore 40 = .ok (.getfield 28, 3) := by decide +kernel
theorem dX11_answerMore_43 : decode cX11_answerMore 43 = .ok (.aload_n 0, 1) := by decide +kernel
theorem dX11_answerMore_44 : decode cX11_answerMore 44 = .ok (.getfield 137, 3) := by decide +kernel
theorem dX11_answerMore_47 : decode cX11_answerMore 47 = .ok (.iload_n 1, 1) := by decide +kernel
theorem dX11_answerMore_48 : decode cX11_answerMore 48 = .ok (.iastore, 1) := by decide +kernel
theorem dX11_answerMore_49 : decode cX11_answerMore 49 = .ok (.aload_n 0, 1) := by decide +kernel
theorem dX11_answerMore_50 : decode cX11_answerMore 50 = .ok (.getfield 31, 3) := by decide +kernel
theorem dX11_answerMore_53 : decode cX11_answerMore 53 = .ok (.aload_n 0, 1) := by decide +kernel
theorem dX11_answerMore_54 : decode cX11_answerMore 54 = .ok (.getfield 137, 3) := by decide +kernel
theorem dX11_answerMore_57 : decode cX11_answerMore 57 = .ok (.iload_n 2, 1) := by decide +kernel
theorem dX11_answerMore_58 : decode cX11_answerMore 58 = .ok (.iastore, 1) := by decide +kernel
theorem dX11_answerMore_59 : decode cX11_answerMore 59 = .ok (.aload_n 0, 1) := by decide +kernel
theorem dX11_answerMore_60 : decode cX11_answerMore 60 = .ok (.getfield 34, 3) := by decide +kernel
theorem dX11_answerMore_63 : decode cX11_answerMore 63 = .ok (.aload_n 0, 1) := by decide +kernel
theorem dX11_answerMore_64 : decode cX11_answerMore 64 = .ok (.getfield 137, 3) := by decide +kernel
theorem dX11_answerMore_67 : decode cX11_answerMore 67 = .ok (.iconst (-1), 1) := by decide +kernel
theorem dX11_answerMore_68 : decode cX11_answerMore 68 = .ok (.iastore, 1) := by decide +kernel
theorem dX11_answerMore_69 : decode cX11_answerMore 69 = .ok (.aload_n 0, 1) := by decide +kernel
theorem dX11_answerMore_70 : decode cX11_answerMore 70 = .ok (.iload_n 2, 1) := by decide +kernel
theorem dX11_answerMore_71 : decode cX11_answerMore 71 = .ok (.putfield 134, 3) := by decide +kernel
theorem dX11_answerMore_74 : decode cX11_answerMore 74 = .ok (.aload_n 0, 1) := by decide +kernel
theorem dX11_answerMore_75 : decode cX11_answerMore 75 = .ok (.dup, 1) := by decide +kernel
theorem dX11_answerMore_76 : decode cX11_answerMore 76 = .ok (.getfield 137, 3) := by decide +kernel
theorem dX11_answerMore_79 : decode cX11_answerMore 79 = .ok (.iconst 1, 1) := by decide +kernel
theorem dX11_answerMore_80 : decode cX11_answerMore 80 = .ok (.iadd, 1) := by decide +kernel
theorem dX11_answerMore_81 : decode cX11_answerMore 81 = .ok (.putfield 137, 3) := by decide +kernel
theorem dX11_answerMore_84 : decode cX11_answerMore 84 = .ok (.aload_n 0, 1) := by decide +kernel
theorem dX11_answerMore_85 : decode cX11_answerMore 85 = .ok (.getfield 137, 3) := by decide +kernel
theorem dX11_answerMore_88 : decode cX11_answerMore 88 = .ok (.iconst 1, 1) := by decide +kernel
theorem dX11_answerMore_89 : decode cX11_answerMore 89 = .ok (.isub, 1) := by decide +kernel
theorem dX11_answerMore_90 : decode cX11_answerMore 90 = .ok (.ireturn, 1) := by decide +kernel
set_option maxRecDepth 20000 in
theorem ggX11_asked_X11_answerMore : GoodIn wsX11_asked wsX11_answerMore := goodIn_r _ [5, 6, 7, 8, 9, 10, 11, 12, 4, 13, 14, 15, 16, 17, 18, 19, 20, 21, 22, 23, 24, 25, 26, 27, 28, 29, 30, 31, 32, 33, 34, 35, 36, 37, 38, 39, 40] (by decide +kernel) (by decide +kernel)
set_option maxRecDepth 20000 in
theorem gX11_asked_X11_answerMore : GoodIn wsX11_asked (wsV RX11 140 RX11 yX11_answerMore wsX11_answerMore) := goodIn_app (goodIn_of _ (by decide +kernel)) ggX11_asked_X11_answerMore
theorem dX11_asked_0 : decode cX11_asked 0 = .ok (.aload_n 0, 1) := by decide +kernel
theorem dX11_asked_1 : decode cX11_asked 1 = .ok (.iload_n 1, 1) := by decide +kernel
theorem dX11_asked_2 : decode cX11_asked 2 = .ok (.iload_n 2, 1) := by decide +kernel
theorem dX11_asked_3 : decode cX11_asked 3 = .ok (.invokevirtual 140, 3) := by decide +kernel
theorem dX11_asked_6 : decode cX11_asked 6 = .ok (.ireturn, 1) := by decide +kernel
set_option maxRecDepth 20000 in
theorem ggX11_read_X11_isSheet : GoodIn wsX11_read wsX11_isSheet := goodIn_r _ [8, 9, 10, 7, 11] (by decide +kernel) (by decide +kernel)
set_option maxRecDepth 20000 in
theorem gX11_read_X11_isSheet : GoodIn wsX11_read (va_wsS RX11 143 yX11_isSheet wsX11_isSheet) := goodIn_app (goodIn_of _ (by decide +kernel)) ggX11_read_X11_isSheet
set_option maxRecDepth 20000 in
theorem ggX11_read_X11_in : GoodIn wsX11_read wsX11_in := goodIn_r _ [11] (by decide +kernel) (by decide +kernel)
set_option maxRecDepth 20000 in
theorem gX11_read_X11_in : GoodIn wsX11_read (va_wsS RX11 74 yX11_in wsX11_in) := goodIn_app (goodIn_of _ (by decide +kernel)) ggX11_read_X11_in
set_option maxRecDepth 20000 in
theorem ggX11_read_X11_meets : GoodIn wsX11_read wsX11_meets := goodIn_r _ [15, 16, 25, 26, 27, 28, 29, 30, 31, 32, 33, 34, 35, 36, 37, 38, 39, 40, 41, 42, 43, 44, 45, 46, 47, 48, 49, 50, 51] (by decide +kernel) (by decide +kernel)
set_option maxRecDepth 20000 in
theorem gX11_read_X11_meets : GoodIn wsX11_read (wsV RX11 147 RX11 yX11_meets wsX11_meets) := goodIn_app (goodIn_of _ (by decide +kernel)) ggX11_read_X11_meets
set_option maxRecDepth 20000 in
theorem ggX11_read_X11_answerMore : GoodIn wsX11_read wsX11_answerMore := goodIn_r _ [20, 1, 21, 22, 23, 24, 9, 10, 7, 11, 25, 26, 27, 28, 29, 30, 31, 32, 33, 34, 35, 36, 37, 38, 39, 40, 41, 42, 43, 44, 45, 46, 47, 48, 49, 50, 51] (by decide +kernel) (by decide +kernel)
set_option maxRecDepth 20000 in
theorem gX11_read_X11_answerMore : GoodIn wsX11_read (wsV RX11 140 RX11 yX11_answerMore wsX11_answerMore) := goodIn_app (goodIn_of _ (by decide +kernel)) ggX11_read_X11_answerMore
theorem dX11_read_0 : decode cX11_read 0 = .ok (.iload_n 1, 1) := by decide +kernel
theorem dX11_read_1 : decode cX11_read 1 = .ok (.invokestatic 143, 3) := by decide +kernel
theorem dX11_read_4 : decode cX11_read 4 = .ok (.ifCond .eq 17, 3) := by decide +kernel
theorem dX11_read_7 : decode cX11_read 7 = .ok (.iload_n 2, 1) := by decide +kernel
theorem dX11_read_8 : decode cX11_read 8 = .ok (.aload_n 0, 1) := by decide +kernel
theorem dX11_read_9 : decode cX11_read 9 = .ok (.getfield 134, 3) := by decide +kernel
theorem dX11_read_12 : decode cX11_read 12 = .ok (.sipush 999, 3) := by decide +kernel
theorem dX11_read_15 : decode cX11_read 15 = .ok (.invokestatic 74, 3) := by decide +kernel
theorem dX11_read_18 : decode cX11_read 18 = .ok (.ifCond .ne 6, 3) := by decide +kernel
theorem dX11_read_21 : decode cX11_read 21 = .ok (.bipush (-2), 2) := by decide +kernel
theorem dX11_read_23 : decode cX11_read 23 = .ok (.ireturn, 1) := by decide +kernel
theorem dX11_read_24 : decode cX11_read 24 = .ok (.aload_n 0, 1) := by decide +kernel
theorem dX11_read_25 : decode cX11_read 25 = .ok (.getfield 56, 3) := by decide +kernel
theorem dX11_read_28 : decode cX11_read 28 = .ok (.iload_n 1, 1) := by decide +kernel
theorem dX11_read_29 : decode cX11_read 29 = .ok (.baload, 1) := by decide +kernel
theorem dX11_read_30 : decode cX11_read 30 = .ok (.ifCond .ne 9, 3) := by decide +kernel
theorem dX11_read_33 : decode cX11_read 33 = .ok (.aload_n 0, 1) := by decide +kernel
theorem dX11_read_34 : decode cX11_read 34 = .ok (.iconst 1, 1) := by decide +kernel
theorem dX11_read_35 : decode cX11_read 35 = .ok (.invokevirtual 147, 3) := by decide +kernel
theorem dX11_read_38 : decode cX11_read 38 = .ok (.ireturn, 1) := by decide +kernel
theorem dX11_read_39 : decode cX11_read 39 = .ok (.iconst 0, 1) := by decide +kernel
theorem dX11_read_40 : decode cX11_read 40 = .ok (.istore_n 3, 1) := by decide +kernel
theorem dX11_read_41 : decode cX11_read 41 = .ok (.iload_n 3, 1) := by decide +kernel
theorem dX11_read_42 : decode cX11_read 42 = .ok (.aload_n 0, 1) := by decide +kernel
theorem dX11_read_43 : decode cX11_read 43 = .ok (.getfield 63, 3) := by decide +kernel
theorem dX11_read_46 : decode cX11_read 46 = .ok (.iload_n 1, 1) := by decide +kernel
theorem dX11_read_47 : decode cX11_read 47 = .ok (.iaload, 1) := by decide +kernel
theorem dX11_read_48 : decode cX11_read 48 = .ok (.if_icmp .ge 28, 3) := by decide +kernel
theorem dX11_read_51 : decode cX11_read 51 = .ok (.aload_n 0, 1) := by decide +kernel
theorem dX11_read_52 : decode cX11_read 52 = .ok (.aload_n 0, 1) := by decide +kernel
theorem dX11_read_53 : decode cX11_read 53 = .ok (.getfield 66, 3) := by decide +kernel
theorem dX11_read_56 : decode cX11_read 56 = .ok (.bipush 60, 2) := by decide +kernel
theorem dX11_read_58 : decode cX11_read 58 = .ok (.iload_n 1, 1) := by decide +kernel
theorem dX11_read_59 : decode cX11_read 59 = .ok (.imul, 1) := by decide +kernel
theorem dX11_read_60 : decode cX11_read 60 = .ok (.iload_n 3, 1) := by decide +kernel
theorem dX11_read_61 : decode cX11_read 61 = .ok (.iadd, 1) := by decide +kernel
theorem dX11_read_62 : decode cX11_read 62 = .ok (.iaload, 1) := by decide +kernel
theorem dX11_read_63 : decode cX11_read 63 = .ok (.iload_n 2, 1) := by decide +kernel
theorem dX11_read_64 : decode cX11_read 64 = .ok (.invokevirtual 140, 3) := by decide +kernel
theorem dX11_read_67 : decode cX11_read 67 = .ok (.ifCond .lt 9, 3) := by decide +kernel
theorem dX11_read_70 : decode cX11_read 70 = .ok (.iinc 3 1, 3) := by decide +kernel
theorem dX11_read_73 : decode cX11_read 73 = .ok (.goto (-32), 3) := by decide +kernel
theorem dX11_read_76 : decode cX11_read 76 = .ok (.iload_n 3, 1) := by decide +kernel
theorem dX11_read_77 : decode cX11_read 77 = .ok (.ireturn, 1) := by decide +kernel
set_option maxRecDepth 20000 in
theorem ggX11_takeBack_X11_in : GoodIn wsX11_takeBack wsX11_in := goodIn_r _ [7] (by decide +kernel) (by decide +kernel)
set_option maxRecDepth 20000 in
theorem gX11_takeBack_X11_in : GoodIn wsX11_takeBack (va_wsS RX11 74 yX11_in wsX11_in) := goodIn_app (goodIn_of _ (by decide +kernel)) ggX11_takeBack_X11_in
theorem dX11_takeBack_0 : decode cX11_takeBack 0 = .ok (.iload_n 1, 1) := by decide +kernel
theorem dX11_takeBack_1 : decode cX11_takeBack 1 = .ok (.iconst 0, 1) := by decide +kernel
theorem dX11_takeBack_2 : decode cX11_takeBack 2 = .ok (.aload_n 0, 1) := by decide +kernel
theorem dX11_takeBack_3 : decode cX11_takeBack 3 = .ok (.getfield 137, 3) := by decide +kernel
theorem dX11_takeBack_6 : decode cX11_takeBack 6 = .ok (.iconst 1, 1) := by decide +kernel
theorem dX11_takeBack_7 : decode cX11_takeBack 7 = .ok (.isub, 1) := by decide +kernel
theorem dX11_takeBack_8 : decode cX11_takeBack 8 = .ok (.invokestatic 74, 3) := by decide +kernel
theorem dX11_takeBack_11 : decode cX11_takeBack 11 = .ok (.ifCond .eq 17, 3) := by decide +kernel
theorem dX11_takeBack_14 : decode cX11_takeBack 14 = .ok (.iload_n 2, 1) := by decide +kernel
theorem dX11_takeBack_15 : decode cX11_takeBack 15 = .ok (.aload_n 0, 1) := by decide +kernel
theorem dX11_takeBack_16 : decode cX11_takeBack 16 = .ok (.getfield 134, 3) := by decide +kernel
theorem dX11_takeBack_19 : decode cX11_takeBack 19 = .ok (.sipush 999, 3) := by decide +kernel
theorem dX11_takeBack_22 : decode cX11_takeBack 22 = .ok (.invokestatic 74, 3) := by decide +kernel
theorem dX11_takeBack_25 : decode cX11_takeBack 25 = .ok (.ifCond .ne 6, 3) := by decide +kernel
theorem dX11_takeBack_28 : decode cX11_takeBack 28 = .ok (.bipush (-2), 2) := by decide +kernel
theorem dX11_takeBack_30 : decode cX11_takeBack 30 = .ok (.ireturn, 1) := by decide +kernel
theorem dX11_takeBack_31 : decode cX11_takeBack 31 = .ok (.aload_n 0, 1) := by decide +kernel
theorem dX11_takeBack_32 : decode cX11_takeBack 32 = .ok (.getfield 34, 3) := by decide +kernel
theorem dX11_takeBack_35 : decode cX11_takeBack 35 = .ok (.iload_n 1, 1) := by decide +kernel
theorem dX11_takeBack_36 : decode cX11_takeBack 36 = .ok (.iaload, 1) := by decide +kernel
theorem dX11_takeBack_37 : decode cX11_takeBack 37 = .ok (.iconst (-1), 1) := by decide +kernel
theorem dX11_takeBack_38 : decode cX11_takeBack 38 = .ok (.if_icmp .eq 6, 3) := by decide +kernel
theorem dX11_takeBack_41 : decode cX11_takeBack 41 = .ok (.bipush (-3), 2) := by decide +kernel
theorem dX11_takeBack_43 : decode cX11_takeBack 43 = .ok (.ireturn, 1) := by decide +kernel
theorem dX11_takeBack_44 : decode cX11_takeBack 44 = .ok (.aload_n 0, 1) := by decide +kernel
theorem dX11_takeBack_45 : decode cX11_takeBack 45 = .ok (.getfield 34, 3) := by decide +kernel
theorem dX11_takeBack_48 : decode cX11_takeBack 48 = .ok (.iload_n 1, 1) := by decide +kernel
theorem dX11_takeBack_49 : decode cX11_takeBack 49 = .ok (.iload_n 2, 1) := by decide +kernel
theorem dX11_takeBack_50 : decode cX11_takeBack 50 = .ok (.iastore, 1) := by decide +kernel
theorem dX11_takeBack_51 : decode cX11_takeBack 51 = .ok (.aload_n 0, 1) := by decide +kernel
theorem dX11_takeBack_52 : decode cX11_takeBack 52 = .ok (.iload_n 2, 1) := by decide +kernel
theorem dX11_takeBack_53 : decode cX11_takeBack 53 = .ok (.putfield 134, 3) := by decide +kernel
theorem dX11_takeBack_56 : decode cX11_takeBack 56 = .ok (.iconst 1, 1) := by decide +kernel
theorem dX11_takeBack_57 : decode cX11_takeBack 57 = .ok (.ireturn, 1) := by decide +kernel
set_option maxRecDepth 20000 in
theorem ggX11_asOf_X11_in : GoodIn wsX11_asOf wsX11_in := goodIn_r _ [5] (by decide +kernel) (by decide +kernel)
set_option maxRecDepth 20000 in
theorem gX11_asOf_X11_in : GoodIn wsX11_asOf (va_wsS RX11 74 yX11_in wsX11_in) := goodIn_app (goodIn_of _ (by decide +kernel)) ggX11_asOf_X11_in
theorem dX11_asOf_0 : decode cX11_asOf 0 = .ok (.iload_n 1, 1) := by decide +kernel
theorem dX11_asOf_1 : decode cX11_asOf 1 = .ok (.iconst 0, 1) := by decide +kernel
theorem dX11_asOf_2 : decode cX11_asOf 2 = .ok (.sipush 999, 3) := by decide +kernel
theorem dX11_asOf_5 : decode cX11_asOf 5 = .ok (.invokestatic 74, 3) := by decide +kernel
theorem dX11_asOf_8 : decode cX11_asOf 8 = .ok (.ifCond .ne 6, 3) := by decide +kernel
theorem dX11_asOf_11 : decode cX11_asOf 11 = .ok (.bipush (-2), 2) := by decide +kernel
theorem dX11_asOf_13 : decode cX11_asOf 13 = .ok (.ireturn, 1) := by decide +kernel
theorem dX11_asOf_14 : decode cX11_asOf 14 = .ok (.aload_n 0, 1) := by decide +kernel
theorem dX11_asOf_15 : decode cX11_asOf 15 = .ok (.getfield 37, 3) := by decide +kernel
theorem dX11_asOf_18 : decode cX11_asOf 18 = .ok (.istore_n 2, 1) := by decide +kernel
theorem dX11_asOf_19 : decode cX11_asOf 19 = .ok (.aload_n 0, 1) := by decide +kernel
theorem dX11_asOf_20 : decode cX11_asOf 20 = .ok (.iload_n 1, 1) := by decide +kernel
theorem dX11_asOf_21 : decode cX11_asOf 21 = .ok (.putfield 37, 3) := by decide +kernel
theorem dX11_asOf_24 : decode cX11_asOf 24 = .ok (.iload_n 2, 1) := by decide +kernel
theorem dX11_asOf_25 : decode cX11_asOf 25 = .ok (.ireturn, 1) := by decide +kernel
theorem dX11_saidOf_0 : decode cX11_saidOf 0 = .ok (.iconst 0, 1) := by decide +kernel
theorem dX11_saidOf_1 : decode cX11_saidOf 1 = .ok (.istore_n 2, 1) := by decide +kernel
theorem dX11_saidOf_2 : decode cX11_saidOf 2 = .ok (.iconst 0, 1) := by decide +kernel
theorem dX11_saidOf_3 : decode cX11_saidOf 3 = .ok (.istore_n 3, 1) := by decide +kernel
theorem dX11_saidOf_4 : decode cX11_saidOf 4 = .ok (.iload_n 3, 1) := by decide +kernel
theorem dX11_saidOf_5 : decode cX11_saidOf 5 = .ok (.aload_n 0, 1) := by decide +kernel
theorem dX11_saidOf_6 : decode cX11_saidOf 6 = .ok (.getfield 137, 3) := by decide +kernel
theorem dX11_saidOf_9 : decode cX11_saidOf 9 = .ok (.if_icmp .ge 79, 3) := by decide +kernel
theorem dX11_saidOf_12 : decode cX11_saidOf 12 = .ok (.aload_n 0, 1) := by decide +kernel
theorem dX11_saidOf_13 : decode cX11_saidOf 13 = .ok (.getfield 31, 3) := by decide +kernel
theorem dX11_saidOf_16 : decode cX11_saidOf 16 = .ok (.iload_n 3, 1) := by decide +kernel
theorem dX11_saidOf_17 : decode cX11_saidOf 17 = .ok (.iaload, 1) := by decide +kernel
theorem dX11_saidOf_18 : decode cX11_saidOf 18 = .ok (.aload_n 0, 1) := by decide +kernel
theorem dX11_saidOf_19 : decode cX11_saidOf 19 = .ok (.getfield 37, 3) := by decide +kernel
theorem dX11_saidOf_22 : decode cX11_saidOf 22 = .ok (.if_icmp .gt 30, 3) := by decide +kernel
theorem dX11_saidOf_25 : decode cX11_saidOf 25 = .ok (.aload_n 0, 1) := by decide +kernel
theorem dX11_saidOf_26 : decode cX11_saidOf 26 = .ok (.getfield 34, 3) := by decide +kernel
theorem dX11_saidOf_29 : decode cX11_saidOf 29 = .ok (.iload_n 3, 1) := by decide +kernel
theorem dX11_saidOf_30 : decode cX11_saidOf 30 = .ok (.iaload, 1) := by decide +kernel
theorem dX11_saidOf_31 : decode cX11_saidOf 31 = .ok (.iconst (-1), 1) := by decide +kernel
theorem dX11_saidOf_32 : decode cX11_saidOf 32 = .ok (.if_icmp .eq 16, 3) := by decide +kernel
theorem dX11_saidOf_35 : decode cX11_saidOf 35 = .ok (.aload_n 0, 1) := by decide +kernel
theorem dX11_saidOf_36 : decode cX11_saidOf 36 = .ok (.getfield 34, 3) := by decide +kernel
theorem dX11_saidOf_39 : decode cX11_saidOf 39 = .ok (.iload_n 3, 1) := by decide +kernel
theorem dX11_saidOf_40 : decode cX11_saidOf 40 = .ok (.iaload, 1) := by decide +kernel
theorem dX11_saidOf_41 : decode cX11_saidOf 41 = .ok (.aload_n 0, 1) := by decide +kernel
theorem dX11_saidOf_42 : decode cX11_saidOf 42 = .ok (.getfield 37, 3) := by decide +kernel
theorem dX11_saidOf_45 : decode cX11_saidOf 45 = .ok (.if_icmp .le 7, 3) := by decide +kernel
theorem dX11_saidOf_48 : decode cX11_saidOf 48 = .ok (.iconst 1, 1) := by decide +kernel
theorem dX11_saidOf_49 : decode cX11_saidOf 49 = .ok (.goto 4, 3) := by decide +kernel
theorem dX11_saidOf_52 : decode cX11_saidOf 52 = .ok (.iconst 0, 1) := by decide +kernel
theorem dX11_saidOf_53 : decode cX11_saidOf 53 = .ok (.istore 4, 2) := by decide +kernel
theorem dX11_saidOf_55 : decode cX11_saidOf 55 = .ok (.iload_n 2, 1) := by decide +kernel
theorem dX11_saidOf_56 : decode cX11_saidOf 56 = .ok (.iload 4, 2) := by decide +kernel
theorem dX11_saidOf_58 : decode cX11_saidOf 58 = .ok (.ifCond .eq 21, 3) := by decide +kernel
theorem dX11_saidOf_61 : decode cX11_saidOf 61 = .ok (.iload_n 1, 1) := by decide +kernel
theorem dX11_saidOf_62 : decode cX11_saidOf 62 = .ok (.ifCond .eq 13, 3) := by decide +kernel
theorem dX11_saidOf_65 : decode cX11_saidOf 65 = .ok (.aload_n 0, 1) := by decide +kernel
theorem dX11_saidOf_66 : decode cX11_saidOf 66 = .ok (.getfield 28, 3) := by decide +kernel
theorem dX11_saidOf_69 : decode cX11_saidOf 69 = .ok (.iload_n 3, 1) := by decide +kernel
theorem dX11_saidOf_70 : decode cX11_saidOf 70 = .ok (.iaload, 1) := by decide +kernel
theorem dX11_saidOf_71 : decode cX11_saidOf 71 = .ok (.iload_n 1, 1) := by decide +kernel
theorem dX11_saidOf_72 : decode cX11_saidOf 72 = .ok (.if_icmp .ne 7, 3) := by decide +kernel
theorem dX11_saidOf_75 : decode cX11_saidOf 75 = .ok (.iconst 1, 1) := by decide +kernel
theorem dX11_saidOf_76 : decode cX11_saidOf 76 = .ok (.goto 4, 3) := by decide +kernel
theorem dX11_saidOf_79 : decode cX11_saidOf 79 = .ok (.iconst 0, 1) := by decide +kernel
theorem dX11_saidOf_80 : decode cX11_saidOf 80 = .ok (.iadd, 1) := by decide +kernel
theorem dX11_saidOf_81 : decode cX11_saidOf 81 = .ok (.istore_n 2, 1) := by decide +kernel
theorem dX11_saidOf_82 : decode cX11_saidOf 82 = .ok (.iinc 3 1, 3) := by decide +kernel
theorem dX11_saidOf_85 : decode cX11_saidOf 85 = .ok (.goto (-81), 3) := by decide +kernel
theorem dX11_saidOf_88 : decode cX11_saidOf 88 = .ok (.iload_n 2, 1) := by decide +kernel
theorem dX11_saidOf_89 : decode cX11_saidOf 89 = .ok (.ireturn, 1) := by decide +kernel
set_option maxRecDepth 20000 in
theorem ggX11_said_X11_in : GoodIn wsX11_said wsX11_in := goodIn_r _ [4] (by decide +kernel) (by decide +kernel)
set_option maxRecDepth 20000 in
theorem gX11_said_X11_in : GoodIn wsX11_said (va_wsS RX11 74 yX11_in wsX11_in) := goodIn_app (goodIn_of _ (by decide +kernel)) ggX11_said_X11_in
set_option maxRecDepth 20000 in
theorem ggX11_said_X11_saidOf : GoodIn wsX11_said wsX11_saidOf := goodIn_r _ [8, 9, 10, 11, 12, 13, 14, 15, 16, 17, 18, 19, 20, 21, 22, 23, 24, 25, 26, 27, 28, 29, 30, 31, 32, 33, 34, 35, 36, 37, 38, 39, 40] (by decide +kernel) (by decide +kernel)
set_option maxRecDepth 20000 in
theorem gX11_said_X11_saidOf : GoodIn wsX11_said (wsV RX11 150 RX11 yX11_saidOf wsX11_saidOf) := goodIn_app (goodIn_of _ (by decide +kernel)) ggX11_said_X11_saidOf
theorem dX11_said_0 : decode cX11_said 0 = .ok (.iload_n 1, 1) := by decide +kernel
theorem dX11_said_1 : decode cX11_said 1 = .ok (.iconst 1, 1) := by decide +kernel
theorem dX11_said_2 : decode cX11_said 2 = .ok (.bipush 8, 2) := by decide +kernel
theorem dX11_said_4 : decode cX11_said 4 = .ok (.invokestatic 74, 3) := by decide +kernel
theorem dX11_said_7 : decode cX11_said 7 = .ok (.ifCond .eq 11, 3) := by decide +kernel
theorem dX11_said_10 : decode cX11_said 10 = .ok (.aload_n 0, 1) := by decide +kernel
theorem dX11_said_11 : decode cX11_said 11 = .ok (.iload_n 1, 1) := by decide +kernel
theorem dX11_said_12 : decode cX11_said 12 = .ok (.invokevirtual 150, 3) := by decide +kernel
theorem dX11_said_15 : decode cX11_said 15 = .ok (.goto 5, 3) := by decide +kernel
theorem dX11_said_18 : decode cX11_said 18 = .ok (.bipush (-2), 2) := by decide +kernel
theorem dX11_said_20 : decode cX11_said 20 = .ok (.ireturn, 1) := by decide +kernel
set_option maxRecDepth 20000 in
theorem ggX11_familyParts_X11_saidOf : GoodIn wsX11_familyParts wsX11_saidOf := goodIn_r _ [5, 6, 7, 8, 9, 10, 11, 12, 13, 14, 15, 16, 17, 18, 19, 20, 21, 22, 23, 24, 25, 26, 27, 28, 29, 30, 31, 32, 33, 34, 35, 36, 37] (by decide +kernel) (by decide +kernel)
set_option maxRecDepth 20000 in
theorem gX11_familyParts_X11_saidOf : GoodIn wsX11_familyParts (wsV RX11 150 RX11 yX11_saidOf wsX11_saidOf) := goodIn_app (goodIn_of _ (by decide +kernel)) ggX11_familyParts_X11_saidOf
theorem dX11_familyParts_0 : decode cX11_familyParts 0 = .ok (.iconst 0, 1) := by decide +kernel
theorem dX11_familyParts_1 : decode cX11_familyParts 1 = .ok (.istore_n 1, 1) := by decide +kernel
theorem dX11_familyParts_2 : decode cX11_familyParts 2 = .ok (.iconst 1, 1) := by decide +kernel
theorem dX11_familyParts_3 : decode cX11_familyParts 3 = .ok (.istore_n 2, 1) := by decide +kernel
theorem dX11_familyParts_4 : decode cX11_familyParts 4 = .ok (.iload_n 2, 1) := by decide +kernel
theorem dX11_familyParts_5 : decode cX11_familyParts 5 = .ok (.bipush 9, 2) := by decide +kernel
theorem dX11_familyParts_7 : decode cX11_familyParts 7 = .ok (.if_icmp .ge 23, 3) := by decide +kernel
theorem dX11_familyParts_10 : decode cX11_familyParts 10 = .ok (.iload_n 1, 1) := by decide +kernel
theorem dX11_familyParts_11 : decode cX11_familyParts 11 = .ok (.aload_n 0, 1) := by decide +kernel
theorem dX11_familyParts_12 : decode cX11_familyParts 12 = .ok (.iload_n 2, 1) := by decide +kernel
theorem dX11_familyParts_13 : decode cX11_familyParts 13 = .ok (.invokevirtual 150, 3) := by decide +kernel
theorem dX11_familyParts_16 : decode cX11_familyParts 16 = .ok (.sipush 840, 3) := by decide +kernel
theorem dX11_familyParts_19 : decode cX11_familyParts 19 = .ok (.iload_n 2, 1) := by decide +kernel
theorem dX11_familyParts_20 : decode cX11_familyParts 20 = .ok (.idiv, 1) := by decide +kernel
theorem dX11_familyParts_21 : decode cX11_familyParts 21 = .ok (.imul, 1) := by decide +kernel
theorem dX11_familyParts_22 : decode cX11_familyParts 22 = .ok (.iadd, 1) := by decide +kernel
theorem dX11_familyParts_23 : decode cX11_familyParts 23 = .ok (.istore_n 1, 1) := by decide +kernel
theorem dX11_familyParts_24 : decode cX11_familyParts 24 = .ok (.iinc 2 1, 3) := by decide +kernel
theorem dX11_familyParts_27 : decode cX11_familyParts 27 = .ok (.goto (-23), 3) := by decide +kernel
theorem dX11_familyParts_30 : decode cX11_familyParts 30 = .ok (.iload_n 1, 1) := by decide +kernel
theorem dX11_familyParts_31 : decode cX11_familyParts 31 = .ok (.ireturn, 1) := by decide +kernel
set_option maxRecDepth 20000 in
theorem ggX11_share_X11_in : GoodIn wsX11_share wsX11_in := goodIn_r _ [4] (by decide +kernel) (by decide +kernel)
set_option maxRecDepth 20000 in
theorem gX11_share_X11_in : GoodIn wsX11_share (va_wsS RX11 74 yX11_in wsX11_in) := goodIn_app (goodIn_of _ (by decide +kernel)) ggX11_share_X11_in
set_option maxRecDepth 20000 in
theorem ggX11_share_X11_no : GoodIn wsX11_share wsX11_no := goodIn_r _ [7, 8] (by decide +kernel) (by decide +kernel)
set_option maxRecDepth 20000 in
theorem gX11_share_X11_no : GoodIn wsX11_share (va_wsS RX11 109 yX11_no wsX11_no) := goodIn_app (goodIn_of _ (by decide +kernel)) ggX11_share_X11_no
set_option maxRecDepth 20000 in
theorem ggX11_share_X11_saidOf : GoodIn wsX11_share wsX11_saidOf := goodIn_r _ [12, 13, 14, 15, 16, 17, 25, 26, 27, 28, 29, 30, 31, 32, 33, 34, 35, 36, 37, 38, 39, 40, 41, 42, 43, 44, 45, 46, 47, 48, 49, 50, 51] (by decide +kernel) (by decide +kernel)
set_option maxRecDepth 20000 in
theorem gX11_share_X11_saidOf : GoodIn wsX11_share (wsV RX11 150 RX11 yX11_saidOf wsX11_saidOf) := goodIn_app (goodIn_of _ (by decide +kernel)) ggX11_share_X11_saidOf
set_option maxRecDepth 20000 in
theorem ggX11_share_X11_lowest : GoodIn wsX11_share wsX11_lowest := goodIn_r _ [20] (by decide +kernel) (by decide +kernel)
set_option maxRecDepth 20000 in
theorem gX11_share_X11_lowest : GoodIn wsX11_share (va_wsS RX11 115 yX11_lowest wsX11_lowest) := goodIn_app (goodIn_of _ (by decide +kernel)) ggX11_share_X11_lowest
set_option maxRecDepth 20000 in
theorem ggX11_share_X11_familyParts : GoodIn wsX11_share wsX11_familyParts := goodIn_r _ [24, 9, 10, 11, 3, 12, 13, 14, 15, 16, 17, 25, 26, 27, 28, 29, 30, 31, 32, 33, 34, 35, 36, 37, 38, 39, 40, 41, 42, 43, 44, 45, 46, 47, 48, 49, 50, 51] (by decide +kernel) (by decide +kernel)
set_option maxRecDepth 20000 in
theorem gX11_share_X11_familyParts : GoodIn wsX11_share (wsV RX11 153 RX11 yX11_familyParts wsX11_familyParts) := goodIn_app (goodIn_of _ (by decide +kernel)) ggX11_share_X11_familyParts
theorem dX11_share_0 : decode cX11_share 0 = .ok (.iload_n 1, 1) := by decide +kernel
theorem dX11_share_1 : decode cX11_share 1 = .ok (.iconst 1, 1) := by decide +kernel
theorem dX11_share_2 : decode cX11_share 2 = .ok (.bipush 8, 2) := by decide +kernel
theorem dX11_share_4 : decode cX11_share 4 = .ok (.invokestatic 74, 3) := by decide +kernel
theorem dX11_share_7 : decode cX11_share 7 = .ok (.ifCond .eq 21, 3) := by decide +kernel
theorem dX11_share_10 : decode cX11_share 10 = .ok (.iload_n 2, 1) := by decide +kernel
theorem dX11_share_11 : decode cX11_share 11 = .ok (.iconst 0, 1) := by decide +kernel
theorem dX11_share_12 : decode cX11_share 12 = .ok (.iconst 1, 1) := by decide +kernel
theorem dX11_share_13 : decode cX11_share 13 = .ok (.invokestatic 74, 3) := by decide +kernel
theorem dX11_share_16 : decode cX11_share 16 = .ok (.ifCond .eq 12, 3) := by decide +kernel
theorem dX11_share_19 : decode cX11_share 19 = .ok (.iload_n 3, 1) := by decide +kernel
theorem dX11_share_20 : decode cX11_share 20 = .ok (.iconst 0, 1) := by decide +kernel
theorem dX11_share_21 : decode cX11_share 21 = .ok (.iconst 1, 1) := by decide +kernel
theorem dX11_share_22 : decode cX11_share 22 = .ok (.invokestatic 74, 3) := by decide +kernel
theorem dX11_share_25 : decode cX11_share 25 = .ok (.ifCond .ne 9, 3) := by decide +kernel
theorem dX11_share_28 : decode cX11_share 28 = .ok (.bipush (-2), 2) := by decide +kernel
theorem dX11_share_30 : decode cX11_share 30 = .ok (.invokestatic 109, 3) := by decide +kernel
theorem dX11_share_33 : decode cX11_share 33 = .ok (.lreturn, 1) := by decide +kernel
theorem dX11_share_34 : decode cX11_share 34 = .ok (.aload_n 0, 1) := by decide +kernel
theorem dX11_share_35 : decode cX11_share 35 = .ok (.iconst 0, 1) := by decide +kernel
theorem dX11_share_36 : decode cX11_share 36 = .ok (.invokevirtual 150, 3) := by decide +kernel
theorem dX11_share_39 : decode cX11_share 39 = .ok (.istore 4, 2) := by decide +kernel
theorem dX11_share_41 : decode cX11_share 41 = .ok (.iload 4, 2) := by decide +kernel
theorem dX11_share_43 : decode cX11_share 43 = .ok (.ifCond .ne 9, 3) := by decide +kernel
theorem dX11_share_46 : decode cX11_share 46 = .ok (.bipush (-3), 2) := by decide +kernel
theorem dX11_share_48 : decode cX11_share 48 = .ok (.invokestatic 109, 3) := by decide +kernel
theorem dX11_share_51 : decode cX11_share 51 = .ok (.lreturn, 1) := by decide +kernel
theorem dX11_share_52 : decode cX11_share 52 = .ok (.iload_n 2, 1) := by decide +kernel
theorem dX11_share_53 : decode cX11_share 53 = .ok (.ifCond .ne 19, 3) := by decide +kernel
theorem dX11_share_56 : decode cX11_share 56 = .ok (.aload_n 0, 1) := by decide +kernel
theorem dX11_share_57 : decode cX11_share 57 = .ok (.iload_n 1, 1) := by decide +kernel
theorem dX11_share_58 : decode cX11_share 58 = .ok (.invokevirtual 150, 3) := by decide +kernel
theorem dX11_share_61 : decode cX11_share 61 = .ok (.i2l, 1) := by decide +kernel
theorem dX11_share_62 : decode cX11_share 62 = .ok (.iload 4, 2) := by decide +kernel
theorem dX11_share_64 : decode cX11_share 64 = .ok (.i2l, 1) := by decide +kernel
theorem dX11_share_65 : decode cX11_share 65 = .ok (.iload_n 3, 1) := by decide +kernel
theorem dX11_share_66 : decode cX11_share 66 = .ok (.invokestatic 115, 3) := by decide +kernel
theorem dX11_share_69 : decode cX11_share 69 = .ok (.goto 24, 3) := by decide +kernel
theorem dX11_share_72 : decode cX11_share 72 = .ok (.aload_n 0, 1) := by decide +kernel
theorem dX11_share_73 : decode cX11_share 73 = .ok (.iload_n 1, 1) := by decide +kernel
theorem dX11_share_74 : decode cX11_share 74 = .ok (.invokevirtual 150, 3) := by decide +kernel
theorem dX11_share_77 : decode cX11_share 77 = .ok (.sipush 840, 3) := by decide +kernel
theorem dX11_share_80 : decode cX11_share 80 = .ok (.iload_n 1, 1) := by decide +kernel
theorem dX11_share_81 : decode cX11_share 81 = .ok (.idiv, 1) := by decide +kernel
theorem dX11_share_82 : decode cX11_share 82 = .ok (.imul, 1) := by decide +kernel
theorem dX11_share_83 : decode cX11_share 83 = .ok (.i2l, 1) := by decide +kernel
theorem dX11_share_84 : decode cX11_share 84 = .ok (.aload_n 0, 1) := by decide +kernel
theorem dX11_share_85 : decode cX11_share 85 = .ok (.invokevirtual 153, 3) := by decide +kernel
theorem dX11_share_88 : decode cX11_share 88 = .ok (.i2l, 1) := by decide +kernel
theorem dX11_share_89 : decode cX11_share 89 = .ok (.iload_n 3, 1) := by decide +kernel
theorem dX11_share_90 : decode cX11_share 90 = .ok (.invokestatic 115, 3) := by decide +kernel
theorem dX11_share_93 : decode cX11_share 93 = .ok (.lreturn, 1) := by decide +kernel
set_option maxRecDepth 20000 in
theorem ggX11_sizeNow_X11_saidOf : GoodIn wsX11_sizeNow wsX11_saidOf := goodIn_r _ [5, 6, 7, 8, 9, 10, 22, 23, 24, 25, 26, 27, 28, 29, 30, 31, 32, 33, 34, 35, 36, 37, 38, 39, 40, 41, 42, 43, 44, 45, 46, 47, 48] (by decide +kernel) (by decide +kernel)
set_option maxRecDepth 20000 in
theorem gX11_sizeNow_X11_saidOf : GoodIn wsX11_sizeNow (wsV RX11 150 RX11 yX11_saidOf wsX11_saidOf) := goodIn_app (goodIn_of _ (by decide +kernel)) ggX11_sizeNow_X11_saidOf
set_option maxRecDepth 20000 in
theorem ggX11_sizeNow_X11_no : GoodIn wsX11_sizeNow wsX11_no := goodIn_r _ [13, 14] (by decide +kernel) (by decide +kernel)
set_option maxRecDepth 20000 in
theorem gX11_sizeNow_X11_no : GoodIn wsX11_sizeNow (va_wsS RX11 109 yX11_no wsX11_no) := goodIn_app (goodIn_of _ (by decide +kernel)) ggX11_sizeNow_X11_no
set_option maxRecDepth 20000 in
theorem ggX11_sizeNow_X11_lowest : GoodIn wsX11_sizeNow wsX11_lowest := goodIn_r _ [17] (by decide +kernel) (by decide +kernel)
set_option maxRecDepth 20000 in
theorem gX11_sizeNow_X11_lowest : GoodIn wsX11_sizeNow (va_wsS RX11 115 yX11_lowest wsX11_lowest) := goodIn_app (goodIn_of _ (by decide +kernel)) ggX11_sizeNow_X11_lowest
set_option maxRecDepth 20000 in
theorem ggX11_sizeNow_X11_familyParts : GoodIn wsX11_sizeNow wsX11_familyParts := goodIn_r _ [21, 1, 2, 3, 4, 5, 6, 7, 8, 9, 10, 22, 23, 24, 25, 26, 27, 28, 29, 30, 31, 32, 33, 34, 35, 36, 37, 38, 39, 40, 41, 42, 43, 44, 45, 46, 47, 48] (by decide +kernel) (by decide +kernel)
set_option maxRecDepth 20000 in
theorem gX11_sizeNow_X11_familyParts : GoodIn wsX11_sizeNow (wsV RX11 153 RX11 yX11_familyParts wsX11_familyParts) := goodIn_app (goodIn_of _ (by decide +kernel)) ggX11_sizeNow_X11_familyParts
theorem dX11_sizeNow_0 : decode cX11_sizeNow 0 = .ok (.aload_n 0, 1) := by decide +kernel
theorem dX11_sizeNow_1 : decode cX11_sizeNow 1 = .ok (.iconst 0, 1) := by decide +kernel
theorem dX11_sizeNow_2 : decode cX11_sizeNow 2 = .ok (.invokevirtual 150, 3) := by decide +kernel
theorem dX11_sizeNow_5 : decode cX11_sizeNow 5 = .ok (.istore_n 3, 1) := by decide +kernel
theorem dX11_sizeNow_6 : decode cX11_sizeNow 6 = .ok (.iload_n 3, 1) := by decide +kernel
theorem dX11_sizeNow_7 : decode cX11_sizeNow 7 = .ok (.ifCond .ne 9, 3) := by decide +kernel
theorem dX11_sizeNow_10 : decode cX11_sizeNow 10 = .ok (.bipush (-3), 2) := by decide +kernel
theorem dX11_sizeNow_12 : decode cX11_sizeNow 12 = .ok (.invokestatic 109, 3) := by decide +kernel
theorem dX11_sizeNow_15 : decode cX11_sizeNow 15 = .ok (.lreturn, 1) := by decide +kernel
theorem dX11_sizeNow_16 : decode cX11_sizeNow 16 = .ok (.iconst 0, 1) := by decide +kernel
theorem dX11_sizeNow_17 : decode cX11_sizeNow 17 = .ok (.istore 4, 2) := by decide +kernel
theorem dX11_sizeNow_19 : decode cX11_sizeNow 19 = .ok (.iconst 1, 1) := by decide +kernel
theorem dX11_sizeNow_20 : decode cX11_sizeNow 20 = .ok (.istore 5, 2) := by decide +kernel
theorem dX11_sizeNow_22 : decode cX11_sizeNow 22 = .ok (.iload 5, 2) := by decide +kernel
theorem dX11_sizeNow_24 : decode cX11_sizeNow 24 = .ok (.bipush 9, 2) := by decide +kernel
theorem dX11_sizeNow_26 : decode cX11_sizeNow 26 = .ok (.if_icmp .ge 23, 3) := by decide +kernel
theorem dX11_sizeNow_29 : decode cX11_sizeNow 29 = .ok (.iload 4, 2) := by decide +kernel
theorem dX11_sizeNow_31 : decode cX11_sizeNow 31 = .ok (.iload 5, 2) := by decide +kernel
theorem dX11_sizeNow_33 : decode cX11_sizeNow 33 = .ok (.aload_n 0, 1) := by decide +kernel
theorem dX11_sizeNow_34 : decode cX11_sizeNow 34 = .ok (.iload 5, 2) := by decide +kernel
theorem dX11_sizeNow_36 : decode cX11_sizeNow 36 = .ok (.invokevirtual 150, 3) := by decide +kernel
theorem dX11_sizeNow_39 : decode cX11_sizeNow 39 = .ok (.imul, 1) := by decide +kernel
theorem dX11_sizeNow_40 : decode cX11_sizeNow 40 = .ok (.iadd, 1) := by decide +kernel
theorem dX11_sizeNow_41 : decode cX11_sizeNow 41 = .ok (.istore 4, 2) := by decide +kernel
theorem dX11_sizeNow_43 : decode cX11_sizeNow 43 = .ok (.iinc 5 1, 3) := by decide +kernel
theorem dX11_sizeNow_46 : decode cX11_sizeNow 46 = .ok (.goto (-24), 3) := by decide +kernel
theorem dX11_sizeNow_49 : decode cX11_sizeNow 49 = .ok (.iload_n 1, 1) := by decide +kernel
theorem dX11_sizeNow_50 : decode cX11_sizeNow 50 = .ok (.ifCond .ne 15, 3) := by decide +kernel
theorem dX11_sizeNow_53 : decode cX11_sizeNow 53 = .ok (.iload 4, 2) := by decide +kernel
theorem dX11_sizeNow_55 : decode cX11_sizeNow 55 = .ok (.i2l, 1) := by decide +kernel
theorem dX11_sizeNow_56 : decode cX11_sizeNow 56 = .ok (.iload_n 3, 1) := by decide +kernel
theorem dX11_sizeNow_57 : decode cX11_sizeNow 57 = .ok (.i2l, 1) := by decide +kernel
theorem dX11_sizeNow_58 : decode cX11_sizeNow 58 = .ok (.iload_n 2, 1) := by decide +kernel
theorem dX11_sizeNow_59 : decode cX11_sizeNow 59 = .ok (.invokestatic 115, 3) := by decide +kernel
theorem dX11_sizeNow_62 : decode cX11_sizeNow 62 = .ok (.goto 18, 3) := by decide +kernel
theorem dX11_sizeNow_65 : decode cX11_sizeNow 65 = .ok (.sipush 840, 3) := by decide +kernel
theorem dX11_sizeNow_68 : decode cX11_sizeNow 68 = .ok (.iload_n 3, 1) := by decide +kernel
theorem dX11_sizeNow_69 : decode cX11_sizeNow 69 = .ok (.imul, 1) := by decide +kernel
theorem dX11_sizeNow_70 : decode cX11_sizeNow 70 = .ok (.i2l, 1) := by decide +kernel
theorem dX11_sizeNow_71 : decode cX11_sizeNow 71 = .ok (.aload_n 0, 1) := by decide +kernel
theorem dX11_sizeNow_72 : decode cX11_sizeNow 72 = .ok (.invokevirtual 153, 3) := by decide +kernel
theorem dX11_sizeNow_75 : decode cX11_sizeNow 75 = .ok (.i2l, 1) := by decide +kernel
theorem dX11_sizeNow_76 : decode cX11_sizeNow 76 = .ok (.iload_n 2, 1) := by decide +kernel
theorem dX11_sizeNow_77 : decode cX11_sizeNow 77 = .ok (.invokestatic 115, 3) := by decide +kernel
theorem dX11_sizeNow_80 : decode cX11_sizeNow 80 = .ok (.lreturn, 1) := by decide +kernel
set_option maxRecDepth 20000 in
theorem ggX11_size_X11_in : GoodIn wsX11_size wsX11_in := goodIn_r _ [4] (by decide +kernel) (by decide +kernel)
set_option maxRecDepth 20000 in
theorem gX11_size_X11_in : GoodIn wsX11_size (va_wsS RX11 74 yX11_in wsX11_in) := goodIn_app (goodIn_of _ (by decide +kernel)) ggX11_size_X11_in
set_option maxRecDepth 20000 in
theorem ggX11_size_X11_sizeNow : GoodIn wsX11_size wsX11_sizeNow := goodIn_r _ [8, 9, 10, 11, 3, 12, 13, 14, 15, 16, 17, 18, 19, 20, 21, 22, 23, 24, 25, 26, 27, 28, 29, 30, 31, 32, 33, 34, 35, 36, 37, 38, 39, 40, 41, 42, 43, 44, 45, 46, 47, 48, 49, 50, 51, 52, 53, 54, 55] (by decide +kernel) (by decide +kernel)
set_option maxRecDepth 20000 in
theorem gX11_size_X11_sizeNow : GoodIn wsX11_size (wsV RX11 156 RX11 yX11_sizeNow wsX11_sizeNow) := goodIn_app (goodIn_of _ (by decide +kernel)) ggX11_size_X11_sizeNow
set_option maxRecDepth 20000 in
theorem ggX11_size_X11_no : GoodIn wsX11_size wsX11_no := goodIn_r _ [20, 21] (by decide +kernel) (by decide +kernel)
set_option maxRecDepth 20000 in
theorem gX11_size_X11_no : GoodIn wsX11_size (va_wsS RX11 109 yX11_no wsX11_no) := goodIn_app (goodIn_of _ (by decide +kernel)) ggX11_size_X11_no
theorem dX11_size_0 : decode cX11_size 0 = .ok (.iload_n 1, 1) := by decide +kernel
theorem dX11_size_1 : decode cX11_size 1 = .ok (.iconst 0, 1) := by decide +kernel
theorem dX11_size_2 : decode cX11_size 2 = .ok (.iconst 1, 1) := by decide +kernel
theorem dX11_size_3 : decode cX11_size 3 = .ok (.invokestatic 74, 3) := by decide +kernel
theorem dX11_size_6 : decode cX11_size 6 = .ok (.ifCond .eq 21, 3) := by decide +kernel
theorem dX11_size_9 : decode cX11_size 9 = .ok (.iload_n 2, 1) := by decide +kernel
theorem dX11_size_10 : decode cX11_size 10 = .ok (.iconst 0, 1) := by decide +kernel
theorem dX11_size_11 : decode cX11_size 11 = .ok (.iconst 1, 1) := by decide +kernel
theorem dX11_size_12 : decode cX11_size 12 = .ok (.invokestatic 74, 3) := by decide +kernel
theorem dX11_size_15 : decode cX11_size 15 = .ok (.ifCond .eq 12, 3) := by decide +kernel
theorem dX11_size_18 : decode cX11_size 18 = .ok (.aload_n 0, 1) := by decide +kernel
theorem dX11_size_19 : decode cX11_size 19 = .ok (.iload_n 1, 1) := by decide +kernel
theorem dX11_size_20 : decode cX11_size 20 = .ok (.iload_n 2, 1) := by decide +kernel
theorem dX11_size_21 : decode cX11_size 21 = .ok (.invokevirtual 156, 3) := by decide +kernel
theorem dX11_size_24 : decode cX11_size 24 = .ok (.goto 8, 3) := by decide +kernel
theorem dX11_size_27 : decode cX11_size 27 = .ok (.bipush (-2), 2) := by decide +kernel
theorem dX11_size_29 : decode cX11_size 29 = .ok (.invokestatic 109, 3) := by decide +kernel
theorem dX11_size_32 : decode cX11_size 32 = .ok (.lreturn, 1) := by decide +kernel
set_option maxRecDepth 20000 in
theorem ggX11_families_X11_in : GoodIn wsX11_families wsX11_in := goodIn_r _ [5] (by decide +kernel) (by decide +kernel)
set_option maxRecDepth 20000 in
theorem gX11_families_X11_in : GoodIn wsX11_families (va_wsS RX11 74 yX11_in wsX11_in) := goodIn_app (goodIn_of _ (by decide +kernel)) ggX11_families_X11_in
theorem dX11_families_0 : decode cX11_families 0 = .ok (.iload_n 1, 1) := by decide +kernel
theorem dX11_families_1 : decode cX11_families 1 = .ok (.iconst 0, 1) := by decide +kernel
theorem dX11_families_2 : decode cX11_families 2 = .ok (.iconst 3, 1) := by decide +kernel
theorem dX11_families_3 : decode cX11_families 3 = .ok (.invokestatic 74, 3) := by decide +kernel
theorem dX11_families_6 : decode cX11_families 6 = .ok (.ifCond .eq 23, 3) := by decide +kernel
theorem dX11_families_9 : decode cX11_families 9 = .ok (.iload_n 2, 1) := by decide +kernel
theorem dX11_families_10 : decode cX11_families 10 = .ok (.iconst 1, 1) := by decide +kernel
theorem dX11_families_11 : decode cX11_families 11 = .ok (.bipush 8, 2) := by decide +kernel
theorem dX11_families_13 : decode cX11_families 13 = .ok (.invokestatic 74, 3) := by decide +kernel
theorem dX11_families_16 : decode cX11_families 16 = .ok (.ifCond .eq 13, 3) := by decide +kernel
theorem dX11_families_19 : decode cX11_families 19 = .ok (.iload_n 3, 1) := by decide +kernel
theorem dX11_families_20 : decode cX11_families 20 = .ok (.iconst 0, 1) := by decide +kernel
theorem dX11_families_21 : decode cX11_families 21 = .ok (.bipush 9, 2) := by decide +kernel
theorem dX11_families_23 : decode cX11_families 23 = .ok (.invokestatic 74, 3) := by decide +kernel
theorem dX11_families_26 : decode cX11_families 26 = .ok (.ifCond .ne 6, 3) := by decide +kernel
theorem dX11_families_29 : decode cX11_families 29 = .ok (.bipush (-2), 2) := by decide +kernel
theorem dX11_families_31 : decode cX11_families 31 = .ok (.ireturn, 1) := by decide +kernel
theorem dX11_families_32 : decode cX11_families 32 = .ok (.aload_n 0, 1) := by decide +kernel
theorem dX11_families_33 : decode cX11_families 33 = .ok (.getfield 41, 3) := by decide +kernel
theorem dX11_families_36 : decode cX11_families 36 = .ok (.bipush 9, 2) := by decide +kernel
theorem dX11_families_38 : decode cX11_families 38 = .ok (.iload_n 1, 1) := by decide +kernel
theorem dX11_families_39 : decode cX11_families 39 = .ok (.imul, 1) := by decide +kernel
theorem dX11_families_40 : decode cX11_families 40 = .ok (.iload_n 2, 1) := by decide +kernel
theorem dX11_families_41 : decode cX11_families 41 = .ok (.iadd, 1) := by decide +kernel
theorem dX11_families_42 : decode cX11_families 42 = .ok (.iaload, 1) := by decide +kernel
theorem dX11_families_43 : decode cX11_families 43 = .ok (.istore 4, 2) := by decide +kernel
theorem dX11_families_45 : decode cX11_families 45 = .ok (.aload_n 0, 1) := by decide +kernel
theorem dX11_families_46 : decode cX11_families 46 = .ok (.getfield 41, 3) := by decide +kernel
theorem dX11_families_49 : decode cX11_families 49 = .ok (.bipush 9, 2) := by decide +kernel
theorem dX11_families_51 : decode cX11_families 51 = .ok (.iload_n 1, 1) := by decide +kernel
theorem dX11_families_52 : decode cX11_families 52 = .ok (.imul, 1) := by decide +kernel
theorem dX11_families_53 : decode cX11_families 53 = .ok (.iload_n 2, 1) := by decide +kernel
theorem dX11_families_54 : decode cX11_families 54 = .ok (.iadd, 1) := by decide +kernel
theorem dX11_families_55 : decode cX11_families 55 = .ok (.iload_n 3, 1) := by decide +kernel
theorem dX11_families_56 : decode cX11_families 56 = .ok (.iastore, 1) := by decide +kernel
theorem dX11_families_57 : decode cX11_families 57 = .ok (.iload 4, 2) := by decide +kernel
theorem dX11_families_59 : decode cX11_families 59 = .ok (.ireturn, 1) := by decide +kernel
set_option maxRecDepth 20000 in
theorem ggX11_choose_X11_in : GoodIn wsX11_choose wsX11_in := goodIn_r _ [4] (by decide +kernel) (by decide +kernel)
set_option maxRecDepth 20000 in
theorem gX11_choose_X11_in : GoodIn wsX11_choose (va_wsS RX11 74 yX11_in wsX11_in) := goodIn_app (goodIn_of _ (by decide +kernel)) ggX11_choose_X11_in
theorem dX11_choose_0 : decode cX11_choose 0 = .ok (.iload_n 1, 1) := by decide +kernel
theorem dX11_choose_1 : decode cX11_choose 1 = .ok (.iconst 0, 1) := by decide +kernel
theorem dX11_choose_2 : decode cX11_choose 2 = .ok (.iload_n 0, 1) := by decide +kernel
theorem dX11_choose_3 : decode cX11_choose 3 = .ok (.invokestatic 74, 3) := by decide +kernel
theorem dX11_choose_6 : decode cX11_choose 6 = .ok (.ifCond .eq 7, 3) := by decide +kernel
theorem dX11_choose_9 : decode cX11_choose 9 = .ok (.lconst 1, 1) := by decide +kernel
theorem dX11_choose_10 : decode cX11_choose 10 = .ok (.goto 4, 3) := by decide +kernel
theorem dX11_choose_13 : decode cX11_choose 13 = .ok (.lconst 0, 1) := by decide +kernel
theorem dX11_choose_14 : decode cX11_choose 14 = .ok (.lstore_n 2, 1) := by decide +kernel
theorem dX11_choose_15 : decode cX11_choose 15 = .ok (.iconst 0, 1) := by decide +kernel
theorem dX11_choose_16 : decode cX11_choose 16 = .ok (.istore 4, 2) := by decide +kernel
theorem dX11_choose_18 : decode cX11_choose 18 = .ok (.iload 4, 2) := by decide +kernel
theorem dX11_choose_20 : decode cX11_choose 20 = .ok (.iload_n 1, 1) := by decide +kernel
theorem dX11_choose_21 : decode cX11_choose 21 = .ok (.if_icmp .ge 29, 3) := by decide +kernel
theorem dX11_choose_24 : decode cX11_choose 24 = .ok (.lload_n 2, 1) := by decide +kernel
theorem dX11_choose_25 : decode cX11_choose 25 = .ok (.lconst 0, 1) := by decide +kernel
theorem dX11_choose_26 : decode cX11_choose 26 = .ok (.lcmp, 1) := by decide +kernel
theorem dX11_choose_27 : decode cX11_choose 27 = .ok (.ifCond .le 23, 3) := by decide +kernel
theorem dX11_choose_30 : decode cX11_choose 30 = .ok (.lload_n 2, 1) := by decide +kernel
theorem dX11_choose_31 : decode cX11_choose 31 = .ok (.iload_n 0, 1) := by decide +kernel
theorem dX11_choose_32 : decode cX11_choose 32 = .ok (.iload 4, 2) := by decide +kernel
theorem dX11_choose_34 : decode cX11_choose 34 = .ok (.isub, 1) := by decide +kernel
theorem dX11_choose_35 : decode cX11_choose 35 = .ok (.i2l, 1) := by decide +kernel
theorem dX11_choose_36 : decode cX11_choose 36 = .ok (.lmul, 1) := by decide +kernel
theorem dX11_choose_37 : decode cX11_choose 37 = .ok (.iload 4, 2) := by decide +kernel
theorem dX11_choose_39 : decode cX11_choose 39 = .ok (.i2l, 1) := by decide +kernel
theorem dX11_choose_40 : decode cX11_choose 40 = .ok (.lconst 1, 1) := by decide +kernel
theorem dX11_choose_41 : decode cX11_choose 41 = .ok (.ladd, 1) := by decide +kernel
theorem dX11_choose_42 : decode cX11_choose 42 = .ok (.ldiv, 1) := by decide +kernel
theorem dX11_choose_43 : decode cX11_choose 43 = .ok (.lstore_n 2, 1) := by decide +kernel
theorem dX11_choose_44 : decode cX11_choose 44 = .ok (.iinc 4 1, 3) := by decide +kernel
theorem dX11_choose_47 : decode cX11_choose 47 = .ok (.goto (-29), 3) := by decide +kernel
theorem dX11_choose_50 : decode cX11_choose 50 = .ok (.lload_n 2, 1) := by decide +kernel
theorem dX11_choose_51 : decode cX11_choose 51 = .ok (.lreturn, 1) := by decide +kernel
theorem dX11_childrenOf_0 : decode cX11_childrenOf 0 = .ok (.iconst 0, 1) := by decide +kernel
theorem dX11_childrenOf_1 : decode cX11_childrenOf 1 = .ok (.istore_n 2, 1) := by decide +kernel
theorem dX11_childrenOf_2 : decode cX11_childrenOf 2 = .ok (.iconst 1, 1) := by decide +kernel
theorem dX11_childrenOf_3 : decode cX11_childrenOf 3 = .ok (.istore_n 3, 1) := by decide +kernel
theorem dX11_childrenOf_4 : decode cX11_childrenOf 4 = .ok (.iload_n 3, 1) := by decide +kernel
theorem dX11_childrenOf_5 : decode cX11_childrenOf 5 = .ok (.bipush 9, 2) := by decide +kernel
theorem dX11_childrenOf_7 : decode cX11_childrenOf 7 = .ok (.if_icmp .ge 25, 3) := by decide +kernel
theorem dX11_childrenOf_10 : decode cX11_childrenOf 10 = .ok (.iload_n 2, 1) := by decide +kernel
theorem dX11_childrenOf_11 : decode cX11_childrenOf 11 = .ok (.iload_n 3, 1) := by decide +kernel
theorem dX11_childrenOf_12 : decode cX11_childrenOf 12 = .ok (.aload_n 0, 1) := by decide +kernel
theorem dX11_childrenOf_13 : decode cX11_childrenOf 13 = .ok (.getfield 41, 3) := by decide +kernel
theorem dX11_childrenOf_16 : decode cX11_childrenOf 16 = .ok (.bipush 9, 2) := by decide +kernel
theorem dX11_childrenOf_18 : decode cX11_childrenOf 18 = .ok (.iload_n 1, 1) := by decide +kernel
theorem dX11_childrenOf_19 : decode cX11_childrenOf 19 = .ok (.imul, 1) := by decide +kernel
theorem dX11_childrenOf_20 : decode cX11_childrenOf 20 = .ok (.iload_n 3, 1) := by decide +kernel
theorem dX11_childrenOf_21 : decode cX11_childrenOf 21 = .ok (.iadd, 1) := by decide +kernel
theorem dX11_childrenOf_22 : decode cX11_childrenOf 22 = .ok (.iaload, 1) := by decide +kernel
theorem dX11_childrenOf_23 : decode cX11_childrenOf 23 = .ok (.imul, 1) := by decide +kernel
theorem dX11_childrenOf_24 : decode cX11_childrenOf 24 = .ok (.iadd, 1) := by decide +kernel
theorem dX11_childrenOf_25 : decode cX11_childrenOf 25 = .ok (.istore_n 2, 1) := by decide +kernel
theorem dX11_childrenOf_26 : decode cX11_childrenOf 26 = .ok (.iinc 3 1, 3) := by decide +kernel
theorem dX11_childrenOf_29 : decode cX11_childrenOf 29 = .ok (.goto (-25), 3) := by decide +kernel
theorem dX11_childrenOf_32 : decode cX11_childrenOf 32 = .ok (.iload_n 2, 1) := by decide +kernel
theorem dX11_childrenOf_33 : decode cX11_childrenOf 33 = .ok (.ireturn, 1) := by decide +kernel
set_option maxRecDepth 20000 in
theorem ggX11_choices_X11_saidOf : GoodIn wsX11_choices wsX11_saidOf := goodIn_r _ [6, 7, 8, 9, 10, 11, 18, 19, 20, 21, 22, 23, 24, 25, 26, 27, 28, 29, 30, 31, 32, 33, 34, 35, 36, 37, 38, 39, 40, 41, 42, 43, 44] (by decide +kernel) (by decide +kernel)
set_option maxRecDepth 20000 in
theorem gX11_choices_X11_saidOf : GoodIn wsX11_choices (wsV RX11 150 RX11 yX11_saidOf wsX11_saidOf) := goodIn_app (goodIn_of _ (by decide +kernel)) ggX11_choices_X11_saidOf
set_option maxRecDepth 20000 in
theorem ggX11_choices_X11_choose : GoodIn wsX11_choices wsX11_choose := goodIn_r _ [14, 15, 16, 5, 17] (by decide +kernel) (by decide +kernel)
set_option maxRecDepth 20000 in
theorem gX11_choices_X11_choose : GoodIn wsX11_choices (va_wsS RX11 160 yX11_choose wsX11_choose) := goodIn_app (goodIn_of _ (by decide +kernel)) ggX11_choices_X11_choose
theorem dX11_choices_0 : decode cX11_choices 0 = .ok (.lconst 1, 1) := by decide +kernel
theorem dX11_choices_1 : decode cX11_choices 1 = .ok (.lstore_n 2, 1) := by decide +kernel
theorem dX11_choices_2 : decode cX11_choices 2 = .ok (.iconst 1, 1) := by decide +kernel
theorem dX11_choices_3 : decode cX11_choices 3 = .ok (.istore 4, 2) := by decide +kernel
theorem dX11_choices_5 : decode cX11_choices 5 = .ok (.iload 4, 2) := by decide +kernel
theorem dX11_choices_7 : decode cX11_choices 7 = .ok (.bipush 9, 2) := by decide +kernel
theorem dX11_choices_9 : decode cX11_choices 9 = .ok (.if_icmp .ge 36, 3) := by decide +kernel
theorem dX11_choices_12 : decode cX11_choices 12 = .ok (.lload_n 2, 1) := by decide +kernel
theorem dX11_choices_13 : decode cX11_choices 13 = .ok (.iload 4, 2) := by decide +kernel
theorem dX11_choices_15 : decode cX11_choices 15 = .ok (.aload_n 0, 1) := by decide +kernel
theorem dX11_choices_16 : decode cX11_choices 16 = .ok (.getfield 41, 3) := by decide +kernel
theorem dX11_choices_19 : decode cX11_choices 19 = .ok (.bipush 9, 2) := by decide +kernel
theorem dX11_choices_21 : decode cX11_choices 21 = .ok (.iload_n 1, 1) := by decide +kernel
theorem dX11_choices_22 : decode cX11_choices 22 = .ok (.imul, 1) := by decide +kernel
theorem dX11_choices_23 : decode cX11_choices 23 = .ok (.iload 4, 2) := by decide +kernel
theorem dX11_choices_25 : decode cX11_choices 25 = .ok (.iadd, 1) := by decide +kernel
theorem dX11_choices_26 : decode cX11_choices 26 = .ok (.iaload, 1) := by decide +kernel
theorem dX11_choices_27 : decode cX11_choices 27 = .ok (.imul, 1) := by decide +kernel
theorem dX11_choices_28 : decode cX11_choices 28 = .ok (.aload_n 0, 1) := by decide +kernel
theorem dX11_choices_29 : decode cX11_choices 29 = .ok (.iload 4, 2) := by decide +kernel
theorem dX11_choices_31 : decode cX11_choices 31 = .ok (.invokevirtual 150, 3) := by decide +kernel
theorem dX11_choices_34 : decode cX11_choices 34 = .ok (.invokestatic 160, 3) := by decide +kernel
theorem dX11_choices_37 : decode cX11_choices 37 = .ok (.lmul, 1) := by decide +kernel
theorem dX11_choices_38 : decode cX11_choices 38 = .ok (.lstore_n 2, 1) := by decide +kernel
theorem dX11_choices_39 : decode cX11_choices 39 = .ok (.iinc 4 1, 3) := by decide +kernel
theorem dX11_choices_42 : decode cX11_choices 42 = .ok (.goto (-37), 3) := by decide +kernel
theorem dX11_choices_45 : decode cX11_choices 45 = .ok (.lload_n 2, 1) := by decide +kernel
theorem dX11_choices_46 : decode cX11_choices 46 = .ok (.lreturn, 1) := by decide +kernel
set_option maxRecDepth 20000 in
theorem ggX11_chance_X11_in : GoodIn wsX11_chance wsX11_in := goodIn_r _ [4] (by decide +kernel) (by decide +kernel)
set_option maxRecDepth 20000 in
theorem gX11_chance_X11_in : GoodIn wsX11_chance (va_wsS RX11 74 yX11_in wsX11_in) := goodIn_app (goodIn_of _ (by decide +kernel)) ggX11_chance_X11_in
set_option maxRecDepth 20000 in
theorem ggX11_chance_X11_no : GoodIn wsX11_chance wsX11_no := goodIn_r _ [7, 8] (by decide +kernel) (by decide +kernel)
set_option maxRecDepth 20000 in
theorem gX11_chance_X11_no : GoodIn wsX11_chance (va_wsS RX11 109 yX11_no wsX11_no) := goodIn_app (goodIn_of _ (by decide +kernel)) ggX11_chance_X11_no
set_option maxRecDepth 20000 in
theorem ggX11_chance_X11_saidOf : GoodIn wsX11_chance wsX11_saidOf := goodIn_r _ [12, 13, 14, 15, 16, 17, 33, 34, 35, 36, 37, 38, 39, 40, 41, 42, 43, 44, 45, 46, 47, 48, 49, 50, 51, 52, 53, 54, 55, 56, 57, 58, 59] (by decide +kernel) (by decide +kernel)
set_option maxRecDepth 20000 in
theorem gX11_chance_X11_saidOf : GoodIn wsX11_chance (wsV RX11 150 RX11 yX11_saidOf wsX11_saidOf) := goodIn_app (goodIn_of _ (by decide +kernel)) ggX11_chance_X11_saidOf
set_option maxRecDepth 20000 in
theorem ggX11_chance_X11_childrenOf : GoodIn wsX11_chance wsX11_childrenOf := goodIn_r _ [21, 22, 33, 34, 35, 36, 37, 38, 39, 40, 41, 42, 43, 44, 45, 46, 47, 48, 49, 50, 51, 52, 53, 54, 55, 56, 57, 58, 59] (by decide +kernel) (by decide +kernel)
set_option maxRecDepth 20000 in
theorem gX11_chance_X11_childrenOf : GoodIn wsX11_chance (wsV RX11 163 RX11 yX11_childrenOf wsX11_childrenOf) := goodIn_app (goodIn_of _ (by decide +kernel)) ggX11_chance_X11_childrenOf
set_option maxRecDepth 20000 in
theorem ggX11_chance_X11_choices : GoodIn wsX11_chance wsX11_choices := goodIn_r _ [26, 22, 9, 10, 11, 3, 12, 13, 14, 15, 16, 17, 27, 28, 29, 1, 2, 4, 33, 34, 35, 36, 37, 38, 39, 40, 41, 42, 43, 44, 45, 46, 47, 48, 49, 50, 51, 52, 53, 54, 55, 56, 57, 58, 59] (by decide +kernel) (by decide +kernel)
set_option maxRecDepth 20000 in
theorem gX11_chance_X11_choices : GoodIn wsX11_chance (wsV RX11 166 RX11 yX11_choices wsX11_choices) := goodIn_app (goodIn_of _ (by decide +kernel)) ggX11_chance_X11_choices
set_option maxRecDepth 20000 in
theorem ggX11_chance_X11_choose : GoodIn wsX11_chance wsX11_choose := goodIn_r _ [29, 1, 2, 3, 4] (by decide +kernel) (by decide +kernel)
set_option maxRecDepth 20000 in
theorem gX11_chance_X11_choose : GoodIn wsX11_chance (va_wsS RX11 160 yX11_choose wsX11_choose) := goodIn_app (goodIn_of _ (by decide +kernel)) ggX11_chance_X11_choose
set_option maxRecDepth 20000 in
theorem ggX11_chance_X11_lowest : GoodIn wsX11_chance wsX11_lowest := goodIn_r _ [32] (by decide +kernel) (by decide +kernel)
set_option maxRecDepth 20000 in
theorem gX11_chance_X11_lowest : GoodIn wsX11_chance (va_wsS RX11 115 yX11_lowest wsX11_lowest) := goodIn_app (goodIn_of _ (by decide +kernel)) ggX11_chance_X11_lowest
theorem dX11_chance_0 : decode cX11_chance 0 = .ok (.iload_n 1, 1) := by decide +kernel
theorem dX11_chance_1 : decode cX11_chance 1 = .ok (.iconst 0, 1) := by decide +kernel
theorem dX11_chance_2 : decode cX11_chance 2 = .ok (.iconst 3, 1) := by decide +kernel
theorem dX11_chance_3 : decode cX11_chance 3 = .ok (.invokestatic 74, 3) := by decide +kernel
theorem dX11_chance_6 : decode cX11_chance 6 = .ok (.ifCond .eq 12, 3) := by decide +kernel
theorem dX11_chance_9 : decode cX11_chance 9 = .ok (.iload_n 2, 1) := by decide +kernel
theorem dX11_chance_10 : decode cX11_chance 10 = .ok (.iconst 0, 1) := by decide +kernel
theorem dX11_chance_11 : decode cX11_chance 11 = .ok (.iconst 1, 1) := by decide +kernel
theorem dX11_chance_12 : decode cX11_chance 12 = .ok (.invokestatic 74, 3) := by decide +kernel
theorem dX11_chance_15 : decode cX11_chance 15 = .ok (.ifCond .ne 9, 3) := by decide +kernel
theorem dX11_chance_18 : decode cX11_chance 18 = .ok (.bipush (-2), 2) := by decide +kernel
theorem dX11_chance_20 : decode cX11_chance 20 = .ok (.invokestatic 109, 3) := by decide +kernel
theorem dX11_chance_23 : decode cX11_chance 23 = .ok (.lreturn, 1) := by decide +kernel
theorem dX11_chance_24 : decode cX11_chance 24 = .ok (.aload_n 0, 1) := by decide +kernel
theorem dX11_chance_25 : decode cX11_chance 25 = .ok (.iconst 0, 1) := by decide +kernel
theorem dX11_chance_26 : decode cX11_chance 26 = .ok (.invokevirtual 150, 3) := by decide +kernel
theorem dX11_chance_29 : decode cX11_chance 29 = .ok (.istore_n 3, 1) := by decide +kernel
theorem dX11_chance_30 : decode cX11_chance 30 = .ok (.iload_n 3, 1) := by decide +kernel
theorem dX11_chance_31 : decode cX11_chance 31 = .ok (.bipush 8, 2) := by decide +kernel
theorem dX11_chance_33 : decode cX11_chance 33 = .ok (.if_icmp .le 9, 3) := by decide +kernel
theorem dX11_chance_36 : decode cX11_chance 36 = .ok (.bipush (-4), 2) := by decide +kernel
theorem dX11_chance_38 : decode cX11_chance 38 = .ok (.invokestatic 109, 3) := by decide +kernel
theorem dX11_chance_41 : decode cX11_chance 41 = .ok (.lreturn, 1) := by decide +kernel
theorem dX11_chance_42 : decode cX11_chance 42 = .ok (.aload_n 0, 1) := by decide +kernel
theorem dX11_chance_43 : decode cX11_chance 43 = .ok (.iload_n 1, 1) := by decide +kernel
theorem dX11_chance_44 : decode cX11_chance 44 = .ok (.invokevirtual 163, 3) := by decide +kernel
theorem dX11_chance_47 : decode cX11_chance 47 = .ok (.iload_n 3, 1) := by decide +kernel
theorem dX11_chance_48 : decode cX11_chance 48 = .ok (.if_icmp .ge 11, 3) := by decide +kernel
theorem dX11_chance_51 : decode cX11_chance 51 = .ok (.bipush (-3), 2) := by decide +kernel
theorem dX11_chance_53 : decode cX11_chance 53 = .ok (.invokestatic 109, 3) := by decide +kernel
theorem dX11_chance_56 : decode cX11_chance 56 = .ok (.goto 21, 3) := by decide +kernel
theorem dX11_chance_59 : decode cX11_chance 59 = .ok (.aload_n 0, 1) := by decide +kernel
theorem dX11_chance_60 : decode cX11_chance 60 = .ok (.iload_n 1, 1) := by decide +kernel
theorem dX11_chance_61 : decode cX11_chance 61 = .ok (.invokevirtual 166, 3) := by decide +kernel
theorem dX11_chance_64 : decode cX11_chance 64 = .ok (.aload_n 0, 1) := by decide +kernel
theorem dX11_chance_65 : decode cX11_chance 65 = .ok (.iload_n 1, 1) := by decide +kernel
theorem dX11_chance_66 : decode cX11_chance 66 = .ok (.invokevirtual 163, 3) := by decide +kernel
theorem dX11_chance_69 : decode cX11_chance 69 = .ok (.iload_n 3, 1) := by decide +kernel
theorem dX11_chance_70 : decode cX11_chance 70 = .ok (.invokestatic 160, 3) := by decide +kernel
theorem dX11_chance_73 : decode cX11_chance 73 = .ok (.iload_n 2, 1) := by decide +kernel
theorem dX11_chance_74 : decode cX11_chance 74 = .ok (.invokestatic 115, 3) := by decide +kernel
theorem dX11_chance_77 : decode cX11_chance 77 = .ok (.lreturn, 1) := by decide +kernel
set_option maxRecDepth 20000 in
theorem ggX11_likeliestNow_X11_saidOf : GoodIn wsX11_likeliestNow wsX11_saidOf := goodIn_r _ [5, 6, 7, 8, 9, 10, 29, 30, 31, 32, 33, 34, 35, 36, 37, 38, 39, 40, 41, 42, 43, 44, 45, 46, 47, 48, 49, 50, 51, 52, 53, 54, 55] (by decide +kernel) (by decide +kernel)
set_option maxRecDepth 20000 in
theorem gX11_likeliestNow_X11_saidOf : GoodIn wsX11_likeliestNow (wsV RX11 150 RX11 yX11_saidOf wsX11_saidOf) := goodIn_app (goodIn_of _ (by decide +kernel)) ggX11_likeliestNow_X11_saidOf
set_option maxRecDepth 20000 in
theorem ggX11_likeliestNow_X11_childrenOf : GoodIn wsX11_likeliestNow wsX11_childrenOf := goodIn_r _ [14, 15, 29, 30, 31, 32, 33, 34, 35, 36, 37, 38, 39, 40, 41, 42, 43, 44, 45, 46, 47, 48, 49, 50, 51, 52, 53, 54, 55] (by decide +kernel) (by decide +kernel)
set_option maxRecDepth 20000 in
theorem gX11_likeliestNow_X11_childrenOf : GoodIn wsX11_likeliestNow (wsV RX11 163 RX11 yX11_childrenOf wsX11_childrenOf) := goodIn_app (goodIn_of _ (by decide +kernel)) ggX11_likeliestNow_X11_childrenOf
set_option maxRecDepth 20000 in
theorem ggX11_likeliestNow_X11_choose : GoodIn wsX11_likeliestNow wsX11_choose := goodIn_r _ [18, 19, 20, 4, 21] (by decide +kernel) (by decide +kernel)
set_option maxRecDepth 20000 in
theorem gX11_likeliestNow_X11_choose : GoodIn wsX11_likeliestNow (va_wsS RX11 160 yX11_choose wsX11_choose) := goodIn_app (goodIn_of _ (by decide +kernel)) ggX11_likeliestNow_X11_choose
set_option maxRecDepth 20000 in
theorem ggX11_likeliestNow_X11_choices : GoodIn wsX11_likeliestNow wsX11_choices := goodIn_r _ [25, 15, 1, 2, 3, 4, 5, 6, 7, 8, 9, 10, 16, 17, 18, 19, 20, 21, 29, 30, 31, 32, 33, 34, 35, 36, 37, 38, 39, 40, 41, 42, 43, 44, 45, 46, 47, 48, 49, 50, 51, 52, 53, 54, 55] (by decide +kernel) (by decide +kernel)
set_option maxRecDepth 20000 in
theorem gX11_likeliestNow_X11_choices : GoodIn wsX11_likeliestNow (wsV RX11 166 RX11 yX11_choices wsX11_choices) := goodIn_app (goodIn_of _ (by decide +kernel)) ggX11_likeliestNow_X11_choices
set_option maxRecDepth 20000 in
theorem ggX11_likeliestNow_X11_way : GoodIn wsX11_likeliestNow wsX11_way := goodIn_r _ [28] (by decide +kernel) (by decide +kernel)
set_option maxRecDepth 20000 in
theorem gX11_likeliestNow_X11_way : GoodIn wsX11_likeliestNow (va_wsS RX11 169 yX11_way wsX11_way) := goodIn_app (goodIn_of _ (by decide +kernel)) ggX11_likeliestNow_X11_way
theorem dX11_likeliestNow_0 : decode cX11_likeliestNow 0 = .ok (.aload_n 0, 1) := by decide +kernel
theorem dX11_likeliestNow_1 : decode cX11_likeliestNow 1 = .ok (.iconst 0, 1) := by decide +kernel
theorem dX11_likeliestNow_2 : decode cX11_likeliestNow 2 = .ok (.invokevirtual 150, 3) := by decide +kernel
theorem dX11_likeliestNow_5 : decode cX11_likeliestNow 5 = .ok (.istore_n 1, 1) := by decide +kernel
theorem dX11_likeliestNow_6 : decode cX11_likeliestNow 6 = .ok (.iload_n 1, 1) := by decide +kernel
theorem dX11_likeliestNow_7 : decode cX11_likeliestNow 7 = .ok (.bipush 8, 2) := by decide +kernel
theorem dX11_likeliestNow_9 : decode cX11_likeliestNow 9 = .ok (.if_icmp .le 6, 3) := by decide +kernel
theorem dX11_likeliestNow_12 : decode cX11_likeliestNow 12 = .ok (.bipush (-4), 2) := by decide +kernel
theorem dX11_likeliestNow_14 : decode cX11_likeliestNow 14 = .ok (.ireturn, 1) := by decide +kernel
theorem dX11_likeliestNow_15 : decode cX11_likeliestNow 15 = .ok (.iconst (-1), 1) := by decide +kernel
theorem dX11_likeliestNow_16 : decode cX11_likeliestNow 16 = .ok (.istore_n 2, 1) := by decide +kernel
theorem dX11_likeliestNow_17 : decode cX11_likeliestNow 17 = .ok (.lconst 0, 1) := by decide +kernel
theorem dX11_likeliestNow_18 : decode cX11_likeliestNow 18 = .ok (.lstore_n 3, 1) := by decide +kernel
theorem dX11_likeliestNow_19 : decode cX11_likeliestNow 19 = .ok (.lconst 1, 1) := by decide +kernel
theorem dX11_likeliestNow_20 : decode cX11_likeliestNow 20 = .ok (.lstore 5, 2) := by decide +kernel
theorem dX11_likeliestNow_22 : decode cX11_likeliestNow 22 = .ok (.iconst 0, 1) := by decide +kernel
theorem dX11_likeliestNow_23 : decode cX11_likeliestNow 23 = .ok (.istore 7, 2) := by decide +kernel
theorem dX11_likeliestNow_25 : decode cX11_likeliestNow 25 = .ok (.iload 7, 2) := by decide +kernel
theorem dX11_likeliestNow_27 : decode cX11_likeliestNow 27 = .ok (.iconst 4, 1) := by decide +kernel
theorem dX11_likeliestNow_28 : decode cX11_likeliestNow 28 = .ok (.if_icmp .ge 59, 3) := by decide +kernel
theorem dX11_likeliestNow_31 : decode cX11_likeliestNow 31 = .ok (.aload_n 0, 1) := by decide +kernel
theorem dX11_likeliestNow_32 : decode cX11_likeliestNow 32 = .ok (.iload 7, 2) := by decide +kernel
theorem dX11_likeliestNow_34 : decode cX11_likeliestNow 34 = .ok (.invokevirtual 163, 3) := by decide +kernel
theorem dX11_likeliestNow_37 : decode cX11_likeliestNow 37 = .ok (.iload_n 1, 1) := by decide +kernel
theorem dX11_likeliestNow_38 : decode cX11_likeliestNow 38 = .ok (.invokestatic 160, 3) := by decide +kernel
theorem dX11_likeliestNow_41 : decode cX11_likeliestNow 41 = .ok (.lstore 8, 2) := by decide +kernel
theorem dX11_likeliestNow_43 : decode cX11_likeliestNow 43 = .ok (.lload 8, 2) := by decide +kernel
theorem dX11_likeliestNow_45 : decode cX11_likeliestNow 45 = .ok (.lconst 0, 1) := by decide +kernel
theorem dX11_likeliestNow_46 : decode cX11_likeliestNow 46 = .ok (.lcmp, 1) := by decide +kernel
theorem dX11_likeliestNow_47 : decode cX11_likeliestNow 47 = .ok (.ifCond .le 34, 3) := by decide +kernel
theorem dX11_likeliestNow_50 : decode cX11_likeliestNow 50 = .ok (.aload_n 0, 1) := by decide +kernel
theorem dX11_likeliestNow_51 : decode cX11_likeliestNow 51 = .ok (.iload 7, 2) := by decide +kernel
theorem dX11_likeliestNow_53 : decode cX11_likeliestNow 53 = .ok (.invokevirtual 166, 3) := by decide +kernel
theorem dX11_likeliestNow_56 : decode cX11_likeliestNow 56 = .ok (.lload 8, 2) := by decide +kernel
theorem dX11_likeliestNow_58 : decode cX11_likeliestNow 58 = .ok (.lload_n 3, 1) := by decide +kernel
theorem dX11_likeliestNow_59 : decode cX11_likeliestNow 59 = .ok (.lload 5, 2) := by decide +kernel
theorem dX11_likeliestNow_61 : decode cX11_likeliestNow 61 = .ok (.invokestatic 169, 3) := by decide +kernel
theorem dX11_likeliestNow_64 : decode cX11_likeliestNow 64 = .ok (.ifCond .le 17, 3) := by decide +kernel
theorem dX11_likeliestNow_67 : decode cX11_likeliestNow 67 = .ok (.iload 7, 2) := by decide +kernel
theorem dX11_likeliestNow_69 : decode cX11_likeliestNow 69 = .ok (.istore_n 2, 1) := by decide +kernel
theorem dX11_likeliestNow_70 : decode cX11_likeliestNow 70 = .ok (.aload_n 0, 1) := by decide +kernel
theorem dX11_likeliestNow_71 : decode cX11_likeliestNow 71 = .ok (.iload 7, 2) := by decide +kernel
theorem dX11_likeliestNow_73 : decode cX11_likeliestNow 73 = .ok (.invokevirtual 166, 3) := by decide +kernel
theorem dX11_likeliestNow_76 : decode cX11_likeliestNow 76 = .ok (.lstore_n 3, 1) := by decide +kernel
theorem dX11_likeliestNow_77 : decode cX11_likeliestNow 77 = .ok (.lload 8, 2) := by decide +kernel
theorem dX11_likeliestNow_79 : decode cX11_likeliestNow 79 = .ok (.lstore 5, 2) := by decide +kernel
theorem dX11_likeliestNow_81 : decode cX11_likeliestNow 81 = .ok (.iinc 7 1, 3) := by decide +kernel
theorem dX11_likeliestNow_84 : decode cX11_likeliestNow 84 = .ok (.goto (-59), 3) := by decide +kernel
theorem dX11_likeliestNow_87 : decode cX11_likeliestNow 87 = .ok (.iload_n 2, 1) := by decide +kernel
theorem dX11_likeliestNow_88 : decode cX11_likeliestNow 88 = .ok (.ireturn, 1) := by decide +kernel
set_option maxRecDepth 20000 in
theorem ggX11_likeliest_X11_likeliestNow : GoodIn wsX11_likeliest wsX11_likeliestNow := goodIn_r _ [5, 6, 7, 8, 4, 9, 10, 11, 12, 13, 14, 15, 16, 17, 18, 19, 20, 21, 22, 23, 24, 25, 26, 27, 28, 29, 30, 31, 32, 33, 34, 35, 36, 37, 38, 39, 40, 41, 42, 43, 44, 45, 46, 47, 48, 49, 50, 51, 52, 53, 54, 55, 56, 57, 58, 59] (by decide +kernel) (by decide +kernel)
set_option maxRecDepth 20000 in
theorem gX11_likeliest_X11_likeliestNow : GoodIn wsX11_likeliest (wsV RX11 173 RX11 yX11_likeliestNow wsX11_likeliestNow) := goodIn_app (goodIn_of _ (by decide +kernel)) ggX11_likeliest_X11_likeliestNow
theorem dX11_likeliest_0 : decode cX11_likeliest 0 = .ok (.aload_n 0, 1) := by decide +kernel
theorem dX11_likeliest_1 : decode cX11_likeliest 1 = .ok (.invokevirtual 173, 3) := by decide +kernel
theorem dX11_likeliest_4 : decode cX11_likeliest 4 = .ok (.ireturn, 1) := by decide +kernel
set_option maxRecDepth 20000 in
theorem ggX11_stay_X11_in : GoodIn wsX11_stay wsX11_in := goodIn_r _ [7] (by decide +kernel) (by decide +kernel)
set_option maxRecDepth 20000 in
theorem gX11_stay_X11_in : GoodIn wsX11_stay (va_wsS RX11 74 yX11_in wsX11_in) := goodIn_app (goodIn_of _ (by decide +kernel)) ggX11_stay_X11_in
theorem dX11_stay_0 : decode cX11_stay 0 = .ok (.iload_n 1, 1) := by decide +kernel
theorem dX11_stay_1 : decode cX11_stay 1 = .ok (.iconst 0, 1) := by decide +kernel
theorem dX11_stay_2 : decode cX11_stay 2 = .ok (.bipush 99, 2) := by decide +kernel
theorem dX11_stay_4 : decode cX11_stay 4 = .ok (.invokestatic 74, 3) := by decide +kernel
theorem dX11_stay_7 : decode cX11_stay 7 = .ok (.ifCond .eq 21, 3) := by decide +kernel
theorem dX11_stay_10 : decode cX11_stay 10 = .ok (.iload_n 2, 1) := by decide +kernel
theorem dX11_stay_11 : decode cX11_stay 11 = .ok (.iload_n 1, 1) := by decide +kernel
theorem dX11_stay_12 : decode cX11_stay 12 = .ok (.bipush 99, 2) := by decide +kernel
theorem dX11_stay_14 : decode cX11_stay 14 = .ok (.invokestatic 74, 3) := by decide +kernel
theorem dX11_stay_17 : decode cX11_stay 17 = .ok (.ifCond .eq 11, 3) := by decide +kernel
theorem dX11_stay_20 : decode cX11_stay 20 = .ok (.iload_n 2, 1) := by decide +kernel
theorem dX11_stay_21 : decode cX11_stay 21 = .ok (.iload_n 1, 1) := by decide +kernel
theorem dX11_stay_22 : decode cX11_stay 22 = .ok (.isub, 1) := by decide +kernel
theorem dX11_stay_23 : decode cX11_stay 23 = .ok (.bipush 19, 2) := by decide +kernel
theorem dX11_stay_25 : decode cX11_stay 25 = .ok (.if_icmp .le 6, 3) := by decide +kernel
theorem dX11_stay_28 : decode cX11_stay 28 = .ok (.bipush (-2), 2) := by decide +kernel
theorem dX11_stay_30 : decode cX11_stay 30 = .ok (.ireturn, 1) := by decide +kernel
theorem dX11_stay_31 : decode cX11_stay 31 = .ok (.aload_n 0, 1) := by decide +kernel
theorem dX11_stay_32 : decode cX11_stay 32 = .ok (.getfield 176, 3) := by decide +kernel
theorem dX11_stay_35 : decode cX11_stay 35 = .ok (.bipush 24, 2) := by decide +kernel
theorem dX11_stay_37 : decode cX11_stay 37 = .ok (.if_icmp .ne 6, 3) := by decide +kernel
theorem dX11_stay_40 : decode cX11_stay 40 = .ok (.bipush (-4), 2) := by decide +kernel
theorem dX11_stay_42 : decode cX11_stay 42 = .ok (.ireturn, 1) := by decide +kernel
theorem dX11_stay_43 : decode cX11_stay 43 = .ok (.aload_n 0, 1) := by decide +kernel
theorem dX11_stay_44 : decode cX11_stay 44 = .ok (.getfield 44, 3) := by decide +kernel
theorem dX11_stay_47 : decode cX11_stay 47 = .ok (.aload_n 0, 1) := by decide +kernel
theorem dX11_stay_48 : decode cX11_stay 48 = .ok (.getfield 176, 3) := by decide +kernel
theorem dX11_stay_51 : decode cX11_stay 51 = .ok (.iload_n 1, 1) := by decide +kernel
theorem dX11_stay_52 : decode cX11_stay 52 = .ok (.iastore, 1) := by decide +kernel
theorem dX11_stay_53 : decode cX11_stay 53 = .ok (.aload_n 0, 1) := by decide +kernel
theorem dX11_stay_54 : decode cX11_stay 54 = .ok (.getfield 47, 3) := by decide +kernel
theorem dX11_stay_57 : decode cX11_stay 57 = .ok (.aload_n 0, 1) := by decide +kernel
theorem dX11_stay_58 : decode cX11_stay 58 = .ok (.getfield 176, 3) := by decide +kernel
theorem dX11_stay_61 : decode cX11_stay 61 = .ok (.iload_n 2, 1) := by decide +kernel
theorem dX11_stay_62 : decode cX11_stay 62 = .ok (.iastore, 1) := by decide +kernel
theorem dX11_stay_63 : decode cX11_stay 63 = .ok (.aload_n 0, 1) := by decide +kernel
theorem dX11_stay_64 : decode cX11_stay 64 = .ok (.dup, 1) := by decide +kernel
theorem dX11_stay_65 : decode cX11_stay 65 = .ok (.getfield 176, 3) := by decide +kernel
theorem dX11_stay_68 : decode cX11_stay 68 = .ok (.iconst 1, 1) := by decide +kernel
theorem dX11_stay_69 : decode cX11_stay 69 = .ok (.iadd, 1) := by decide +kernel
theorem dX11_stay_70 : decode cX11_stay 70 = .ok (.putfield 176, 3) := by decide +kernel
theorem dX11_stay_73 : decode cX11_stay 73 = .ok (.aload_n 0, 1) := by decide +kernel
theorem dX11_stay_74 : decode cX11_stay 74 = .ok (.getfield 176, 3) := by decide +kernel
theorem dX11_stay_77 : decode cX11_stay 77 = .ok (.iconst 1, 1) := by decide +kernel
theorem dX11_stay_78 : decode cX11_stay 78 = .ok (.isub, 1) := by decide +kernel
theorem dX11_stay_79 : decode cX11_stay 79 = .ok (.ireturn, 1) := by decide +kernel
set_option maxRecDepth 20000 in
theorem ggX11_leaves_X11_in : GoodIn wsX11_leaves wsX11_in := goodIn_r _ [7] (by decide +kernel) (by decide +kernel)
set_option maxRecDepth 20000 in
theorem gX11_leaves_X11_in : GoodIn wsX11_leaves (va_wsS RX11 74 yX11_in wsX11_in) := goodIn_app (goodIn_of _ (by decide +kernel)) ggX11_leaves_X11_in
theorem dX11_leaves_0 : decode cX11_leaves 0 = .ok (.iload_n 1, 1) := by decide +kernel
theorem dX11_leaves_1 : decode cX11_leaves 1 = .ok (.iconst 0, 1) := by decide +kernel
theorem dX11_leaves_2 : decode cX11_leaves 2 = .ok (.aload_n 0, 1) := by decide +kernel
theorem dX11_leaves_3 : decode cX11_leaves 3 = .ok (.getfield 176, 3) := by decide +kernel
theorem dX11_leaves_6 : decode cX11_leaves 6 = .ok (.iconst 1, 1) := by decide +kernel
theorem dX11_leaves_7 : decode cX11_leaves 7 = .ok (.isub, 1) := by decide +kernel
theorem dX11_leaves_8 : decode cX11_leaves 8 = .ok (.invokestatic 74, 3) := by decide +kernel
theorem dX11_leaves_11 : decode cX11_leaves 11 = .ok (.ifCond .eq 31, 3) := by decide +kernel
theorem dX11_leaves_14 : decode cX11_leaves 14 = .ok (.iload_n 2, 1) := by decide +kernel
theorem dX11_leaves_15 : decode cX11_leaves 15 = .ok (.aload_n 0, 1) := by decide +kernel
theorem dX11_leaves_16 : decode cX11_leaves 16 = .ok (.getfield 44, 3) := by decide +kernel
theorem dX11_leaves_19 : decode cX11_leaves 19 = .ok (.iload_n 1, 1) := by decide +kernel
theorem dX11_leaves_20 : decode cX11_leaves 20 = .ok (.iaload, 1) := by decide +kernel
theorem dX11_leaves_21 : decode cX11_leaves 21 = .ok (.bipush 99, 2) := by decide +kernel
theorem dX11_leaves_23 : decode cX11_leaves 23 = .ok (.invokestatic 74, 3) := by decide +kernel
theorem dX11_leaves_26 : decode cX11_leaves 26 = .ok (.ifCond .eq 16, 3) := by decide +kernel
theorem dX11_leaves_29 : decode cX11_leaves 29 = .ok (.iload_n 2, 1) := by decide +kernel
theorem dX11_leaves_30 : decode cX11_leaves 30 = .ok (.aload_n 0, 1) := by decide +kernel
theorem dX11_leaves_31 : decode cX11_leaves 31 = .ok (.getfield 44, 3) := by decide +kernel
theorem dX11_leaves_34 : decode cX11_leaves 34 = .ok (.iload_n 1, 1) := by decide +kernel
theorem dX11_leaves_35 : decode cX11_leaves 35 = .ok (.iaload, 1) := by decide +kernel
theorem dX11_leaves_36 : decode cX11_leaves 36 = .ok (.isub, 1) := by decide +kernel
theorem dX11_leaves_37 : decode cX11_leaves 37 = .ok (.bipush 19, 2) := by decide +kernel
theorem dX11_leaves_39 : decode cX11_leaves 39 = .ok (.if_icmp .le 6, 3) := by decide +kernel
theorem dX11_leaves_42 : decode cX11_leaves 42 = .ok (.bipush (-2), 2) := by decide +kernel
theorem dX11_leaves_44 : decode cX11_leaves 44 = .ok (.ireturn, 1) := by decide +kernel
theorem dX11_leaves_45 : decode cX11_leaves 45 = .ok (.aload_n 0, 1) := by decide +kernel
theorem dX11_leaves_46 : decode cX11_leaves 46 = .ok (.getfield 47, 3) := by decide +kernel
theorem dX11_leaves_49 : decode cX11_leaves 49 = .ok (.iload_n 1, 1) := by decide +kernel
theorem dX11_leaves_50 : decode cX11_leaves 50 = .ok (.iaload, 1) := by decide +kernel
theorem dX11_leaves_51 : decode cX11_leaves 51 = .ok (.istore_n 3, 1) := by decide +kernel
theorem dX11_leaves_52 : decode cX11_leaves 52 = .ok (.aload_n 0, 1) := by decide +kernel
theorem dX11_leaves_53 : decode cX11_leaves 53 = .ok (.getfield 47, 3) := by decide +kernel
theorem dX11_leaves_56 : decode cX11_leaves 56 = .ok (.iload_n 1, 1) := by decide +kernel
theorem dX11_leaves_57 : decode cX11_leaves 57 = .ok (.iload_n 2, 1) := by decide +kernel
theorem dX11_leaves_58 : decode cX11_leaves 58 = .ok (.iastore, 1) := by decide +kernel
theorem dX11_leaves_59 : decode cX11_leaves 59 = .ok (.iload_n 3, 1) := by decide +kernel
theorem dX11_leaves_60 : decode cX11_leaves 60 = .ok (.ireturn, 1) := by decide +kernel
theorem dX11_lengthOf_0 : decode cX11_lengthOf 0 = .ok (.aload_n 0, 1) := by decide +kernel
theorem dX11_lengthOf_1 : decode cX11_lengthOf 1 = .ok (.getfield 47, 3) := by decide +kernel
theorem dX11_lengthOf_4 : decode cX11_lengthOf 4 = .ok (.iload_n 1, 1) := by decide +kernel
theorem dX11_lengthOf_5 : decode cX11_lengthOf 5 = .ok (.iaload, 1) := by decide +kernel
theorem dX11_lengthOf_6 : decode cX11_lengthOf 6 = .ok (.aload_n 0, 1) := by decide +kernel
theorem dX11_lengthOf_7 : decode cX11_lengthOf 7 = .ok (.getfield 44, 3) := by decide +kernel
theorem dX11_lengthOf_10 : decode cX11_lengthOf 10 = .ok (.iload_n 1, 1) := by decide +kernel
theorem dX11_lengthOf_11 : decode cX11_lengthOf 11 = .ok (.iaload, 1) := by decide +kernel
theorem dX11_lengthOf_12 : decode cX11_lengthOf 12 = .ok (.isub, 1) := by decide +kernel
theorem dX11_lengthOf_13 : decode cX11_lengthOf 13 = .ok (.iconst 1, 1) := by decide +kernel
theorem dX11_lengthOf_14 : decode cX11_lengthOf 14 = .ok (.iadd, 1) := by decide +kernel
theorem dX11_lengthOf_15 : decode cX11_lengthOf 15 = .ok (.ireturn, 1) := by decide +kernel
theorem dX11_daysIn_0 : decode cX11_daysIn 0 = .ok (.aload_n 0, 1) := by decide +kernel
theorem dX11_daysIn_1 : decode cX11_daysIn 1 = .ok (.getfield 44, 3) := by decide +kernel
theorem dX11_daysIn_4 : decode cX11_daysIn 4 = .ok (.iload_n 1, 1) := by decide +kernel
theorem dX11_daysIn_5 : decode cX11_daysIn 5 = .ok (.iaload, 1) := by decide +kernel
theorem dX11_daysIn_6 : decode cX11_daysIn 6 = .ok (.iload_n 2, 1) := by decide +kernel
theorem dX11_daysIn_7 : decode cX11_daysIn 7 = .ok (.if_icmp .le 12, 3) := by decide +kernel
theorem dX11_daysIn_10 : decode cX11_daysIn 10 = .ok (.aload_n 0, 1) := by decide +kernel
theorem dX11_daysIn_11 : decode cX11_daysIn 11 = .ok (.getfield 44, 3) := by decide +kernel
theorem dX11_daysIn_14 : decode cX11_daysIn 14 = .ok (.iload_n 1, 1) := by decide +kernel
theorem dX11_daysIn_15 : decode cX11_daysIn 15 = .ok (.iaload, 1) := by decide +kernel
theorem dX11_daysIn_16 : decode cX11_daysIn 16 = .ok (.goto 4, 3) := by decide +kernel
theorem dX11_daysIn_19 : decode cX11_daysIn 19 = .ok (.iload_n 2, 1) := by decide +kernel
theorem dX11_daysIn_20 : decode cX11_daysIn 20 = .ok (.istore 4, 2) := by decide +kernel
theorem dX11_daysIn_22 : decode cX11_daysIn 22 = .ok (.aload_n 0, 1) := by decide +kernel
theorem dX11_daysIn_23 : decode cX11_daysIn 23 = .ok (.getfield 47, 3) := by decide +kernel
theorem dX11_daysIn_26 : decode cX11_daysIn 26 = .ok (.iload_n 1, 1) := by decide +kernel
theorem dX11_daysIn_27 : decode cX11_daysIn 27 = .ok (.iaload, 1) := by decide +kernel
theorem dX11_daysIn_28 : decode cX11_daysIn 28 = .ok (.iload_n 3, 1) := by decide +kernel
theorem dX11_daysIn_29 : decode cX11_daysIn 29 = .ok (.if_icmp .ge 12, 3) := by decide +kernel
theorem dX11_daysIn_32 : decode cX11_daysIn 32 = .ok (.aload_n 0, 1) := by decide +kernel
theorem dX11_daysIn_33 : decode cX11_daysIn 33 = .ok (.getfield 47, 3) := by decide +kernel
theorem dX11_daysIn_36 : decode cX11_daysIn 36 = .ok (.iload_n 1, 1) := by decide +kernel
theorem dX11_daysIn_37 : decode cX11_daysIn 37 = .ok (.iaload, 1) := by decide +kernel
theorem dX11_daysIn_38 : decode cX11_daysIn 38 = .ok (.goto 4, 3) := by decide +kernel
theorem dX11_daysIn_41 : decode cX11_daysIn 41 = .ok (.iload_n 3, 1) := by decide +kernel
theorem dX11_daysIn_42 : decode cX11_daysIn 42 = .ok (.istore 5, 2) := by decide +kernel
theorem dX11_daysIn_44 : decode cX11_daysIn 44 = .ok (.iload 5, 2) := by decide +kernel
theorem dX11_daysIn_46 : decode cX11_daysIn 46 = .ok (.iload 4, 2) := by decide +kernel
theorem dX11_daysIn_48 : decode cX11_daysIn 48 = .ok (.if_icmp .ge 7, 3) := by decide +kernel
theorem dX11_daysIn_51 : decode cX11_daysIn 51 = .ok (.iconst 0, 1) := by decide +kernel
theorem dX11_daysIn_52 : decode cX11_daysIn 52 = .ok (.goto 10, 3) := by decide +kernel
theorem dX11_daysIn_55 : decode cX11_daysIn 55 = .ok (.iload 5, 2) := by decide +kernel
theorem dX11_daysIn_57 : decode cX11_daysIn 57 = .ok (.iload 4, 2) := by decide +kernel
theorem dX11_daysIn_59 : decode cX11_daysIn 59 = .ok (.isub, 1) := by decide +kernel
theorem dX11_daysIn_60 : decode cX11_daysIn 60 = .ok (.iconst 1, 1) := by decide +kernel
theorem dX11_daysIn_61 : decode cX11_daysIn 61 = .ok (.iadd, 1) := by decide +kernel
theorem dX11_daysIn_62 : decode cX11_daysIn 62 = .ok (.ireturn, 1) := by decide +kernel
set_option maxRecDepth 20000 in
theorem ggX11_wardOf_X11_daysIn : GoodIn wsX11_wardOf wsX11_daysIn := goodIn_r _ [8, 2, 9, 17, 18, 19, 20, 21, 22, 23, 24, 25, 26, 27, 28, 29, 30, 31, 32, 33, 34, 35, 36, 37, 38, 39, 40, 41, 42, 43] (by decide +kernel) (by decide +kernel)
set_option maxRecDepth 20000 in
theorem gX11_wardOf_X11_daysIn : GoodIn wsX11_wardOf (wsV RX11 179 RX11 yX11_daysIn wsX11_daysIn) := goodIn_app (goodIn_of _ (by decide +kernel)) ggX11_wardOf_X11_daysIn
set_option maxRecDepth 20000 in
theorem ggX11_wardOf_X11_lengthOf : GoodIn wsX11_wardOf wsX11_lengthOf := goodIn_r _ [13, 9, 2, 17, 18, 19, 20, 21, 22, 23, 24, 25, 26, 27, 28, 29, 30, 31, 32, 33, 34, 35, 36, 37, 38, 39, 40, 41, 42, 43] (by decide +kernel) (by decide +kernel)
set_option maxRecDepth 20000 in
theorem gX11_wardOf_X11_lengthOf : GoodIn wsX11_wardOf (wsV RX11 182 RX11 yX11_lengthOf wsX11_lengthOf) := goodIn_app (goodIn_of _ (by decide +kernel)) ggX11_wardOf_X11_lengthOf
set_option maxRecDepth 20000 in
theorem ggX11_wardOf_X11_in : GoodIn wsX11_wardOf wsX11_in := goodIn_r _ [16] (by decide +kernel) (by decide +kernel)
set_option maxRecDepth 20000 in
theorem gX11_wardOf_X11_in : GoodIn wsX11_wardOf (va_wsS RX11 74 yX11_in wsX11_in) := goodIn_app (goodIn_of _ (by decide +kernel)) ggX11_wardOf_X11_in
theorem dX11_wardOf_0 : decode cX11_wardOf 0 = .ok (.lconst 0, 1) := by decide +kernel
theorem dX11_wardOf_1 : decode cX11_wardOf 1 = .ok (.lstore 4, 2) := by decide +kernel
theorem dX11_wardOf_3 : decode cX11_wardOf 3 = .ok (.iconst 0, 1) := by decide +kernel
theorem dX11_wardOf_4 : decode cX11_wardOf 4 = .ok (.istore 6, 2) := by decide +kernel
theorem dX11_wardOf_6 : decode cX11_wardOf 6 = .ok (.iload 6, 2) := by decide +kernel
theorem dX11_wardOf_8 : decode cX11_wardOf 8 = .ok (.aload_n 0, 1) := by decide +kernel
theorem dX11_wardOf_9 : decode cX11_wardOf 9 = .ok (.getfield 176, 3) := by decide +kernel
theorem dX11_wardOf_12 : decode cX11_wardOf 12 = .ok (.if_icmp .ge 199, 3) := by decide +kernel
theorem dX11_wardOf_15 : decode cX11_wardOf 15 = .ok (.aload_n 0, 1) := by decide +kernel
theorem dX11_wardOf_16 : decode cX11_wardOf 16 = .ok (.iload 6, 2) := by decide +kernel
theorem dX11_wardOf_18 : decode cX11_wardOf 18 = .ok (.iload_n 1, 1) := by decide +kernel
theorem dX11_wardOf_19 : decode cX11_wardOf 19 = .ok (.iload_n 2, 1) := by decide +kernel
theorem dX11_wardOf_20 : decode cX11_wardOf 20 = .ok (.invokevirtual 179, 3) := by decide +kernel
theorem dX11_wardOf_23 : decode cX11_wardOf 23 = .ok (.istore 7, 2) := by decide +kernel
theorem dX11_wardOf_25 : decode cX11_wardOf 25 = .ok (.aload_n 0, 1) := by decide +kernel
theorem dX11_wardOf_26 : decode cX11_wardOf 26 = .ok (.iload 6, 2) := by decide +kernel
theorem dX11_wardOf_28 : decode cX11_wardOf 28 = .ok (.invokevirtual 182, 3) := by decide +kernel
theorem dX11_wardOf_31 : decode cX11_wardOf 31 = .ok (.istore 8, 2) := by decide +kernel
theorem dX11_wardOf_33 : decode cX11_wardOf 33 = .ok (.aload_n 0, 1) := by decide +kernel
theorem dX11_wardOf_34 : decode cX11_wardOf 34 = .ok (.getfield 44, 3) := by decide +kernel
theorem dX11_wardOf_37 : decode cX11_wardOf 37 = .ok (.iload 6, 2) := by decide +kernel
theorem dX11_wardOf_39 : decode cX11_wardOf 39 = .ok (.iaload, 1) := by decide +kernel
theorem dX11_wardOf_40 : decode cX11_wardOf 40 = .ok (.iload_n 1, 1) := by decide +kernel
theorem dX11_wardOf_41 : decode cX11_wardOf 41 = .ok (.iload_n 2, 1) := by decide +kernel
theorem dX11_wardOf_42 : decode cX11_wardOf 42 = .ok (.invokestatic 74, 3) := by decide +kernel
theorem dX11_wardOf_45 : decode cX11_wardOf 45 = .ok (.istore 9, 2) := by decide +kernel
theorem dX11_wardOf_47 : decode cX11_wardOf 47 = .ok (.iload_n 3, 1) := by decide +kernel
theorem dX11_wardOf_48 : decode cX11_wardOf 48 = .ok (.tableswitch 141 0 5 #[40, 58, 76, 87, 107, 127], 40) := by decide +kernel
theorem dX11_wardOf_88 : decode cX11_wardOf 88 = .ok (.lload 4, 2) := by decide +kernel
theorem dX11_wardOf_90 : decode cX11_wardOf 90 = .ok (.iload 9, 2) := by decide +kernel
theorem dX11_wardOf_92 : decode cX11_wardOf 92 = .ok (.ifCond .eq 7, 3) := by decide +kernel
theorem dX11_wardOf_95 : decode cX11_wardOf 95 = .ok (.lconst 1, 1) := by decide +kernel
theorem dX11_wardOf_96 : decode cX11_wardOf 96 = .ok (.goto 4, 3) := by decide +kernel
theorem dX11_wardOf_99 : decode cX11_wardOf 99 = .ok (.lconst 0, 1) := by decide +kernel
theorem dX11_wardOf_100 : decode cX11_wardOf 100 = .ok (.ladd, 1) := by decide +kernel
theorem dX11_wardOf_101 : decode cX11_wardOf 101 = .ok (.lstore 4, 2) := by decide +kernel
theorem dX11_wardOf_103 : decode cX11_wardOf 103 = .ok (.goto 102, 3) := by decide +kernel
theorem dX11_wardOf_106 : decode cX11_wardOf 106 = .ok (.lload 4, 2) := by decide +kernel
theorem dX11_wardOf_108 : decode cX11_wardOf 108 = .ok (.iload 7, 2) := by decide +kernel
theorem dX11_wardOf_110 : decode cX11_wardOf 110 = .ok (.ifCond .le 7, 3) := by decide +kernel
theorem dX11_wardOf_113 : decode cX11_wardOf 113 = .ok (.lconst 1, 1) := by decide +kernel
theorem dX11_wardOf_114 : decode cX11_wardOf 114 = .ok (.goto 4, 3) := by decide +kernel
theorem dX11_wardOf_117 : decode cX11_wardOf 117 = .ok (.lconst 0, 1) := by decide +kernel
theorem dX11_wardOf_118 : decode cX11_wardOf 118 = .ok (.ladd, 1) := by decide +kernel
theorem dX11_wardOf_119 : decode cX11_wardOf 119 = .ok (.lstore 4, 2) := by decide +kernel
theorem dX11_wardOf_121 : decode cX11_wardOf 121 = .ok (.goto 84, 3) := by decide +kernel
theorem dX11_wardOf_124 : decode cX11_wardOf 124 = .ok (.lload 4, 2) := by decide +kernel
theorem dX11_wardOf_126 : decode cX11_wardOf 126 = .ok (.iload 7, 2) := by decide +kernel
theorem dX11_wardOf_128 : decode cX11_wardOf 128 = .ok (.i2l, 1) := by decide +kernel
theorem dX11_wardOf_129 : decode cX11_wardOf 129 = .ok (.ladd, 1) := by decide +kernel
theorem dX11_wardOf_130 : decode cX11_wardOf 130 = .ok (.lstore 4, 2) := by decide +kernel
theorem dX11_wardOf_132 : decode cX11_wardOf 132 = .ok (.goto 73, 3) := by decide +kernel
theorem dX11_wardOf_135 : decode cX11_wardOf 135 = .ok (.lload 4, 2) := by decide +kernel
theorem dX11_wardOf_137 : decode cX11_wardOf 137 = .ok (.iload 9, 2) := by decide +kernel
theorem dX11_wardOf_139 : decode cX11_wardOf 139 = .ok (.ifCond .eq 9, 3) := by decide +kernel
theorem dX11_wardOf_142 : decode cX11_wardOf 142 = .ok (.iload 8, 2) := by decide +kernel
theorem dX11_wardOf_144 : decode cX11_wardOf 144 = .ok (.i2l, 1) := by decide +kernel
theorem dX11_wardOf_145 : decode cX11_wardOf 145 = .ok (.goto 4, 3) := by decide +kernel
theorem dX11_wardOf_148 : decode cX11_wardOf 148 = .ok (.lconst 0, 1) := by decide +kernel
theorem dX11_wardOf_149 : decode cX11_wardOf 149 = .ok (.ladd, 1) := by decide +kernel
theorem dX11_wardOf_150 : decode cX11_wardOf 150 = .ok (.lstore 4, 2) := by decide +kernel
theorem dX11_wardOf_152 : decode cX11_wardOf 152 = .ok (.goto 53, 3) := by decide +kernel
theorem dX11_wardOf_155 : decode cX11_wardOf 155 = .ok (.lload 4, 2) := by decide +kernel
theorem dX11_wardOf_157 : decode cX11_wardOf 157 = .ok (.iload 7, 2) := by decide +kernel
theorem dX11_wardOf_159 : decode cX11_wardOf 159 = .ok (.ifCond .le 9, 3) := by decide +kernel
theorem dX11_wardOf_162 : decode cX11_wardOf 162 = .ok (.iload 8, 2) := by decide +kernel
theorem dX11_wardOf_164 : decode cX11_wardOf 164 = .ok (.i2l, 1) := by decide +kernel
theorem dX11_wardOf_165 : decode cX11_wardOf 165 = .ok (.goto 4, 3) := by decide +kernel
theorem dX11_wardOf_168 : decode cX11_wardOf 168 = .ok (.lconst 0, 1) := by decide +kernel
theorem dX11_wardOf_169 : decode cX11_wardOf 169 = .ok (.ladd, 1) := by decide +kernel
theorem dX11_wardOf_170 : decode cX11_wardOf 170 = .ok (.lstore 4, 2) := by decide +kernel
theorem dX11_wardOf_172 : decode cX11_wardOf 172 = .ok (.goto 33, 3) := by decide +kernel
theorem dX11_wardOf_175 : decode cX11_wardOf 175 = .ok (.lload 4, 2) := by decide +kernel
theorem dX11_wardOf_177 : decode cX11_wardOf 177 = .ok (.iload 7, 2) := by decide +kernel
theorem dX11_wardOf_179 : decode cX11_wardOf 179 = .ok (.iload 8, 2) := by decide +kernel
theorem dX11_wardOf_181 : decode cX11_wardOf 181 = .ok (.imul, 1) := by decide +kernel
theorem dX11_wardOf_182 : decode cX11_wardOf 182 = .ok (.i2l, 1) := by decide +kernel
theorem dX11_wardOf_183 : decode cX11_wardOf 183 = .ok (.ladd, 1) := by decide +kernel
theorem dX11_wardOf_184 : decode cX11_wardOf 184 = .ok (.lstore 4, 2) := by decide +kernel
theorem dX11_wardOf_186 : decode cX11_wardOf 186 = .ok (.goto 19, 3) := by decide +kernel
theorem dX11_wardOf_189 : decode cX11_wardOf 189 = .ok (.lload 4, 2) := by decide +kernel
theorem dX11_wardOf_191 : decode cX11_wardOf 191 = .ok (.iload 7, 2) := by decide +kernel
theorem dX11_wardOf_193 : decode cX11_wardOf 193 = .ok (.i2l, 1) := by decide +kernel
theorem dX11_wardOf_194 : decode cX11_wardOf 194 = .ok (.ldc2_w 185, 3) := by decide +kernel
theorem dX11_wardOf_197 : decode cX11_wardOf 197 = .ok (.iload 8, 2) := by decide +kernel
theorem dX11_wardOf_199 : decode cX11_wardOf 199 = .ok (.i2l, 1) := by decide +kernel
theorem dX11_wardOf_200 : decode cX11_wardOf 200 = .ok (.ldiv, 1) := by decide +kernel
theorem dX11_wardOf_201 : decode cX11_wardOf 201 = .ok (.lmul, 1) := by decide +kernel
theorem dX11_wardOf_202 : decode cX11_wardOf 202 = .ok (.ladd, 1) := by decide +kernel
theorem dX11_wardOf_203 : decode cX11_wardOf 203 = .ok (.lstore 4, 2) := by decide +kernel
theorem dX11_wardOf_205 : decode cX11_wardOf 205 = .ok (.iinc 6 1, 3) := by decide +kernel
theorem dX11_wardOf_208 : decode cX11_wardOf 208 = .ok (.goto (-202), 3) := by decide +kernel
theorem dX11_wardOf_211 : decode cX11_wardOf 211 = .ok (.lload 4, 2) := by decide +kernel
theorem dX11_wardOf_213 : decode cX11_wardOf 213 = .ok (.lreturn, 1) := by decide +kernel
set_option maxRecDepth 20000 in
theorem ggX11_wardNow_X11_wardOf : GoodIn wsX11_wardNow wsX11_wardOf := goodIn_r _ [5, 6, 7, 8, 9, 10, 11, 4, 12, 13, 14, 15, 16, 17, 18, 19, 20, 21, 22, 23, 24, 25, 26, 27, 28, 29, 30, 31, 32, 33, 34, 35, 36, 37, 38, 39, 40, 41, 42, 43, 44, 45, 46, 47] (by decide +kernel) (by decide +kernel)
set_option maxRecDepth 20000 in
theorem gX11_wardNow_X11_wardOf : GoodIn wsX11_wardNow (wsV RX11 187 RX11 yX11_wardOf wsX11_wardOf) := goodIn_app (goodIn_of _ (by decide +kernel)) ggX11_wardNow_X11_wardOf
theorem dX11_wardNow_0 : decode cX11_wardNow 0 = .ok (.iload_n 3, 1) := by decide +kernel
theorem dX11_wardNow_1 : decode cX11_wardNow 1 = .ok (.iconst 3, 1) := by decide +kernel
theorem dX11_wardNow_2 : decode cX11_wardNow 2 = .ok (.if_icmp .ge 12, 3) := by decide +kernel
theorem dX11_wardNow_5 : decode cX11_wardNow 5 = .ok (.aload_n 0, 1) := by decide +kernel
theorem dX11_wardNow_6 : decode cX11_wardNow 6 = .ok (.iload_n 1, 1) := by decide +kernel
theorem dX11_wardNow_7 : decode cX11_wardNow 7 = .ok (.iload_n 2, 1) := by decide +kernel
theorem dX11_wardNow_8 : decode cX11_wardNow 8 = .ok (.iload_n 3, 1) := by decide +kernel
theorem dX11_wardNow_9 : decode cX11_wardNow 9 = .ok (.invokevirtual 187, 3) := by decide +kernel
theorem dX11_wardNow_12 : decode cX11_wardNow 12 = .ok (.l2i, 1) := by decide +kernel
theorem dX11_wardNow_13 : decode cX11_wardNow 13 = .ok (.ireturn, 1) := by decide +kernel
theorem dX11_wardNow_14 : decode cX11_wardNow 14 = .ok (.aload_n 0, 1) := by decide +kernel
theorem dX11_wardNow_15 : decode cX11_wardNow 15 = .ok (.iload_n 1, 1) := by decide +kernel
theorem dX11_wardNow_16 : decode cX11_wardNow 16 = .ok (.iload_n 2, 1) := by decide +kernel
theorem dX11_wardNow_17 : decode cX11_wardNow 17 = .ok (.iconst 0, 1) := by decide +kernel
theorem dX11_wardNow_18 : decode cX11_wardNow 18 = .ok (.invokevirtual 187, 3) := by decide +kernel
theorem dX11_wardNow_21 : decode cX11_wardNow 21 = .ok (.lconst 0, 1) := by decide +kernel
theorem dX11_wardNow_22 : decode cX11_wardNow 22 = .ok (.lcmp, 1) := by decide +kernel
theorem dX11_wardNow_23 : decode cX11_wardNow 23 = .ok (.ifCond .ne 8, 3) := by decide +kernel
theorem dX11_wardNow_26 : decode cX11_wardNow 26 = .ok (.bipush (-3), 2) := by decide +kernel
theorem dX11_wardNow_28 : decode cX11_wardNow 28 = .ok (.goto 26, 3) := by decide +kernel
theorem dX11_wardNow_31 : decode cX11_wardNow 31 = .ok (.aload_n 0, 1) := by decide +kernel
theorem dX11_wardNow_32 : decode cX11_wardNow 32 = .ok (.iload_n 1, 1) := by decide +kernel
theorem dX11_wardNow_33 : decode cX11_wardNow 33 = .ok (.iload_n 2, 1) := by decide +kernel
theorem dX11_wardNow_34 : decode cX11_wardNow 34 = .ok (.iconst 3, 1) := by decide +kernel
theorem dX11_wardNow_35 : decode cX11_wardNow 35 = .ok (.invokevirtual 187, 3) := by decide +kernel
theorem dX11_wardNow_38 : decode cX11_wardNow 38 = .ok (.aload_n 0, 1) := by decide +kernel
theorem dX11_wardNow_39 : decode cX11_wardNow 39 = .ok (.iload_n 1, 1) := by decide +kernel
theorem dX11_wardNow_40 : decode cX11_wardNow 40 = .ok (.iload_n 2, 1) := by decide +kernel
theorem dX11_wardNow_41 : decode cX11_wardNow 41 = .ok (.iconst 2, 1) := by decide +kernel
theorem dX11_wardNow_42 : decode cX11_wardNow 42 = .ok (.invokevirtual 187, 3) := by decide +kernel
theorem dX11_wardNow_45 : decode cX11_wardNow 45 = .ok (.lcmp, 1) := by decide +kernel
theorem dX11_wardNow_46 : decode cX11_wardNow 46 = .ok (.ifCond .ne 7, 3) := by decide +kernel
theorem dX11_wardNow_49 : decode cX11_wardNow 49 = .ok (.iconst 1, 1) := by decide +kernel
theorem dX11_wardNow_50 : decode cX11_wardNow 50 = .ok (.goto 4, 3) := by decide +kernel
theorem dX11_wardNow_53 : decode cX11_wardNow 53 = .ok (.iconst 0, 1) := by decide +kernel
theorem dX11_wardNow_54 : decode cX11_wardNow 54 = .ok (.ireturn, 1) := by decide +kernel
set_option maxRecDepth 20000 in
theorem ggX11_isSpan_X11_in : GoodIn wsX11_isSpan wsX11_in := goodIn_r _ [4] (by decide +kernel) (by decide +kernel)
set_option maxRecDepth 20000 in
theorem gX11_isSpan_X11_in : GoodIn wsX11_isSpan (va_wsS RX11 74 yX11_in wsX11_in) := goodIn_app (goodIn_of _ (by decide +kernel)) ggX11_isSpan_X11_in
theorem dX11_isSpan_0 : decode cX11_isSpan 0 = .ok (.iload_n 0, 1) := by decide +kernel
theorem dX11_isSpan_1 : decode cX11_isSpan 1 = .ok (.iconst 0, 1) := by decide +kernel
theorem dX11_isSpan_2 : decode cX11_isSpan 2 = .ok (.bipush 99, 2) := by decide +kernel
theorem dX11_isSpan_4 : decode cX11_isSpan 4 = .ok (.invokestatic 74, 3) := by decide +kernel
theorem dX11_isSpan_7 : decode cX11_isSpan 7 = .ok (.ifCond .eq 17, 3) := by decide +kernel
theorem dX11_isSpan_10 : decode cX11_isSpan 10 = .ok (.iload_n 1, 1) := by decide +kernel
theorem dX11_isSpan_11 : decode cX11_isSpan 11 = .ok (.iload_n 0, 1) := by decide +kernel
theorem dX11_isSpan_12 : decode cX11_isSpan 12 = .ok (.bipush 99, 2) := by decide +kernel
theorem dX11_isSpan_14 : decode cX11_isSpan 14 = .ok (.invokestatic 74, 3) := by decide +kernel
theorem dX11_isSpan_17 : decode cX11_isSpan 17 = .ok (.ifCond .eq 7, 3) := by decide +kernel
theorem dX11_isSpan_20 : decode cX11_isSpan 20 = .ok (.iconst 1, 1) := by decide +kernel
theorem dX11_isSpan_21 : decode cX11_isSpan 21 = .ok (.goto 4, 3) := by decide +kernel
theorem dX11_isSpan_24 : decode cX11_isSpan 24 = .ok (.iconst 0, 1) := by decide +kernel
theorem dX11_isSpan_25 : decode cX11_isSpan 25 = .ok (.ireturn, 1) := by decide +kernel
set_option maxRecDepth 20000 in
theorem ggX11_ward_X11_isSpan : GoodIn wsX11_ward wsX11_isSpan := goodIn_r _ [4, 5, 6, 3, 7] (by decide +kernel) (by decide +kernel)
set_option maxRecDepth 20000 in
theorem gX11_ward_X11_isSpan : GoodIn wsX11_ward (va_wsS RX11 190 yX11_isSpan wsX11_isSpan) := goodIn_app (goodIn_of _ (by decide +kernel)) ggX11_ward_X11_isSpan
set_option maxRecDepth 20000 in
theorem ggX11_ward_X11_in : GoodIn wsX11_ward wsX11_in := goodIn_r _ [7] (by decide +kernel) (by decide +kernel)
set_option maxRecDepth 20000 in
theorem gX11_ward_X11_in : GoodIn wsX11_ward (va_wsS RX11 74 yX11_in wsX11_in) := goodIn_app (goodIn_of _ (by decide +kernel)) ggX11_ward_X11_in
set_option maxRecDepth 20000 in
theorem ggX11_ward_X11_wardNow : GoodIn wsX11_ward wsX11_wardNow := goodIn_r _ [11, 12, 13, 14, 3, 15, 16, 17, 18, 19, 20, 21, 22, 23, 24, 25, 26, 27, 5, 6, 7, 28, 29, 30, 31, 32, 33, 34, 35, 36, 37, 38, 39, 40, 41, 42, 43, 44, 45, 46, 47, 48, 49, 50, 51, 52, 53, 54] (by decide +kernel) (by decide +kernel)
set_option maxRecDepth 20000 in
theorem gX11_ward_X11_wardNow : GoodIn wsX11_ward (wsV RX11 193 RX11 yX11_wardNow wsX11_wardNow) := goodIn_app (goodIn_of _ (by decide +kernel)) ggX11_ward_X11_wardNow
theorem dX11_ward_0 : decode cX11_ward 0 = .ok (.iload_n 1, 1) := by decide +kernel
theorem dX11_ward_1 : decode cX11_ward 1 = .ok (.iload_n 2, 1) := by decide +kernel
theorem dX11_ward_2 : decode cX11_ward 2 = .ok (.invokestatic 190, 3) := by decide +kernel
theorem dX11_ward_5 : decode cX11_ward 5 = .ok (.ifCond .eq 22, 3) := by decide +kernel
theorem dX11_ward_8 : decode cX11_ward 8 = .ok (.iload_n 3, 1) := by decide +kernel
theorem dX11_ward_9 : decode cX11_ward 9 = .ok (.iconst 0, 1) := by decide +kernel
theorem dX11_ward_10 : decode cX11_ward 10 = .ok (.iconst 3, 1) := by decide +kernel
theorem dX11_ward_11 : decode cX11_ward 11 = .ok (.invokestatic 74, 3) := by decide +kernel
theorem dX11_ward_14 : decode cX11_ward 14 = .ok (.ifCond .eq 13, 3) := by decide +kernel
theorem dX11_ward_17 : decode cX11_ward 17 = .ok (.aload_n 0, 1) := by decide +kernel
theorem dX11_ward_18 : decode cX11_ward 18 = .ok (.iload_n 1, 1) := by decide +kernel
theorem dX11_ward_19 : decode cX11_ward 19 = .ok (.iload_n 2, 1) := by decide +kernel
theorem dX11_ward_20 : decode cX11_ward 20 = .ok (.iload_n 3, 1) := by decide +kernel
theorem dX11_ward_21 : decode cX11_ward 21 = .ok (.invokevirtual 193, 3) := by decide +kernel
theorem dX11_ward_24 : decode cX11_ward 24 = .ok (.goto 5, 3) := by decide +kernel
theorem dX11_ward_27 : decode cX11_ward 27 = .ok (.bipush (-2), 2) := by decide +kernel
theorem dX11_ward_29 : decode cX11_ward 29 = .ok (.ireturn, 1) := by decide +kernel
set_option maxRecDepth 20000 in
theorem ggX11_meansNow_X11_wardOf : GoodIn wsX11_meansNow wsX11_wardOf := goodIn_r _ [6, 7, 8, 1, 9, 10, 11, 5, 12, 13, 14, 15, 16, 17, 18, 19, 20, 28, 29, 30, 31, 32, 33, 34, 35, 36, 37, 38, 39, 40, 41, 42, 43, 44, 45, 46, 47, 48, 49, 50, 51, 52, 53, 54] (by decide +kernel) (by decide +kernel)
set_option maxRecDepth 20000 in
theorem gX11_meansNow_X11_wardOf : GoodIn wsX11_meansNow (wsV RX11 187 RX11 yX11_wardOf wsX11_wardOf) := goodIn_app (goodIn_of _ (by decide +kernel)) ggX11_meansNow_X11_wardOf
set_option maxRecDepth 20000 in
theorem ggX11_meansNow_X11_no : GoodIn wsX11_meansNow wsX11_no := goodIn_r _ [23, 24] (by decide +kernel) (by decide +kernel)
set_option maxRecDepth 20000 in
theorem gX11_meansNow_X11_no : GoodIn wsX11_meansNow (va_wsS RX11 109 yX11_no wsX11_no) := goodIn_app (goodIn_of _ (by decide +kernel)) ggX11_meansNow_X11_no
set_option maxRecDepth 20000 in
theorem ggX11_meansNow_X11_lowest : GoodIn wsX11_meansNow wsX11_lowest := goodIn_r _ [27] (by decide +kernel) (by decide +kernel)
set_option maxRecDepth 20000 in
theorem gX11_meansNow_X11_lowest : GoodIn wsX11_meansNow (va_wsS RX11 115 yX11_lowest wsX11_lowest) := goodIn_app (goodIn_of _ (by decide +kernel)) ggX11_meansNow_X11_lowest
theorem dX11_meansNow_0 : decode cX11_meansNow 0 = .ok (.iload_n 2, 1) := by decide +kernel
theorem dX11_meansNow_1 : decode cX11_meansNow 1 = .ok (.iload_n 1, 1) := by decide +kernel
theorem dX11_meansNow_2 : decode cX11_meansNow 2 = .ok (.isub, 1) := by decide +kernel
theorem dX11_meansNow_3 : decode cX11_meansNow 3 = .ok (.iconst 1, 1) := by decide +kernel
theorem dX11_meansNow_4 : decode cX11_meansNow 4 = .ok (.iadd, 1) := by decide +kernel
theorem dX11_meansNow_5 : decode cX11_meansNow 5 = .ok (.i2l, 1) := by decide +kernel
theorem dX11_meansNow_6 : decode cX11_meansNow 6 = .ok (.lstore 5, 2) := by decide +kernel
theorem dX11_meansNow_8 : decode cX11_meansNow 8 = .ok (.lconst 0, 1) := by decide +kernel
theorem dX11_meansNow_9 : decode cX11_meansNow 9 = .ok (.lstore 7, 2) := by decide +kernel
theorem dX11_meansNow_11 : decode cX11_meansNow 11 = .ok (.lconst 0, 1) := by decide +kernel
theorem dX11_meansNow_12 : decode cX11_meansNow 12 = .ok (.lstore 9, 2) := by decide +kernel
theorem dX11_meansNow_14 : decode cX11_meansNow 14 = .ok (.iload_n 3, 1) := by decide +kernel
theorem dX11_meansNow_15 : decode cX11_meansNow 15 = .ok (.tableswitch 138 0 4 #[33, 54, 75, 96, 122], 33) := by decide +kernel
theorem dX11_meansNow_48 : decode cX11_meansNow 48 = .ok (.aload_n 0, 1) := by decide +kernel
theorem dX11_meansNow_49 : decode cX11_meansNow 49 = .ok (.iload_n 1, 1) := by decide +kernel
theorem dX11_meansNow_50 : decode cX11_meansNow 50 = .ok (.iload_n 2, 1) := by decide +kernel
theorem dX11_meansNow_51 : decode cX11_meansNow 51 = .ok (.iconst 3, 1) := by decide +kernel
theorem dX11_meansNow_52 : decode cX11_meansNow 52 = .ok (.invokevirtual 187, 3) := by decide +kernel
theorem dX11_meansNow_55 : decode cX11_meansNow 55 = .ok (.lstore 7, 2) := by decide +kernel
theorem dX11_meansNow_57 : decode cX11_meansNow 57 = .ok (.aload_n 0, 1) := by decide +kernel
theorem dX11_meansNow_58 : decode cX11_meansNow 58 = .ok (.iload_n 1, 1) := by decide +kernel
theorem dX11_meansNow_59 : decode cX11_meansNow 59 = .ok (.iload_n 2, 1) := by decide +kernel
theorem dX11_meansNow_60 : decode cX11_meansNow 60 = .ok (.iconst 0, 1) := by decide +kernel
theorem dX11_meansNow_61 : decode cX11_meansNow 61 = .ok (.invokevirtual 187, 3) := by decide +kernel
theorem dX11_meansNow_64 : decode cX11_meansNow 64 = .ok (.lstore 9, 2) := by decide +kernel
theorem dX11_meansNow_66 : decode cX11_meansNow 66 = .ok (.goto 100, 3) := by decide +kernel
theorem dX11_meansNow_69 : decode cX11_meansNow 69 = .ok (.aload_n 0, 1) := by decide +kernel
theorem dX11_meansNow_70 : decode cX11_meansNow 70 = .ok (.iload_n 1, 1) := by decide +kernel
theorem dX11_meansNow_71 : decode cX11_meansNow 71 = .ok (.iload_n 2, 1) := by decide +kernel
theorem dX11_meansNow_72 : decode cX11_meansNow 72 = .ok (.iconst 4, 1) := by decide +kernel
theorem dX11_meansNow_73 : decode cX11_meansNow 73 = .ok (.invokevirtual 187, 3) := by decide +kernel
theorem dX11_meansNow_76 : decode cX11_meansNow 76 = .ok (.lstore 7, 2) := by decide +kernel
theorem dX11_meansNow_78 : decode cX11_meansNow 78 = .ok (.aload_n 0, 1) := by decide +kernel
theorem dX11_meansNow_79 : decode cX11_meansNow 79 = .ok (.iload_n 1, 1) := by decide +kernel
theorem dX11_meansNow_80 : decode cX11_meansNow 80 = .ok (.iload_n 2, 1) := by decide +kernel
theorem dX11_meansNow_81 : decode cX11_meansNow 81 = .ok (.iconst 1, 1) := by decide +kernel
theorem dX11_meansNow_82 : decode cX11_meansNow 82 = .ok (.invokevirtual 187, 3) := by decide +kernel
theorem dX11_meansNow_85 : decode cX11_meansNow 85 = .ok (.lstore 9, 2) := by decide +kernel
theorem dX11_meansNow_87 : decode cX11_meansNow 87 = .ok (.goto 79, 3) := by decide +kernel
theorem dX11_meansNow_90 : decode cX11_meansNow 90 = .ok (.aload_n 0, 1) := by decide +kernel
theorem dX11_meansNow_91 : decode cX11_meansNow 91 = .ok (.iload_n 1, 1) := by decide +kernel
theorem dX11_meansNow_92 : decode cX11_meansNow 92 = .ok (.iload_n 2, 1) := by decide +kernel
theorem dX11_meansNow_93 : decode cX11_meansNow 93 = .ok (.iconst 5, 1) := by decide +kernel
theorem dX11_meansNow_94 : decode cX11_meansNow 94 = .ok (.invokevirtual 187, 3) := by decide +kernel
theorem dX11_meansNow_97 : decode cX11_meansNow 97 = .ok (.lstore 7, 2) := by decide +kernel
theorem dX11_meansNow_99 : decode cX11_meansNow 99 = .ok (.aload_n 0, 1) := by decide +kernel
theorem dX11_meansNow_100 : decode cX11_meansNow 100 = .ok (.iload_n 1, 1) := by decide +kernel
theorem dX11_meansNow_101 : decode cX11_meansNow 101 = .ok (.iload_n 2, 1) := by decide +kernel
theorem dX11_meansNow_102 : decode cX11_meansNow 102 = .ok (.iconst 2, 1) := by decide +kernel
theorem dX11_meansNow_103 : decode cX11_meansNow 103 = .ok (.invokevirtual 187, 3) := by decide +kernel
theorem dX11_meansNow_106 : decode cX11_meansNow 106 = .ok (.lstore 9, 2) := by decide +kernel
theorem dX11_meansNow_108 : decode cX11_meansNow 108 = .ok (.goto 58, 3) := by decide +kernel
theorem dX11_meansNow_111 : decode cX11_meansNow 111 = .ok (.aload_n 0, 1) := by decide +kernel
theorem dX11_meansNow_112 : decode cX11_meansNow 112 = .ok (.iload_n 1, 1) := by decide +kernel
theorem dX11_meansNow_113 : decode cX11_meansNow 113 = .ok (.iload_n 2, 1) := by decide +kernel
theorem dX11_meansNow_114 : decode cX11_meansNow 114 = .ok (.iconst 2, 1) := by decide +kernel
theorem dX11_meansNow_115 : decode cX11_meansNow 115 = .ok (.invokevirtual 187, 3) := by decide +kernel
theorem dX11_meansNow_118 : decode cX11_meansNow 118 = .ok (.ldc2_w 185, 3) := by decide +kernel
theorem dX11_meansNow_121 : decode cX11_meansNow 121 = .ok (.lmul, 1) := by decide +kernel
theorem dX11_meansNow_122 : decode cX11_meansNow 122 = .ok (.lstore 7, 2) := by decide +kernel
theorem dX11_meansNow_124 : decode cX11_meansNow 124 = .ok (.aload_n 0, 1) := by decide +kernel
theorem dX11_meansNow_125 : decode cX11_meansNow 125 = .ok (.iload_n 1, 1) := by decide +kernel
theorem dX11_meansNow_126 : decode cX11_meansNow 126 = .ok (.iload_n 2, 1) := by decide +kernel
theorem dX11_meansNow_127 : decode cX11_meansNow 127 = .ok (.bipush 6, 2) := by decide +kernel
theorem dX11_meansNow_129 : decode cX11_meansNow 129 = .ok (.invokevirtual 187, 3) := by decide +kernel
theorem dX11_meansNow_132 : decode cX11_meansNow 132 = .ok (.lstore 9, 2) := by decide +kernel
theorem dX11_meansNow_134 : decode cX11_meansNow 134 = .ok (.goto 32, 3) := by decide +kernel
theorem dX11_meansNow_137 : decode cX11_meansNow 137 = .ok (.aload_n 0, 1) := by decide +kernel
theorem dX11_meansNow_138 : decode cX11_meansNow 138 = .ok (.iload_n 1, 1) := by decide +kernel
theorem dX11_meansNow_139 : decode cX11_meansNow 139 = .ok (.iload_n 2, 1) := by decide +kernel
theorem dX11_meansNow_140 : decode cX11_meansNow 140 = .ok (.iconst 0, 1) := by decide +kernel
theorem dX11_meansNow_141 : decode cX11_meansNow 141 = .ok (.invokevirtual 187, 3) := by decide +kernel
theorem dX11_meansNow_144 : decode cX11_meansNow 144 = .ok (.lstore 7, 2) := by decide +kernel
theorem dX11_meansNow_146 : decode cX11_meansNow 146 = .ok (.lload 5, 2) := by decide +kernel
theorem dX11_meansNow_148 : decode cX11_meansNow 148 = .ok (.lstore 9, 2) := by decide +kernel
theorem dX11_meansNow_150 : decode cX11_meansNow 150 = .ok (.goto 16, 3) := by decide +kernel
theorem dX11_meansNow_153 : decode cX11_meansNow 153 = .ok (.aload_n 0, 1) := by decide +kernel
theorem dX11_meansNow_154 : decode cX11_meansNow 154 = .ok (.iload_n 1, 1) := by decide +kernel
theorem dX11_meansNow_155 : decode cX11_meansNow 155 = .ok (.iload_n 2, 1) := by decide +kernel
theorem dX11_meansNow_156 : decode cX11_meansNow 156 = .ok (.iconst 2, 1) := by decide +kernel
theorem dX11_meansNow_157 : decode cX11_meansNow 157 = .ok (.invokevirtual 187, 3) := by decide +kernel
theorem dX11_meansNow_160 : decode cX11_meansNow 160 = .ok (.lstore 7, 2) := by decide +kernel
theorem dX11_meansNow_162 : decode cX11_meansNow 162 = .ok (.lload 5, 2) := by decide +kernel
theorem dX11_meansNow_164 : decode cX11_meansNow 164 = .ok (.lstore 9, 2) := by decide +kernel
theorem dX11_meansNow_166 : decode cX11_meansNow 166 = .ok (.lload 9, 2) := by decide +kernel
theorem dX11_meansNow_168 : decode cX11_meansNow 168 = .ok (.lconst 0, 1) := by decide +kernel
theorem dX11_meansNow_169 : decode cX11_meansNow 169 = .ok (.lcmp, 1) := by decide +kernel
theorem dX11_meansNow_170 : decode cX11_meansNow 170 = .ok (.ifCond .ne 11, 3) := by decide +kernel
theorem dX11_meansNow_173 : decode cX11_meansNow 173 = .ok (.bipush (-3), 2) := by decide +kernel
theorem dX11_meansNow_175 : decode cX11_meansNow 175 = .ok (.invokestatic 109, 3) := by decide +kernel
theorem dX11_meansNow_178 : decode cX11_meansNow 178 = .ok (.goto 12, 3) := by decide +kernel
theorem dX11_meansNow_181 : decode cX11_meansNow 181 = .ok (.lload 7, 2) := by decide +kernel
theorem dX11_meansNow_183 : decode cX11_meansNow 183 = .ok (.lload 9, 2) := by decide +kernel
theorem dX11_meansNow_185 : decode cX11_meansNow 185 = .ok (.iload 4, 2) := by decide +kernel
theorem dX11_meansNow_187 : decode cX11_meansNow 187 = .ok (.invokestatic 115, 3) := by decide +kernel
theorem dX11_meansNow_190 : decode cX11_meansNow 190 = .ok (.lreturn, 1) := by decide +kernel
set_option maxRecDepth 20000 in
theorem ggX11_means_X11_isSpan : GoodIn wsX11_means wsX11_isSpan := goodIn_r _ [4, 5, 6, 3, 7] (by decide +kernel) (by decide +kernel)
set_option maxRecDepth 20000 in
theorem gX11_means_X11_isSpan : GoodIn wsX11_means (va_wsS RX11 190 yX11_isSpan wsX11_isSpan) := goodIn_app (goodIn_of _ (by decide +kernel)) ggX11_means_X11_isSpan
set_option maxRecDepth 20000 in
theorem ggX11_means_X11_in : GoodIn wsX11_means wsX11_in := goodIn_r _ [7] (by decide +kernel) (by decide +kernel)
set_option maxRecDepth 20000 in
theorem gX11_means_X11_in : GoodIn wsX11_means (va_wsS RX11 74 yX11_in wsX11_in) := goodIn_app (goodIn_of _ (by decide +kernel)) ggX11_means_X11_in
set_option maxRecDepth 20000 in
theorem ggX11_means_X11_meansNow : GoodIn wsX11_means wsX11_meansNow := goodIn_r _ [11, 12, 13, 14, 15, 3, 16, 17, 18, 19, 20, 21, 22, 23, 24, 25, 26, 27, 5, 6, 7, 28, 29, 30, 31, 32, 33, 34, 35, 36, 37, 38, 39, 40, 41, 42, 43, 44, 45, 46, 47, 48, 49, 50, 51, 52, 53, 54, 55, 56, 57, 58, 59, 60, 61] (by decide +kernel) (by decide +kernel)
set_option maxRecDepth 20000 in
theorem gX11_means_X11_meansNow : GoodIn wsX11_means (wsV RX11 196 RX11 yX11_meansNow wsX11_meansNow) := goodIn_app (goodIn_of _ (by decide +kernel)) ggX11_means_X11_meansNow
set_option maxRecDepth 20000 in
theorem ggX11_means_X11_no : GoodIn wsX11_means wsX11_no := goodIn_r _ [30, 31] (by decide +kernel) (by decide +kernel)
set_option maxRecDepth 20000 in
theorem gX11_means_X11_no : GoodIn wsX11_means (va_wsS RX11 109 yX11_no wsX11_no) := goodIn_app (goodIn_of _ (by decide +kernel)) ggX11_means_X11_no
theorem dX11_means_0 : decode cX11_means 0 = .ok (.iload_n 1, 1) := by decide +kernel
theorem dX11_means_1 : decode cX11_means 1 = .ok (.iload_n 2, 1) := by decide +kernel
theorem dX11_means_2 : decode cX11_means 2 = .ok (.invokestatic 190, 3) := by decide +kernel
theorem dX11_means_5 : decode cX11_means 5 = .ok (.ifCond .eq 34, 3) := by decide +kernel
theorem dX11_means_8 : decode cX11_means 8 = .ok (.iload_n 3, 1) := by decide +kernel
theorem dX11_means_9 : decode cX11_means 9 = .ok (.iconst 0, 1) := by decide +kernel
theorem dX11_means_10 : decode cX11_means 10 = .ok (.iconst 5, 1) := by decide +kernel
theorem dX11_means_11 : decode cX11_means 11 = .ok (.invokestatic 74, 3) := by decide +kernel
theorem dX11_means_14 : decode cX11_means 14 = .ok (.ifCond .eq 25, 3) := by decide +kernel
theorem dX11_means_17 : decode cX11_means 17 = .ok (.iload 4, 2) := by decide +kernel
theorem dX11_means_19 : decode cX11_means 19 = .ok (.iconst 0, 1) := by decide +kernel
theorem dX11_means_20 : decode cX11_means 20 = .ok (.iconst 1, 1) := by decide +kernel
theorem dX11_means_21 : decode cX11_means 21 = .ok (.invokestatic 74, 3) := by decide +kernel
theorem dX11_means_24 : decode cX11_means 24 = .ok (.ifCond .eq 15, 3) := by decide +kernel
theorem dX11_means_27 : decode cX11_means 27 = .ok (.aload_n 0, 1) := by decide +kernel
theorem dX11_means_28 : decode cX11_means 28 = .ok (.iload_n 1, 1) := by decide +kernel
theorem dX11_means_29 : decode cX11_means 29 = .ok (.iload_n 2, 1) := by decide +kernel
theorem dX11_means_30 : decode cX11_means 30 = .ok (.iload_n 3, 1) := by decide +kernel
theorem dX11_means_31 : decode cX11_means 31 = .ok (.iload 4, 2) := by decide +kernel
theorem dX11_means_33 : decode cX11_means 33 = .ok (.invokevirtual 196, 3) := by decide +kernel
theorem dX11_means_36 : decode cX11_means 36 = .ok (.goto 8, 3) := by decide +kernel
theorem dX11_means_39 : decode cX11_means 39 = .ok (.bipush (-2), 2) := by decide +kernel
theorem dX11_means_41 : decode cX11_means 41 = .ok (.invokestatic 109, 3) := by decide +kernel
theorem dX11_means_44 : decode cX11_means 44 = .ok (.lreturn, 1) := by decide +kernel
theorem dX11_apartNow_0 : decode cX11_apartNow 0 = .ok (.iconst 0, 1) := by decide +kernel
theorem dX11_apartNow_1 : decode cX11_apartNow 1 = .ok (.istore_n 1, 1) := by decide +kernel
theorem dX11_apartNow_2 : decode cX11_apartNow 2 = .ok (.iconst (-1), 1) := by decide +kernel
theorem dX11_apartNow_3 : decode cX11_apartNow 3 = .ok (.istore_n 2, 1) := by decide +kernel
theorem dX11_apartNow_4 : decode cX11_apartNow 4 = .ok (.iconst 1, 1) := by decide +kernel
theorem dX11_apartNow_5 : decode cX11_apartNow 5 = .ok (.istore_n 3, 1) := by decide +kernel
theorem dX11_apartNow_6 : decode cX11_apartNow 6 = .ok (.iload_n 3, 1) := by decide +kernel
theorem dX11_apartNow_7 : decode cX11_apartNow 7 = .ok (.ifCond .eq 93, 3) := by decide +kernel
theorem dX11_apartNow_10 : decode cX11_apartNow 10 = .ok (.ldc 123, 2) := by decide +kernel
theorem dX11_apartNow_12 : decode cX11_apartNow 12 = .ok (.istore 4, 2) := by decide +kernel
theorem dX11_apartNow_14 : decode cX11_apartNow 14 = .ok (.iconst 0, 1) := by decide +kernel
theorem dX11_apartNow_15 : decode cX11_apartNow 15 = .ok (.istore 5, 2) := by decide +kernel
theorem dX11_apartNow_17 : decode cX11_apartNow 17 = .ok (.iload 5, 2) := by decide +kernel
theorem dX11_apartNow_19 : decode cX11_apartNow 19 = .ok (.aload_n 0, 1) := by decide +kernel
theorem dX11_apartNow_20 : decode cX11_apartNow 20 = .ok (.getfield 176, 3) := by decide +kernel
theorem dX11_apartNow_23 : decode cX11_apartNow 23 = .ok (.if_icmp .ge 46, 3) := by decide +kernel
theorem dX11_apartNow_26 : decode cX11_apartNow 26 = .ok (.aload_n 0, 1) := by decide +kernel
theorem dX11_apartNow_27 : decode cX11_apartNow 27 = .ok (.getfield 44, 3) := by decide +kernel
theorem dX11_apartNow_30 : decode cX11_apartNow 30 = .ok (.iload 5, 2) := by decide +kernel
theorem dX11_apartNow_32 : decode cX11_apartNow 32 = .ok (.iaload, 1) := by decide +kernel
theorem dX11_apartNow_33 : decode cX11_apartNow 33 = .ok (.iload_n 2, 1) := by decide +kernel
theorem dX11_apartNow_34 : decode cX11_apartNow 34 = .ok (.if_icmp .le 25, 3) := by decide +kernel
theorem dX11_apartNow_37 : decode cX11_apartNow 37 = .ok (.aload_n 0, 1) := by decide +kernel
theorem dX11_apartNow_38 : decode cX11_apartNow 38 = .ok (.getfield 47, 3) := by decide +kernel
theorem dX11_apartNow_41 : decode cX11_apartNow 41 = .ok (.iload 5, 2) := by decide +kernel
theorem dX11_apartNow_43 : decode cX11_apartNow 43 = .ok (.iaload, 1) := by decide +kernel
theorem dX11_apartNow_44 : decode cX11_apartNow 44 = .ok (.iload 4, 2) := by decide +kernel
theorem dX11_apartNow_46 : decode cX11_apartNow 46 = .ok (.if_icmp .ge 13, 3) := by decide +kernel
theorem dX11_apartNow_49 : decode cX11_apartNow 49 = .ok (.aload_n 0, 1) := by decide +kernel
theorem dX11_apartNow_50 : decode cX11_apartNow 50 = .ok (.getfield 47, 3) := by decide +kernel
theorem dX11_apartNow_53 : decode cX11_apartNow 53 = .ok (.iload 5, 2) := by decide +kernel
theorem dX11_apartNow_55 : decode cX11_apartNow 55 = .ok (.iaload, 1) := by decide +kernel
theorem dX11_apartNow_56 : decode cX11_apartNow 56 = .ok (.goto 5, 3) := by decide +kernel
theorem dX11_apartNow_59 : decode cX11_apartNow 59 = .ok (.iload 4, 2) := by decide +kernel
theorem dX11_apartNow_61 : decode cX11_apartNow 61 = .ok (.istore 4, 2) := by decide +kernel
theorem dX11_apartNow_63 : decode cX11_apartNow 63 = .ok (.iinc 5 1, 3) := by decide +kernel
theorem dX11_apartNow_66 : decode cX11_apartNow 66 = .ok (.goto (-49), 3) := by decide +kernel
theorem dX11_apartNow_69 : decode cX11_apartNow 69 = .ok (.iload 4, 2) := by decide +kernel
theorem dX11_apartNow_71 : decode cX11_apartNow 71 = .ok (.ldc 123, 2) := by decide +kernel
theorem dX11_apartNow_73 : decode cX11_apartNow 73 = .ok (.if_icmp .ge 7, 3) := by decide +kernel
theorem dX11_apartNow_76 : decode cX11_apartNow 76 = .ok (.iconst 1, 1) := by decide +kernel
theorem dX11_apartNow_77 : decode cX11_apartNow 77 = .ok (.goto 4, 3) := by decide +kernel
theorem dX11_apartNow_80 : decode cX11_apartNow 80 = .ok (.iconst 0, 1) := by decide +kernel
theorem dX11_apartNow_81 : decode cX11_apartNow 81 = .ok (.istore_n 3, 1) := by decide +kernel
theorem dX11_apartNow_82 : decode cX11_apartNow 82 = .ok (.iload_n 1, 1) := by decide +kernel
theorem dX11_apartNow_83 : decode cX11_apartNow 83 = .ok (.iload_n 3, 1) := by decide +kernel
theorem dX11_apartNow_84 : decode cX11_apartNow 84 = .ok (.ifCond .eq 7, 3) := by decide +kernel
theorem dX11_apartNow_87 : decode cX11_apartNow 87 = .ok (.iconst 1, 1) := by decide +kernel
theorem dX11_apartNow_88 : decode cX11_apartNow 88 = .ok (.goto 4, 3) := by decide +kernel
theorem dX11_apartNow_91 : decode cX11_apartNow 91 = .ok (.iconst 0, 1) := by decide +kernel
theorem dX11_apartNow_92 : decode cX11_apartNow 92 = .ok (.iadd, 1) := by decide +kernel
theorem dX11_apartNow_93 : decode cX11_apartNow 93 = .ok (.istore_n 1, 1) := by decide +kernel
theorem dX11_apartNow_94 : decode cX11_apartNow 94 = .ok (.iload 4, 2) := by decide +kernel
theorem dX11_apartNow_96 : decode cX11_apartNow 96 = .ok (.istore_n 2, 1) := by decide +kernel
theorem dX11_apartNow_97 : decode cX11_apartNow 97 = .ok (.goto (-91), 3) := by decide +kernel
theorem dX11_apartNow_100 : decode cX11_apartNow 100 = .ok (.iload_n 1, 1) := by decide +kernel
theorem dX11_apartNow_101 : decode cX11_apartNow 101 = .ok (.ireturn, 1) := by decide +kernel
set_option maxRecDepth 20000 in
theorem ggX11_fullestNow_X11_apartNow : GoodIn wsX11_fullestNow wsX11_apartNow := goodIn_r _ [5, 6, 7, 8, 9, 26, 27, 28, 29, 30, 31, 32, 33, 34, 35, 36, 37, 38, 39, 40, 41, 42, 43, 44, 45, 46, 47, 48, 49, 50, 51, 52] (by decide +kernel) (by decide +kernel)
set_option maxRecDepth 20000 in
theorem gX11_fullestNow_X11_apartNow : GoodIn wsX11_fullestNow (wsV RX11 200 RX11 yX11_apartNow wsX11_apartNow) := goodIn_app (goodIn_of _ (by decide +kernel)) ggX11_fullestNow_X11_apartNow
set_option maxRecDepth 20000 in
theorem ggX11_fullestNow_X11_wardOf : GoodIn wsX11_fullestNow wsX11_wardOf := goodIn_r _ [13, 7, 8, 14, 15, 16, 17, 4, 18, 9, 19, 20, 21, 22, 23, 24, 25, 26, 27, 28, 29, 30, 31, 32, 33, 34, 35, 36, 37, 38, 39, 40, 41, 42, 43, 44, 45, 46, 47, 48, 49, 50, 51, 52] (by decide +kernel) (by decide +kernel)
set_option maxRecDepth 20000 in
theorem gX11_fullestNow_X11_wardOf : GoodIn wsX11_fullestNow (wsV RX11 187 RX11 yX11_wardOf wsX11_wardOf) := goodIn_app (goodIn_of _ (by decide +kernel)) ggX11_fullestNow_X11_wardOf
theorem dX11_fullestNow_0 : decode cX11_fullestNow 0 = .ok (.iload_n 1, 1) := by decide +kernel
theorem dX11_fullestNow_1 : decode cX11_fullestNow 1 = .ok (.iconst 2, 1) := by decide +kernel
theorem dX11_fullestNow_2 : decode cX11_fullestNow 2 = .ok (.if_icmp .ne 8, 3) := by decide +kernel
theorem dX11_fullestNow_5 : decode cX11_fullestNow 5 = .ok (.aload_n 0, 1) := by decide +kernel
theorem dX11_fullestNow_6 : decode cX11_fullestNow 6 = .ok (.invokevirtual 200, 3) := by decide +kernel
theorem dX11_fullestNow_9 : decode cX11_fullestNow 9 = .ok (.ireturn, 1) := by decide +kernel
theorem dX11_fullestNow_10 : decode cX11_fullestNow 10 = .ok (.iconst 0, 1) := by decide +kernel
theorem dX11_fullestNow_11 : decode cX11_fullestNow 11 = .ok (.istore_n 2, 1) := by decide +kernel
theorem dX11_fullestNow_12 : decode cX11_fullestNow 12 = .ok (.iconst (-1), 1) := by decide +kernel
theorem dX11_fullestNow_13 : decode cX11_fullestNow 13 = .ok (.istore_n 3, 1) := by decide +kernel
theorem dX11_fullestNow_14 : decode cX11_fullestNow 14 = .ok (.iconst 0, 1) := by decide +kernel
theorem dX11_fullestNow_15 : decode cX11_fullestNow 15 = .ok (.istore 4, 2) := by decide +kernel
theorem dX11_fullestNow_17 : decode cX11_fullestNow 17 = .ok (.iload 4, 2) := by decide +kernel
theorem dX11_fullestNow_19 : decode cX11_fullestNow 19 = .ok (.bipush 100, 2) := by decide +kernel
theorem dX11_fullestNow_21 : decode cX11_fullestNow 21 = .ok (.if_icmp .ge 47, 3) := by decide +kernel
theorem dX11_fullestNow_24 : decode cX11_fullestNow 24 = .ok (.aload_n 0, 1) := by decide +kernel
theorem dX11_fullestNow_25 : decode cX11_fullestNow 25 = .ok (.iload 4, 2) := by decide +kernel
theorem dX11_fullestNow_27 : decode cX11_fullestNow 27 = .ok (.iload 4, 2) := by decide +kernel
theorem dX11_fullestNow_29 : decode cX11_fullestNow 29 = .ok (.iconst 2, 1) := by decide +kernel
theorem dX11_fullestNow_30 : decode cX11_fullestNow 30 = .ok (.invokevirtual 187, 3) := by decide +kernel
theorem dX11_fullestNow_33 : decode cX11_fullestNow 33 = .ok (.l2i, 1) := by decide +kernel
theorem dX11_fullestNow_34 : decode cX11_fullestNow 34 = .ok (.istore 5, 2) := by decide +kernel
theorem dX11_fullestNow_36 : decode cX11_fullestNow 36 = .ok (.iload 5, 2) := by decide +kernel
theorem dX11_fullestNow_38 : decode cX11_fullestNow 38 = .ok (.iload_n 3, 1) := by decide +kernel
theorem dX11_fullestNow_39 : decode cX11_fullestNow 39 = .ok (.if_icmp .le 8, 3) := by decide +kernel
theorem dX11_fullestNow_42 : decode cX11_fullestNow 42 = .ok (.iload 4, 2) := by decide +kernel
theorem dX11_fullestNow_44 : decode cX11_fullestNow 44 = .ok (.goto 4, 3) := by decide +kernel
theorem dX11_fullestNow_47 : decode cX11_fullestNow 47 = .ok (.iload_n 2, 1) := by decide +kernel
theorem dX11_fullestNow_48 : decode cX11_fullestNow 48 = .ok (.istore_n 2, 1) := by decide +kernel
theorem dX11_fullestNow_49 : decode cX11_fullestNow 49 = .ok (.iload 5, 2) := by decide +kernel
theorem dX11_fullestNow_51 : decode cX11_fullestNow 51 = .ok (.iload_n 3, 1) := by decide +kernel
theorem dX11_fullestNow_52 : decode cX11_fullestNow 52 = .ok (.if_icmp .le 8, 3) := by decide +kernel
theorem dX11_fullestNow_55 : decode cX11_fullestNow 55 = .ok (.iload 5, 2) := by decide +kernel
theorem dX11_fullestNow_57 : decode cX11_fullestNow 57 = .ok (.goto 4, 3) := by decide +kernel
theorem dX11_fullestNow_60 : decode cX11_fullestNow 60 = .ok (.iload_n 3, 1) := by decide +kernel
theorem dX11_fullestNow_61 : decode cX11_fullestNow 61 = .ok (.istore_n 3, 1) := by decide +kernel
theorem dX11_fullestNow_62 : decode cX11_fullestNow 62 = .ok (.iinc 4 1, 3) := by decide +kernel
theorem dX11_fullestNow_65 : decode cX11_fullestNow 65 = .ok (.goto (-48), 3) := by decide +kernel
theorem dX11_fullestNow_68 : decode cX11_fullestNow 68 = .ok (.iload_n 1, 1) := by decide +kernel
theorem dX11_fullestNow_69 : decode cX11_fullestNow 69 = .ok (.ifCond .ne 7, 3) := by decide +kernel
theorem dX11_fullestNow_72 : decode cX11_fullestNow 72 = .ok (.iload_n 2, 1) := by decide +kernel
theorem dX11_fullestNow_73 : decode cX11_fullestNow 73 = .ok (.goto 4, 3) := by decide +kernel
theorem dX11_fullestNow_76 : decode cX11_fullestNow 76 = .ok (.iload_n 3, 1) := by decide +kernel
theorem dX11_fullestNow_77 : decode cX11_fullestNow 77 = .ok (.ireturn, 1) := by decide +kernel
set_option maxRecDepth 20000 in
theorem ggX11_fullest_X11_in : GoodIn wsX11_fullest wsX11_in := goodIn_r _ [4] (by decide +kernel) (by decide +kernel)
set_option maxRecDepth 20000 in
theorem gX11_fullest_X11_in : GoodIn wsX11_fullest (va_wsS RX11 74 yX11_in wsX11_in) := goodIn_app (goodIn_of _ (by decide +kernel)) ggX11_fullest_X11_in
set_option maxRecDepth 20000 in
theorem ggX11_fullest_X11_fullestNow : GoodIn wsX11_fullest wsX11_fullestNow := goodIn_r _ [8, 9, 10, 11, 3, 12, 13, 14, 15, 16, 17, 18, 19, 20, 21, 22, 23, 24, 25, 26, 27, 28, 29, 1, 2, 4, 30, 31, 32, 33, 34, 35, 36, 37, 38, 39, 40, 41, 42, 43, 44, 45, 46, 47, 48, 49, 50, 51, 52, 53, 54, 55, 56] (by decide +kernel) (by decide +kernel)
set_option maxRecDepth 20000 in
theorem gX11_fullest_X11_fullestNow : GoodIn wsX11_fullest (wsV RX11 203 RX11 yX11_fullestNow wsX11_fullestNow) := goodIn_app (goodIn_of _ (by decide +kernel)) ggX11_fullest_X11_fullestNow
theorem dX11_fullest_0 : decode cX11_fullest 0 = .ok (.iload_n 1, 1) := by decide +kernel
theorem dX11_fullest_1 : decode cX11_fullest 1 = .ok (.iconst 0, 1) := by decide +kernel
theorem dX11_fullest_2 : decode cX11_fullest 2 = .ok (.iconst 2, 1) := by decide +kernel
theorem dX11_fullest_3 : decode cX11_fullest 3 = .ok (.invokestatic 74, 3) := by decide +kernel
theorem dX11_fullest_6 : decode cX11_fullest 6 = .ok (.ifCond .eq 11, 3) := by decide +kernel
theorem dX11_fullest_9 : decode cX11_fullest 9 = .ok (.aload_n 0, 1) := by decide +kernel
theorem dX11_fullest_10 : decode cX11_fullest 10 = .ok (.iload_n 1, 1) := by decide +kernel
theorem dX11_fullest_11 : decode cX11_fullest 11 = .ok (.invokevirtual 203, 3) := by decide +kernel
theorem dX11_fullest_14 : decode cX11_fullest 14 = .ok (.goto 5, 3) := by decide +kernel
theorem dX11_fullest_17 : decode cX11_fullest 17 = .ok (.bipush (-2), 2) := by decide +kernel
theorem dX11_fullest_19 : decode cX11_fullest 19 = .ok (.ireturn, 1) := by decide +kernel
set_option maxRecDepth 20000 in
theorem ggX11_friends_X11_in : GoodIn wsX11_friends wsX11_in := goodIn_r _ [5] (by decide +kernel) (by decide +kernel)
set_option maxRecDepth 20000 in
theorem gX11_friends_X11_in : GoodIn wsX11_friends (va_wsS RX11 74 yX11_in wsX11_in) := goodIn_app (goodIn_of _ (by decide +kernel)) ggX11_friends_X11_in
theorem dX11_friends_0 : decode cX11_friends 0 = .ok (.iload_n 1, 1) := by decide +kernel
theorem dX11_friends_1 : decode cX11_friends 1 = .ok (.iconst 0, 1) := by decide +kernel
theorem dX11_friends_2 : decode cX11_friends 2 = .ok (.bipush 7, 2) := by decide +kernel
theorem dX11_friends_4 : decode cX11_friends 4 = .ok (.invokestatic 74, 3) := by decide +kernel
theorem dX11_friends_7 : decode cX11_friends 7 = .ok (.ifCond .eq 27, 3) := by decide +kernel
theorem dX11_friends_10 : decode cX11_friends 10 = .ok (.iload_n 2, 1) := by decide +kernel
theorem dX11_friends_11 : decode cX11_friends 11 = .ok (.iconst 0, 1) := by decide +kernel
theorem dX11_friends_12 : decode cX11_friends 12 = .ok (.bipush 7, 2) := by decide +kernel
theorem dX11_friends_14 : decode cX11_friends 14 = .ok (.invokestatic 74, 3) := by decide +kernel
theorem dX11_friends_17 : decode cX11_friends 17 = .ok (.ifCond .eq 17, 3) := by decide +kernel
theorem dX11_friends_20 : decode cX11_friends 20 = .ok (.iload_n 1, 1) := by decide +kernel
theorem dX11_friends_21 : decode cX11_friends 21 = .ok (.iload_n 2, 1) := by decide +kernel
theorem dX11_friends_22 : decode cX11_friends 22 = .ok (.if_icmp .eq 12, 3) := by decide +kernel
theorem dX11_friends_25 : decode cX11_friends 25 = .ok (.iload_n 3, 1) := by decide +kernel
theorem dX11_friends_26 : decode cX11_friends 26 = .ok (.iconst 0, 1) := by decide +kernel
theorem dX11_friends_27 : decode cX11_friends 27 = .ok (.iconst 1, 1) := by decide +kernel
theorem dX11_friends_28 : decode cX11_friends 28 = .ok (.invokestatic 74, 3) := by decide +kernel
theorem dX11_friends_31 : decode cX11_friends 31 = .ok (.ifCond .ne 6, 3) := by decide +kernel
theorem dX11_friends_34 : decode cX11_friends 34 = .ok (.bipush (-2), 2) := by decide +kernel
theorem dX11_friends_36 : decode cX11_friends 36 = .ok (.ireturn, 1) := by decide +kernel
theorem dX11_friends_37 : decode cX11_friends 37 = .ok (.aload_n 0, 1) := by decide +kernel
theorem dX11_friends_38 : decode cX11_friends 38 = .ok (.getfield 50, 3) := by decide +kernel
theorem dX11_friends_41 : decode cX11_friends 41 = .ok (.iload_n 1, 1) := by decide +kernel
theorem dX11_friends_42 : decode cX11_friends 42 = .ok (.iaload, 1) := by decide +kernel
theorem dX11_friends_43 : decode cX11_friends 43 = .ok (.iload_n 2, 1) := by decide +kernel
theorem dX11_friends_44 : decode cX11_friends 44 = .ok (.ishr, 1) := by decide +kernel
theorem dX11_friends_45 : decode cX11_friends 45 = .ok (.iconst 1, 1) := by decide +kernel
theorem dX11_friends_46 : decode cX11_friends 46 = .ok (.iand, 1) := by decide +kernel
theorem dX11_friends_47 : decode cX11_friends 47 = .ok (.istore 4, 2) := by decide +kernel
theorem dX11_friends_49 : decode cX11_friends 49 = .ok (.aload_n 0, 1) := by decide +kernel
theorem dX11_friends_50 : decode cX11_friends 50 = .ok (.getfield 50, 3) := by decide +kernel
theorem dX11_friends_53 : decode cX11_friends 53 = .ok (.iload_n 1, 1) := by decide +kernel
theorem dX11_friends_54 : decode cX11_friends 54 = .ok (.iload_n 3, 1) := by decide +kernel
theorem dX11_friends_55 : decode cX11_friends 55 = .ok (.iconst 1, 1) := by decide +kernel
theorem dX11_friends_56 : decode cX11_friends 56 = .ok (.if_icmp .ne 16, 3) := by decide +kernel
theorem dX11_friends_59 : decode cX11_friends 59 = .ok (.aload_n 0, 1) := by decide +kernel
theorem dX11_friends_60 : decode cX11_friends 60 = .ok (.getfield 50, 3) := by decide +kernel
theorem dX11_friends_63 : decode cX11_friends 63 = .ok (.iload_n 1, 1) := by decide +kernel
theorem dX11_friends_64 : decode cX11_friends 64 = .ok (.iaload, 1) := by decide +kernel
theorem dX11_friends_65 : decode cX11_friends 65 = .ok (.iconst 1, 1) := by decide +kernel
theorem dX11_friends_66 : decode cX11_friends 66 = .ok (.iload_n 2, 1) := by decide +kernel
theorem dX11_friends_67 : decode cX11_friends 67 = .ok (.ishl, 1) := by decide +kernel
theorem dX11_friends_68 : decode cX11_friends 68 = .ok (.ior, 1) := by decide +kernel
theorem dX11_friends_69 : decode cX11_friends 69 = .ok (.goto 15, 3) := by decide +kernel
theorem dX11_friends_72 : decode cX11_friends 72 = .ok (.aload_n 0, 1) := by decide +kernel
theorem dX11_friends_73 : decode cX11_friends 73 = .ok (.getfield 50, 3) := by decide +kernel
theorem dX11_friends_76 : decode cX11_friends 76 = .ok (.iload_n 1, 1) := by decide +kernel
theorem dX11_friends_77 : decode cX11_friends 77 = .ok (.iaload, 1) := by decide +kernel
theorem dX11_friends_78 : decode cX11_friends 78 = .ok (.iconst 1, 1) := by decide +kernel
theorem dX11_friends_79 : decode cX11_friends 79 = .ok (.iload_n 2, 1) := by decide +kernel
theorem dX11_friends_80 : decode cX11_friends 80 = .ok (.ishl, 1) := by decide +kernel
theorem dX11_friends_81 : decode cX11_friends 81 = .ok (.iconst (-1), 1) := by decide +kernel
theorem dX11_friends_82 : decode cX11_friends 82 = .ok (.ixor, 1) := by decide +kernel
theorem dX11_friends_83 : decode cX11_friends 83 = .ok (.iand, 1) := by decide +kernel
theorem dX11_friends_84 : decode cX11_friends 84 = .ok (.iastore, 1) := by decide +kernel
theorem dX11_friends_85 : decode cX11_friends 85 = .ok (.aload_n 0, 1) := by decide +kernel
theorem dX11_friends_86 : decode cX11_friends 86 = .ok (.getfield 50, 3) := by decide +kernel
theorem dX11_friends_89 : decode cX11_friends 89 = .ok (.iload_n 2, 1) := by decide +kernel
theorem dX11_friends_90 : decode cX11_friends 90 = .ok (.iload_n 3, 1) := by decide +kernel
theorem dX11_friends_91 : decode cX11_friends 91 = .ok (.iconst 1, 1) := by decide +kernel
theorem dX11_friends_92 : decode cX11_friends 92 = .ok (.if_icmp .ne 16, 3) := by decide +kernel
theorem dX11_friends_95 : decode cX11_friends 95 = .ok (.aload_n 0, 1) := by decide +kernel
theorem dX11_friends_96 : decode cX11_friends 96 = .ok (.getfield 50, 3) := by decide +kernel
theorem dX11_friends_99 : decode cX11_friends 99 = .ok (.iload_n 2, 1) := by decide +kernel
theorem dX11_friends_100 : decode cX11_friends 100 = .ok (.iaload, 1) := by decide +kernel
theorem dX11_friends_101 : decode cX11_friends 101 = .ok (.iconst 1, 1) := by decide +kernel
theorem dX11_friends_102 : decode cX11_friends 102 = .ok (.iload_n 1, 1) := by decide +kernel
theorem dX11_friends_103 : decode cX11_friends 103 = .ok (.ishl, 1) := by decide +kernel
theorem dX11_friends_104 : decode cX11_friends 104 = .ok (.ior, 1) := by decide +kernel
theorem dX11_friends_105 : decode cX11_friends 105 = .ok (.goto 15, 3) := by decide +kernel
theorem dX11_friends_108 : decode cX11_friends 108 = .ok (.aload_n 0, 1) := by decide +kernel
theorem dX11_friends_109 : decode cX11_friends 109 = .ok (.getfield 50, 3) := by decide +kernel
theorem dX11_friends_112 : decode cX11_friends 112 = .ok (.iload_n 2, 1) := by decide +kernel
theorem dX11_friends_113 : decode cX11_friends 113 = .ok (.iaload, 1) := by decide +kernel
theorem dX11_friends_114 : decode cX11_friends 114 = .ok (.iconst 1, 1) := by decide +kernel
theorem dX11_friends_115 : decode cX11_friends 115 = .ok (.iload_n 1, 1) := by decide +kernel
theorem dX11_friends_116 : decode cX11_friends 116 = .ok (.ishl, 1) := by decide +kernel
theorem dX11_friends_117 : decode cX11_friends 117 = .ok (.iconst (-1), 1) := by decide +kernel
theorem dX11_friends_118 : decode cX11_friends 118 = .ok (.ixor, 1) := by decide +kernel
theorem dX11_friends_119 : decode cX11_friends 119 = .ok (.iand, 1) := by decide +kernel
theorem dX11_friends_120 : decode cX11_friends 120 = .ok (.iastore, 1) := by decide +kernel
theorem dX11_friends_121 : decode cX11_friends 121 = .ok (.iload 4, 2) := by decide +kernel
theorem dX11_friends_123 : decode cX11_friends 123 = .ok (.ireturn, 1) := by decide +kernel
set_option maxRecDepth 20000 in
theorem ggX11_pickedParts_X11_has : GoodIn wsX11_pickedParts wsX11_has := goodIn_r _ [5] (by decide +kernel) (by decide +kernel)
set_option maxRecDepth 20000 in
theorem gX11_pickedParts_X11_has : GoodIn wsX11_pickedParts (va_wsS RX11 206 yX11_has wsX11_has) := goodIn_app (goodIn_of _ (by decide +kernel)) ggX11_pickedParts_X11_has
set_option maxRecDepth 20000 in
theorem ggX11_pickedParts_X11_ones : GoodIn wsX11_pickedParts wsX11_ones := goodIn_r _ [8] (by decide +kernel) (by decide +kernel)
set_option maxRecDepth 20000 in
theorem gX11_pickedParts_X11_ones : GoodIn wsX11_pickedParts (va_wsS RX11 209 yX11_ones wsX11_ones) := goodIn_app (goodIn_of _ (by decide +kernel)) ggX11_pickedParts_X11_ones
theorem dX11_pickedParts_0 : decode cX11_pickedParts 0 = .ok (.aload_n 0, 1) := by decide +kernel
theorem dX11_pickedParts_1 : decode cX11_pickedParts 1 = .ok (.getfield 50, 3) := by decide +kernel
theorem dX11_pickedParts_4 : decode cX11_pickedParts 4 = .ok (.iload_n 1, 1) := by decide +kernel
theorem dX11_pickedParts_5 : decode cX11_pickedParts 5 = .ok (.iaload, 1) := by decide +kernel
theorem dX11_pickedParts_6 : decode cX11_pickedParts 6 = .ok (.ifCond .ne 9, 3) := by decide +kernel
theorem dX11_pickedParts_9 : decode cX11_pickedParts 9 = .ok (.sipush 420, 3) := by decide +kernel
theorem dX11_pickedParts_12 : decode cX11_pickedParts 12 = .ok (.goto 4, 3) := by decide +kernel
theorem dX11_pickedParts_15 : decode cX11_pickedParts 15 = .ok (.iconst 0, 1) := by decide +kernel
theorem dX11_pickedParts_16 : decode cX11_pickedParts 16 = .ok (.istore_n 2, 1) := by decide +kernel
theorem dX11_pickedParts_17 : decode cX11_pickedParts 17 = .ok (.iconst 0, 1) := by decide +kernel
theorem dX11_pickedParts_18 : decode cX11_pickedParts 18 = .ok (.istore_n 3, 1) := by decide +kernel
theorem dX11_pickedParts_19 : decode cX11_pickedParts 19 = .ok (.iload_n 3, 1) := by decide +kernel
theorem dX11_pickedParts_20 : decode cX11_pickedParts 20 = .ok (.bipush 8, 2) := by decide +kernel
theorem dX11_pickedParts_22 : decode cX11_pickedParts 22 = .ok (.if_icmp .ge 42, 3) := by decide +kernel
theorem dX11_pickedParts_25 : decode cX11_pickedParts 25 = .ok (.iload_n 2, 1) := by decide +kernel
theorem dX11_pickedParts_26 : decode cX11_pickedParts 26 = .ok (.aload_n 0, 1) := by decide +kernel
theorem dX11_pickedParts_27 : decode cX11_pickedParts 27 = .ok (.getfield 50, 3) := by decide +kernel
theorem dX11_pickedParts_30 : decode cX11_pickedParts 30 = .ok (.iload_n 3, 1) := by decide +kernel
theorem dX11_pickedParts_31 : decode cX11_pickedParts 31 = .ok (.iaload, 1) := by decide +kernel
theorem dX11_pickedParts_32 : decode cX11_pickedParts 32 = .ok (.iload_n 1, 1) := by decide +kernel
theorem dX11_pickedParts_33 : decode cX11_pickedParts 33 = .ok (.invokestatic 206, 3) := by decide +kernel
theorem dX11_pickedParts_36 : decode cX11_pickedParts 36 = .ok (.ifCond .eq 19, 3) := by decide +kernel
theorem dX11_pickedParts_39 : decode cX11_pickedParts 39 = .ok (.sipush 420, 3) := by decide +kernel
theorem dX11_pickedParts_42 : decode cX11_pickedParts 42 = .ok (.aload_n 0, 1) := by decide +kernel
theorem dX11_pickedParts_43 : decode cX11_pickedParts 43 = .ok (.getfield 50, 3) := by decide +kernel
theorem dX11_pickedParts_46 : decode cX11_pickedParts 46 = .ok (.iload_n 3, 1) := by decide +kernel
theorem dX11_pickedParts_47 : decode cX11_pickedParts 47 = .ok (.iaload, 1) := by decide +kernel
theorem dX11_pickedParts_48 : decode cX11_pickedParts 48 = .ok (.invokestatic 209, 3) := by decide +kernel
theorem dX11_pickedParts_51 : decode cX11_pickedParts 51 = .ok (.idiv, 1) := by decide +kernel
theorem dX11_pickedParts_52 : decode cX11_pickedParts 52 = .ok (.goto 4, 3) := by decide +kernel
theorem dX11_pickedParts_55 : decode cX11_pickedParts 55 = .ok (.iconst 0, 1) := by decide +kernel
theorem dX11_pickedParts_56 : decode cX11_pickedParts 56 = .ok (.iadd, 1) := by decide +kernel
theorem dX11_pickedParts_57 : decode cX11_pickedParts 57 = .ok (.istore_n 2, 1) := by decide +kernel
theorem dX11_pickedParts_58 : decode cX11_pickedParts 58 = .ok (.iinc 3 1, 3) := by decide +kernel
theorem dX11_pickedParts_61 : decode cX11_pickedParts 61 = .ok (.goto (-42), 3) := by decide +kernel
theorem dX11_pickedParts_64 : decode cX11_pickedParts 64 = .ok (.iload_n 2, 1) := by decide +kernel
theorem dX11_pickedParts_65 : decode cX11_pickedParts 65 = .ok (.ireturn, 1) := by decide +kernel
set_option maxRecDepth 20000 in
theorem ggX11_meanNow_X11_ones : GoodIn wsX11_meanNow wsX11_ones := goodIn_r _ [7] (by decide +kernel) (by decide +kernel)
set_option maxRecDepth 20000 in
theorem gX11_meanNow_X11_ones : GoodIn wsX11_meanNow (va_wsS RX11 209 yX11_ones wsX11_ones) := goodIn_app (goodIn_of _ (by decide +kernel)) ggX11_meanNow_X11_ones
set_option maxRecDepth 20000 in
theorem ggX11_meanNow_X11_pickedParts : GoodIn wsX11_meanNow wsX11_pickedParts := goodIn_r _ [11, 1, 12, 13, 6, 14, 4, 5, 7, 22, 23, 24, 25, 26, 27, 28, 29, 30, 31, 32, 33, 34, 35, 36, 37, 38, 39, 40, 41, 42, 43, 44, 45, 46, 47, 48] (by decide +kernel) (by decide +kernel)
set_option maxRecDepth 20000 in
theorem gX11_meanNow_X11_pickedParts : GoodIn wsX11_meanNow (wsV RX11 212 RX11 yX11_pickedParts wsX11_pickedParts) := goodIn_app (goodIn_of _ (by decide +kernel)) ggX11_meanNow_X11_pickedParts
set_option maxRecDepth 20000 in
theorem ggX11_meanNow_X11_no : GoodIn wsX11_meanNow wsX11_no := goodIn_r _ [17, 18] (by decide +kernel) (by decide +kernel)
set_option maxRecDepth 20000 in
theorem gX11_meanNow_X11_no : GoodIn wsX11_meanNow (va_wsS RX11 109 yX11_no wsX11_no) := goodIn_app (goodIn_of _ (by decide +kernel)) ggX11_meanNow_X11_no
set_option maxRecDepth 20000 in
theorem ggX11_meanNow_X11_lowest : GoodIn wsX11_meanNow wsX11_lowest := goodIn_r _ [21] (by decide +kernel) (by decide +kernel)
set_option maxRecDepth 20000 in
theorem gX11_meanNow_X11_lowest : GoodIn wsX11_meanNow (va_wsS RX11 115 yX11_lowest wsX11_lowest) := goodIn_app (goodIn_of _ (by decide +kernel)) ggX11_meanNow_X11_lowest
theorem dX11_meanNow_0 : decode cX11_meanNow 0 = .ok (.iconst 0, 1) := by decide +kernel
theorem dX11_meanNow_1 : decode cX11_meanNow 1 = .ok (.istore_n 3, 1) := by decide +kernel
theorem dX11_meanNow_2 : decode cX11_meanNow 2 = .ok (.iconst 0, 1) := by decide +kernel
theorem dX11_meanNow_3 : decode cX11_meanNow 3 = .ok (.istore 4, 2) := by decide +kernel
theorem dX11_meanNow_5 : decode cX11_meanNow 5 = .ok (.iconst 0, 1) := by decide +kernel
theorem dX11_meanNow_6 : decode cX11_meanNow 6 = .ok (.istore 5, 2) := by decide +kernel
theorem dX11_meanNow_8 : decode cX11_meanNow 8 = .ok (.iconst 0, 1) := by decide +kernel
theorem dX11_meanNow_9 : decode cX11_meanNow 9 = .ok (.istore 6, 2) := by decide +kernel
theorem dX11_meanNow_11 : decode cX11_meanNow 11 = .ok (.iload 6, 2) := by decide +kernel
theorem dX11_meanNow_13 : decode cX11_meanNow 13 = .ok (.bipush 8, 2) := by decide +kernel
theorem dX11_meanNow_15 : decode cX11_meanNow 15 = .ok (.if_icmp .ge 50, 3) := by decide +kernel
theorem dX11_meanNow_18 : decode cX11_meanNow 18 = .ok (.aload_n 0, 1) := by decide +kernel
theorem dX11_meanNow_19 : decode cX11_meanNow 19 = .ok (.getfield 50, 3) := by decide +kernel
theorem dX11_meanNow_22 : decode cX11_meanNow 22 = .ok (.iload 6, 2) := by decide +kernel
theorem dX11_meanNow_24 : decode cX11_meanNow 24 = .ok (.iaload, 1) := by decide +kernel
theorem dX11_meanNow_25 : decode cX11_meanNow 25 = .ok (.invokestatic 209, 3) := by decide +kernel
theorem dX11_meanNow_28 : decode cX11_meanNow 28 = .ok (.istore 7, 2) := by decide +kernel
theorem dX11_meanNow_30 : decode cX11_meanNow 30 = .ok (.iload_n 3, 1) := by decide +kernel
theorem dX11_meanNow_31 : decode cX11_meanNow 31 = .ok (.iload 7, 2) := by decide +kernel
theorem dX11_meanNow_33 : decode cX11_meanNow 33 = .ok (.iadd, 1) := by decide +kernel
theorem dX11_meanNow_34 : decode cX11_meanNow 34 = .ok (.istore_n 3, 1) := by decide +kernel
theorem dX11_meanNow_35 : decode cX11_meanNow 35 = .ok (.iload 4, 2) := by decide +kernel
theorem dX11_meanNow_37 : decode cX11_meanNow 37 = .ok (.iload 7, 2) := by decide +kernel
theorem dX11_meanNow_39 : decode cX11_meanNow 39 = .ok (.iload 7, 2) := by decide +kernel
theorem dX11_meanNow_41 : decode cX11_meanNow 41 = .ok (.imul, 1) := by decide +kernel
theorem dX11_meanNow_42 : decode cX11_meanNow 42 = .ok (.iadd, 1) := by decide +kernel
theorem dX11_meanNow_43 : decode cX11_meanNow 43 = .ok (.istore 4, 2) := by decide +kernel
theorem dX11_meanNow_45 : decode cX11_meanNow 45 = .ok (.iload 5, 2) := by decide +kernel
theorem dX11_meanNow_47 : decode cX11_meanNow 47 = .ok (.iload 7, 2) := by decide +kernel
theorem dX11_meanNow_49 : decode cX11_meanNow 49 = .ok (.aload_n 0, 1) := by decide +kernel
theorem dX11_meanNow_50 : decode cX11_meanNow 50 = .ok (.iload 6, 2) := by decide +kernel
theorem dX11_meanNow_52 : decode cX11_meanNow 52 = .ok (.invokevirtual 212, 3) := by decide +kernel
theorem dX11_meanNow_55 : decode cX11_meanNow 55 = .ok (.imul, 1) := by decide +kernel
theorem dX11_meanNow_56 : decode cX11_meanNow 56 = .ok (.iadd, 1) := by decide +kernel
theorem dX11_meanNow_57 : decode cX11_meanNow 57 = .ok (.istore 5, 2) := by decide +kernel
theorem dX11_meanNow_59 : decode cX11_meanNow 59 = .ok (.iinc 6 1, 3) := by decide +kernel
theorem dX11_meanNow_62 : decode cX11_meanNow 62 = .ok (.goto (-51), 3) := by decide +kernel
theorem dX11_meanNow_65 : decode cX11_meanNow 65 = .ok (.iload_n 1, 1) := by decide +kernel
theorem dX11_meanNow_66 : decode cX11_meanNow 66 = .ok (.iconst 1, 1) := by decide +kernel
theorem dX11_meanNow_67 : decode cX11_meanNow 67 = .ok (.if_icmp .ne 25, 3) := by decide +kernel
theorem dX11_meanNow_70 : decode cX11_meanNow 70 = .ok (.iload_n 3, 1) := by decide +kernel
theorem dX11_meanNow_71 : decode cX11_meanNow 71 = .ok (.ifCond .ne 11, 3) := by decide +kernel
theorem dX11_meanNow_74 : decode cX11_meanNow 74 = .ok (.bipush (-3), 2) := by decide +kernel
theorem dX11_meanNow_76 : decode cX11_meanNow 76 = .ok (.invokestatic 109, 3) := by decide +kernel
theorem dX11_meanNow_79 : decode cX11_meanNow 79 = .ok (.goto 12, 3) := by decide +kernel
theorem dX11_meanNow_82 : decode cX11_meanNow 82 = .ok (.iload 4, 2) := by decide +kernel
theorem dX11_meanNow_84 : decode cX11_meanNow 84 = .ok (.i2l, 1) := by decide +kernel
theorem dX11_meanNow_85 : decode cX11_meanNow 85 = .ok (.iload_n 3, 1) := by decide +kernel
theorem dX11_meanNow_86 : decode cX11_meanNow 86 = .ok (.i2l, 1) := by decide +kernel
theorem dX11_meanNow_87 : decode cX11_meanNow 87 = .ok (.iload_n 2, 1) := by decide +kernel
theorem dX11_meanNow_88 : decode cX11_meanNow 88 = .ok (.invokestatic 115, 3) := by decide +kernel
theorem dX11_meanNow_91 : decode cX11_meanNow 91 = .ok (.lreturn, 1) := by decide +kernel
theorem dX11_meanNow_92 : decode cX11_meanNow 92 = .ok (.iload_n 1, 1) := by decide +kernel
theorem dX11_meanNow_93 : decode cX11_meanNow 93 = .ok (.ifCond .ne 15, 3) := by decide +kernel
theorem dX11_meanNow_96 : decode cX11_meanNow 96 = .ok (.iload_n 3, 1) := by decide +kernel
theorem dX11_meanNow_97 : decode cX11_meanNow 97 = .ok (.i2l, 1) := by decide +kernel
theorem dX11_meanNow_98 : decode cX11_meanNow 98 = .ok (.ldc2_w 215, 3) := by decide +kernel
theorem dX11_meanNow_101 : decode cX11_meanNow 101 = .ok (.iload_n 2, 1) := by decide +kernel
theorem dX11_meanNow_102 : decode cX11_meanNow 102 = .ok (.invokestatic 115, 3) := by decide +kernel
theorem dX11_meanNow_105 : decode cX11_meanNow 105 = .ok (.goto 13, 3) := by decide +kernel
theorem dX11_meanNow_108 : decode cX11_meanNow 108 = .ok (.iload 5, 2) := by decide +kernel
theorem dX11_meanNow_110 : decode cX11_meanNow 110 = .ok (.i2l, 1) := by decide +kernel
theorem dX11_meanNow_111 : decode cX11_meanNow 111 = .ok (.ldc2_w 217, 3) := by decide +kernel
theorem dX11_meanNow_114 : decode cX11_meanNow 114 = .ok (.iload_n 2, 1) := by decide +kernel
theorem dX11_meanNow_115 : decode cX11_meanNow 115 = .ok (.invokestatic 115, 3) := by decide +kernel
theorem dX11_meanNow_118 : decode cX11_meanNow 118 = .ok (.lreturn, 1) := by decide +kernel
set_option maxRecDepth 20000 in
theorem ggX11_mean_X11_in : GoodIn wsX11_mean wsX11_in := goodIn_r _ [4] (by decide +kernel) (by decide +kernel)
set_option maxRecDepth 20000 in
theorem gX11_mean_X11_in : GoodIn wsX11_mean (va_wsS RX11 74 yX11_in wsX11_in) := goodIn_app (goodIn_of _ (by decide +kernel)) ggX11_mean_X11_in
set_option maxRecDepth 20000 in
theorem ggX11_mean_X11_meanNow : GoodIn wsX11_mean wsX11_meanNow := goodIn_r _ [8, 9, 10, 11, 12, 13, 3, 14, 15, 16, 17, 18, 19, 20, 21, 22, 23, 24, 25, 26, 27, 28, 29, 30, 31, 32, 33, 34, 35, 36, 37, 38, 39, 40, 41, 42, 43, 44, 45, 46, 47, 48, 49, 50, 51, 52, 53, 54, 55] (by decide +kernel) (by decide +kernel)
set_option maxRecDepth 20000 in
theorem gX11_mean_X11_meanNow : GoodIn wsX11_mean (wsV RX11 219 RX11 yX11_meanNow wsX11_meanNow) := goodIn_app (goodIn_of _ (by decide +kernel)) ggX11_mean_X11_meanNow
set_option maxRecDepth 20000 in
theorem ggX11_mean_X11_no : GoodIn wsX11_mean wsX11_no := goodIn_r _ [24, 25] (by decide +kernel) (by decide +kernel)
set_option maxRecDepth 20000 in
theorem gX11_mean_X11_no : GoodIn wsX11_mean (va_wsS RX11 109 yX11_no wsX11_no) := goodIn_app (goodIn_of _ (by decide +kernel)) ggX11_mean_X11_no
theorem dX11_mean_0 : decode cX11_mean 0 = .ok (.iload_n 1, 1) := by decide +kernel
theorem dX11_mean_1 : decode cX11_mean 1 = .ok (.iconst 0, 1) := by decide +kernel
theorem dX11_mean_2 : decode cX11_mean 2 = .ok (.iconst 2, 1) := by decide +kernel
theorem dX11_mean_3 : decode cX11_mean 3 = .ok (.invokestatic 74, 3) := by decide +kernel
theorem dX11_mean_6 : decode cX11_mean 6 = .ok (.ifCond .eq 21, 3) := by decide +kernel
theorem dX11_mean_9 : decode cX11_mean 9 = .ok (.iload_n 2, 1) := by decide +kernel
theorem dX11_mean_10 : decode cX11_mean 10 = .ok (.iconst 0, 1) := by decide +kernel
theorem dX11_mean_11 : decode cX11_mean 11 = .ok (.iconst 1, 1) := by decide +kernel
theorem dX11_mean_12 : decode cX11_mean 12 = .ok (.invokestatic 74, 3) := by decide +kernel
theorem dX11_mean_15 : decode cX11_mean 15 = .ok (.ifCond .eq 12, 3) := by decide +kernel
theorem dX11_mean_18 : decode cX11_mean 18 = .ok (.aload_n 0, 1) := by decide +kernel
theorem dX11_mean_19 : decode cX11_mean 19 = .ok (.iload_n 1, 1) := by decide +kernel
theorem dX11_mean_20 : decode cX11_mean 20 = .ok (.iload_n 2, 1) := by decide +kernel
theorem dX11_mean_21 : decode cX11_mean 21 = .ok (.invokevirtual 219, 3) := by decide +kernel
theorem dX11_mean_24 : decode cX11_mean 24 = .ok (.goto 8, 3) := by decide +kernel
theorem dX11_mean_27 : decode cX11_mean 27 = .ok (.bipush (-2), 2) := by decide +kernel
theorem dX11_mean_29 : decode cX11_mean 29 = .ok (.invokestatic 109, 3) := by decide +kernel
theorem dX11_mean_32 : decode cX11_mean 32 = .ok (.lreturn, 1) := by decide +kernel
set_option maxRecDepth 20000 in
theorem ggX11_fewerNow_X11_ones : GoodIn wsX11_fewerNow wsX11_ones := goodIn_r _ [5] (by decide +kernel) (by decide +kernel)
set_option maxRecDepth 20000 in
theorem gX11_fewerNow_X11_ones : GoodIn wsX11_fewerNow (va_wsS RX11 209 yX11_ones wsX11_ones) := goodIn_app (goodIn_of _ (by decide +kernel)) ggX11_fewerNow_X11_ones
set_option maxRecDepth 20000 in
theorem ggX11_fewerNow_X11_has : GoodIn wsX11_fewerNow wsX11_has := goodIn_r _ [8] (by decide +kernel) (by decide +kernel)
set_option maxRecDepth 20000 in
theorem gX11_fewerNow_X11_has : GoodIn wsX11_fewerNow (va_wsS RX11 206 yX11_has wsX11_has) := goodIn_app (goodIn_of _ (by decide +kernel)) ggX11_fewerNow_X11_has
theorem dX11_fewerNow_0 : decode cX11_fewerNow 0 = .ok (.iconst 0, 1) := by decide +kernel
theorem dX11_fewerNow_1 : decode cX11_fewerNow 1 = .ok (.istore_n 1, 1) := by decide +kernel
theorem dX11_fewerNow_2 : decode cX11_fewerNow 2 = .ok (.iconst 0, 1) := by decide +kernel
theorem dX11_fewerNow_3 : decode cX11_fewerNow 3 = .ok (.istore_n 2, 1) := by decide +kernel
theorem dX11_fewerNow_4 : decode cX11_fewerNow 4 = .ok (.iload_n 2, 1) := by decide +kernel
theorem dX11_fewerNow_5 : decode cX11_fewerNow 5 = .ok (.bipush 8, 2) := by decide +kernel
theorem dX11_fewerNow_7 : decode cX11_fewerNow 7 = .ok (.if_icmp .ge 89, 3) := by decide +kernel
theorem dX11_fewerNow_10 : decode cX11_fewerNow 10 = .ok (.aload_n 0, 1) := by decide +kernel
theorem dX11_fewerNow_11 : decode cX11_fewerNow 11 = .ok (.getfield 50, 3) := by decide +kernel
theorem dX11_fewerNow_14 : decode cX11_fewerNow 14 = .ok (.iload_n 2, 1) := by decide +kernel
theorem dX11_fewerNow_15 : decode cX11_fewerNow 15 = .ok (.iaload, 1) := by decide +kernel
theorem dX11_fewerNow_16 : decode cX11_fewerNow 16 = .ok (.invokestatic 209, 3) := by decide +kernel
theorem dX11_fewerNow_19 : decode cX11_fewerNow 19 = .ok (.istore_n 3, 1) := by decide +kernel
theorem dX11_fewerNow_20 : decode cX11_fewerNow 20 = .ok (.iconst 0, 1) := by decide +kernel
theorem dX11_fewerNow_21 : decode cX11_fewerNow 21 = .ok (.istore 4, 2) := by decide +kernel
theorem dX11_fewerNow_23 : decode cX11_fewerNow 23 = .ok (.iconst 0, 1) := by decide +kernel
theorem dX11_fewerNow_24 : decode cX11_fewerNow 24 = .ok (.istore 5, 2) := by decide +kernel
theorem dX11_fewerNow_26 : decode cX11_fewerNow 26 = .ok (.iload 5, 2) := by decide +kernel
theorem dX11_fewerNow_28 : decode cX11_fewerNow 28 = .ok (.bipush 8, 2) := by decide +kernel
theorem dX11_fewerNow_30 : decode cX11_fewerNow 30 = .ok (.if_icmp .ge 42, 3) := by decide +kernel
theorem dX11_fewerNow_33 : decode cX11_fewerNow 33 = .ok (.iload 4, 2) := by decide +kernel
theorem dX11_fewerNow_35 : decode cX11_fewerNow 35 = .ok (.aload_n 0, 1) := by decide +kernel
theorem dX11_fewerNow_36 : decode cX11_fewerNow 36 = .ok (.getfield 50, 3) := by decide +kernel
theorem dX11_fewerNow_39 : decode cX11_fewerNow 39 = .ok (.iload_n 2, 1) := by decide +kernel
theorem dX11_fewerNow_40 : decode cX11_fewerNow 40 = .ok (.iaload, 1) := by decide +kernel
theorem dX11_fewerNow_41 : decode cX11_fewerNow 41 = .ok (.iload 5, 2) := by decide +kernel
theorem dX11_fewerNow_43 : decode cX11_fewerNow 43 = .ok (.invokestatic 206, 3) := by decide +kernel
theorem dX11_fewerNow_46 : decode cX11_fewerNow 46 = .ok (.ifCond .eq 16, 3) := by decide +kernel
theorem dX11_fewerNow_49 : decode cX11_fewerNow 49 = .ok (.aload_n 0, 1) := by decide +kernel
theorem dX11_fewerNow_50 : decode cX11_fewerNow 50 = .ok (.getfield 50, 3) := by decide +kernel
theorem dX11_fewerNow_53 : decode cX11_fewerNow 53 = .ok (.iload 5, 2) := by decide +kernel
theorem dX11_fewerNow_55 : decode cX11_fewerNow 55 = .ok (.iaload, 1) := by decide +kernel
theorem dX11_fewerNow_56 : decode cX11_fewerNow 56 = .ok (.invokestatic 209, 3) := by decide +kernel
theorem dX11_fewerNow_59 : decode cX11_fewerNow 59 = .ok (.goto 4, 3) := by decide +kernel
theorem dX11_fewerNow_62 : decode cX11_fewerNow 62 = .ok (.iconst 0, 1) := by decide +kernel
theorem dX11_fewerNow_63 : decode cX11_fewerNow 63 = .ok (.iadd, 1) := by decide +kernel
theorem dX11_fewerNow_64 : decode cX11_fewerNow 64 = .ok (.istore 4, 2) := by decide +kernel
theorem dX11_fewerNow_66 : decode cX11_fewerNow 66 = .ok (.iinc 5 1, 3) := by decide +kernel
theorem dX11_fewerNow_69 : decode cX11_fewerNow 69 = .ok (.goto (-43), 3) := by decide +kernel
theorem dX11_fewerNow_72 : decode cX11_fewerNow 72 = .ok (.iload_n 1, 1) := by decide +kernel
theorem dX11_fewerNow_73 : decode cX11_fewerNow 73 = .ok (.iload_n 3, 1) := by decide +kernel
theorem dX11_fewerNow_74 : decode cX11_fewerNow 74 = .ok (.iload_n 3, 1) := by decide +kernel
theorem dX11_fewerNow_75 : decode cX11_fewerNow 75 = .ok (.imul, 1) := by decide +kernel
theorem dX11_fewerNow_76 : decode cX11_fewerNow 76 = .ok (.iload 4, 2) := by decide +kernel
theorem dX11_fewerNow_78 : decode cX11_fewerNow 78 = .ok (.if_icmp .ge 9, 3) := by decide +kernel
theorem dX11_fewerNow_81 : decode cX11_fewerNow 81 = .ok (.iconst 1, 1) := by decide +kernel
theorem dX11_fewerNow_82 : decode cX11_fewerNow 82 = .ok (.iload_n 2, 1) := by decide +kernel
theorem dX11_fewerNow_83 : decode cX11_fewerNow 83 = .ok (.ishl, 1) := by decide +kernel
theorem dX11_fewerNow_84 : decode cX11_fewerNow 84 = .ok (.goto 4, 3) := by decide +kernel
theorem dX11_fewerNow_87 : decode cX11_fewerNow 87 = .ok (.iconst 0, 1) := by decide +kernel
theorem dX11_fewerNow_88 : decode cX11_fewerNow 88 = .ok (.ior, 1) := by decide +kernel
theorem dX11_fewerNow_89 : decode cX11_fewerNow 89 = .ok (.istore_n 1, 1) := by decide +kernel
theorem dX11_fewerNow_90 : decode cX11_fewerNow 90 = .ok (.iinc 2 1, 3) := by decide +kernel
theorem dX11_fewerNow_93 : decode cX11_fewerNow 93 = .ok (.goto (-89), 3) := by decide +kernel
theorem dX11_fewerNow_96 : decode cX11_fewerNow 96 = .ok (.iload_n 1, 1) := by decide +kernel
theorem dX11_fewerNow_97 : decode cX11_fewerNow 97 = .ok (.ireturn, 1) := by decide +kernel
set_option maxRecDepth 20000 in
theorem ggX11_fewer_X11_fewerNow : GoodIn wsX11_fewer wsX11_fewerNow := goodIn_r _ [5, 6, 7, 8, 4, 9, 10, 11, 12, 13, 14, 15, 16, 17, 18, 19, 20, 21, 22, 23, 24, 25, 26, 27, 28, 29, 30, 31, 32, 33, 34, 35, 36, 37, 38, 39] (by decide +kernel) (by decide +kernel)
set_option maxRecDepth 20000 in
theorem gX11_fewer_X11_fewerNow : GoodIn wsX11_fewer (wsV RX11 222 RX11 yX11_fewerNow wsX11_fewerNow) := goodIn_app (goodIn_of _ (by decide +kernel)) ggX11_fewer_X11_fewerNow
theorem dX11_fewer_0 : decode cX11_fewer 0 = .ok (.aload_n 0, 1) := by decide +kernel
theorem dX11_fewer_1 : decode cX11_fewer 1 = .ok (.invokevirtual 222, 3) := by decide +kernel
theorem dX11_fewer_4 : decode cX11_fewer 4 = .ok (.ireturn, 1) := by decide +kernel
set_option maxRecDepth 20000 in
theorem ggX11_picked_X11_in : GoodIn wsX11_picked wsX11_in := goodIn_r _ [5] (by decide +kernel) (by decide +kernel)
set_option maxRecDepth 20000 in
theorem gX11_picked_X11_in : GoodIn wsX11_picked (va_wsS RX11 74 yX11_in wsX11_in) := goodIn_app (goodIn_of _ (by decide +kernel)) ggX11_picked_X11_in
set_option maxRecDepth 20000 in
theorem ggX11_picked_X11_pickedParts : GoodIn wsX11_picked wsX11_pickedParts := goodIn_r _ [9, 10, 11, 12, 4, 13, 14, 15, 16, 24, 25, 26, 27, 28, 29, 30, 31, 32, 33, 34, 35, 36, 37, 38, 39, 40, 41, 42, 43, 44, 45, 46, 47, 48, 49, 50] (by decide +kernel) (by decide +kernel)
set_option maxRecDepth 20000 in
theorem gX11_picked_X11_pickedParts : GoodIn wsX11_picked (wsV RX11 212 RX11 yX11_pickedParts wsX11_pickedParts) := goodIn_app (goodIn_of _ (by decide +kernel)) ggX11_picked_X11_pickedParts
set_option maxRecDepth 20000 in
theorem ggX11_picked_X11_lowest : GoodIn wsX11_picked wsX11_lowest := goodIn_r _ [19] (by decide +kernel) (by decide +kernel)
set_option maxRecDepth 20000 in
theorem gX11_picked_X11_lowest : GoodIn wsX11_picked (va_wsS RX11 115 yX11_lowest wsX11_lowest) := goodIn_app (goodIn_of _ (by decide +kernel)) ggX11_picked_X11_lowest
set_option maxRecDepth 20000 in
theorem ggX11_picked_X11_no : GoodIn wsX11_picked wsX11_no := goodIn_r _ [22, 23] (by decide +kernel) (by decide +kernel)
set_option maxRecDepth 20000 in
theorem gX11_picked_X11_no : GoodIn wsX11_picked (va_wsS RX11 109 yX11_no wsX11_no) := goodIn_app (goodIn_of _ (by decide +kernel)) ggX11_picked_X11_no
theorem dX11_picked_0 : decode cX11_picked 0 = .ok (.iload_n 1, 1) := by decide +kernel
theorem dX11_picked_1 : decode cX11_picked 1 = .ok (.iconst 0, 1) := by decide +kernel
theorem dX11_picked_2 : decode cX11_picked 2 = .ok (.bipush 7, 2) := by decide +kernel
theorem dX11_picked_4 : decode cX11_picked 4 = .ok (.invokestatic 74, 3) := by decide +kernel
theorem dX11_picked_7 : decode cX11_picked 7 = .ok (.ifCond .eq 28, 3) := by decide +kernel
theorem dX11_picked_10 : decode cX11_picked 10 = .ok (.iload_n 2, 1) := by decide +kernel
theorem dX11_picked_11 : decode cX11_picked 11 = .ok (.iconst 0, 1) := by decide +kernel
theorem dX11_picked_12 : decode cX11_picked 12 = .ok (.iconst 1, 1) := by decide +kernel
theorem dX11_picked_13 : decode cX11_picked 13 = .ok (.invokestatic 74, 3) := by decide +kernel
theorem dX11_picked_16 : decode cX11_picked 16 = .ok (.ifCond .eq 19, 3) := by decide +kernel
theorem dX11_picked_19 : decode cX11_picked 19 = .ok (.aload_n 0, 1) := by decide +kernel
theorem dX11_picked_20 : decode cX11_picked 20 = .ok (.iload_n 1, 1) := by decide +kernel
theorem dX11_picked_21 : decode cX11_picked 21 = .ok (.invokevirtual 212, 3) := by decide +kernel
theorem dX11_picked_24 : decode cX11_picked 24 = .ok (.i2l, 1) := by decide +kernel
theorem dX11_picked_25 : decode cX11_picked 25 = .ok (.ldc2_w 217, 3) := by decide +kernel
theorem dX11_picked_28 : decode cX11_picked 28 = .ok (.iload_n 2, 1) := by decide +kernel
theorem dX11_picked_29 : decode cX11_picked 29 = .ok (.invokestatic 115, 3) := by decide +kernel
theorem dX11_picked_32 : decode cX11_picked 32 = .ok (.goto 8, 3) := by decide +kernel
theorem dX11_picked_35 : decode cX11_picked 35 = .ok (.bipush (-2), 2) := by decide +kernel
theorem dX11_picked_37 : decode cX11_picked 37 = .ok (.invokestatic 109, 3) := by decide +kernel
theorem dX11_picked_40 : decode cX11_picked 40 = .ok (.lreturn, 1) := by decide +kernel
set_option maxRecDepth 20000 in
theorem ggX11_bestNow_X11_has : GoodIn wsX11_bestNow wsX11_has := goodIn_r _ [5] (by decide +kernel) (by decide +kernel)
set_option maxRecDepth 20000 in
theorem gX11_bestNow_X11_has : GoodIn wsX11_bestNow (va_wsS RX11 206 yX11_has wsX11_has) := goodIn_app (goodIn_of _ (by decide +kernel)) ggX11_bestNow_X11_has
set_option maxRecDepth 20000 in
theorem ggX11_bestNow_X11_ones : GoodIn wsX11_bestNow wsX11_ones := goodIn_r _ [8] (by decide +kernel) (by decide +kernel)
set_option maxRecDepth 20000 in
theorem gX11_bestNow_X11_ones : GoodIn wsX11_bestNow (va_wsS RX11 209 yX11_ones wsX11_ones) := goodIn_app (goodIn_of _ (by decide +kernel)) ggX11_bestNow_X11_ones
theorem dX11_bestNow_0 : decode cX11_bestNow 0 = .ok (.iconst 0, 1) := by decide +kernel
theorem dX11_bestNow_1 : decode cX11_bestNow 1 = .ok (.istore_n 3, 1) := by decide +kernel
theorem dX11_bestNow_2 : decode cX11_bestNow 2 = .ok (.iconst (-1), 1) := by decide +kernel
theorem dX11_bestNow_3 : decode cX11_bestNow 3 = .ok (.istore 4, 2) := by decide +kernel
theorem dX11_bestNow_5 : decode cX11_bestNow 5 = .ok (.iconst 0, 1) := by decide +kernel
theorem dX11_bestNow_6 : decode cX11_bestNow 6 = .ok (.istore 5, 2) := by decide +kernel
theorem dX11_bestNow_8 : decode cX11_bestNow 8 = .ok (.iload 5, 2) := by decide +kernel
theorem dX11_bestNow_10 : decode cX11_bestNow 10 = .ok (.sipush 256, 3) := by decide +kernel
theorem dX11_bestNow_13 : decode cX11_bestNow 13 = .ok (.if_icmp .ge 112, 3) := by decide +kernel
theorem dX11_bestNow_16 : decode cX11_bestNow 16 = .ok (.iconst 0, 1) := by decide +kernel
theorem dX11_bestNow_17 : decode cX11_bestNow 17 = .ok (.istore 6, 2) := by decide +kernel
theorem dX11_bestNow_19 : decode cX11_bestNow 19 = .ok (.iconst 0, 1) := by decide +kernel
theorem dX11_bestNow_20 : decode cX11_bestNow 20 = .ok (.istore 7, 2) := by decide +kernel
theorem dX11_bestNow_22 : decode cX11_bestNow 22 = .ok (.iload 7, 2) := by decide +kernel
theorem dX11_bestNow_24 : decode cX11_bestNow 24 = .ok (.bipush 8, 2) := by decide +kernel
theorem dX11_bestNow_26 : decode cX11_bestNow 26 = .ok (.if_icmp .ge 70, 3) := by decide +kernel
theorem dX11_bestNow_29 : decode cX11_bestNow 29 = .ok (.iconst 0, 1) := by decide +kernel
theorem dX11_bestNow_30 : decode cX11_bestNow 30 = .ok (.istore 8, 2) := by decide +kernel
theorem dX11_bestNow_32 : decode cX11_bestNow 32 = .ok (.iload 8, 2) := by decide +kernel
theorem dX11_bestNow_34 : decode cX11_bestNow 34 = .ok (.iload 7, 2) := by decide +kernel
theorem dX11_bestNow_36 : decode cX11_bestNow 36 = .ok (.if_icmp .ge 54, 3) := by decide +kernel
theorem dX11_bestNow_39 : decode cX11_bestNow 39 = .ok (.iload 6, 2) := by decide +kernel
theorem dX11_bestNow_41 : decode cX11_bestNow 41 = .ok (.aload_n 0, 1) := by decide +kernel
theorem dX11_bestNow_42 : decode cX11_bestNow 42 = .ok (.getfield 50, 3) := by decide +kernel
theorem dX11_bestNow_45 : decode cX11_bestNow 45 = .ok (.iload 7, 2) := by decide +kernel
theorem dX11_bestNow_47 : decode cX11_bestNow 47 = .ok (.iaload, 1) := by decide +kernel
theorem dX11_bestNow_48 : decode cX11_bestNow 48 = .ok (.iload 8, 2) := by decide +kernel
theorem dX11_bestNow_50 : decode cX11_bestNow 50 = .ok (.invokestatic 206, 3) := by decide +kernel
theorem dX11_bestNow_53 : decode cX11_bestNow 53 = .ok (.ifCond .eq 27, 3) := by decide +kernel
theorem dX11_bestNow_56 : decode cX11_bestNow 56 = .ok (.iload 5, 2) := by decide +kernel
theorem dX11_bestNow_58 : decode cX11_bestNow 58 = .ok (.iload 7, 2) := by decide +kernel
theorem dX11_bestNow_60 : decode cX11_bestNow 60 = .ok (.invokestatic 206, 3) := by decide +kernel
theorem dX11_bestNow_63 : decode cX11_bestNow 63 = .ok (.ifCond .ne 13, 3) := by decide +kernel
theorem dX11_bestNow_66 : decode cX11_bestNow 66 = .ok (.iload 5, 2) := by decide +kernel
theorem dX11_bestNow_68 : decode cX11_bestNow 68 = .ok (.iload 8, 2) := by decide +kernel
theorem dX11_bestNow_70 : decode cX11_bestNow 70 = .ok (.invokestatic 206, 3) := by decide +kernel
theorem dX11_bestNow_73 : decode cX11_bestNow 73 = .ok (.ifCond .eq 7, 3) := by decide +kernel
theorem dX11_bestNow_76 : decode cX11_bestNow 76 = .ok (.iconst 1, 1) := by decide +kernel
theorem dX11_bestNow_77 : decode cX11_bestNow 77 = .ok (.goto 4, 3) := by decide +kernel
theorem dX11_bestNow_80 : decode cX11_bestNow 80 = .ok (.iconst 0, 1) := by decide +kernel
theorem dX11_bestNow_81 : decode cX11_bestNow 81 = .ok (.iadd, 1) := by decide +kernel
theorem dX11_bestNow_82 : decode cX11_bestNow 82 = .ok (.istore 6, 2) := by decide +kernel
theorem dX11_bestNow_84 : decode cX11_bestNow 84 = .ok (.iinc 8 1, 3) := by decide +kernel
theorem dX11_bestNow_87 : decode cX11_bestNow 87 = .ok (.goto (-55), 3) := by decide +kernel
theorem dX11_bestNow_90 : decode cX11_bestNow 90 = .ok (.iinc 7 1, 3) := by decide +kernel
theorem dX11_bestNow_93 : decode cX11_bestNow 93 = .ok (.goto (-71), 3) := by decide +kernel
theorem dX11_bestNow_96 : decode cX11_bestNow 96 = .ok (.iload 5, 2) := by decide +kernel
theorem dX11_bestNow_98 : decode cX11_bestNow 98 = .ok (.invokestatic 209, 3) := by decide +kernel
theorem dX11_bestNow_101 : decode cX11_bestNow 101 = .ok (.iload_n 1, 1) := by decide +kernel
theorem dX11_bestNow_102 : decode cX11_bestNow 102 = .ok (.if_icmp .ne 17, 3) := by decide +kernel
theorem dX11_bestNow_105 : decode cX11_bestNow 105 = .ok (.iload 6, 2) := by decide +kernel
theorem dX11_bestNow_107 : decode cX11_bestNow 107 = .ok (.iload 4, 2) := by decide +kernel
theorem dX11_bestNow_109 : decode cX11_bestNow 109 = .ok (.if_icmp .le 10, 3) := by decide +kernel
theorem dX11_bestNow_112 : decode cX11_bestNow 112 = .ok (.iload 5, 2) := by decide +kernel
theorem dX11_bestNow_114 : decode cX11_bestNow 114 = .ok (.istore_n 3, 1) := by decide +kernel
theorem dX11_bestNow_115 : decode cX11_bestNow 115 = .ok (.iload 6, 2) := by decide +kernel
theorem dX11_bestNow_117 : decode cX11_bestNow 117 = .ok (.istore 4, 2) := by decide +kernel
theorem dX11_bestNow_119 : decode cX11_bestNow 119 = .ok (.iinc 5 1, 3) := by decide +kernel
theorem dX11_bestNow_122 : decode cX11_bestNow 122 = .ok (.goto (-114), 3) := by decide +kernel
theorem dX11_bestNow_125 : decode cX11_bestNow 125 = .ok (.iload_n 2, 1) := by decide +kernel
theorem dX11_bestNow_126 : decode cX11_bestNow 126 = .ok (.ifCond .ne 7, 3) := by decide +kernel
theorem dX11_bestNow_129 : decode cX11_bestNow 129 = .ok (.iload_n 3, 1) := by decide +kernel
theorem dX11_bestNow_130 : decode cX11_bestNow 130 = .ok (.goto 5, 3) := by decide +kernel
theorem dX11_bestNow_133 : decode cX11_bestNow 133 = .ok (.iload 4, 2) := by decide +kernel
theorem dX11_bestNow_135 : decode cX11_bestNow 135 = .ok (.ireturn, 1) := by decide +kernel
set_option maxRecDepth 20000 in
theorem ggX11_best_X11_in : GoodIn wsX11_best wsX11_in := goodIn_r _ [4] (by decide +kernel) (by decide +kernel)
set_option maxRecDepth 20000 in
theorem gX11_best_X11_in : GoodIn wsX11_best (va_wsS RX11 74 yX11_in wsX11_in) := goodIn_app (goodIn_of _ (by decide +kernel)) ggX11_best_X11_in
set_option maxRecDepth 20000 in
theorem ggX11_best_X11_bestNow : GoodIn wsX11_best wsX11_bestNow := goodIn_r _ [8, 9, 10, 11, 3, 12, 13, 14, 15, 16, 17, 18, 19, 20, 21, 22, 23, 24, 25, 26, 27, 28, 29, 30, 31, 32, 33, 34, 35, 36, 37, 38, 39, 40, 41, 42] (by decide +kernel) (by decide +kernel)
set_option maxRecDepth 20000 in
theorem gX11_best_X11_bestNow : GoodIn wsX11_best (wsV RX11 225 RX11 yX11_bestNow wsX11_bestNow) := goodIn_app (goodIn_of _ (by decide +kernel)) ggX11_best_X11_bestNow
theorem dX11_best_0 : decode cX11_best 0 = .ok (.iload_n 1, 1) := by decide +kernel
theorem dX11_best_1 : decode cX11_best 1 = .ok (.iconst 1, 1) := by decide +kernel
theorem dX11_best_2 : decode cX11_best 2 = .ok (.bipush 8, 2) := by decide +kernel
theorem dX11_best_4 : decode cX11_best 4 = .ok (.invokestatic 74, 3) := by decide +kernel
theorem dX11_best_7 : decode cX11_best 7 = .ok (.ifCond .eq 21, 3) := by decide +kernel
theorem dX11_best_10 : decode cX11_best 10 = .ok (.iload_n 2, 1) := by decide +kernel
theorem dX11_best_11 : decode cX11_best 11 = .ok (.iconst 0, 1) := by decide +kernel
theorem dX11_best_12 : decode cX11_best 12 = .ok (.iconst 1, 1) := by decide +kernel
theorem dX11_best_13 : decode cX11_best 13 = .ok (.invokestatic 74, 3) := by decide +kernel
theorem dX11_best_16 : decode cX11_best 16 = .ok (.ifCond .eq 12, 3) := by decide +kernel
theorem dX11_best_19 : decode cX11_best 19 = .ok (.aload_n 0, 1) := by decide +kernel
theorem dX11_best_20 : decode cX11_best 20 = .ok (.iload_n 1, 1) := by decide +kernel
theorem dX11_best_21 : decode cX11_best 21 = .ok (.iload_n 2, 1) := by decide +kernel
theorem dX11_best_22 : decode cX11_best 22 = .ok (.invokevirtual 225, 3) := by decide +kernel
theorem dX11_best_25 : decode cX11_best 25 = .ok (.goto 5, 3) := by decide +kernel
theorem dX11_best_28 : decode cX11_best 28 = .ok (.bipush (-2), 2) := by decide +kernel
theorem dX11_best_30 : decode cX11_best 30 = .ok (.ireturn, 1) := by decide +kernel
set_option maxRecDepth 20000 in
theorem ggX11_piece_X11_in : GoodIn wsX11_piece wsX11_in := goodIn_r _ [6] (by decide +kernel) (by decide +kernel)
set_option maxRecDepth 20000 in
theorem gX11_piece_X11_in : GoodIn wsX11_piece (va_wsS RX11 74 yX11_in wsX11_in) := goodIn_app (goodIn_of _ (by decide +kernel)) ggX11_piece_X11_in
theorem dX11_piece_0 : decode cX11_piece 0 = .ok (.iload_n 1, 1) := by decide +kernel
theorem dX11_piece_1 : decode cX11_piece 1 = .ok (.iconst 1, 1) := by decide +kernel
theorem dX11_piece_2 : decode cX11_piece 2 = .ok (.bipush 20, 2) := by decide +kernel
theorem dX11_piece_4 : decode cX11_piece 4 = .ok (.invokestatic 74, 3) := by decide +kernel
theorem dX11_piece_7 : decode cX11_piece 7 = .ok (.ifCond .ne 6, 3) := by decide +kernel
theorem dX11_piece_10 : decode cX11_piece 10 = .ok (.bipush (-2), 2) := by decide +kernel
theorem dX11_piece_12 : decode cX11_piece 12 = .ok (.ireturn, 1) := by decide +kernel
theorem dX11_piece_13 : decode cX11_piece 13 = .ok (.aload_n 0, 1) := by decide +kernel
theorem dX11_piece_14 : decode cX11_piece 14 = .ok (.getfield 228, 3) := by decide +kernel
theorem dX11_piece_17 : decode cX11_piece 17 = .ok (.bipush 8, 2) := by decide +kernel
theorem dX11_piece_19 : decode cX11_piece 19 = .ok (.if_icmp .ne 6, 3) := by decide +kernel
theorem dX11_piece_22 : decode cX11_piece 22 = .ok (.bipush (-4), 2) := by decide +kernel
theorem dX11_piece_24 : decode cX11_piece 24 = .ok (.ireturn, 1) := by decide +kernel
theorem dX11_piece_25 : decode cX11_piece 25 = .ok (.aload_n 0, 1) := by decide +kernel
theorem dX11_piece_26 : decode cX11_piece 26 = .ok (.getfield 53, 3) := by decide +kernel
theorem dX11_piece_29 : decode cX11_piece 29 = .ok (.aload_n 0, 1) := by decide +kernel
theorem dX11_piece_30 : decode cX11_piece 30 = .ok (.getfield 228, 3) := by decide +kernel
theorem dX11_piece_33 : decode cX11_piece 33 = .ok (.iload_n 1, 1) := by decide +kernel
theorem dX11_piece_34 : decode cX11_piece 34 = .ok (.iastore, 1) := by decide +kernel
theorem dX11_piece_35 : decode cX11_piece 35 = .ok (.aload_n 0, 1) := by decide +kernel
theorem dX11_piece_36 : decode cX11_piece 36 = .ok (.dup, 1) := by decide +kernel
theorem dX11_piece_37 : decode cX11_piece 37 = .ok (.getfield 228, 3) := by decide +kernel
theorem dX11_piece_40 : decode cX11_piece 40 = .ok (.iconst 1, 1) := by decide +kernel
theorem dX11_piece_41 : decode cX11_piece 41 = .ok (.iadd, 1) := by decide +kernel
theorem dX11_piece_42 : decode cX11_piece 42 = .ok (.putfield 228, 3) := by decide +kernel
theorem dX11_piece_45 : decode cX11_piece 45 = .ok (.aload_n 0, 1) := by decide +kernel
theorem dX11_piece_46 : decode cX11_piece 46 = .ok (.getfield 228, 3) := by decide +kernel
theorem dX11_piece_49 : decode cX11_piece 49 = .ok (.ireturn, 1) := by decide +kernel
theorem dX11_snap_0 : decode cX11_snap 0 = .ok (.aload_n 0, 1) := by decide +kernel
theorem dX11_snap_1 : decode cX11_snap 1 = .ok (.getfield 228, 3) := by decide +kernel
theorem dX11_snap_4 : decode cX11_snap 4 = .ok (.istore_n 1, 1) := by decide +kernel
theorem dX11_snap_5 : decode cX11_snap 5 = .ok (.aload_n 0, 1) := by decide +kernel
theorem dX11_snap_6 : decode cX11_snap 6 = .ok (.iconst 0, 1) := by decide +kernel
theorem dX11_snap_7 : decode cX11_snap 7 = .ok (.putfield 228, 3) := by decide +kernel
theorem dX11_snap_10 : decode cX11_snap 10 = .ok (.iload_n 1, 1) := by decide +kernel
theorem dX11_snap_11 : decode cX11_snap 11 = .ok (.ireturn, 1) := by decide +kernel
theorem dX11_whole_0 : decode cX11_whole 0 = .ok (.iconst 0, 1) := by decide +kernel
theorem dX11_whole_1 : decode cX11_whole 1 = .ok (.istore_n 1, 1) := by decide +kernel
theorem dX11_whole_2 : decode cX11_whole 2 = .ok (.iconst 0, 1) := by decide +kernel
theorem dX11_whole_3 : decode cX11_whole 3 = .ok (.istore_n 2, 1) := by decide +kernel
theorem dX11_whole_4 : decode cX11_whole 4 = .ok (.iload_n 2, 1) := by decide +kernel
theorem dX11_whole_5 : decode cX11_whole 5 = .ok (.aload_n 0, 1) := by decide +kernel
theorem dX11_whole_6 : decode cX11_whole 6 = .ok (.getfield 228, 3) := by decide +kernel
theorem dX11_whole_9 : decode cX11_whole 9 = .ok (.if_icmp .ge 18, 3) := by decide +kernel
theorem dX11_whole_12 : decode cX11_whole 12 = .ok (.iload_n 1, 1) := by decide +kernel
theorem dX11_whole_13 : decode cX11_whole 13 = .ok (.aload_n 0, 1) := by decide +kernel
theorem dX11_whole_14 : decode cX11_whole 14 = .ok (.getfield 53, 3) := by decide +kernel
theorem dX11_whole_17 : decode cX11_whole 17 = .ok (.iload_n 2, 1) := by decide +kernel
theorem dX11_whole_18 : decode cX11_whole 18 = .ok (.iaload, 1) := by decide +kernel
theorem dX11_whole_19 : decode cX11_whole 19 = .ok (.iadd, 1) := by decide +kernel
theorem dX11_whole_20 : decode cX11_whole 20 = .ok (.istore_n 1, 1) := by decide +kernel
theorem dX11_whole_21 : decode cX11_whole 21 = .ok (.iinc 2 1, 3) := by decide +kernel
theorem dX11_whole_24 : decode cX11_whole 24 = .ok (.goto (-20), 3) := by decide +kernel
theorem dX11_whole_27 : decode cX11_whole 27 = .ok (.iload_n 1, 1) := by decide +kernel
theorem dX11_whole_28 : decode cX11_whole 28 = .ok (.ireturn, 1) := by decide +kernel
theorem dX11_power_0 : decode cX11_power 0 = .ok (.lconst 1, 1) := by decide +kernel
theorem dX11_power_1 : decode cX11_power 1 = .ok (.lstore_n 2, 1) := by decide +kernel
theorem dX11_power_2 : decode cX11_power 2 = .ok (.iconst 0, 1) := by decide +kernel
theorem dX11_power_3 : decode cX11_power 3 = .ok (.istore 4, 2) := by decide +kernel
theorem dX11_power_5 : decode cX11_power 5 = .ok (.iload 4, 2) := by decide +kernel
theorem dX11_power_7 : decode cX11_power 7 = .ok (.iload_n 1, 1) := by decide +kernel
theorem dX11_power_8 : decode cX11_power 8 = .ok (.if_icmp .ge 14, 3) := by decide +kernel
theorem dX11_power_11 : decode cX11_power 11 = .ok (.lload_n 2, 1) := by decide +kernel
theorem dX11_power_12 : decode cX11_power 12 = .ok (.iload_n 0, 1) := by decide +kernel
theorem dX11_power_13 : decode cX11_power 13 = .ok (.i2l, 1) := by decide +kernel
theorem dX11_power_14 : decode cX11_power 14 = .ok (.lmul, 1) := by decide +kernel
theorem dX11_power_15 : decode cX11_power 15 = .ok (.lstore_n 2, 1) := by decide +kernel
theorem dX11_power_16 : decode cX11_power 16 = .ok (.iinc 4 1, 3) := by decide +kernel
theorem dX11_power_19 : decode cX11_power 19 = .ok (.goto (-14), 3) := by decide +kernel
theorem dX11_power_22 : decode cX11_power 22 = .ok (.lload_n 2, 1) := by decide +kernel
theorem dX11_power_23 : decode cX11_power 23 = .ok (.lreturn, 1) := by decide +kernel
set_option maxRecDepth 20000 in
theorem ggX11_hit_X11_in : GoodIn wsX11_hit wsX11_in := goodIn_r _ [6] (by decide +kernel) (by decide +kernel)
set_option maxRecDepth 20000 in
theorem gX11_hit_X11_in : GoodIn wsX11_hit (va_wsS RX11 74 yX11_in wsX11_in) := goodIn_app (goodIn_of _ (by decide +kernel)) ggX11_hit_X11_in
set_option maxRecDepth 20000 in
theorem ggX11_hit_X11_no : GoodIn wsX11_hit wsX11_no := goodIn_r _ [9, 10] (by decide +kernel) (by decide +kernel)
set_option maxRecDepth 20000 in
theorem gX11_hit_X11_no : GoodIn wsX11_hit (va_wsS RX11 109 yX11_no wsX11_no) := goodIn_app (goodIn_of _ (by decide +kernel)) ggX11_hit_X11_no
set_option maxRecDepth 20000 in
theorem ggX11_hit_X11_whole : GoodIn wsX11_hit wsX11_whole := goodIn_r _ [14, 1, 2, 21, 22, 23, 24, 25, 26, 27, 28, 29, 30, 31, 32, 33, 34, 35, 36, 37, 38, 39, 40, 41, 42, 43, 44, 45, 46, 47] (by decide +kernel) (by decide +kernel)
set_option maxRecDepth 20000 in
theorem gX11_hit_X11_whole : GoodIn wsX11_hit (wsV RX11 231 RX11 yX11_whole wsX11_whole) := goodIn_app (goodIn_of _ (by decide +kernel)) ggX11_hit_X11_whole
set_option maxRecDepth 20000 in
theorem ggX11_hit_X11_power : GoodIn wsX11_hit wsX11_power := goodIn_r _ [17] (by decide +kernel) (by decide +kernel)
set_option maxRecDepth 20000 in
theorem gX11_hit_X11_power : GoodIn wsX11_hit (va_wsS RX11 234 yX11_power wsX11_power) := goodIn_app (goodIn_of _ (by decide +kernel)) ggX11_hit_X11_power
set_option maxRecDepth 20000 in
theorem ggX11_hit_X11_lowest : GoodIn wsX11_hit wsX11_lowest := goodIn_r _ [20] (by decide +kernel) (by decide +kernel)
set_option maxRecDepth 20000 in
theorem gX11_hit_X11_lowest : GoodIn wsX11_hit (va_wsS RX11 115 yX11_lowest wsX11_lowest) := goodIn_app (goodIn_of _ (by decide +kernel)) ggX11_hit_X11_lowest
theorem dX11_hit_0 : decode cX11_hit 0 = .ok (.iload_n 1, 1) := by decide +kernel
theorem dX11_hit_1 : decode cX11_hit 1 = .ok (.iconst 0, 1) := by decide +kernel
theorem dX11_hit_2 : decode cX11_hit 2 = .ok (.aload_n 0, 1) := by decide +kernel
theorem dX11_hit_3 : decode cX11_hit 3 = .ok (.getfield 228, 3) := by decide +kernel
theorem dX11_hit_6 : decode cX11_hit 6 = .ok (.iconst 1, 1) := by decide +kernel
theorem dX11_hit_7 : decode cX11_hit 7 = .ok (.isub, 1) := by decide +kernel
theorem dX11_hit_8 : decode cX11_hit 8 = .ok (.invokestatic 74, 3) := by decide +kernel
theorem dX11_hit_11 : decode cX11_hit 11 = .ok (.ifCond .eq 21, 3) := by decide +kernel
theorem dX11_hit_14 : decode cX11_hit 14 = .ok (.iload_n 2, 1) := by decide +kernel
theorem dX11_hit_15 : decode cX11_hit 15 = .ok (.iconst 1, 1) := by decide +kernel
theorem dX11_hit_16 : decode cX11_hit 16 = .ok (.iconst 5, 1) := by decide +kernel
theorem dX11_hit_17 : decode cX11_hit 17 = .ok (.invokestatic 74, 3) := by decide +kernel
theorem dX11_hit_20 : decode cX11_hit 20 = .ok (.ifCond .eq 12, 3) := by decide +kernel
theorem dX11_hit_23 : decode cX11_hit 23 = .ok (.iload_n 3, 1) := by decide +kernel
theorem dX11_hit_24 : decode cX11_hit 24 = .ok (.iconst 0, 1) := by decide +kernel
theorem dX11_hit_25 : decode cX11_hit 25 = .ok (.iconst 1, 1) := by decide +kernel
theorem dX11_hit_26 : decode cX11_hit 26 = .ok (.invokestatic 74, 3) := by decide +kernel
theorem dX11_hit_29 : decode cX11_hit 29 = .ok (.ifCond .ne 9, 3) := by decide +kernel
theorem dX11_hit_32 : decode cX11_hit 32 = .ok (.bipush (-2), 2) := by decide +kernel
theorem dX11_hit_34 : decode cX11_hit 34 = .ok (.invokestatic 109, 3) := by decide +kernel
theorem dX11_hit_37 : decode cX11_hit 37 = .ok (.lreturn, 1) := by decide +kernel
theorem dX11_hit_38 : decode cX11_hit 38 = .ok (.aload_n 0, 1) := by decide +kernel
theorem dX11_hit_39 : decode cX11_hit 39 = .ok (.invokevirtual 231, 3) := by decide +kernel
theorem dX11_hit_42 : decode cX11_hit 42 = .ok (.iload_n 2, 1) := by decide +kernel
theorem dX11_hit_43 : decode cX11_hit 43 = .ok (.invokestatic 234, 3) := by decide +kernel
theorem dX11_hit_46 : decode cX11_hit 46 = .ok (.lstore 4, 2) := by decide +kernel
theorem dX11_hit_48 : decode cX11_hit 48 = .ok (.lload 4, 2) := by decide +kernel
theorem dX11_hit_50 : decode cX11_hit 50 = .ok (.aload_n 0, 1) := by decide +kernel
theorem dX11_hit_51 : decode cX11_hit 51 = .ok (.invokevirtual 231, 3) := by decide +kernel
theorem dX11_hit_54 : decode cX11_hit 54 = .ok (.aload_n 0, 1) := by decide +kernel
theorem dX11_hit_55 : decode cX11_hit 55 = .ok (.getfield 53, 3) := by decide +kernel
theorem dX11_hit_58 : decode cX11_hit 58 = .ok (.iload_n 1, 1) := by decide +kernel
theorem dX11_hit_59 : decode cX11_hit 59 = .ok (.iaload, 1) := by decide +kernel
theorem dX11_hit_60 : decode cX11_hit 60 = .ok (.isub, 1) := by decide +kernel
theorem dX11_hit_61 : decode cX11_hit 61 = .ok (.iload_n 2, 1) := by decide +kernel
theorem dX11_hit_62 : decode cX11_hit 62 = .ok (.invokestatic 234, 3) := by decide +kernel
theorem dX11_hit_65 : decode cX11_hit 65 = .ok (.lsub, 1) := by decide +kernel
theorem dX11_hit_66 : decode cX11_hit 66 = .ok (.lload 4, 2) := by decide +kernel
theorem dX11_hit_68 : decode cX11_hit 68 = .ok (.iload_n 3, 1) := by decide +kernel
theorem dX11_hit_69 : decode cX11_hit 69 = .ok (.invokestatic 115, 3) := by decide +kernel
theorem dX11_hit_72 : decode cX11_hit 72 = .ok (.lreturn, 1) := by decide +kernel
set_option maxRecDepth 20000 in
theorem ggX11_stickNow_X11_no : GoodIn wsX11_stickNow wsX11_no := goodIn_r _ [6, 7] (by decide +kernel) (by decide +kernel)
set_option maxRecDepth 20000 in
theorem gX11_stickNow_X11_no : GoodIn wsX11_stickNow (va_wsS RX11 109 yX11_no wsX11_no) := goodIn_app (goodIn_of _ (by decide +kernel)) ggX11_stickNow_X11_no
set_option maxRecDepth 20000 in
theorem ggX11_stickNow_X11_whole : GoodIn wsX11_stickNow wsX11_whole := goodIn_r _ [11, 1, 2, 24, 25, 26, 27, 28, 29, 30, 31, 32, 33, 34, 35, 36, 37, 38, 39, 40, 41, 42, 43, 44, 45, 46, 47, 48, 49, 50] (by decide +kernel) (by decide +kernel)
set_option maxRecDepth 20000 in
theorem gX11_stickNow_X11_whole : GoodIn wsX11_stickNow (wsV RX11 231 RX11 yX11_whole wsX11_whole) := goodIn_app (goodIn_of _ (by decide +kernel)) ggX11_stickNow_X11_whole
set_option maxRecDepth 20000 in
theorem ggX11_stickNow_X11_lowest : GoodIn wsX11_stickNow wsX11_lowest := goodIn_r _ [14] (by decide +kernel) (by decide +kernel)
set_option maxRecDepth 20000 in
theorem gX11_stickNow_X11_lowest : GoodIn wsX11_stickNow (va_wsS RX11 115 yX11_lowest wsX11_lowest) := goodIn_app (goodIn_of _ (by decide +kernel)) ggX11_stickNow_X11_lowest
set_option maxRecDepth 20000 in
theorem ggX11_stickNow_X11_power : GoodIn wsX11_stickNow wsX11_power := goodIn_r _ [17] (by decide +kernel) (by decide +kernel)
set_option maxRecDepth 20000 in
theorem gX11_stickNow_X11_power : GoodIn wsX11_stickNow (va_wsS RX11 234 yX11_power wsX11_power) := goodIn_app (goodIn_of _ (by decide +kernel)) ggX11_stickNow_X11_power
set_option maxRecDepth 20000 in
theorem ggX11_stickNow_X11_has : GoodIn wsX11_stickNow wsX11_has := goodIn_r _ [20] (by decide +kernel) (by decide +kernel)
set_option maxRecDepth 20000 in
theorem gX11_stickNow_X11_has : GoodIn wsX11_stickNow (va_wsS RX11 206 yX11_has wsX11_has) := goodIn_app (goodIn_of _ (by decide +kernel)) ggX11_stickNow_X11_has
set_option maxRecDepth 20000 in
theorem ggX11_stickNow_X11_ones : GoodIn wsX11_stickNow wsX11_ones := goodIn_r _ [23] (by decide +kernel) (by decide +kernel)
set_option maxRecDepth 20000 in
theorem gX11_stickNow_X11_ones : GoodIn wsX11_stickNow (va_wsS RX11 209 yX11_ones wsX11_ones) := goodIn_app (goodIn_of _ (by decide +kernel)) ggX11_stickNow_X11_ones
theorem dX11_stickNow_0 : decode cX11_stickNow 0 = .ok (.aload_n 0, 1) := by decide +kernel
theorem dX11_stickNow_1 : decode cX11_stickNow 1 = .ok (.getfield 228, 3) := by decide +kernel
theorem dX11_stickNow_4 : decode cX11_stickNow 4 = .ok (.ifCond .ne 9, 3) := by decide +kernel
theorem dX11_stickNow_7 : decode cX11_stickNow 7 = .ok (.bipush (-3), 2) := by decide +kernel
theorem dX11_stickNow_9 : decode cX11_stickNow 9 = .ok (.invokestatic 109, 3) := by decide +kernel
theorem dX11_stickNow_12 : decode cX11_stickNow 12 = .ok (.lreturn, 1) := by decide +kernel
theorem dX11_stickNow_13 : decode cX11_stickNow 13 = .ok (.aload_n 0, 1) := by decide +kernel
theorem dX11_stickNow_14 : decode cX11_stickNow 14 = .ok (.invokevirtual 231, 3) := by decide +kernel
theorem dX11_stickNow_17 : decode cX11_stickNow 17 = .ok (.istore 4, 2) := by decide +kernel
theorem dX11_stickNow_19 : decode cX11_stickNow 19 = .ok (.lconst 0, 1) := by decide +kernel
theorem dX11_stickNow_20 : decode cX11_stickNow 20 = .ok (.lstore 5, 2) := by decide +kernel
theorem dX11_stickNow_22 : decode cX11_stickNow 22 = .ok (.iload_n 1, 1) := by decide +kernel
theorem dX11_stickNow_23 : decode cX11_stickNow 23 = .ok (.ifCond .ne 52, 3) := by decide +kernel
theorem dX11_stickNow_26 : decode cX11_stickNow 26 = .ok (.iconst 0, 1) := by decide +kernel
theorem dX11_stickNow_27 : decode cX11_stickNow 27 = .ok (.istore 7, 2) := by decide +kernel
theorem dX11_stickNow_29 : decode cX11_stickNow 29 = .ok (.iload 7, 2) := by decide +kernel
theorem dX11_stickNow_31 : decode cX11_stickNow 31 = .ok (.aload_n 0, 1) := by decide +kernel
theorem dX11_stickNow_32 : decode cX11_stickNow 32 = .ok (.getfield 228, 3) := by decide +kernel
theorem dX11_stickNow_35 : decode cX11_stickNow 35 = .ok (.if_icmp .ge 30, 3) := by decide +kernel
theorem dX11_stickNow_38 : decode cX11_stickNow 38 = .ok (.lload 5, 2) := by decide +kernel
theorem dX11_stickNow_40 : decode cX11_stickNow 40 = .ok (.aload_n 0, 1) := by decide +kernel
theorem dX11_stickNow_41 : decode cX11_stickNow 41 = .ok (.getfield 53, 3) := by decide +kernel
theorem dX11_stickNow_44 : decode cX11_stickNow 44 = .ok (.iload 7, 2) := by decide +kernel
theorem dX11_stickNow_46 : decode cX11_stickNow 46 = .ok (.iaload, 1) := by decide +kernel
theorem dX11_stickNow_47 : decode cX11_stickNow 47 = .ok (.aload_n 0, 1) := by decide +kernel
theorem dX11_stickNow_48 : decode cX11_stickNow 48 = .ok (.getfield 53, 3) := by decide +kernel
theorem dX11_stickNow_51 : decode cX11_stickNow 51 = .ok (.iload 7, 2) := by decide +kernel
theorem dX11_stickNow_53 : decode cX11_stickNow 53 = .ok (.iaload, 1) := by decide +kernel
theorem dX11_stickNow_54 : decode cX11_stickNow 54 = .ok (.imul, 1) := by decide +kernel
theorem dX11_stickNow_55 : decode cX11_stickNow 55 = .ok (.i2l, 1) := by decide +kernel
theorem dX11_stickNow_56 : decode cX11_stickNow 56 = .ok (.ladd, 1) := by decide +kernel
theorem dX11_stickNow_57 : decode cX11_stickNow 57 = .ok (.lstore 5, 2) := by decide +kernel
theorem dX11_stickNow_59 : decode cX11_stickNow 59 = .ok (.iinc 7 1, 3) := by decide +kernel
theorem dX11_stickNow_62 : decode cX11_stickNow 62 = .ok (.goto (-33), 3) := by decide +kernel
theorem dX11_stickNow_65 : decode cX11_stickNow 65 = .ok (.lload 5, 2) := by decide +kernel
theorem dX11_stickNow_67 : decode cX11_stickNow 67 = .ok (.iload 4, 2) := by decide +kernel
theorem dX11_stickNow_69 : decode cX11_stickNow 69 = .ok (.i2l, 1) := by decide +kernel
theorem dX11_stickNow_70 : decode cX11_stickNow 70 = .ok (.iload_n 3, 1) := by decide +kernel
theorem dX11_stickNow_71 : decode cX11_stickNow 71 = .ok (.invokestatic 115, 3) := by decide +kernel
theorem dX11_stickNow_74 : decode cX11_stickNow 74 = .ok (.lreturn, 1) := by decide +kernel
theorem dX11_stickNow_75 : decode cX11_stickNow 75 = .ok (.iload_n 1, 1) := by decide +kernel
theorem dX11_stickNow_76 : decode cX11_stickNow 76 = .ok (.iconst 1, 1) := by decide +kernel
theorem dX11_stickNow_77 : decode cX11_stickNow 77 = .ok (.if_icmp .ne 60, 3) := by decide +kernel
theorem dX11_stickNow_80 : decode cX11_stickNow 80 = .ok (.iconst 0, 1) := by decide +kernel
theorem dX11_stickNow_81 : decode cX11_stickNow 81 = .ok (.istore 7, 2) := by decide +kernel
theorem dX11_stickNow_83 : decode cX11_stickNow 83 = .ok (.iload 7, 2) := by decide +kernel
theorem dX11_stickNow_85 : decode cX11_stickNow 85 = .ok (.aload_n 0, 1) := by decide +kernel
theorem dX11_stickNow_86 : decode cX11_stickNow 86 = .ok (.getfield 228, 3) := by decide +kernel
theorem dX11_stickNow_89 : decode cX11_stickNow 89 = .ok (.if_icmp .ge 35, 3) := by decide +kernel
theorem dX11_stickNow_92 : decode cX11_stickNow 92 = .ok (.lload 5, 2) := by decide +kernel
theorem dX11_stickNow_94 : decode cX11_stickNow 94 = .ok (.iload 4, 2) := by decide +kernel
theorem dX11_stickNow_96 : decode cX11_stickNow 96 = .ok (.iload_n 2, 1) := by decide +kernel
theorem dX11_stickNow_97 : decode cX11_stickNow 97 = .ok (.invokestatic 234, 3) := by decide +kernel
theorem dX11_stickNow_100 : decode cX11_stickNow 100 = .ok (.iload 4, 2) := by decide +kernel
theorem dX11_stickNow_102 : decode cX11_stickNow 102 = .ok (.aload_n 0, 1) := by decide +kernel
theorem dX11_stickNow_103 : decode cX11_stickNow 103 = .ok (.getfield 53, 3) := by decide +kernel
theorem dX11_stickNow_106 : decode cX11_stickNow 106 = .ok (.iload 7, 2) := by decide +kernel
theorem dX11_stickNow_108 : decode cX11_stickNow 108 = .ok (.iaload, 1) := by decide +kernel
theorem dX11_stickNow_109 : decode cX11_stickNow 109 = .ok (.isub, 1) := by decide +kernel
theorem dX11_stickNow_110 : decode cX11_stickNow 110 = .ok (.iload_n 2, 1) := by decide +kernel
theorem dX11_stickNow_111 : decode cX11_stickNow 111 = .ok (.invokestatic 234, 3) := by decide +kernel
theorem dX11_stickNow_114 : decode cX11_stickNow 114 = .ok (.lsub, 1) := by decide +kernel
theorem dX11_stickNow_115 : decode cX11_stickNow 115 = .ok (.ladd, 1) := by decide +kernel
theorem dX11_stickNow_116 : decode cX11_stickNow 116 = .ok (.lstore 5, 2) := by decide +kernel
theorem dX11_stickNow_118 : decode cX11_stickNow 118 = .ok (.iinc 7 1, 3) := by decide +kernel
theorem dX11_stickNow_121 : decode cX11_stickNow 121 = .ok (.goto (-38), 3) := by decide +kernel
theorem dX11_stickNow_124 : decode cX11_stickNow 124 = .ok (.lload 5, 2) := by decide +kernel
theorem dX11_stickNow_126 : decode cX11_stickNow 126 = .ok (.iload 4, 2) := by decide +kernel
theorem dX11_stickNow_128 : decode cX11_stickNow 128 = .ok (.iload_n 2, 1) := by decide +kernel
theorem dX11_stickNow_129 : decode cX11_stickNow 129 = .ok (.invokestatic 234, 3) := by decide +kernel
theorem dX11_stickNow_132 : decode cX11_stickNow 132 = .ok (.iload_n 3, 1) := by decide +kernel
theorem dX11_stickNow_133 : decode cX11_stickNow 133 = .ok (.invokestatic 115, 3) := by decide +kernel
theorem dX11_stickNow_136 : decode cX11_stickNow 136 = .ok (.lreturn, 1) := by decide +kernel
theorem dX11_stickNow_137 : decode cX11_stickNow 137 = .ok (.iconst 0, 1) := by decide +kernel
theorem dX11_stickNow_138 : decode cX11_stickNow 138 = .ok (.istore 7, 2) := by decide +kernel
theorem dX11_stickNow_140 : decode cX11_stickNow 140 = .ok (.iload 7, 2) := by decide +kernel
theorem dX11_stickNow_142 : decode cX11_stickNow 142 = .ok (.iconst 1, 1) := by decide +kernel
theorem dX11_stickNow_143 : decode cX11_stickNow 143 = .ok (.aload_n 0, 1) := by decide +kernel
theorem dX11_stickNow_144 : decode cX11_stickNow 144 = .ok (.getfield 228, 3) := by decide +kernel
theorem dX11_stickNow_147 : decode cX11_stickNow 147 = .ok (.ishl, 1) := by decide +kernel
theorem dX11_stickNow_148 : decode cX11_stickNow 148 = .ok (.if_icmp .ge 88, 3) := by decide +kernel
theorem dX11_stickNow_151 : decode cX11_stickNow 151 = .ok (.iload 4, 2) := by decide +kernel
theorem dX11_stickNow_153 : decode cX11_stickNow 153 = .ok (.istore 8, 2) := by decide +kernel
theorem dX11_stickNow_155 : decode cX11_stickNow 155 = .ok (.iconst 0, 1) := by decide +kernel
theorem dX11_stickNow_156 : decode cX11_stickNow 156 = .ok (.istore 9, 2) := by decide +kernel
theorem dX11_stickNow_158 : decode cX11_stickNow 158 = .ok (.iload 9, 2) := by decide +kernel
theorem dX11_stickNow_160 : decode cX11_stickNow 160 = .ok (.aload_n 0, 1) := by decide +kernel
theorem dX11_stickNow_161 : decode cX11_stickNow 161 = .ok (.getfield 228, 3) := by decide +kernel
theorem dX11_stickNow_164 : decode cX11_stickNow 164 = .ok (.if_icmp .ge 35, 3) := by decide +kernel
theorem dX11_stickNow_167 : decode cX11_stickNow 167 = .ok (.iload 8, 2) := by decide +kernel
theorem dX11_stickNow_169 : decode cX11_stickNow 169 = .ok (.iload 7, 2) := by decide +kernel
theorem dX11_stickNow_171 : decode cX11_stickNow 171 = .ok (.iload 9, 2) := by decide +kernel
theorem dX11_stickNow_173 : decode cX11_stickNow 173 = .ok (.invokestatic 206, 3) := by decide +kernel
theorem dX11_stickNow_176 : decode cX11_stickNow 176 = .ok (.ifCond .eq 13, 3) := by decide +kernel
theorem dX11_stickNow_179 : decode cX11_stickNow 179 = .ok (.aload_n 0, 1) := by decide +kernel
theorem dX11_stickNow_180 : decode cX11_stickNow 180 = .ok (.getfield 53, 3) := by decide +kernel
theorem dX11_stickNow_183 : decode cX11_stickNow 183 = .ok (.iload 9, 2) := by decide +kernel
theorem dX11_stickNow_185 : decode cX11_stickNow 185 = .ok (.iaload, 1) := by decide +kernel
theorem dX11_stickNow_186 : decode cX11_stickNow 186 = .ok (.goto 4, 3) := by decide +kernel
theorem dX11_stickNow_189 : decode cX11_stickNow 189 = .ok (.iconst 0, 1) := by decide +kernel
theorem dX11_stickNow_190 : decode cX11_stickNow 190 = .ok (.isub, 1) := by decide +kernel
theorem dX11_stickNow_191 : decode cX11_stickNow 191 = .ok (.istore 8, 2) := by decide +kernel
theorem dX11_stickNow_193 : decode cX11_stickNow 193 = .ok (.iinc 9 1, 3) := by decide +kernel
theorem dX11_stickNow_196 : decode cX11_stickNow 196 = .ok (.goto (-38), 3) := by decide +kernel
theorem dX11_stickNow_199 : decode cX11_stickNow 199 = .ok (.lload 5, 2) := by decide +kernel
theorem dX11_stickNow_201 : decode cX11_stickNow 201 = .ok (.iload 7, 2) := by decide +kernel
theorem dX11_stickNow_203 : decode cX11_stickNow 203 = .ok (.invokestatic 209, 3) := by decide +kernel
theorem dX11_stickNow_206 : decode cX11_stickNow 206 = .ok (.iconst 2, 1) := by decide +kernel
theorem dX11_stickNow_207 : decode cX11_stickNow 207 = .ok (.irem, 1) := by decide +kernel
theorem dX11_stickNow_208 : decode cX11_stickNow 208 = .ok (.ifCond .ne 12, 3) := by decide +kernel
theorem dX11_stickNow_211 : decode cX11_stickNow 211 = .ok (.iload 8, 2) := by decide +kernel
theorem dX11_stickNow_213 : decode cX11_stickNow 213 = .ok (.iload_n 2, 1) := by decide +kernel
theorem dX11_stickNow_214 : decode cX11_stickNow 214 = .ok (.invokestatic 234, 3) := by decide +kernel
theorem dX11_stickNow_217 : decode cX11_stickNow 217 = .ok (.goto 10, 3) := by decide +kernel
theorem dX11_stickNow_220 : decode cX11_stickNow 220 = .ok (.iload 8, 2) := by decide +kernel
theorem dX11_stickNow_222 : decode cX11_stickNow 222 = .ok (.iload_n 2, 1) := by decide +kernel
theorem dX11_stickNow_223 : decode cX11_stickNow 223 = .ok (.invokestatic 234, 3) := by decide +kernel
theorem dX11_stickNow_226 : decode cX11_stickNow 226 = .ok (.lneg, 1) := by decide +kernel
theorem dX11_stickNow_227 : decode cX11_stickNow 227 = .ok (.ladd, 1) := by decide +kernel
theorem dX11_stickNow_228 : decode cX11_stickNow 228 = .ok (.lstore 5, 2) := by decide +kernel
theorem dX11_stickNow_230 : decode cX11_stickNow 230 = .ok (.iinc 7 1, 3) := by decide +kernel
theorem dX11_stickNow_233 : decode cX11_stickNow 233 = .ok (.goto (-93), 3) := by decide +kernel
theorem dX11_stickNow_236 : decode cX11_stickNow 236 = .ok (.lload 5, 2) := by decide +kernel
theorem dX11_stickNow_238 : decode cX11_stickNow 238 = .ok (.iload 4, 2) := by decide +kernel
theorem dX11_stickNow_240 : decode cX11_stickNow 240 = .ok (.iload_n 2, 1) := by decide +kernel
theorem dX11_stickNow_241 : decode cX11_stickNow 241 = .ok (.invokestatic 234, 3) := by decide +kernel
theorem dX11_stickNow_244 : decode cX11_stickNow 244 = .ok (.iload_n 3, 1) := by decide +kernel
theorem dX11_stickNow_245 : decode cX11_stickNow 245 = .ok (.invokestatic 115, 3) := by decide +kernel
theorem dX11_stickNow_248 : decode cX11_stickNow 248 = .ok (.lreturn, 1) := by decide +kernel
set_option maxRecDepth 20000 in
theorem ggX11_stick_X11_in : GoodIn wsX11_stick wsX11_in := goodIn_r _ [4] (by decide +kernel) (by decide +kernel)
set_option maxRecDepth 20000 in
theorem gX11_stick_X11_in : GoodIn wsX11_stick (va_wsS RX11 74 yX11_in wsX11_in) := goodIn_app (goodIn_of _ (by decide +kernel)) ggX11_stick_X11_in
set_option maxRecDepth 20000 in
theorem ggX11_stick_X11_stickNow : GoodIn wsX11_stick wsX11_stickNow := goodIn_r _ [8, 9, 10, 11, 12, 3, 13, 14, 15, 16, 17, 18, 19, 20, 21, 22, 23, 24, 25, 26, 27, 28, 29, 30, 31, 32, 33, 34, 35, 36, 37, 38, 39, 40, 41, 42, 43, 44, 45, 46, 47, 48, 49, 50, 51, 52, 53, 54, 55, 56, 57] (by decide +kernel) (by decide +kernel)
set_option maxRecDepth 20000 in
theorem gX11_stick_X11_stickNow : GoodIn wsX11_stick (wsV RX11 237 RX11 yX11_stickNow wsX11_stickNow) := goodIn_app (goodIn_of _ (by decide +kernel)) ggX11_stick_X11_stickNow
set_option maxRecDepth 20000 in
theorem ggX11_stick_X11_no : GoodIn wsX11_stick wsX11_no := goodIn_r _ [13, 14] (by decide +kernel) (by decide +kernel)
set_option maxRecDepth 20000 in
theorem gX11_stick_X11_no : GoodIn wsX11_stick (va_wsS RX11 109 yX11_no wsX11_no) := goodIn_app (goodIn_of _ (by decide +kernel)) ggX11_stick_X11_no
theorem dX11_stick_0 : decode cX11_stick 0 = .ok (.iload_n 1, 1) := by decide +kernel
theorem dX11_stick_1 : decode cX11_stick 1 = .ok (.iconst 0, 1) := by decide +kernel
theorem dX11_stick_2 : decode cX11_stick 2 = .ok (.iconst 2, 1) := by decide +kernel
theorem dX11_stick_3 : decode cX11_stick 3 = .ok (.invokestatic 74, 3) := by decide +kernel
theorem dX11_stick_6 : decode cX11_stick 6 = .ok (.ifCond .eq 39, 3) := by decide +kernel
theorem dX11_stick_9 : decode cX11_stick 9 = .ok (.iload_n 2, 1) := by decide +kernel
theorem dX11_stick_10 : decode cX11_stick 10 = .ok (.iconst 1, 1) := by decide +kernel
theorem dX11_stick_11 : decode cX11_stick 11 = .ok (.iload_n 1, 1) := by decide +kernel
theorem dX11_stick_12 : decode cX11_stick 12 = .ok (.ifCond .ne 7, 3) := by decide +kernel
theorem dX11_stick_15 : decode cX11_stick 15 = .ok (.iconst 1, 1) := by decide +kernel
theorem dX11_stick_16 : decode cX11_stick 16 = .ok (.goto 4, 3) := by decide +kernel
theorem dX11_stick_19 : decode cX11_stick 19 = .ok (.iconst 5, 1) := by decide +kernel
theorem dX11_stick_20 : decode cX11_stick 20 = .ok (.invokestatic 74, 3) := by decide +kernel
theorem dX11_stick_23 : decode cX11_stick 23 = .ok (.ifCond .eq 22, 3) := by decide +kernel
theorem dX11_stick_26 : decode cX11_stick 26 = .ok (.iload_n 3, 1) := by decide +kernel
theorem dX11_stick_27 : decode cX11_stick 27 = .ok (.iconst 0, 1) := by decide +kernel
theorem dX11_stick_28 : decode cX11_stick 28 = .ok (.iconst 1, 1) := by decide +kernel
theorem dX11_stick_29 : decode cX11_stick 29 = .ok (.invokestatic 74, 3) := by decide +kernel
theorem dX11_stick_32 : decode cX11_stick 32 = .ok (.ifCond .eq 13, 3) := by decide +kernel
theorem dX11_stick_35 : decode cX11_stick 35 = .ok (.aload_n 0, 1) := by decide +kernel
theorem dX11_stick_36 : decode cX11_stick 36 = .ok (.iload_n 1, 1) := by decide +kernel
theorem dX11_stick_37 : decode cX11_stick 37 = .ok (.iload_n 2, 1) := by decide +kernel
theorem dX11_stick_38 : decode cX11_stick 38 = .ok (.iload_n 3, 1) := by decide +kernel
theorem dX11_stick_39 : decode cX11_stick 39 = .ok (.invokevirtual 237, 3) := by decide +kernel
theorem dX11_stick_42 : decode cX11_stick 42 = .ok (.goto 8, 3) := by decide +kernel
theorem dX11_stick_45 : decode cX11_stick 45 = .ok (.bipush (-2), 2) := by decide +kernel
theorem dX11_stick_47 : decode cX11_stick 47 = .ok (.invokestatic 109, 3) := by decide +kernel
theorem dX11_stick_50 : decode cX11_stick 50 = .ok (.lreturn, 1) := by decide +kernel
theorem dX11_meets_0 : decode cX11_meets 0 = .ok (.aload_n 0, 1) := by decide +kernel
theorem dX11_meets_1 : decode cX11_meets 1 = .ok (.iload_n 1, 1) := by decide +kernel
theorem dX11_meets_2 : decode cX11_meets 2 = .ok (.putfield 240, 3) := by decide +kernel
theorem dX11_meets_5 : decode cX11_meets 5 = .ok (.bipush (-10), 2) := by decide +kernel
theorem dX11_meets_7 : decode cX11_meets 7 = .ok (.iload_n 1, 1) := by decide +kernel
theorem dX11_meets_8 : decode cX11_meets 8 = .ok (.isub, 1) := by decide +kernel
theorem dX11_meets_9 : decode cX11_meets 9 = .ok (.ireturn, 1) := by decide +kernel
set_option maxRecDepth 20000 in
theorem ggX11_isSheet_X11_in : GoodIn wsX11_isSheet wsX11_in := goodIn_r _ [4] (by decide +kernel) (by decide +kernel)
set_option maxRecDepth 20000 in
theorem gX11_isSheet_X11_in : GoodIn wsX11_isSheet (va_wsS RX11 74 yX11_in wsX11_in) := goodIn_app (goodIn_of _ (by decide +kernel)) ggX11_isSheet_X11_in
theorem dX11_isSheet_0 : decode cX11_isSheet 0 = .ok (.iload_n 0, 1) := by decide +kernel
theorem dX11_isSheet_1 : decode cX11_isSheet 1 = .ok (.iconst 0, 1) := by decide +kernel
theorem dX11_isSheet_2 : decode cX11_isSheet 2 = .ok (.iconst 3, 1) := by decide +kernel
theorem dX11_isSheet_3 : decode cX11_isSheet 3 = .ok (.invokestatic 74, 3) := by decide +kernel
theorem dX11_isSheet_6 : decode cX11_isSheet 6 = .ok (.ireturn, 1) := by decide +kernel
set_option maxRecDepth 20000 in
theorem ggX11_sheet_X11_isSheet : GoodIn wsX11_sheet wsX11_isSheet := goodIn_r _ [8, 9, 10, 7, 11] (by decide +kernel) (by decide +kernel)
set_option maxRecDepth 20000 in
theorem gX11_sheet_X11_isSheet : GoodIn wsX11_sheet (va_wsS RX11 143 yX11_isSheet wsX11_isSheet) := goodIn_app (goodIn_of _ (by decide +kernel)) ggX11_sheet_X11_isSheet
set_option maxRecDepth 20000 in
theorem ggX11_sheet_X11_in : GoodIn wsX11_sheet wsX11_in := goodIn_r _ [11] (by decide +kernel) (by decide +kernel)
set_option maxRecDepth 20000 in
theorem gX11_sheet_X11_in : GoodIn wsX11_sheet (va_wsS RX11 74 yX11_in wsX11_in) := goodIn_app (goodIn_of _ (by decide +kernel)) ggX11_sheet_X11_in
set_option maxRecDepth 20000 in
theorem ggX11_sheet_X11_meets : GoodIn wsX11_sheet wsX11_meets := goodIn_r _ [15, 16, 17, 18, 19, 20, 21, 22, 23, 24, 25, 26, 27, 28, 29, 30, 31, 32, 33, 34, 35, 36, 37, 38, 39, 40, 41, 42, 43] (by decide +kernel) (by decide +kernel)
set_option maxRecDepth 20000 in
theorem gX11_sheet_X11_meets : GoodIn wsX11_sheet (wsV RX11 147 RX11 yX11_meets wsX11_meets) := goodIn_app (goodIn_of _ (by decide +kernel)) ggX11_sheet_X11_meets
theorem dX11_sheet_0 : decode cX11_sheet 0 = .ok (.iload_n 1, 1) := by decide +kernel
theorem dX11_sheet_1 : decode cX11_sheet 1 = .ok (.invokestatic 143, 3) := by decide +kernel
theorem dX11_sheet_4 : decode cX11_sheet 4 = .ok (.ifCond .eq 18, 3) := by decide +kernel
theorem dX11_sheet_7 : decode cX11_sheet 7 = .ok (.iload_n 2, 1) := by decide +kernel
theorem dX11_sheet_8 : decode cX11_sheet 8 = .ok (.iconst 0, 1) := by decide +kernel
theorem dX11_sheet_9 : decode cX11_sheet 9 = .ok (.iconst 2, 1) := by decide +kernel
theorem dX11_sheet_10 : decode cX11_sheet 10 = .ok (.invokestatic 74, 3) := by decide +kernel
theorem dX11_sheet_13 : decode cX11_sheet 13 = .ok (.ifCond .eq 9, 3) := by decide +kernel
theorem dX11_sheet_16 : decode cX11_sheet 16 = .ok (.iload_n 3, 1) := by decide +kernel
theorem dX11_sheet_17 : decode cX11_sheet 17 = .ok (.bipush 60, 2) := by decide +kernel
theorem dX11_sheet_19 : decode cX11_sheet 19 = .ok (.if_icmp .le 6, 3) := by decide +kernel
theorem dX11_sheet_22 : decode cX11_sheet 22 = .ok (.bipush (-2), 2) := by decide +kernel
theorem dX11_sheet_24 : decode cX11_sheet 24 = .ok (.ireturn, 1) := by decide +kernel
theorem dX11_sheet_25 : decode cX11_sheet 25 = .ok (.iload_n 3, 1) := by decide +kernel
theorem dX11_sheet_26 : decode cX11_sheet 26 = .ok (.ifCond .ge 9, 3) := by decide +kernel
theorem dX11_sheet_29 : decode cX11_sheet 29 = .ok (.aload_n 0, 1) := by decide +kernel
theorem dX11_sheet_30 : decode cX11_sheet 30 = .ok (.iconst 5, 1) := by decide +kernel
theorem dX11_sheet_31 : decode cX11_sheet 31 = .ok (.invokevirtual 147, 3) := by decide +kernel
theorem dX11_sheet_34 : decode cX11_sheet 34 = .ok (.ireturn, 1) := by decide +kernel
theorem dX11_sheet_35 : decode cX11_sheet 35 = .ok (.aload_n 0, 1) := by decide +kernel
theorem dX11_sheet_36 : decode cX11_sheet 36 = .ok (.getfield 56, 3) := by decide +kernel
theorem dX11_sheet_39 : decode cX11_sheet 39 = .ok (.iload_n 1, 1) := by decide +kernel
theorem dX11_sheet_40 : decode cX11_sheet 40 = .ok (.iconst 1, 1) := by decide +kernel
theorem dX11_sheet_41 : decode cX11_sheet 41 = .ok (.bastore, 1) := by decide +kernel
theorem dX11_sheet_42 : decode cX11_sheet 42 = .ok (.aload_n 0, 1) := by decide +kernel
theorem dX11_sheet_43 : decode cX11_sheet 43 = .ok (.getfield 60, 3) := by decide +kernel
theorem dX11_sheet_46 : decode cX11_sheet 46 = .ok (.iload_n 1, 1) := by decide +kernel
theorem dX11_sheet_47 : decode cX11_sheet 47 = .ok (.iload_n 2, 1) := by decide +kernel
theorem dX11_sheet_48 : decode cX11_sheet 48 = .ok (.iastore, 1) := by decide +kernel
theorem dX11_sheet_49 : decode cX11_sheet 49 = .ok (.aload_n 0, 1) := by decide +kernel
theorem dX11_sheet_50 : decode cX11_sheet 50 = .ok (.getfield 63, 3) := by decide +kernel
theorem dX11_sheet_53 : decode cX11_sheet 53 = .ok (.iload_n 1, 1) := by decide +kernel
theorem dX11_sheet_54 : decode cX11_sheet 54 = .ok (.iload_n 3, 1) := by decide +kernel
theorem dX11_sheet_55 : decode cX11_sheet 55 = .ok (.iastore, 1) := by decide +kernel
theorem dX11_sheet_56 : decode cX11_sheet 56 = .ok (.iconst 0, 1) := by decide +kernel
theorem dX11_sheet_57 : decode cX11_sheet 57 = .ok (.istore 4, 2) := by decide +kernel
theorem dX11_sheet_59 : decode cX11_sheet 59 = .ok (.iload 4, 2) := by decide +kernel
theorem dX11_sheet_61 : decode cX11_sheet 61 = .ok (.bipush 60, 2) := by decide +kernel
theorem dX11_sheet_63 : decode cX11_sheet 63 = .ok (.if_icmp .ge 22, 3) := by decide +kernel
theorem dX11_sheet_66 : decode cX11_sheet 66 = .ok (.aload_n 0, 1) := by decide +kernel
theorem dX11_sheet_67 : decode cX11_sheet 67 = .ok (.getfield 66, 3) := by decide +kernel
theorem dX11_sheet_70 : decode cX11_sheet 70 = .ok (.bipush 60, 2) := by decide +kernel
theorem dX11_sheet_72 : decode cX11_sheet 72 = .ok (.iload_n 1, 1) := by decide +kernel
theorem dX11_sheet_73 : decode cX11_sheet 73 = .ok (.imul, 1) := by decide +kernel
theorem dX11_sheet_74 : decode cX11_sheet 74 = .ok (.iload 4, 2) := by decide +kernel
theorem dX11_sheet_76 : decode cX11_sheet 76 = .ok (.iadd, 1) := by decide +kernel
theorem dX11_sheet_77 : decode cX11_sheet 77 = .ok (.iconst 0, 1) := by decide +kernel
theorem dX11_sheet_78 : decode cX11_sheet 78 = .ok (.iastore, 1) := by decide +kernel
theorem dX11_sheet_79 : decode cX11_sheet 79 = .ok (.iinc 4 1, 3) := by decide +kernel
theorem dX11_sheet_82 : decode cX11_sheet 82 = .ok (.goto (-23), 3) := by decide +kernel
theorem dX11_sheet_85 : decode cX11_sheet 85 = .ok (.iload_n 3, 1) := by decide +kernel
theorem dX11_sheet_86 : decode cX11_sheet 86 = .ok (.ireturn, 1) := by decide +kernel
set_option maxRecDepth 20000 in
theorem ggX11_lose_X11_isSheet : GoodIn wsX11_lose wsX11_isSheet := goodIn_r _ [6, 7, 8, 5, 9] (by decide +kernel) (by decide +kernel)
set_option maxRecDepth 20000 in
theorem gX11_lose_X11_isSheet : GoodIn wsX11_lose (va_wsS RX11 143 yX11_isSheet wsX11_isSheet) := goodIn_app (goodIn_of _ (by decide +kernel)) ggX11_lose_X11_isSheet
set_option maxRecDepth 20000 in
theorem ggX11_lose_X11_meets : GoodIn wsX11_lose wsX11_meets := goodIn_r _ [13, 14, 15, 16, 17, 18, 19, 20, 21, 22, 23, 24, 25, 26, 27, 28, 29, 30, 31, 32, 33, 34, 35, 36, 37, 38, 39, 40, 41] (by decide +kernel) (by decide +kernel)
set_option maxRecDepth 20000 in
theorem gX11_lose_X11_meets : GoodIn wsX11_lose (wsV RX11 147 RX11 yX11_meets wsX11_meets) := goodIn_app (goodIn_of _ (by decide +kernel)) ggX11_lose_X11_meets
theorem dX11_lose_0 : decode cX11_lose 0 = .ok (.iload_n 1, 1) := by decide +kernel
theorem dX11_lose_1 : decode cX11_lose 1 = .ok (.invokestatic 143, 3) := by decide +kernel
theorem dX11_lose_4 : decode cX11_lose 4 = .ok (.ifCond .ne 6, 3) := by decide +kernel
theorem dX11_lose_7 : decode cX11_lose 7 = .ok (.bipush (-2), 2) := by decide +kernel
theorem dX11_lose_9 : decode cX11_lose 9 = .ok (.ireturn, 1) := by decide +kernel
theorem dX11_lose_10 : decode cX11_lose 10 = .ok (.aload_n 0, 1) := by decide +kernel
theorem dX11_lose_11 : decode cX11_lose 11 = .ok (.getfield 56, 3) := by decide +kernel
theorem dX11_lose_14 : decode cX11_lose 14 = .ok (.iload_n 1, 1) := by decide +kernel
theorem dX11_lose_15 : decode cX11_lose 15 = .ok (.baload, 1) := by decide +kernel
theorem dX11_lose_16 : decode cX11_lose 16 = .ok (.ifCond .ne 9, 3) := by decide +kernel
theorem dX11_lose_19 : decode cX11_lose 19 = .ok (.aload_n 0, 1) := by decide +kernel
theorem dX11_lose_20 : decode cX11_lose 20 = .ok (.iconst 1, 1) := by decide +kernel
theorem dX11_lose_21 : decode cX11_lose 21 = .ok (.invokevirtual 147, 3) := by decide +kernel
theorem dX11_lose_24 : decode cX11_lose 24 = .ok (.ireturn, 1) := by decide +kernel
theorem dX11_lose_25 : decode cX11_lose 25 = .ok (.aload_n 0, 1) := by decide +kernel
theorem dX11_lose_26 : decode cX11_lose 26 = .ok (.getfield 56, 3) := by decide +kernel
theorem dX11_lose_29 : decode cX11_lose 29 = .ok (.iload_n 1, 1) := by decide +kernel
theorem dX11_lose_30 : decode cX11_lose 30 = .ok (.iconst 0, 1) := by decide +kernel
theorem dX11_lose_31 : decode cX11_lose 31 = .ok (.bastore, 1) := by decide +kernel
theorem dX11_lose_32 : decode cX11_lose 32 = .ok (.aload_n 0, 1) := by decide +kernel
theorem dX11_lose_33 : decode cX11_lose 33 = .ok (.getfield 63, 3) := by decide +kernel
theorem dX11_lose_36 : decode cX11_lose 36 = .ok (.iload_n 1, 1) := by decide +kernel
theorem dX11_lose_37 : decode cX11_lose 37 = .ok (.iaload, 1) := by decide +kernel
theorem dX11_lose_38 : decode cX11_lose 38 = .ok (.ireturn, 1) := by decide +kernel
set_option maxRecDepth 20000 in
theorem ggX11_lacks_X11_in : GoodIn wsX11_lacks wsX11_in := goodIn_r _ [7] (by decide +kernel) (by decide +kernel)
set_option maxRecDepth 20000 in
theorem gX11_lacks_X11_in : GoodIn wsX11_lacks (va_wsS RX11 74 yX11_in wsX11_in) := goodIn_app (goodIn_of _ (by decide +kernel)) ggX11_lacks_X11_in
theorem dX11_lacks_0 : decode cX11_lacks 0 = .ok (.aload_n 0, 1) := by decide +kernel
theorem dX11_lacks_1 : decode cX11_lacks 1 = .ok (.getfield 56, 3) := by decide +kernel
theorem dX11_lacks_4 : decode cX11_lacks 4 = .ok (.iload_n 1, 1) := by decide +kernel
theorem dX11_lacks_5 : decode cX11_lacks 5 = .ok (.baload, 1) := by decide +kernel
theorem dX11_lacks_6 : decode cX11_lacks 6 = .ok (.ifCond .ne 7, 3) := by decide +kernel
theorem dX11_lacks_9 : decode cX11_lacks 9 = .ok (.iconst 1, 1) := by decide +kernel
theorem dX11_lacks_10 : decode cX11_lacks 10 = .ok (.goto 38, 3) := by decide +kernel
theorem dX11_lacks_13 : decode cX11_lacks 13 = .ok (.aload_n 0, 1) := by decide +kernel
theorem dX11_lacks_14 : decode cX11_lacks 14 = .ok (.getfield 60, 3) := by decide +kernel
theorem dX11_lacks_17 : decode cX11_lacks 17 = .ok (.iload_n 1, 1) := by decide +kernel
theorem dX11_lacks_18 : decode cX11_lacks 18 = .ok (.iaload, 1) := by decide +kernel
theorem dX11_lacks_19 : decode cX11_lacks 19 = .ok (.iload_n 2, 1) := by decide +kernel
theorem dX11_lacks_20 : decode cX11_lacks 20 = .ok (.if_icmp .eq 7, 3) := by decide +kernel
theorem dX11_lacks_23 : decode cX11_lacks 23 = .ok (.iconst 3, 1) := by decide +kernel
theorem dX11_lacks_24 : decode cX11_lacks 24 = .ok (.goto 24, 3) := by decide +kernel
theorem dX11_lacks_27 : decode cX11_lacks 27 = .ok (.iload_n 3, 1) := by decide +kernel
theorem dX11_lacks_28 : decode cX11_lacks 28 = .ok (.iconst 0, 1) := by decide +kernel
theorem dX11_lacks_29 : decode cX11_lacks 29 = .ok (.aload_n 0, 1) := by decide +kernel
theorem dX11_lacks_30 : decode cX11_lacks 30 = .ok (.getfield 63, 3) := by decide +kernel
theorem dX11_lacks_33 : decode cX11_lacks 33 = .ok (.iload_n 1, 1) := by decide +kernel
theorem dX11_lacks_34 : decode cX11_lacks 34 = .ok (.iaload, 1) := by decide +kernel
theorem dX11_lacks_35 : decode cX11_lacks 35 = .ok (.iconst 1, 1) := by decide +kernel
theorem dX11_lacks_36 : decode cX11_lacks 36 = .ok (.isub, 1) := by decide +kernel
theorem dX11_lacks_37 : decode cX11_lacks 37 = .ok (.invokestatic 74, 3) := by decide +kernel
theorem dX11_lacks_40 : decode cX11_lacks 40 = .ok (.ifCond .eq 7, 3) := by decide +kernel
theorem dX11_lacks_43 : decode cX11_lacks 43 = .ok (.iconst 0, 1) := by decide +kernel
theorem dX11_lacks_44 : decode cX11_lacks 44 = .ok (.goto 4, 3) := by decide +kernel
theorem dX11_lacks_47 : decode cX11_lacks 47 = .ok (.iconst 2, 1) := by decide +kernel
theorem dX11_lacks_48 : decode cX11_lacks 48 = .ok (.ireturn, 1) := by decide +kernel
theorem dX11_keep_0 : decode cX11_keep 0 = .ok (.aload_n 0, 1) := by decide +kernel
theorem dX11_keep_1 : decode cX11_keep 1 = .ok (.getfield 66, 3) := by decide +kernel
theorem dX11_keep_4 : decode cX11_keep 4 = .ok (.bipush 60, 2) := by decide +kernel
theorem dX11_keep_6 : decode cX11_keep 6 = .ok (.iload_n 1, 1) := by decide +kernel
theorem dX11_keep_7 : decode cX11_keep 7 = .ok (.imul, 1) := by decide +kernel
theorem dX11_keep_8 : decode cX11_keep 8 = .ok (.iload_n 2, 1) := by decide +kernel
theorem dX11_keep_9 : decode cX11_keep 9 = .ok (.iadd, 1) := by decide +kernel
theorem dX11_keep_10 : decode cX11_keep 10 = .ok (.aload_n 0, 1) := by decide +kernel
theorem dX11_keep_11 : decode cX11_keep 11 = .ok (.getfield 60, 3) := by decide +kernel
theorem dX11_keep_14 : decode cX11_keep 14 = .ok (.iload_n 1, 1) := by decide +kernel
theorem dX11_keep_15 : decode cX11_keep 15 = .ok (.iaload, 1) := by decide +kernel
theorem dX11_keep_16 : decode cX11_keep 16 = .ok (.ifCond .ne 8, 3) := by decide +kernel
theorem dX11_keep_19 : decode cX11_keep 19 = .ok (.iload_n 3, 1) := by decide +kernel
theorem dX11_keep_20 : decode cX11_keep 20 = .ok (.i2b, 1) := by decide +kernel
theorem dX11_keep_21 : decode cX11_keep 21 = .ok (.goto 19, 3) := by decide +kernel
theorem dX11_keep_24 : decode cX11_keep 24 = .ok (.aload_n 0, 1) := by decide +kernel
theorem dX11_keep_25 : decode cX11_keep 25 = .ok (.getfield 60, 3) := by decide +kernel
theorem dX11_keep_28 : decode cX11_keep 28 = .ok (.iload_n 1, 1) := by decide +kernel
theorem dX11_keep_29 : decode cX11_keep 29 = .ok (.iaload, 1) := by decide +kernel
theorem dX11_keep_30 : decode cX11_keep 30 = .ok (.iconst 1, 1) := by decide +kernel
theorem dX11_keep_31 : decode cX11_keep 31 = .ok (.if_icmp .ne 8, 3) := by decide +kernel
theorem dX11_keep_34 : decode cX11_keep 34 = .ok (.iload_n 3, 1) := by decide +kernel
theorem dX11_keep_35 : decode cX11_keep 35 = .ok (.i2s, 1) := by decide +kernel
theorem dX11_keep_36 : decode cX11_keep 36 = .ok (.goto 4, 3) := by decide +kernel
theorem dX11_keep_39 : decode cX11_keep 39 = .ok (.iload_n 3, 1) := by decide +kernel
theorem dX11_keep_40 : decode cX11_keep 40 = .ok (.iastore, 1) := by decide +kernel
theorem dX11_keep_41 : decode cX11_keep 41 = .ok (.return_, 1) := by decide +kernel
set_option maxRecDepth 20000 in
theorem ggX11_put_X11_isSheet : GoodIn wsX11_put wsX11_isSheet := goodIn_r _ [4, 5, 6, 3, 7] (by decide +kernel) (by decide +kernel)
set_option maxRecDepth 20000 in
theorem gX11_put_X11_isSheet : GoodIn wsX11_put (va_wsS RX11 143 yX11_isSheet wsX11_isSheet) := goodIn_app (goodIn_of _ (by decide +kernel)) ggX11_put_X11_isSheet
set_option maxRecDepth 20000 in
theorem ggX11_put_X11_in : GoodIn wsX11_put wsX11_in := goodIn_r _ [7] (by decide +kernel) (by decide +kernel)
set_option maxRecDepth 20000 in
theorem gX11_put_X11_in : GoodIn wsX11_put (va_wsS RX11 74 yX11_in wsX11_in) := goodIn_app (goodIn_of _ (by decide +kernel)) ggX11_put_X11_in
set_option maxRecDepth 20000 in
theorem ggX11_put_X11_lacks : GoodIn wsX11_put wsX11_lacks := goodIn_r _ [11, 12, 13, 14, 5, 6, 3, 7, 25, 26, 27, 28, 29, 30, 31, 32, 33, 34, 35, 36, 37, 38, 39, 40, 41, 42, 43, 44, 45, 46, 47, 48, 49, 50, 51] (by decide +kernel) (by decide +kernel)
set_option maxRecDepth 20000 in
theorem gX11_put_X11_lacks : GoodIn wsX11_put (wsV RX11 243 RX11 yX11_lacks wsX11_lacks) := goodIn_app (goodIn_of _ (by decide +kernel)) ggX11_put_X11_lacks
set_option maxRecDepth 20000 in
theorem ggX11_put_X11_meets : GoodIn wsX11_put wsX11_meets := goodIn_r _ [18, 19, 25, 26, 27, 28, 29, 30, 31, 32, 33, 34, 35, 36, 37, 38, 39, 40, 41, 42, 43, 44, 45, 46, 47, 48, 49, 50, 51] (by decide +kernel) (by decide +kernel)
set_option maxRecDepth 20000 in
theorem gX11_put_X11_meets : GoodIn wsX11_put (wsV RX11 147 RX11 yX11_meets wsX11_meets) := goodIn_app (goodIn_of _ (by decide +kernel)) ggX11_put_X11_meets
set_option maxRecDepth 20000 in
theorem ggX11_put_X11_keep : GoodIn wsX11_put wsX11_keep := goodIn_r _ [23, 24, 13, 25, 26, 27, 28, 29, 30, 31, 32, 33, 34, 35, 36, 37, 38, 39, 40, 41, 42, 43, 44, 45, 46, 47, 48, 49, 50, 51] (by decide +kernel) (by decide +kernel)
set_option maxRecDepth 20000 in
theorem gX11_put_X11_keep : GoodIn wsX11_put (wsV RX11 246 RX11 yX11_keep wsX11_keep) := goodIn_app (goodIn_of _ (by decide +kernel)) ggX11_put_X11_keep
theorem dX11_put_0 : decode cX11_put 0 = .ok (.iload_n 1, 1) := by decide +kernel
theorem dX11_put_1 : decode cX11_put 1 = .ok (.invokestatic 143, 3) := by decide +kernel
theorem dX11_put_4 : decode cX11_put 4 = .ok (.ifCond .eq 12, 3) := by decide +kernel
theorem dX11_put_7 : decode cX11_put 7 = .ok (.iload_n 2, 1) := by decide +kernel
theorem dX11_put_8 : decode cX11_put 8 = .ok (.iconst 0, 1) := by decide +kernel
theorem dX11_put_9 : decode cX11_put 9 = .ok (.iconst 2, 1) := by decide +kernel
theorem dX11_put_10 : decode cX11_put 10 = .ok (.invokestatic 74, 3) := by decide +kernel
theorem dX11_put_13 : decode cX11_put 13 = .ok (.ifCond .ne 6, 3) := by decide +kernel
theorem dX11_put_16 : decode cX11_put 16 = .ok (.bipush (-2), 2) := by decide +kernel
theorem dX11_put_18 : decode cX11_put 18 = .ok (.ireturn, 1) := by decide +kernel
theorem dX11_put_19 : decode cX11_put 19 = .ok (.aload_n 0, 1) := by decide +kernel
theorem dX11_put_20 : decode cX11_put 20 = .ok (.iload_n 1, 1) := by decide +kernel
theorem dX11_put_21 : decode cX11_put 21 = .ok (.iload_n 2, 1) := by decide +kernel
theorem dX11_put_22 : decode cX11_put 22 = .ok (.iload_n 3, 1) := by decide +kernel
theorem dX11_put_23 : decode cX11_put 23 = .ok (.invokevirtual 243, 3) := by decide +kernel
theorem dX11_put_26 : decode cX11_put 26 = .ok (.istore 5, 2) := by decide +kernel
theorem dX11_put_28 : decode cX11_put 28 = .ok (.iload 5, 2) := by decide +kernel
theorem dX11_put_30 : decode cX11_put 30 = .ok (.ifCond .le 10, 3) := by decide +kernel
theorem dX11_put_33 : decode cX11_put 33 = .ok (.aload_n 0, 1) := by decide +kernel
theorem dX11_put_34 : decode cX11_put 34 = .ok (.iload 5, 2) := by decide +kernel
theorem dX11_put_36 : decode cX11_put 36 = .ok (.invokevirtual 147, 3) := by decide +kernel
theorem dX11_put_39 : decode cX11_put 39 = .ok (.ireturn, 1) := by decide +kernel
theorem dX11_put_40 : decode cX11_put 40 = .ok (.aload_n 0, 1) := by decide +kernel
theorem dX11_put_41 : decode cX11_put 41 = .ok (.iload_n 1, 1) := by decide +kernel
theorem dX11_put_42 : decode cX11_put 42 = .ok (.iload_n 3, 1) := by decide +kernel
theorem dX11_put_43 : decode cX11_put 43 = .ok (.iload 4, 2) := by decide +kernel
theorem dX11_put_45 : decode cX11_put 45 = .ok (.invokevirtual 246, 3) := by decide +kernel
theorem dX11_put_48 : decode cX11_put 48 = .ok (.iconst 1, 1) := by decide +kernel
theorem dX11_put_49 : decode cX11_put 49 = .ok (.ireturn, 1) := by decide +kernel
set_option maxRecDepth 20000 in
theorem ggX11_get_X11_isSheet : GoodIn wsX11_get wsX11_isSheet := goodIn_r _ [7, 8, 9, 6, 10] (by decide +kernel) (by decide +kernel)
set_option maxRecDepth 20000 in
theorem gX11_get_X11_isSheet : GoodIn wsX11_get (va_wsS RX11 143 yX11_isSheet wsX11_isSheet) := goodIn_app (goodIn_of _ (by decide +kernel)) ggX11_get_X11_isSheet
set_option maxRecDepth 20000 in
theorem ggX11_get_X11_in : GoodIn wsX11_get wsX11_in := goodIn_r _ [10] (by decide +kernel) (by decide +kernel)
set_option maxRecDepth 20000 in
theorem gX11_get_X11_in : GoodIn wsX11_get (va_wsS RX11 74 yX11_in wsX11_in) := goodIn_app (goodIn_of _ (by decide +kernel)) ggX11_get_X11_in
set_option maxRecDepth 20000 in
theorem ggX11_get_X11_lacks : GoodIn wsX11_get wsX11_lacks := goodIn_r _ [14, 15, 16, 17, 8, 9, 6, 10, 18, 19, 20, 21, 22, 23, 24, 25, 26, 27, 28, 29, 30, 31, 32, 33, 34, 35, 36, 37, 38, 39, 40, 41, 42, 43, 44] (by decide +kernel) (by decide +kernel)
set_option maxRecDepth 20000 in
theorem gX11_get_X11_lacks : GoodIn wsX11_get (wsV RX11 243 RX11 yX11_lacks wsX11_lacks) := goodIn_app (goodIn_of _ (by decide +kernel)) ggX11_get_X11_lacks
theorem dX11_get_0 : decode cX11_get 0 = .ok (.iload_n 1, 1) := by decide +kernel
theorem dX11_get_1 : decode cX11_get 1 = .ok (.invokestatic 143, 3) := by decide +kernel
theorem dX11_get_4 : decode cX11_get 4 = .ok (.ifCond .eq 12, 3) := by decide +kernel
theorem dX11_get_7 : decode cX11_get 7 = .ok (.iload_n 2, 1) := by decide +kernel
theorem dX11_get_8 : decode cX11_get 8 = .ok (.iconst 0, 1) := by decide +kernel
theorem dX11_get_9 : decode cX11_get 9 = .ok (.iconst 2, 1) := by decide +kernel
theorem dX11_get_10 : decode cX11_get 10 = .ok (.invokestatic 74, 3) := by decide +kernel
theorem dX11_get_13 : decode cX11_get 13 = .ok (.ifCond .ne 6, 3) := by decide +kernel
theorem dX11_get_16 : decode cX11_get 16 = .ok (.ldc 250, 2) := by decide +kernel
theorem dX11_get_18 : decode cX11_get 18 = .ok (.ireturn, 1) := by decide +kernel
theorem dX11_get_19 : decode cX11_get 19 = .ok (.aload_n 0, 1) := by decide +kernel
theorem dX11_get_20 : decode cX11_get 20 = .ok (.iload_n 1, 1) := by decide +kernel
theorem dX11_get_21 : decode cX11_get 21 = .ok (.iload_n 2, 1) := by decide +kernel
theorem dX11_get_22 : decode cX11_get 22 = .ok (.iload_n 3, 1) := by decide +kernel
theorem dX11_get_23 : decode cX11_get 23 = .ok (.invokevirtual 243, 3) := by decide +kernel
theorem dX11_get_26 : decode cX11_get 26 = .ok (.istore 4, 2) := by decide +kernel
theorem dX11_get_28 : decode cX11_get 28 = .ok (.iload 4, 2) := by decide +kernel
theorem dX11_get_30 : decode cX11_get 30 = .ok (.ifCond .le 12, 3) := by decide +kernel
theorem dX11_get_33 : decode cX11_get 33 = .ok (.aload_n 0, 1) := by decide +kernel
theorem dX11_get_34 : decode cX11_get 34 = .ok (.iload 4, 2) := by decide +kernel
theorem dX11_get_36 : decode cX11_get 36 = .ok (.putfield 240, 3) := by decide +kernel
theorem dX11_get_39 : decode cX11_get 39 = .ok (.ldc 250, 2) := by decide +kernel
theorem dX11_get_41 : decode cX11_get 41 = .ok (.ireturn, 1) := by decide +kernel
theorem dX11_get_42 : decode cX11_get 42 = .ok (.aload_n 0, 1) := by decide +kernel
theorem dX11_get_43 : decode cX11_get 43 = .ok (.getfield 66, 3) := by decide +kernel
theorem dX11_get_46 : decode cX11_get 46 = .ok (.bipush 60, 2) := by decide +kernel
theorem dX11_get_48 : decode cX11_get 48 = .ok (.iload_n 1, 1) := by decide +kernel
theorem dX11_get_49 : decode cX11_get 49 = .ok (.imul, 1) := by decide +kernel
theorem dX11_get_50 : decode cX11_get 50 = .ok (.iload_n 3, 1) := by decide +kernel
theorem dX11_get_51 : decode cX11_get 51 = .ok (.iadd, 1) := by decide +kernel
theorem dX11_get_52 : decode cX11_get 52 = .ok (.iaload, 1) := by decide +kernel
theorem dX11_get_53 : decode cX11_get 53 = .ok (.ireturn, 1) := by decide +kernel
set_option maxRecDepth 20000 in
theorem ggX11_copy_X11_isSheet : GoodIn wsX11_copy wsX11_isSheet := goodIn_r _ [9, 10, 11, 8, 12] (by decide +kernel) (by decide +kernel)
set_option maxRecDepth 20000 in
theorem gX11_copy_X11_isSheet : GoodIn wsX11_copy (va_wsS RX11 143 yX11_isSheet wsX11_isSheet) := goodIn_app (goodIn_of _ (by decide +kernel)) ggX11_copy_X11_isSheet
set_option maxRecDepth 20000 in
theorem ggX11_copy_X11_meets : GoodIn wsX11_copy wsX11_meets := goodIn_r _ [16, 17, 18, 19, 20, 21, 22, 23, 24, 25, 26, 27, 28, 29, 30, 31, 32, 33, 34, 35, 36, 37, 38, 39, 40, 41, 42, 43, 44] (by decide +kernel) (by decide +kernel)
set_option maxRecDepth 20000 in
theorem gX11_copy_X11_meets : GoodIn wsX11_copy (wsV RX11 147 RX11 yX11_meets wsX11_meets) := goodIn_app (goodIn_of _ (by decide +kernel)) ggX11_copy_X11_meets
theorem dX11_copy_0 : decode cX11_copy 0 = .ok (.iload_n 1, 1) := by decide +kernel
theorem dX11_copy_1 : decode cX11_copy 1 = .ok (.invokestatic 143, 3) := by decide +kernel
theorem dX11_copy_4 : decode cX11_copy 4 = .ok (.ifCond .eq 10, 3) := by decide +kernel
theorem dX11_copy_7 : decode cX11_copy 7 = .ok (.iload_n 3, 1) := by decide +kernel
theorem dX11_copy_8 : decode cX11_copy 8 = .ok (.invokestatic 143, 3) := by decide +kernel
theorem dX11_copy_11 : decode cX11_copy 11 = .ok (.ifCond .ne 6, 3) := by decide +kernel
theorem dX11_copy_14 : decode cX11_copy 14 = .ok (.bipush (-2), 2) := by decide +kernel
theorem dX11_copy_16 : decode cX11_copy 16 = .ok (.ireturn, 1) := by decide +kernel
theorem dX11_copy_17 : decode cX11_copy 17 = .ok (.aload_n 0, 1) := by decide +kernel
theorem dX11_copy_18 : decode cX11_copy 18 = .ok (.getfield 56, 3) := by decide +kernel
theorem dX11_copy_21 : decode cX11_copy 21 = .ok (.iload_n 1, 1) := by decide +kernel
theorem dX11_copy_22 : decode cX11_copy 22 = .ok (.baload, 1) := by decide +kernel
theorem dX11_copy_23 : decode cX11_copy 23 = .ok (.ifCond .eq 12, 3) := by decide +kernel
theorem dX11_copy_26 : decode cX11_copy 26 = .ok (.aload_n 0, 1) := by decide +kernel
theorem dX11_copy_27 : decode cX11_copy 27 = .ok (.getfield 56, 3) := by decide +kernel
theorem dX11_copy_30 : decode cX11_copy 30 = .ok (.iload_n 3, 1) := by decide +kernel
theorem dX11_copy_31 : decode cX11_copy 31 = .ok (.baload, 1) := by decide +kernel
theorem dX11_copy_32 : decode cX11_copy 32 = .ok (.ifCond .ne 9, 3) := by decide +kernel
theorem dX11_copy_35 : decode cX11_copy 35 = .ok (.aload_n 0, 1) := by decide +kernel
theorem dX11_copy_36 : decode cX11_copy 36 = .ok (.iconst 1, 1) := by decide +kernel
theorem dX11_copy_37 : decode cX11_copy 37 = .ok (.invokevirtual 147, 3) := by decide +kernel
theorem dX11_copy_40 : decode cX11_copy 40 = .ok (.ireturn, 1) := by decide +kernel
theorem dX11_copy_41 : decode cX11_copy 41 = .ok (.aload_n 0, 1) := by decide +kernel
theorem dX11_copy_42 : decode cX11_copy 42 = .ok (.getfield 60, 3) := by decide +kernel
theorem dX11_copy_45 : decode cX11_copy 45 = .ok (.iload_n 1, 1) := by decide +kernel
theorem dX11_copy_46 : decode cX11_copy 46 = .ok (.iaload, 1) := by decide +kernel
theorem dX11_copy_47 : decode cX11_copy 47 = .ok (.aload_n 0, 1) := by decide +kernel
theorem dX11_copy_48 : decode cX11_copy 48 = .ok (.getfield 60, 3) := by decide +kernel
theorem dX11_copy_51 : decode cX11_copy 51 = .ok (.iload_n 3, 1) := by decide +kernel
theorem dX11_copy_52 : decode cX11_copy 52 = .ok (.iaload, 1) := by decide +kernel
theorem dX11_copy_53 : decode cX11_copy 53 = .ok (.if_icmp .eq 9, 3) := by decide +kernel
theorem dX11_copy_56 : decode cX11_copy 56 = .ok (.aload_n 0, 1) := by decide +kernel
theorem dX11_copy_57 : decode cX11_copy 57 = .ok (.iconst 4, 1) := by decide +kernel
theorem dX11_copy_58 : decode cX11_copy 58 = .ok (.invokevirtual 147, 3) := by decide +kernel
theorem dX11_copy_61 : decode cX11_copy 61 = .ok (.ireturn, 1) := by decide +kernel
theorem dX11_copy_62 : decode cX11_copy 62 = .ok (.iload_n 2, 1) := by decide +kernel
theorem dX11_copy_63 : decode cX11_copy 63 = .ok (.ifCond .lt 48, 3) := by decide +kernel
theorem dX11_copy_66 : decode cX11_copy 66 = .ok (.iload 4, 2) := by decide +kernel
theorem dX11_copy_68 : decode cX11_copy 68 = .ok (.ifCond .lt 43, 3) := by decide +kernel
theorem dX11_copy_71 : decode cX11_copy 71 = .ok (.iload 5, 2) := by decide +kernel
theorem dX11_copy_73 : decode cX11_copy 73 = .ok (.ifCond .lt 38, 3) := by decide +kernel
theorem dX11_copy_76 : decode cX11_copy 76 = .ok (.iload_n 2, 1) := by decide +kernel
theorem dX11_copy_77 : decode cX11_copy 77 = .ok (.i2l, 1) := by decide +kernel
theorem dX11_copy_78 : decode cX11_copy 78 = .ok (.iload 5, 2) := by decide +kernel
theorem dX11_copy_80 : decode cX11_copy 80 = .ok (.i2l, 1) := by decide +kernel
theorem dX11_copy_81 : decode cX11_copy 81 = .ok (.ladd, 1) := by decide +kernel
theorem dX11_copy_82 : decode cX11_copy 82 = .ok (.aload_n 0, 1) := by decide +kernel
theorem dX11_copy_83 : decode cX11_copy 83 = .ok (.getfield 63, 3) := by decide +kernel
theorem dX11_copy_86 : decode cX11_copy 86 = .ok (.iload_n 1, 1) := by decide +kernel
theorem dX11_copy_87 : decode cX11_copy 87 = .ok (.iaload, 1) := by decide +kernel
theorem dX11_copy_88 : decode cX11_copy 88 = .ok (.i2l, 1) := by decide +kernel
theorem dX11_copy_89 : decode cX11_copy 89 = .ok (.lcmp, 1) := by decide +kernel
theorem dX11_copy_90 : decode cX11_copy 90 = .ok (.ifCond .gt 21, 3) := by decide +kernel
theorem dX11_copy_93 : decode cX11_copy 93 = .ok (.iload 4, 2) := by decide +kernel
theorem dX11_copy_95 : decode cX11_copy 95 = .ok (.i2l, 1) := by decide +kernel
theorem dX11_copy_96 : decode cX11_copy 96 = .ok (.iload 5, 2) := by decide +kernel
theorem dX11_copy_98 : decode cX11_copy 98 = .ok (.i2l, 1) := by decide +kernel
theorem dX11_copy_99 : decode cX11_copy 99 = .ok (.ladd, 1) := by decide +kernel
theorem dX11_copy_100 : decode cX11_copy 100 = .ok (.aload_n 0, 1) := by decide +kernel
theorem dX11_copy_101 : decode cX11_copy 101 = .ok (.getfield 63, 3) := by decide +kernel
theorem dX11_copy_104 : decode cX11_copy 104 = .ok (.iload_n 3, 1) := by decide +kernel
theorem dX11_copy_105 : decode cX11_copy 105 = .ok (.iaload, 1) := by decide +kernel
theorem dX11_copy_106 : decode cX11_copy 106 = .ok (.i2l, 1) := by decide +kernel
theorem dX11_copy_107 : decode cX11_copy 107 = .ok (.lcmp, 1) := by decide +kernel
theorem dX11_copy_108 : decode cX11_copy 108 = .ok (.ifCond .le 9, 3) := by decide +kernel
theorem dX11_copy_111 : decode cX11_copy 111 = .ok (.aload_n 0, 1) := by decide +kernel
theorem dX11_copy_112 : decode cX11_copy 112 = .ok (.iconst 2, 1) := by decide +kernel
theorem dX11_copy_113 : decode cX11_copy 113 = .ok (.invokevirtual 147, 3) := by decide +kernel
theorem dX11_copy_116 : decode cX11_copy 116 = .ok (.ireturn, 1) := by decide +kernel
theorem dX11_copy_117 : decode cX11_copy 117 = .ok (.iconst 0, 1) := by decide +kernel
theorem dX11_copy_118 : decode cX11_copy 118 = .ok (.istore 6, 2) := by decide +kernel
theorem dX11_copy_120 : decode cX11_copy 120 = .ok (.iload 6, 2) := by decide +kernel
theorem dX11_copy_122 : decode cX11_copy 122 = .ok (.iload 5, 2) := by decide +kernel
theorem dX11_copy_124 : decode cX11_copy 124 = .ok (.if_icmp .ge 30, 3) := by decide +kernel
theorem dX11_copy_127 : decode cX11_copy 127 = .ok (.aload_n 0, 1) := by decide +kernel
theorem dX11_copy_128 : decode cX11_copy 128 = .ok (.getfield 69, 3) := by decide +kernel
theorem dX11_copy_131 : decode cX11_copy 131 = .ok (.iload 6, 2) := by decide +kernel
theorem dX11_copy_133 : decode cX11_copy 133 = .ok (.aload_n 0, 1) := by decide +kernel
theorem dX11_copy_134 : decode cX11_copy 134 = .ok (.getfield 66, 3) := by decide +kernel
theorem dX11_copy_137 : decode cX11_copy 137 = .ok (.bipush 60, 2) := by decide +kernel
theorem dX11_copy_139 : decode cX11_copy 139 = .ok (.iload_n 1, 1) := by decide +kernel
theorem dX11_copy_140 : decode cX11_copy 140 = .ok (.imul, 1) := by decide +kernel
theorem dX11_copy_141 : decode cX11_copy 141 = .ok (.iload_n 2, 1) := by decide +kernel
theorem dX11_copy_142 : decode cX11_copy 142 = .ok (.iadd, 1) := by decide +kernel
theorem dX11_copy_143 : decode cX11_copy 143 = .ok (.iload 6, 2) := by decide +kernel
theorem dX11_copy_145 : decode cX11_copy 145 = .ok (.iadd, 1) := by decide +kernel
theorem dX11_copy_146 : decode cX11_copy 146 = .ok (.iaload, 1) := by decide +kernel
theorem dX11_copy_147 : decode cX11_copy 147 = .ok (.iastore, 1) := by decide +kernel
theorem dX11_copy_148 : decode cX11_copy 148 = .ok (.iinc 6 1, 3) := by decide +kernel
theorem dX11_copy_151 : decode cX11_copy 151 = .ok (.goto (-31), 3) := by decide +kernel
theorem dX11_copy_154 : decode cX11_copy 154 = .ok (.iconst 0, 1) := by decide +kernel
theorem dX11_copy_155 : decode cX11_copy 155 = .ok (.istore 6, 2) := by decide +kernel
theorem dX11_copy_157 : decode cX11_copy 157 = .ok (.iload 6, 2) := by decide +kernel
theorem dX11_copy_159 : decode cX11_copy 159 = .ok (.iload 5, 2) := by decide +kernel
theorem dX11_copy_161 : decode cX11_copy 161 = .ok (.if_icmp .ge 31, 3) := by decide +kernel
theorem dX11_copy_164 : decode cX11_copy 164 = .ok (.aload_n 0, 1) := by decide +kernel
theorem dX11_copy_165 : decode cX11_copy 165 = .ok (.getfield 66, 3) := by decide +kernel
theorem dX11_copy_168 : decode cX11_copy 168 = .ok (.bipush 60, 2) := by decide +kernel
theorem dX11_copy_170 : decode cX11_copy 170 = .ok (.iload_n 3, 1) := by decide +kernel
theorem dX11_copy_171 : decode cX11_copy 171 = .ok (.imul, 1) := by decide +kernel
theorem dX11_copy_172 : decode cX11_copy 172 = .ok (.iload 4, 2) := by decide +kernel
theorem dX11_copy_174 : decode cX11_copy 174 = .ok (.iadd, 1) := by decide +kernel
theorem dX11_copy_175 : decode cX11_copy 175 = .ok (.iload 6, 2) := by decide +kernel
theorem dX11_copy_177 : decode cX11_copy 177 = .ok (.iadd, 1) := by decide +kernel
theorem dX11_copy_178 : decode cX11_copy 178 = .ok (.aload_n 0, 1) := by decide +kernel
theorem dX11_copy_179 : decode cX11_copy 179 = .ok (.getfield 69, 3) := by decide +kernel
theorem dX11_copy_182 : decode cX11_copy 182 = .ok (.iload 6, 2) := by decide +kernel
theorem dX11_copy_184 : decode cX11_copy 184 = .ok (.iaload, 1) := by decide +kernel
theorem dX11_copy_185 : decode cX11_copy 185 = .ok (.iastore, 1) := by decide +kernel
theorem dX11_copy_186 : decode cX11_copy 186 = .ok (.iinc 6 1, 3) := by decide +kernel
theorem dX11_copy_189 : decode cX11_copy 189 = .ok (.goto (-32), 3) := by decide +kernel
theorem dX11_copy_192 : decode cX11_copy 192 = .ok (.iconst 1, 1) := by decide +kernel
theorem dX11_copy_193 : decode cX11_copy 193 = .ok (.ireturn, 1) := by decide +kernel
set_option maxRecDepth 20000 in
theorem ggX11_write_X11_in : GoodIn wsX11_write wsX11_in := goodIn_r _ [6] (by decide +kernel) (by decide +kernel)
set_option maxRecDepth 20000 in
theorem gX11_write_X11_in : GoodIn wsX11_write (va_wsS RX11 74 yX11_in wsX11_in) := goodIn_app (goodIn_of _ (by decide +kernel)) ggX11_write_X11_in
set_option maxRecDepth 20000 in
theorem ggX11_write_X11_isSheet : GoodIn wsX11_write wsX11_isSheet := goodIn_r _ [9, 3, 4, 5, 6] (by decide +kernel) (by decide +kernel)
set_option maxRecDepth 20000 in
theorem gX11_write_X11_isSheet : GoodIn wsX11_write (va_wsS RX11 143 yX11_isSheet wsX11_isSheet) := goodIn_app (goodIn_of _ (by decide +kernel)) ggX11_write_X11_isSheet
set_option maxRecDepth 20000 in
theorem ggX11_write_X11_meets : GoodIn wsX11_write wsX11_meets := goodIn_r _ [13, 14, 34, 35, 36, 37, 38, 39, 40, 41, 42, 43, 44, 45, 46, 47, 48, 49, 50, 51, 52, 53, 54, 55, 56, 57, 58, 59, 60] (by decide +kernel) (by decide +kernel)
set_option maxRecDepth 20000 in
theorem gX11_write_X11_meets : GoodIn wsX11_write (wsV RX11 147 RX11 yX11_meets wsX11_meets) := goodIn_app (goodIn_of _ (by decide +kernel)) ggX11_write_X11_meets
set_option maxRecDepth 20000 in
theorem ggX11_write_X11_many : GoodIn wsX11_write wsX11_many := goodIn_r _ [18, 19, 20, 21, 5, 22, 23, 34, 35, 36, 37, 38, 39, 40, 41, 42, 43, 44, 45, 46, 47, 48, 49, 50, 51, 52, 53, 54, 55, 56, 57, 58, 59, 60] (by decide +kernel) (by decide +kernel)
set_option maxRecDepth 20000 in
theorem gX11_write_X11_many : GoodIn wsX11_write (wsV RX11 95 RX11 yX11_many wsX11_many) := goodIn_app (goodIn_of _ (by decide +kernel)) ggX11_write_X11_many
set_option maxRecDepth 20000 in
theorem ggX11_write_X11_waitOf : GoodIn wsX11_write wsX11_waitOf := goodIn_r _ [27, 19, 20, 21, 5, 22, 23, 34, 35, 36, 37, 38, 39, 40, 41, 42, 43, 44, 45, 46, 47, 48, 49, 50, 51, 52, 53, 54, 55, 56, 57, 58, 59, 60] (by decide +kernel) (by decide +kernel)
set_option maxRecDepth 20000 in
theorem gX11_write_X11_waitOf : GoodIn wsX11_write (wsV RX11 102 RX11 yX11_waitOf wsX11_waitOf) := goodIn_app (goodIn_of _ (by decide +kernel)) ggX11_write_X11_waitOf
set_option maxRecDepth 20000 in
theorem ggX11_write_X11_keep : GoodIn wsX11_write wsX11_keep := goodIn_r _ [31, 32, 33, 34, 35, 36, 37, 38, 39, 40, 41, 42, 43, 44, 45, 46, 47, 48, 49, 50, 51, 52, 53, 54, 55, 56, 57, 58, 59, 60] (by decide +kernel) (by decide +kernel)
set_option maxRecDepth 20000 in
theorem gX11_write_X11_keep : GoodIn wsX11_write (wsV RX11 246 RX11 yX11_keep wsX11_keep) := goodIn_app (goodIn_of _ (by decide +kernel)) ggX11_write_X11_keep
theorem dX11_write_0 : decode cX11_write 0 = .ok (.iload_n 1, 1) := by decide +kernel
theorem dX11_write_1 : decode cX11_write 1 = .ok (.iconst 0, 1) := by decide +kernel
theorem dX11_write_2 : decode cX11_write 2 = .ok (.iconst 2, 1) := by decide +kernel
theorem dX11_write_3 : decode cX11_write 3 = .ok (.invokestatic 74, 3) := by decide +kernel
theorem dX11_write_6 : decode cX11_write 6 = .ok (.ifCond .eq 10, 3) := by decide +kernel
theorem dX11_write_9 : decode cX11_write 9 = .ok (.iload_n 2, 1) := by decide +kernel
theorem dX11_write_10 : decode cX11_write 10 = .ok (.invokestatic 143, 3) := by decide +kernel
theorem dX11_write_13 : decode cX11_write 13 = .ok (.ifCond .ne 6, 3) := by decide +kernel
theorem dX11_write_16 : decode cX11_write 16 = .ok (.bipush (-2), 2) := by decide +kernel
theorem dX11_write_18 : decode cX11_write 18 = .ok (.ireturn, 1) := by decide +kernel
theorem dX11_write_19 : decode cX11_write 19 = .ok (.aload_n 0, 1) := by decide +kernel
theorem dX11_write_20 : decode cX11_write 20 = .ok (.getfield 56, 3) := by decide +kernel
theorem dX11_write_23 : decode cX11_write 23 = .ok (.iload_n 2, 1) := by decide +kernel
theorem dX11_write_24 : decode cX11_write 24 = .ok (.baload, 1) := by decide +kernel
theorem dX11_write_25 : decode cX11_write 25 = .ok (.ifCond .ne 9, 3) := by decide +kernel
theorem dX11_write_28 : decode cX11_write 28 = .ok (.aload_n 0, 1) := by decide +kernel
theorem dX11_write_29 : decode cX11_write 29 = .ok (.iconst 1, 1) := by decide +kernel
theorem dX11_write_30 : decode cX11_write 30 = .ok (.invokevirtual 147, 3) := by decide +kernel
theorem dX11_write_33 : decode cX11_write 33 = .ok (.ireturn, 1) := by decide +kernel
theorem dX11_write_34 : decode cX11_write 34 = .ok (.aload_n 0, 1) := by decide +kernel
theorem dX11_write_35 : decode cX11_write 35 = .ok (.iload_n 1, 1) := by decide +kernel
theorem dX11_write_36 : decode cX11_write 36 = .ok (.invokevirtual 95, 3) := by decide +kernel
theorem dX11_write_39 : decode cX11_write 39 = .ok (.ifCond .ne 6, 3) := by decide +kernel
theorem dX11_write_42 : decode cX11_write 42 = .ok (.bipush (-3), 2) := by decide +kernel
theorem dX11_write_44 : decode cX11_write 44 = .ok (.ireturn, 1) := by decide +kernel
theorem dX11_write_45 : decode cX11_write 45 = .ok (.iconst 0, 1) := by decide +kernel
theorem dX11_write_46 : decode cX11_write 46 = .ok (.istore_n 3, 1) := by decide +kernel
theorem dX11_write_47 : decode cX11_write 47 = .ok (.iload_n 3, 1) := by decide +kernel
theorem dX11_write_48 : decode cX11_write 48 = .ok (.aload_n 0, 1) := by decide +kernel
theorem dX11_write_49 : decode cX11_write 49 = .ok (.getfield 63, 3) := by decide +kernel
theorem dX11_write_52 : decode cX11_write 52 = .ok (.iload_n 2, 1) := by decide +kernel
theorem dX11_write_53 : decode cX11_write 53 = .ok (.iaload, 1) := by decide +kernel
theorem dX11_write_54 : decode cX11_write 54 = .ok (.if_icmp .ge 27, 3) := by decide +kernel
theorem dX11_write_57 : decode cX11_write 57 = .ok (.iload_n 3, 1) := by decide +kernel
theorem dX11_write_58 : decode cX11_write 58 = .ok (.bipush 60, 2) := by decide +kernel
theorem dX11_write_60 : decode cX11_write 60 = .ok (.if_icmp .ge 21, 3) := by decide +kernel
theorem dX11_write_63 : decode cX11_write 63 = .ok (.aload_n 0, 1) := by decide +kernel
theorem dX11_write_64 : decode cX11_write 64 = .ok (.iload_n 2, 1) := by decide +kernel
theorem dX11_write_65 : decode cX11_write 65 = .ok (.iload_n 3, 1) := by decide +kernel
theorem dX11_write_66 : decode cX11_write 66 = .ok (.aload_n 0, 1) := by decide +kernel
theorem dX11_write_67 : decode cX11_write 67 = .ok (.iload_n 1, 1) := by decide +kernel
theorem dX11_write_68 : decode cX11_write 68 = .ok (.iload_n 3, 1) := by decide +kernel
theorem dX11_write_69 : decode cX11_write 69 = .ok (.invokevirtual 102, 3) := by decide +kernel
theorem dX11_write_72 : decode cX11_write 72 = .ok (.invokevirtual 246, 3) := by decide +kernel
theorem dX11_write_75 : decode cX11_write 75 = .ok (.iinc 3 1, 3) := by decide +kernel
theorem dX11_write_78 : decode cX11_write 78 = .ok (.goto (-31), 3) := by decide +kernel
theorem dX11_write_81 : decode cX11_write 81 = .ok (.iload_n 3, 1) := by decide +kernel
theorem dX11_write_82 : decode cX11_write 82 = .ok (.ireturn, 1) := by decide +kernel
set_option maxRecDepth 20000 in
theorem ggX11_friendships_X11_ones : GoodIn wsX11_friendships wsX11_ones := goodIn_r _ [5] (by decide +kernel) (by decide +kernel)
set_option maxRecDepth 20000 in
theorem gX11_friendships_X11_ones : GoodIn wsX11_friendships (va_wsS RX11 209 yX11_ones wsX11_ones) := goodIn_app (goodIn_of _ (by decide +kernel)) ggX11_friendships_X11_ones
theorem dX11_friendships_0 : decode cX11_friendships 0 = .ok (.iconst 0, 1) := by decide +kernel
theorem dX11_friendships_1 : decode cX11_friendships 1 = .ok (.istore_n 1, 1) := by decide +kernel
theorem dX11_friendships_2 : decode cX11_friendships 2 = .ok (.iconst 0, 1) := by decide +kernel
theorem dX11_friendships_3 : decode cX11_friendships 3 = .ok (.istore_n 2, 1) := by decide +kernel
theorem dX11_friendships_4 : decode cX11_friendships 4 = .ok (.iload_n 2, 1) := by decide +kernel
theorem dX11_friendships_5 : decode cX11_friendships 5 = .ok (.bipush 8, 2) := by decide +kernel
theorem dX11_friendships_7 : decode cX11_friendships 7 = .ok (.if_icmp .ge 21, 3) := by decide +kernel
theorem dX11_friendships_10 : decode cX11_friendships 10 = .ok (.iload_n 1, 1) := by decide +kernel
theorem dX11_friendships_11 : decode cX11_friendships 11 = .ok (.aload_n 0, 1) := by decide +kernel
theorem dX11_friendships_12 : decode cX11_friendships 12 = .ok (.getfield 50, 3) := by decide +kernel
theorem dX11_friendships_15 : decode cX11_friendships 15 = .ok (.iload_n 2, 1) := by decide +kernel
theorem dX11_friendships_16 : decode cX11_friendships 16 = .ok (.iaload, 1) := by decide +kernel
theorem dX11_friendships_17 : decode cX11_friendships 17 = .ok (.invokestatic 209, 3) := by decide +kernel
theorem dX11_friendships_20 : decode cX11_friendships 20 = .ok (.iadd, 1) := by decide +kernel
theorem dX11_friendships_21 : decode cX11_friendships 21 = .ok (.istore_n 1, 1) := by decide +kernel
theorem dX11_friendships_22 : decode cX11_friendships 22 = .ok (.iinc 2 1, 3) := by decide +kernel
theorem dX11_friendships_25 : decode cX11_friendships 25 = .ok (.goto (-21), 3) := by decide +kernel
theorem dX11_friendships_28 : decode cX11_friendships 28 = .ok (.iload_n 1, 1) := by decide +kernel
theorem dX11_friendships_29 : decode cX11_friendships 29 = .ok (.iconst 2, 1) := by decide +kernel
theorem dX11_friendships_30 : decode cX11_friendships 30 = .ok (.idiv, 1) := by decide +kernel
theorem dX11_friendships_31 : decode cX11_friendships 31 = .ok (.ireturn, 1) := by decide +kernel
set_option maxRecDepth 20000 in
theorem ggX11_count_X11_many : GoodIn wsX11_count wsX11_many := goodIn_r _ [9, 10, 11, 12, 8, 13, 14, 37, 38, 39, 40, 41, 42, 43, 44, 45, 46, 47, 48, 49, 50, 51, 52, 53, 54, 55, 56, 57, 58, 59, 60, 61, 62, 63] (by decide +kernel) (by decide +kernel)
set_option maxRecDepth 20000 in
theorem gX11_count_X11_many : GoodIn wsX11_count (wsV RX11 95 RX11 yX11_many wsX11_many) := goodIn_app (goodIn_of _ (by decide +kernel)) ggX11_count_X11_many
set_option maxRecDepth 20000 in
theorem ggX11_count_X11_saidOf : GoodIn wsX11_count wsX11_saidOf := goodIn_r _ [18, 2, 19, 20, 21, 22, 37, 38, 39, 40, 41, 42, 43, 44, 45, 46, 47, 48, 49, 50, 51, 52, 53, 54, 55, 56, 57, 58, 59, 60, 61, 62, 63] (by decide +kernel) (by decide +kernel)
set_option maxRecDepth 20000 in
theorem gX11_count_X11_saidOf : GoodIn wsX11_count (wsV RX11 150 RX11 yX11_saidOf wsX11_saidOf) := goodIn_app (goodIn_of _ (by decide +kernel)) ggX11_count_X11_saidOf
set_option maxRecDepth 20000 in
theorem ggX11_count_X11_friendships : GoodIn wsX11_count wsX11_friendships := goodIn_r _ [26, 27, 28, 29, 8, 30, 37, 38, 39, 40, 41, 42, 43, 44, 45, 46, 47, 48, 49, 50, 51, 52, 53, 54, 55, 56, 57, 58, 59, 60, 61, 62, 63] (by decide +kernel) (by decide +kernel)
set_option maxRecDepth 20000 in
theorem gX11_count_X11_friendships : GoodIn wsX11_count (wsV RX11 251 RX11 yX11_friendships wsX11_friendships) := goodIn_app (goodIn_of _ (by decide +kernel)) ggX11_count_X11_friendships
set_option maxRecDepth 20000 in
theorem ggX11_count_X11_whole : GoodIn wsX11_count wsX11_whole := goodIn_r _ [34, 35, 36, 37, 38, 39, 40, 41, 42, 43, 44, 45, 46, 47, 48, 49, 50, 51, 52, 53, 54, 55, 56, 57, 58, 59, 60, 61, 62, 63] (by decide +kernel) (by decide +kernel)
set_option maxRecDepth 20000 in
theorem gX11_count_X11_whole : GoodIn wsX11_count (wsV RX11 231 RX11 yX11_whole wsX11_whole) := goodIn_app (goodIn_of _ (by decide +kernel)) ggX11_count_X11_whole
theorem dX11_count_0 : decode cX11_count 0 = .ok (.iload_n 1, 1) := by decide +kernel
theorem dX11_count_1 : decode cX11_count 1 = .ok (.tableswitch 93 0 8 #[51, 51, 57, 62, 67, 73, 78, 83, 88], 51) := by decide +kernel
theorem dX11_count_52 : decode cX11_count 52 = .ok (.aload_n 0, 1) := by decide +kernel
theorem dX11_count_53 : decode cX11_count 53 = .ok (.iload_n 1, 1) := by decide +kernel
theorem dX11_count_54 : decode cX11_count 54 = .ok (.invokevirtual 95, 3) := by decide +kernel
theorem dX11_count_57 : decode cX11_count 57 = .ok (.ireturn, 1) := by decide +kernel
theorem dX11_count_58 : decode cX11_count 58 = .ok (.aload_n 0, 1) := by decide +kernel
theorem dX11_count_59 : decode cX11_count 59 = .ok (.getfield 78, 3) := by decide +kernel
theorem dX11_count_62 : decode cX11_count 62 = .ok (.ireturn, 1) := by decide +kernel
theorem dX11_count_63 : decode cX11_count 63 = .ok (.aload_n 0, 1) := by decide +kernel
theorem dX11_count_64 : decode cX11_count 64 = .ok (.getfield 137, 3) := by decide +kernel
theorem dX11_count_67 : decode cX11_count 67 = .ok (.ireturn, 1) := by decide +kernel
theorem dX11_count_68 : decode cX11_count 68 = .ok (.aload_n 0, 1) := by decide +kernel
theorem dX11_count_69 : decode cX11_count 69 = .ok (.iconst 0, 1) := by decide +kernel
theorem dX11_count_70 : decode cX11_count 70 = .ok (.invokevirtual 150, 3) := by decide +kernel
theorem dX11_count_73 : decode cX11_count 73 = .ok (.ireturn, 1) := by decide +kernel
theorem dX11_count_74 : decode cX11_count 74 = .ok (.aload_n 0, 1) := by decide +kernel
theorem dX11_count_75 : decode cX11_count 75 = .ok (.getfield 176, 3) := by decide +kernel
theorem dX11_count_78 : decode cX11_count 78 = .ok (.ireturn, 1) := by decide +kernel
theorem dX11_count_79 : decode cX11_count 79 = .ok (.aload_n 0, 1) := by decide +kernel
theorem dX11_count_80 : decode cX11_count 80 = .ok (.invokevirtual 251, 3) := by decide +kernel
theorem dX11_count_83 : decode cX11_count 83 = .ok (.ireturn, 1) := by decide +kernel
theorem dX11_count_84 : decode cX11_count 84 = .ok (.aload_n 0, 1) := by decide +kernel
theorem dX11_count_85 : decode cX11_count 85 = .ok (.invokevirtual 231, 3) := by decide +kernel
theorem dX11_count_88 : decode cX11_count 88 = .ok (.ireturn, 1) := by decide +kernel
theorem dX11_count_89 : decode cX11_count 89 = .ok (.aload_n 0, 1) := by decide +kernel
theorem dX11_count_90 : decode cX11_count 90 = .ok (.getfield 240, 3) := by decide +kernel
theorem dX11_count_93 : decode cX11_count 93 = .ok (.ireturn, 1) := by decide +kernel
theorem dX11_count_94 : decode cX11_count 94 = .ok (.bipush (-2), 2) := by decide +kernel
theorem dX11_count_96 : decode cX11_count 96 = .ok (.ireturn, 1) := by decide +kernel
set_option maxRecDepth 20000 in
theorem ggX11_digest_X11_count : GoodIn wsX11_digest wsX11_count := goodIn_r _ [7, 8, 9, 10, 11, 12, 13, 14, 6, 15, 16, 17, 18, 19, 20, 21, 22, 23, 24, 25, 26, 27, 28, 29, 30, 31, 32, 33, 34, 35, 36, 37, 38, 39, 40, 41, 42, 182, 183, 184, 185, 186, 187, 188, 189, 190, 191, 192, 193, 194, 195, 196, 197, 198, 199, 200, 201, 202, 203, 204, 205, 206, 207, 208] (by decide +kernel) (by decide +kernel)
set_option maxRecDepth 20000 in
theorem gX11_digest_X11_count : GoodIn wsX11_digest (wsV RX11 258 RX11 yX11_count wsX11_count) := goodIn_app (goodIn_of _ (by decide +kernel)) ggX11_digest_X11_count
set_option maxRecDepth 20000 in
theorem ggX11_digest_X11_faultNow : GoodIn wsX11_digest wsX11_faultNow := goodIn_r _ [46, 47, 48, 8, 49, 50, 51, 6, 52, 53, 54, 55, 56, 57, 58, 59, 60, 182, 183, 184, 185, 186, 187, 188, 189, 190, 191, 192, 193, 194, 195, 196, 197, 198, 199, 200, 201, 202, 203, 204, 205, 206, 207, 208] (by decide +kernel) (by decide +kernel)
set_option maxRecDepth 20000 in
theorem gX11_digest_X11_faultNow : GoodIn wsX11_digest (wsV RX11 91 RX11 yX11_faultNow wsX11_faultNow) := goodIn_app (goodIn_of _ (by decide +kernel)) ggX11_digest_X11_faultNow
set_option maxRecDepth 20000 in
theorem ggX11_digest_X11_gapsNow : GoodIn wsX11_digest wsX11_gapsNow := goodIn_r _ [64, 65, 12, 13, 14, 6, 15, 16, 17, 18, 19, 20, 66, 67, 68, 69, 70, 71, 72, 73, 74, 75, 76, 77, 78, 79, 80, 182, 183, 184, 185, 186, 187, 188, 189, 190, 191, 192, 193, 194, 195, 196, 197, 198, 199, 200, 201, 202, 203, 204, 205, 206, 207, 208] (by decide +kernel) (by decide +kernel)
set_option maxRecDepth 20000 in
theorem gX11_digest_X11_gapsNow : GoodIn wsX11_digest (wsV RX11 119 RX11 yX11_gapsNow wsX11_gapsNow) := goodIn_app (goodIn_of _ (by decide +kernel)) ggX11_digest_X11_gapsNow
set_option maxRecDepth 20000 in
theorem ggX11_digest_X11_heldNow : GoodIn wsX11_digest wsX11_heldNow := goodIn_r _ [84, 85, 86, 87, 88, 16, 17, 18, 6, 19, 20, 89, 90, 91, 92, 93, 94, 95, 182, 183, 184, 185, 186, 187, 188, 189, 190, 191, 192, 193, 194, 195, 196, 197, 198, 199, 200, 201, 202, 203, 204, 205, 206, 207, 208] (by decide +kernel) (by decide +kernel)
set_option maxRecDepth 20000 in
theorem gX11_digest_X11_heldNow : GoodIn wsX11_digest (wsV RX11 131 RX11 yX11_heldNow wsX11_heldNow) := goodIn_app (goodIn_of _ (by decide +kernel)) ggX11_digest_X11_heldNow
set_option maxRecDepth 20000 in
theorem ggX11_digest_X11_sizeNow : GoodIn wsX11_digest wsX11_sizeNow := goodIn_r _ [99, 21, 22, 23, 6, 24, 9, 25, 26, 27, 28, 66, 67, 68, 69, 78, 79, 80, 100, 101, 102, 103, 182, 183, 184, 185, 186, 187, 188, 189, 190, 191, 192, 193, 194, 195, 196, 197, 198, 199, 200, 201, 202, 203, 204, 205, 206, 207, 208] (by decide +kernel) (by decide +kernel)
set_option maxRecDepth 20000 in
theorem gX11_digest_X11_sizeNow : GoodIn wsX11_digest (wsV RX11 156 RX11 yX11_sizeNow wsX11_sizeNow) := goodIn_app (goodIn_of _ (by decide +kernel)) ggX11_digest_X11_sizeNow
set_option maxRecDepth 20000 in
theorem ggX11_digest_X11_likeliestNow : GoodIn wsX11_digest wsX11_likeliestNow := goodIn_r _ [107, 21, 22, 23, 6, 24, 9, 25, 26, 27, 28, 108, 109, 110, 111, 112, 113, 114, 115, 58, 59, 60, 116, 117, 118, 119, 120, 121, 122, 182, 183, 184, 185, 186, 187, 188, 189, 190, 191, 192, 193, 194, 195, 196, 197, 198, 199, 200, 201, 202, 203, 204, 205, 206, 207, 208] (by decide +kernel) (by decide +kernel)
set_option maxRecDepth 20000 in
theorem gX11_digest_X11_likeliestNow : GoodIn wsX11_digest (wsV RX11 173 RX11 yX11_likeliestNow wsX11_likeliestNow) := goodIn_app (goodIn_of _ (by decide +kernel)) ggX11_digest_X11_likeliestNow
set_option maxRecDepth 20000 in
theorem ggX11_digest_X11_wardNow : GoodIn wsX11_digest wsX11_wardNow := goodIn_r _ [126, 127, 128, 129, 6, 130, 10, 131, 132, 133, 134, 135, 136, 137, 138, 139, 140, 141, 58, 59, 60, 182, 183, 184, 185, 186, 187, 188, 189, 190, 191, 192, 193, 194, 195, 196, 197, 198, 199, 200, 201, 202, 203, 204, 205, 206, 207, 208] (by decide +kernel) (by decide +kernel)
set_option maxRecDepth 20000 in
theorem gX11_digest_X11_wardNow : GoodIn wsX11_digest (wsV RX11 193 RX11 yX11_wardNow wsX11_wardNow) := goodIn_app (goodIn_of _ (by decide +kernel)) ggX11_digest_X11_wardNow
set_option maxRecDepth 20000 in
theorem ggX11_digest_X11_meansNow : GoodIn wsX11_digest wsX11_meansNow := goodIn_r _ [145, 132, 127, 128, 129, 6, 130, 10, 131, 133, 134, 135, 136, 137, 138, 139, 140, 141, 58, 59, 60, 66, 67, 68, 69, 78, 79, 80, 182, 183, 184, 185, 186, 187, 188, 189, 190, 191, 192, 193, 194, 195, 196, 197, 198, 199, 200, 201, 202, 203, 204, 205, 206, 207, 208] (by decide +kernel) (by decide +kernel)
set_option maxRecDepth 20000 in
theorem gX11_digest_X11_meansNow : GoodIn wsX11_digest (wsV RX11 196 RX11 yX11_meansNow wsX11_meansNow) := goodIn_app (goodIn_of _ (by decide +kernel)) ggX11_digest_X11_meansNow
set_option maxRecDepth 20000 in
theorem ggX11_digest_X11_fullestNow : GoodIn wsX11_digest wsX11_fullestNow := goodIn_r _ [149, 150, 151, 152, 6, 153, 86, 10, 131, 137, 127, 128, 129, 130, 132, 133, 134, 135, 136, 138, 139, 140, 141, 58, 59, 60, 182, 183, 184, 185, 186, 187, 188, 189, 190, 191, 192, 193, 194, 195, 196, 197, 198, 199, 200, 201, 202, 203, 204, 205, 206, 207, 208] (by decide +kernel) (by decide +kernel)
set_option maxRecDepth 20000 in
theorem gX11_digest_X11_fullestNow : GoodIn wsX11_digest (wsV RX11 203 RX11 yX11_fullestNow wsX11_fullestNow) := goodIn_app (goodIn_of _ (by decide +kernel)) ggX11_digest_X11_fullestNow
set_option maxRecDepth 20000 in
theorem ggX11_digest_X11_meanNow : GoodIn wsX11_digest wsX11_meanNow := goodIn_r _ [157, 33, 158, 159, 34, 35, 6, 36, 160, 161, 162, 163, 164, 165, 166, 66, 67, 68, 69, 78, 79, 80, 182, 183, 184, 185, 186, 187, 188, 189, 190, 191, 192, 193, 194, 195, 196, 197, 198, 199, 200, 201, 202, 203, 204, 205, 206, 207, 208] (by decide +kernel) (by decide +kernel)
set_option maxRecDepth 20000 in
theorem gX11_digest_X11_meanNow : GoodIn wsX11_digest (wsV RX11 219 RX11 yX11_meanNow wsX11_meanNow) := goodIn_app (goodIn_of _ (by decide +kernel)) ggX11_digest_X11_meanNow
set_option maxRecDepth 20000 in
theorem ggX11_digest_X11_fewerNow : GoodIn wsX11_digest wsX11_fewerNow := goodIn_r _ [170, 33, 34, 35, 6, 36, 164, 165, 166, 182, 183, 184, 185, 186, 187, 188, 189, 190, 191, 192, 193, 194, 195, 196, 197, 198, 199, 200, 201, 202, 203, 204, 205, 206, 207, 208] (by decide +kernel) (by decide +kernel)
set_option maxRecDepth 20000 in
theorem gX11_digest_X11_fewerNow : GoodIn wsX11_digest (wsV RX11 222 RX11 yX11_fewerNow wsX11_fewerNow) := goodIn_app (goodIn_of _ (by decide +kernel)) ggX11_digest_X11_fewerNow
set_option maxRecDepth 20000 in
theorem ggX11_digest_X11_bestNow : GoodIn wsX11_digest wsX11_bestNow := goodIn_r _ [174, 33, 164, 165, 6, 166, 34, 35, 36, 182, 183, 184, 185, 186, 187, 188, 189, 190, 191, 192, 193, 194, 195, 196, 197, 198, 199, 200, 201, 202, 203, 204, 205, 206, 207, 208] (by decide +kernel) (by decide +kernel)
set_option maxRecDepth 20000 in
theorem gX11_digest_X11_bestNow : GoodIn wsX11_digest (wsV RX11 225 RX11 yX11_bestNow wsX11_bestNow) := goodIn_app (goodIn_of _ (by decide +kernel)) ggX11_digest_X11_bestNow
set_option maxRecDepth 20000 in
theorem ggX11_digest_X11_stickNow : GoodIn wsX11_digest wsX11_stickNow := goodIn_r _ [178, 41, 42, 66, 67, 6, 68, 69, 37, 38, 39, 40, 78, 79, 80, 179, 180, 181, 164, 165, 166, 34, 35, 36, 182, 183, 184, 185, 186, 187, 188, 189, 190, 191, 192, 193, 194, 195, 196, 197, 198, 199, 200, 201, 202, 203, 204, 205, 206, 207, 208] (by decide +kernel) (by decide +kernel)
set_option maxRecDepth 20000 in
theorem gX11_digest_X11_stickNow : GoodIn wsX11_digest (wsV RX11 237 RX11 yX11_stickNow wsX11_stickNow) := goodIn_app (goodIn_of _ (by decide +kernel)) ggX11_digest_X11_stickNow
theorem dX11_digest_0 : decode cX11_digest 0 = .ok (.ldc2_w 254, 3) := by decide +kernel
theorem dX11_digest_3 : decode cX11_digest 3 = .ok (.lstore_n 1, 1) := by decide +kernel
theorem dX11_digest_4 : decode cX11_digest 4 = .ok (.iconst 0, 1) := by decide +kernel
theorem dX11_digest_5 : decode cX11_digest 5 = .ok (.istore_n 3, 1) := by decide +kernel
theorem dX11_digest_6 : decode cX11_digest 6 = .ok (.iload_n 3, 1) := by decide +kernel
theorem dX11_digest_7 : decode cX11_digest 7 = .ok (.bipush 8, 2) := by decide +kernel
theorem dX11_digest_9 : decode cX11_digest 9 = .ok (.if_icmp .ge 22, 3) := by decide +kernel
theorem dX11_digest_12 : decode cX11_digest 12 = .ok (.ldc2_w 256, 3) := by decide +kernel
theorem dX11_digest_15 : decode cX11_digest 15 = .ok (.lload_n 1, 1) := by decide +kernel
theorem dX11_digest_16 : decode cX11_digest 16 = .ok (.lmul, 1) := by decide +kernel
theorem dX11_digest_17 : decode cX11_digest 17 = .ok (.aload_n 0, 1) := by decide +kernel
theorem dX11_digest_18 : decode cX11_digest 18 = .ok (.iload_n 3, 1) := by decide +kernel
theorem dX11_digest_19 : decode cX11_digest 19 = .ok (.invokevirtual 258, 3) := by decide +kernel
theorem dX11_digest_22 : decode cX11_digest 22 = .ok (.i2l, 1) := by decide +kernel
theorem dX11_digest_23 : decode cX11_digest 23 = .ok (.ladd, 1) := by decide +kernel
theorem dX11_digest_24 : decode cX11_digest 24 = .ok (.lstore_n 1, 1) := by decide +kernel
theorem dX11_digest_25 : decode cX11_digest 25 = .ok (.iinc 3 1, 3) := by decide +kernel
theorem dX11_digest_28 : decode cX11_digest 28 = .ok (.goto (-22), 3) := by decide +kernel
theorem dX11_digest_31 : decode cX11_digest 31 = .ok (.ldc2_w 256, 3) := by decide +kernel
theorem dX11_digest_34 : decode cX11_digest 34 = .ok (.lload_n 1, 1) := by decide +kernel
theorem dX11_digest_35 : decode cX11_digest 35 = .ok (.lmul, 1) := by decide +kernel
theorem dX11_digest_36 : decode cX11_digest 36 = .ok (.aload_n 0, 1) := by decide +kernel
theorem dX11_digest_37 : decode cX11_digest 37 = .ok (.invokevirtual 91, 3) := by decide +kernel
theorem dX11_digest_40 : decode cX11_digest 40 = .ok (.i2l, 1) := by decide +kernel
theorem dX11_digest_41 : decode cX11_digest 41 = .ok (.ladd, 1) := by decide +kernel
theorem dX11_digest_42 : decode cX11_digest 42 = .ok (.lstore_n 1, 1) := by decide +kernel
theorem dX11_digest_43 : decode cX11_digest 43 = .ok (.iconst 0, 1) := by decide +kernel
theorem dX11_digest_44 : decode cX11_digest 44 = .ok (.istore_n 3, 1) := by decide +kernel
theorem dX11_digest_45 : decode cX11_digest 45 = .ok (.iload_n 3, 1) := by decide +kernel
theorem dX11_digest_46 : decode cX11_digest 46 = .ok (.iconst 3, 1) := by decide +kernel
theorem dX11_digest_47 : decode cX11_digest 47 = .ok (.if_icmp .ge 54, 3) := by decide +kernel
theorem dX11_digest_50 : decode cX11_digest 50 = .ok (.iconst 0, 1) := by decide +kernel
theorem dX11_digest_51 : decode cX11_digest 51 = .ok (.istore 4, 2) := by decide +kernel
theorem dX11_digest_53 : decode cX11_digest 53 = .ok (.iload 4, 2) := by decide +kernel
theorem dX11_digest_55 : decode cX11_digest 55 = .ok (.iconst 3, 1) := by decide +kernel
theorem dX11_digest_56 : decode cX11_digest 56 = .ok (.if_icmp .ge 39, 3) := by decide +kernel
theorem dX11_digest_59 : decode cX11_digest 59 = .ok (.ldc2_w 256, 3) := by decide +kernel
theorem dX11_digest_62 : decode cX11_digest 62 = .ok (.lload_n 1, 1) := by decide +kernel
theorem dX11_digest_63 : decode cX11_digest 63 = .ok (.lmul, 1) := by decide +kernel
theorem dX11_digest_64 : decode cX11_digest 64 = .ok (.aload_n 0, 1) := by decide +kernel
theorem dX11_digest_65 : decode cX11_digest 65 = .ok (.iload_n 3, 1) := by decide +kernel
theorem dX11_digest_66 : decode cX11_digest 66 = .ok (.iload 4, 2) := by decide +kernel
theorem dX11_digest_68 : decode cX11_digest 68 = .ok (.iconst 0, 1) := by decide +kernel
theorem dX11_digest_69 : decode cX11_digest 69 = .ok (.invokevirtual 119, 3) := by decide +kernel
theorem dX11_digest_72 : decode cX11_digest 72 = .ok (.ladd, 1) := by decide +kernel
theorem dX11_digest_73 : decode cX11_digest 73 = .ok (.lstore_n 1, 1) := by decide +kernel
theorem dX11_digest_74 : decode cX11_digest 74 = .ok (.ldc2_w 256, 3) := by decide +kernel
theorem dX11_digest_77 : decode cX11_digest 77 = .ok (.lload_n 1, 1) := by decide +kernel
theorem dX11_digest_78 : decode cX11_digest 78 = .ok (.lmul, 1) := by decide +kernel
theorem dX11_digest_79 : decode cX11_digest 79 = .ok (.aload_n 0, 1) := by decide +kernel
theorem dX11_digest_80 : decode cX11_digest 80 = .ok (.iload_n 3, 1) := by decide +kernel
theorem dX11_digest_81 : decode cX11_digest 81 = .ok (.iload 4, 2) := by decide +kernel
theorem dX11_digest_83 : decode cX11_digest 83 = .ok (.iconst 1, 1) := by decide +kernel
theorem dX11_digest_84 : decode cX11_digest 84 = .ok (.invokevirtual 119, 3) := by decide +kernel
theorem dX11_digest_87 : decode cX11_digest 87 = .ok (.ladd, 1) := by decide +kernel
theorem dX11_digest_88 : decode cX11_digest 88 = .ok (.lstore_n 1, 1) := by decide +kernel
theorem dX11_digest_89 : decode cX11_digest 89 = .ok (.iinc 4 1, 3) := by decide +kernel
theorem dX11_digest_92 : decode cX11_digest 92 = .ok (.goto (-39), 3) := by decide +kernel
theorem dX11_digest_95 : decode cX11_digest 95 = .ok (.iinc 3 1, 3) := by decide +kernel
theorem dX11_digest_98 : decode cX11_digest 98 = .ok (.goto (-53), 3) := by decide +kernel
theorem dX11_digest_101 : decode cX11_digest 101 = .ok (.ldc2_w 256, 3) := by decide +kernel
theorem dX11_digest_104 : decode cX11_digest 104 = .ok (.lload_n 1, 1) := by decide +kernel
theorem dX11_digest_105 : decode cX11_digest 105 = .ok (.lmul, 1) := by decide +kernel
theorem dX11_digest_106 : decode cX11_digest 106 = .ok (.aload_n 0, 1) := by decide +kernel
theorem dX11_digest_107 : decode cX11_digest 107 = .ok (.iconst 0, 1) := by decide +kernel
theorem dX11_digest_108 : decode cX11_digest 108 = .ok (.iconst 2, 1) := by decide +kernel
theorem dX11_digest_109 : decode cX11_digest 109 = .ok (.iconst (-1), 1) := by decide +kernel
theorem dX11_digest_110 : decode cX11_digest 110 = .ok (.invokevirtual 131, 3) := by decide +kernel
theorem dX11_digest_113 : decode cX11_digest 113 = .ok (.i2l, 1) := by decide +kernel
theorem dX11_digest_114 : decode cX11_digest 114 = .ok (.ladd, 1) := by decide +kernel
theorem dX11_digest_115 : decode cX11_digest 115 = .ok (.lstore_n 1, 1) := by decide +kernel
theorem dX11_digest_116 : decode cX11_digest 116 = .ok (.ldc2_w 256, 3) := by decide +kernel
theorem dX11_digest_119 : decode cX11_digest 119 = .ok (.lload_n 1, 1) := by decide +kernel
theorem dX11_digest_120 : decode cX11_digest 120 = .ok (.lmul, 1) := by decide +kernel
theorem dX11_digest_121 : decode cX11_digest 121 = .ok (.aload_n 0, 1) := by decide +kernel
theorem dX11_digest_122 : decode cX11_digest 122 = .ok (.iconst 1, 1) := by decide +kernel
theorem dX11_digest_123 : decode cX11_digest 123 = .ok (.iconst 2, 1) := by decide +kernel
theorem dX11_digest_124 : decode cX11_digest 124 = .ok (.iconst (-1), 1) := by decide +kernel
theorem dX11_digest_125 : decode cX11_digest 125 = .ok (.invokevirtual 131, 3) := by decide +kernel
theorem dX11_digest_128 : decode cX11_digest 128 = .ok (.i2l, 1) := by decide +kernel
theorem dX11_digest_129 : decode cX11_digest 129 = .ok (.ladd, 1) := by decide +kernel
theorem dX11_digest_130 : decode cX11_digest 130 = .ok (.lstore_n 1, 1) := by decide +kernel
theorem dX11_digest_131 : decode cX11_digest 131 = .ok (.iconst 0, 1) := by decide +kernel
theorem dX11_digest_132 : decode cX11_digest 132 = .ok (.istore_n 3, 1) := by decide +kernel
theorem dX11_digest_133 : decode cX11_digest 133 = .ok (.iload_n 3, 1) := by decide +kernel
theorem dX11_digest_134 : decode cX11_digest 134 = .ok (.iconst 2, 1) := by decide +kernel
theorem dX11_digest_135 : decode cX11_digest 135 = .ok (.if_icmp .ge 35, 3) := by decide +kernel
theorem dX11_digest_138 : decode cX11_digest 138 = .ok (.ldc2_w 256, 3) := by decide +kernel
theorem dX11_digest_141 : decode cX11_digest 141 = .ok (.lload_n 1, 1) := by decide +kernel
theorem dX11_digest_142 : decode cX11_digest 142 = .ok (.lmul, 1) := by decide +kernel
theorem dX11_digest_143 : decode cX11_digest 143 = .ok (.aload_n 0, 1) := by decide +kernel
theorem dX11_digest_144 : decode cX11_digest 144 = .ok (.iload_n 3, 1) := by decide +kernel
theorem dX11_digest_145 : decode cX11_digest 145 = .ok (.iconst 0, 1) := by decide +kernel
theorem dX11_digest_146 : decode cX11_digest 146 = .ok (.invokevirtual 156, 3) := by decide +kernel
theorem dX11_digest_149 : decode cX11_digest 149 = .ok (.ladd, 1) := by decide +kernel
theorem dX11_digest_150 : decode cX11_digest 150 = .ok (.lstore_n 1, 1) := by decide +kernel
theorem dX11_digest_151 : decode cX11_digest 151 = .ok (.ldc2_w 256, 3) := by decide +kernel
theorem dX11_digest_154 : decode cX11_digest 154 = .ok (.lload_n 1, 1) := by decide +kernel
theorem dX11_digest_155 : decode cX11_digest 155 = .ok (.lmul, 1) := by decide +kernel
theorem dX11_digest_156 : decode cX11_digest 156 = .ok (.aload_n 0, 1) := by decide +kernel
theorem dX11_digest_157 : decode cX11_digest 157 = .ok (.iload_n 3, 1) := by decide +kernel
theorem dX11_digest_158 : decode cX11_digest 158 = .ok (.iconst 1, 1) := by decide +kernel
theorem dX11_digest_159 : decode cX11_digest 159 = .ok (.invokevirtual 156, 3) := by decide +kernel
theorem dX11_digest_162 : decode cX11_digest 162 = .ok (.ladd, 1) := by decide +kernel
theorem dX11_digest_163 : decode cX11_digest 163 = .ok (.lstore_n 1, 1) := by decide +kernel
theorem dX11_digest_164 : decode cX11_digest 164 = .ok (.iinc 3 1, 3) := by decide +kernel
theorem dX11_digest_167 : decode cX11_digest 167 = .ok (.goto (-34), 3) := by decide +kernel
theorem dX11_digest_170 : decode cX11_digest 170 = .ok (.ldc2_w 256, 3) := by decide +kernel
theorem dX11_digest_173 : decode cX11_digest 173 = .ok (.lload_n 1, 1) := by decide +kernel
theorem dX11_digest_174 : decode cX11_digest 174 = .ok (.lmul, 1) := by decide +kernel
theorem dX11_digest_175 : decode cX11_digest 175 = .ok (.aload_n 0, 1) := by decide +kernel
theorem dX11_digest_176 : decode cX11_digest 176 = .ok (.invokevirtual 173, 3) := by decide +kernel
theorem dX11_digest_179 : decode cX11_digest 179 = .ok (.i2l, 1) := by decide +kernel
theorem dX11_digest_180 : decode cX11_digest 180 = .ok (.ladd, 1) := by decide +kernel
theorem dX11_digest_181 : decode cX11_digest 181 = .ok (.lstore_n 1, 1) := by decide +kernel
theorem dX11_digest_182 : decode cX11_digest 182 = .ok (.iconst 0, 1) := by decide +kernel
theorem dX11_digest_183 : decode cX11_digest 183 = .ok (.istore_n 3, 1) := by decide +kernel
theorem dX11_digest_184 : decode cX11_digest 184 = .ok (.iload_n 3, 1) := by decide +kernel
theorem dX11_digest_185 : decode cX11_digest 185 = .ok (.iconst 4, 1) := by decide +kernel
theorem dX11_digest_186 : decode cX11_digest 186 = .ok (.if_icmp .ge 26, 3) := by decide +kernel
theorem dX11_digest_189 : decode cX11_digest 189 = .ok (.ldc2_w 256, 3) := by decide +kernel
theorem dX11_digest_192 : decode cX11_digest 192 = .ok (.lload_n 1, 1) := by decide +kernel
theorem dX11_digest_193 : decode cX11_digest 193 = .ok (.lmul, 1) := by decide +kernel
theorem dX11_digest_194 : decode cX11_digest 194 = .ok (.aload_n 0, 1) := by decide +kernel
theorem dX11_digest_195 : decode cX11_digest 195 = .ok (.bipush 10, 2) := by decide +kernel
theorem dX11_digest_197 : decode cX11_digest 197 = .ok (.bipush 30, 2) := by decide +kernel
theorem dX11_digest_199 : decode cX11_digest 199 = .ok (.iload_n 3, 1) := by decide +kernel
theorem dX11_digest_200 : decode cX11_digest 200 = .ok (.invokevirtual 193, 3) := by decide +kernel
theorem dX11_digest_203 : decode cX11_digest 203 = .ok (.i2l, 1) := by decide +kernel
theorem dX11_digest_204 : decode cX11_digest 204 = .ok (.ladd, 1) := by decide +kernel
theorem dX11_digest_205 : decode cX11_digest 205 = .ok (.lstore_n 1, 1) := by decide +kernel
theorem dX11_digest_206 : decode cX11_digest 206 = .ok (.iinc 3 1, 3) := by decide +kernel
theorem dX11_digest_209 : decode cX11_digest 209 = .ok (.goto (-25), 3) := by decide +kernel
theorem dX11_digest_212 : decode cX11_digest 212 = .ok (.iconst 0, 1) := by decide +kernel
theorem dX11_digest_213 : decode cX11_digest 213 = .ok (.istore_n 3, 1) := by decide +kernel
theorem dX11_digest_214 : decode cX11_digest 214 = .ok (.iload_n 3, 1) := by decide +kernel
theorem dX11_digest_215 : decode cX11_digest 215 = .ok (.bipush 6, 2) := by decide +kernel
theorem dX11_digest_217 : decode cX11_digest 217 = .ok (.if_icmp .ge 43, 3) := by decide +kernel
theorem dX11_digest_220 : decode cX11_digest 220 = .ok (.ldc2_w 256, 3) := by decide +kernel
theorem dX11_digest_223 : decode cX11_digest 223 = .ok (.lload_n 1, 1) := by decide +kernel
theorem dX11_digest_224 : decode cX11_digest 224 = .ok (.lmul, 1) := by decide +kernel
theorem dX11_digest_225 : decode cX11_digest 225 = .ok (.aload_n 0, 1) := by decide +kernel
theorem dX11_digest_226 : decode cX11_digest 226 = .ok (.bipush 10, 2) := by decide +kernel
theorem dX11_digest_228 : decode cX11_digest 228 = .ok (.bipush 30, 2) := by decide +kernel
theorem dX11_digest_230 : decode cX11_digest 230 = .ok (.iload_n 3, 1) := by decide +kernel
theorem dX11_digest_231 : decode cX11_digest 231 = .ok (.iconst 0, 1) := by decide +kernel
theorem dX11_digest_232 : decode cX11_digest 232 = .ok (.invokevirtual 196, 3) := by decide +kernel
theorem dX11_digest_235 : decode cX11_digest 235 = .ok (.ladd, 1) := by decide +kernel
theorem dX11_digest_236 : decode cX11_digest 236 = .ok (.lstore_n 1, 1) := by decide +kernel
theorem dX11_digest_237 : decode cX11_digest 237 = .ok (.ldc2_w 256, 3) := by decide +kernel
theorem dX11_digest_240 : decode cX11_digest 240 = .ok (.lload_n 1, 1) := by decide +kernel
theorem dX11_digest_241 : decode cX11_digest 241 = .ok (.lmul, 1) := by decide +kernel
theorem dX11_digest_242 : decode cX11_digest 242 = .ok (.aload_n 0, 1) := by decide +kernel
theorem dX11_digest_243 : decode cX11_digest 243 = .ok (.bipush 10, 2) := by decide +kernel
theorem dX11_digest_245 : decode cX11_digest 245 = .ok (.bipush 30, 2) := by decide +kernel
theorem dX11_digest_247 : decode cX11_digest 247 = .ok (.iload_n 3, 1) := by decide +kernel
theorem dX11_digest_248 : decode cX11_digest 248 = .ok (.iconst 1, 1) := by decide +kernel
theorem dX11_digest_249 : decode cX11_digest 249 = .ok (.invokevirtual 196, 3) := by decide +kernel
theorem dX11_digest_252 : decode cX11_digest 252 = .ok (.ladd, 1) := by decide +kernel
theorem dX11_digest_253 : decode cX11_digest 253 = .ok (.lstore_n 1, 1) := by decide +kernel
theorem dX11_digest_254 : decode cX11_digest 254 = .ok (.iinc 3 1, 3) := by decide +kernel
theorem dX11_digest_257 : decode cX11_digest 257 = .ok (.goto (-43), 3) := by decide +kernel
theorem dX11_digest_260 : decode cX11_digest 260 = .ok (.iconst 0, 1) := by decide +kernel
theorem dX11_digest_261 : decode cX11_digest 261 = .ok (.istore_n 3, 1) := by decide +kernel
theorem dX11_digest_262 : decode cX11_digest 262 = .ok (.iload_n 3, 1) := by decide +kernel
theorem dX11_digest_263 : decode cX11_digest 263 = .ok (.iconst 3, 1) := by decide +kernel
theorem dX11_digest_264 : decode cX11_digest 264 = .ok (.if_icmp .ge 22, 3) := by decide +kernel
theorem dX11_digest_267 : decode cX11_digest 267 = .ok (.ldc2_w 256, 3) := by decide +kernel
theorem dX11_digest_270 : decode cX11_digest 270 = .ok (.lload_n 1, 1) := by decide +kernel
theorem dX11_digest_271 : decode cX11_digest 271 = .ok (.lmul, 1) := by decide +kernel
theorem dX11_digest_272 : decode cX11_digest 272 = .ok (.aload_n 0, 1) := by decide +kernel
theorem dX11_digest_273 : decode cX11_digest 273 = .ok (.iload_n 3, 1) := by decide +kernel
theorem dX11_digest_274 : decode cX11_digest 274 = .ok (.invokevirtual 203, 3) := by decide +kernel
theorem dX11_digest_277 : decode cX11_digest 277 = .ok (.i2l, 1) := by decide +kernel
theorem dX11_digest_278 : decode cX11_digest 278 = .ok (.ladd, 1) := by decide +kernel
theorem dX11_digest_279 : decode cX11_digest 279 = .ok (.lstore_n 1, 1) := by decide +kernel
theorem dX11_digest_280 : decode cX11_digest 280 = .ok (.iinc 3 1, 3) := by decide +kernel
theorem dX11_digest_283 : decode cX11_digest 283 = .ok (.goto (-21), 3) := by decide +kernel
theorem dX11_digest_286 : decode cX11_digest 286 = .ok (.iconst 0, 1) := by decide +kernel
theorem dX11_digest_287 : decode cX11_digest 287 = .ok (.istore_n 3, 1) := by decide +kernel
theorem dX11_digest_288 : decode cX11_digest 288 = .ok (.iload_n 3, 1) := by decide +kernel
theorem dX11_digest_289 : decode cX11_digest 289 = .ok (.iconst 3, 1) := by decide +kernel
theorem dX11_digest_290 : decode cX11_digest 290 = .ok (.if_icmp .ge 35, 3) := by decide +kernel
theorem dX11_digest_293 : decode cX11_digest 293 = .ok (.ldc2_w 256, 3) := by decide +kernel
theorem dX11_digest_296 : decode cX11_digest 296 = .ok (.lload_n 1, 1) := by decide +kernel
theorem dX11_digest_297 : decode cX11_digest 297 = .ok (.lmul, 1) := by decide +kernel
theorem dX11_digest_298 : decode cX11_digest 298 = .ok (.aload_n 0, 1) := by decide +kernel
theorem dX11_digest_299 : decode cX11_digest 299 = .ok (.iload_n 3, 1) := by decide +kernel
theorem dX11_digest_300 : decode cX11_digest 300 = .ok (.iconst 0, 1) := by decide +kernel
theorem dX11_digest_301 : decode cX11_digest 301 = .ok (.invokevirtual 219, 3) := by decide +kernel
theorem dX11_digest_304 : decode cX11_digest 304 = .ok (.ladd, 1) := by decide +kernel
theorem dX11_digest_305 : decode cX11_digest 305 = .ok (.lstore_n 1, 1) := by decide +kernel
theorem dX11_digest_306 : decode cX11_digest 306 = .ok (.ldc2_w 256, 3) := by decide +kernel
theorem dX11_digest_309 : decode cX11_digest 309 = .ok (.lload_n 1, 1) := by decide +kernel
theorem dX11_digest_310 : decode cX11_digest 310 = .ok (.lmul, 1) := by decide +kernel
theorem dX11_digest_311 : decode cX11_digest 311 = .ok (.aload_n 0, 1) := by decide +kernel
theorem dX11_digest_312 : decode cX11_digest 312 = .ok (.iload_n 3, 1) := by decide +kernel
theorem dX11_digest_313 : decode cX11_digest 313 = .ok (.iconst 1, 1) := by decide +kernel
theorem dX11_digest_314 : decode cX11_digest 314 = .ok (.invokevirtual 219, 3) := by decide +kernel
theorem dX11_digest_317 : decode cX11_digest 317 = .ok (.ladd, 1) := by decide +kernel
theorem dX11_digest_318 : decode cX11_digest 318 = .ok (.lstore_n 1, 1) := by decide +kernel
theorem dX11_digest_319 : decode cX11_digest 319 = .ok (.iinc 3 1, 3) := by decide +kernel
theorem dX11_digest_322 : decode cX11_digest 322 = .ok (.goto (-34), 3) := by decide +kernel
theorem dX11_digest_325 : decode cX11_digest 325 = .ok (.ldc2_w 256, 3) := by decide +kernel
theorem dX11_digest_328 : decode cX11_digest 328 = .ok (.lload_n 1, 1) := by decide +kernel
theorem dX11_digest_329 : decode cX11_digest 329 = .ok (.lmul, 1) := by decide +kernel
theorem dX11_digest_330 : decode cX11_digest 330 = .ok (.aload_n 0, 1) := by decide +kernel
theorem dX11_digest_331 : decode cX11_digest 331 = .ok (.invokevirtual 222, 3) := by decide +kernel
theorem dX11_digest_334 : decode cX11_digest 334 = .ok (.i2l, 1) := by decide +kernel
theorem dX11_digest_335 : decode cX11_digest 335 = .ok (.ladd, 1) := by decide +kernel
theorem dX11_digest_336 : decode cX11_digest 336 = .ok (.lstore_n 1, 1) := by decide +kernel
theorem dX11_digest_337 : decode cX11_digest 337 = .ok (.ldc2_w 256, 3) := by decide +kernel
theorem dX11_digest_340 : decode cX11_digest 340 = .ok (.lload_n 1, 1) := by decide +kernel
theorem dX11_digest_341 : decode cX11_digest 341 = .ok (.lmul, 1) := by decide +kernel
theorem dX11_digest_342 : decode cX11_digest 342 = .ok (.aload_n 0, 1) := by decide +kernel
theorem dX11_digest_343 : decode cX11_digest 343 = .ok (.iconst 2, 1) := by decide +kernel
theorem dX11_digest_344 : decode cX11_digest 344 = .ok (.iconst 0, 1) := by decide +kernel
theorem dX11_digest_345 : decode cX11_digest 345 = .ok (.invokevirtual 225, 3) := by decide +kernel
theorem dX11_digest_348 : decode cX11_digest 348 = .ok (.i2l, 1) := by decide +kernel
theorem dX11_digest_349 : decode cX11_digest 349 = .ok (.ladd, 1) := by decide +kernel
theorem dX11_digest_350 : decode cX11_digest 350 = .ok (.lstore_n 1, 1) := by decide +kernel
theorem dX11_digest_351 : decode cX11_digest 351 = .ok (.iconst 0, 1) := by decide +kernel
theorem dX11_digest_352 : decode cX11_digest 352 = .ok (.istore_n 3, 1) := by decide +kernel
theorem dX11_digest_353 : decode cX11_digest 353 = .ok (.iload_n 3, 1) := by decide +kernel
theorem dX11_digest_354 : decode cX11_digest 354 = .ok (.iconst 3, 1) := by decide +kernel
theorem dX11_digest_355 : decode cX11_digest 355 = .ok (.if_icmp .ge 37, 3) := by decide +kernel
theorem dX11_digest_358 : decode cX11_digest 358 = .ok (.ldc2_w 256, 3) := by decide +kernel
theorem dX11_digest_361 : decode cX11_digest 361 = .ok (.lload_n 1, 1) := by decide +kernel
theorem dX11_digest_362 : decode cX11_digest 362 = .ok (.lmul, 1) := by decide +kernel
theorem dX11_digest_363 : decode cX11_digest 363 = .ok (.aload_n 0, 1) := by decide +kernel
theorem dX11_digest_364 : decode cX11_digest 364 = .ok (.iload_n 3, 1) := by decide +kernel
theorem dX11_digest_365 : decode cX11_digest 365 = .ok (.iconst 1, 1) := by decide +kernel
theorem dX11_digest_366 : decode cX11_digest 366 = .ok (.iconst 0, 1) := by decide +kernel
theorem dX11_digest_367 : decode cX11_digest 367 = .ok (.invokevirtual 237, 3) := by decide +kernel
theorem dX11_digest_370 : decode cX11_digest 370 = .ok (.ladd, 1) := by decide +kernel
theorem dX11_digest_371 : decode cX11_digest 371 = .ok (.lstore_n 1, 1) := by decide +kernel
theorem dX11_digest_372 : decode cX11_digest 372 = .ok (.ldc2_w 256, 3) := by decide +kernel
theorem dX11_digest_375 : decode cX11_digest 375 = .ok (.lload_n 1, 1) := by decide +kernel
theorem dX11_digest_376 : decode cX11_digest 376 = .ok (.lmul, 1) := by decide +kernel
theorem dX11_digest_377 : decode cX11_digest 377 = .ok (.aload_n 0, 1) := by decide +kernel
theorem dX11_digest_378 : decode cX11_digest 378 = .ok (.iload_n 3, 1) := by decide +kernel
theorem dX11_digest_379 : decode cX11_digest 379 = .ok (.iconst 1, 1) := by decide +kernel
theorem dX11_digest_380 : decode cX11_digest 380 = .ok (.iconst 1, 1) := by decide +kernel
theorem dX11_digest_381 : decode cX11_digest 381 = .ok (.invokevirtual 237, 3) := by decide +kernel
theorem dX11_digest_384 : decode cX11_digest 384 = .ok (.ladd, 1) := by decide +kernel
theorem dX11_digest_385 : decode cX11_digest 385 = .ok (.lstore_n 1, 1) := by decide +kernel
theorem dX11_digest_386 : decode cX11_digest 386 = .ok (.iinc 3 1, 3) := by decide +kernel
theorem dX11_digest_389 : decode cX11_digest 389 = .ok (.goto (-36), 3) := by decide +kernel
theorem dX11_digest_392 : decode cX11_digest 392 = .ok (.lload_n 1, 1) := by decide +kernel
theorem dX11_digest_393 : decode cX11_digest 393 = .ok (.lreturn, 1) := by decide +kernel
