theorem dX10_sizeOf_0 : decode cX10_sizeOf 0 = .ok (.aload_n 0, 1) := by decide +kernel
theorem dX10_sizeOf_1 : decode cX10_sizeOf 1 = .ok (.getfield 19, 3) := by decide +kernel
theorem dX10_sizeOf_4 : decode cX10_sizeOf 4 = .ok (.iload_n 1, 1) := by decide +kernel
theorem dX10_sizeOf_5 : decode cX10_sizeOf 5 = .ok (.iaload, 1) := by decide +kernel
theorem dX10_sizeOf_6 : decode cX10_sizeOf 6 = .ok (.istore_n 2, 1) := by decide +kernel
theorem dX10_sizeOf_7 : decode cX10_sizeOf 7 = .ok (.aload_n 0, 1) := by decide +kernel
theorem dX10_sizeOf_8 : decode cX10_sizeOf 8 = .ok (.iload_n 2, 1) := by decide +kernel
theorem dX10_sizeOf_9 : decode cX10_sizeOf 9 = .ok (.invokevirtual 256, 3) := by decide +kernel
theorem dX10_sizeOf_12 : decode cX10_sizeOf 12 = .ok (.aload_n 0, 1) := by decide +kernel
theorem dX10_sizeOf_13 : decode cX10_sizeOf 13 = .ok (.iload_n 2, 1) := by decide +kernel
theorem dX10_sizeOf_14 : decode cX10_sizeOf 14 = .ok (.invokevirtual 259, 3) := by decide +kernel
theorem dX10_sizeOf_17 : decode cX10_sizeOf 17 = .ok (.ifCond .le 12, 3) := by decide +kernel
theorem dX10_sizeOf_20 : decode cX10_sizeOf 20 = .ok (.aload_n 0, 1) := by decide +kernel
theorem dX10_sizeOf_21 : decode cX10_sizeOf 21 = .ok (.iload_n 2, 1) := by decide +kernel
theorem dX10_sizeOf_22 : decode cX10_sizeOf 22 = .ok (.invokevirtual 259, 3) := by decide +kernel
theorem dX10_sizeOf_25 : decode cX10_sizeOf 25 = .ok (.i2l, 1) := by decide +kernel
theorem dX10_sizeOf_26 : decode cX10_sizeOf 26 = .ok (.goto 8, 3) := by decide +kernel
theorem dX10_sizeOf_29 : decode cX10_sizeOf 29 = .ok (.aload_n 0, 1) := by decide +kernel
theorem dX10_sizeOf_30 : decode cX10_sizeOf 30 = .ok (.getfield 180, 3) := by decide +kernel
theorem dX10_sizeOf_33 : decode cX10_sizeOf 33 = .ok (.i2l, 1) := by decide +kernel
theorem dX10_sizeOf_34 : decode cX10_sizeOf 34 = .ok (.lstore_n 3, 1) := by decide +kernel
theorem dX10_sizeOf_35 : decode cX10_sizeOf 35 = .ok (.bipush 96, 2) := by decide +kernel
theorem dX10_sizeOf_37 : decode cX10_sizeOf 37 = .ok (.istore 5, 2) := by decide +kernel
theorem dX10_sizeOf_39 : decode cX10_sizeOf 39 = .ok (.iload 5, 2) := by decide +kernel
theorem dX10_sizeOf_41 : decode cX10_sizeOf 41 = .ok (.iconst 5, 1) := by decide +kernel
theorem dX10_sizeOf_42 : decode cX10_sizeOf 42 = .ok (.if_icmp .le 49, 3) := by decide +kernel
theorem dX10_sizeOf_45 : decode cX10_sizeOf 45 = .ok (.lload_n 3, 1) := by decide +kernel
theorem dX10_sizeOf_46 : decode cX10_sizeOf 46 = .ok (.iload 5, 2) := by decide +kernel
theorem dX10_sizeOf_48 : decode cX10_sizeOf 48 = .ok (.iconst 2, 1) := by decide +kernel
theorem dX10_sizeOf_49 : decode cX10_sizeOf 49 = .ok (.idiv, 1) := by decide +kernel
theorem dX10_sizeOf_50 : decode cX10_sizeOf 50 = .ok (.i2l, 1) := by decide +kernel
theorem dX10_sizeOf_51 : decode cX10_sizeOf 51 = .ok (.lmul, 1) := by decide +kernel
theorem dX10_sizeOf_52 : decode cX10_sizeOf 52 = .ok (.aload_n 0, 1) := by decide +kernel
theorem dX10_sizeOf_53 : decode cX10_sizeOf 53 = .ok (.getfield 22, 3) := by decide +kernel
theorem dX10_sizeOf_56 : decode cX10_sizeOf 56 = .ok (.iload_n 1, 1) := by decide +kernel
theorem dX10_sizeOf_57 : decode cX10_sizeOf 57 = .ok (.iaload, 1) := by decide +kernel
theorem dX10_sizeOf_58 : decode cX10_sizeOf 58 = .ok (.i2l, 1) := by decide +kernel
theorem dX10_sizeOf_59 : decode cX10_sizeOf 59 = .ok (.lcmp, 1) := by decide +kernel
theorem dX10_sizeOf_60 : decode cX10_sizeOf 60 = .ok (.ifCond .gt 22, 3) := by decide +kernel
theorem dX10_sizeOf_63 : decode cX10_sizeOf 63 = .ok (.iload 5, 2) := by decide +kernel
theorem dX10_sizeOf_65 : decode cX10_sizeOf 65 = .ok (.iload 5, 2) := by decide +kernel
theorem dX10_sizeOf_67 : decode cX10_sizeOf 67 = .ok (.iconst 4, 1) := by decide +kernel
theorem dX10_sizeOf_68 : decode cX10_sizeOf 68 = .ok (.idiv, 1) := by decide +kernel
theorem dX10_sizeOf_69 : decode cX10_sizeOf 69 = .ok (.iadd, 1) := by decide +kernel
theorem dX10_sizeOf_70 : decode cX10_sizeOf 70 = .ok (.aload_n 0, 1) := by decide +kernel
theorem dX10_sizeOf_71 : decode cX10_sizeOf 71 = .ok (.getfield 25, 3) := by decide +kernel
theorem dX10_sizeOf_74 : decode cX10_sizeOf 74 = .ok (.iload_n 1, 1) := by decide +kernel
theorem dX10_sizeOf_75 : decode cX10_sizeOf 75 = .ok (.iaload, 1) := by decide +kernel
theorem dX10_sizeOf_76 : decode cX10_sizeOf 76 = .ok (.if_icmp .gt 6, 3) := by decide +kernel
theorem dX10_sizeOf_79 : decode cX10_sizeOf 79 = .ok (.iload 5, 2) := by decide +kernel
theorem dX10_sizeOf_81 : decode cX10_sizeOf 81 = .ok (.ireturn, 1) := by decide +kernel
theorem dX10_sizeOf_82 : decode cX10_sizeOf 82 = .ok (.iload 5, 2) := by decide +kernel
theorem dX10_sizeOf_84 : decode cX10_sizeOf 84 = .ok (.iconst 2, 1) := by decide +kernel
theorem dX10_sizeOf_85 : decode cX10_sizeOf 85 = .ok (.idiv, 1) := by decide +kernel
theorem dX10_sizeOf_86 : decode cX10_sizeOf 86 = .ok (.istore 5, 2) := by decide +kernel
theorem dX10_sizeOf_88 : decode cX10_sizeOf 88 = .ok (.goto (-49), 3) := by decide +kernel
theorem dX10_sizeOf_91 : decode cX10_sizeOf 91 = .ok (.bipush (-6), 2) := by decide +kernel
theorem dX10_sizeOf_93 : decode cX10_sizeOf 93 = .ok (.ireturn, 1) := by decide +kernel
theorem dX10_checkField_0 : decode cX10_checkField 0 = .ok (.aload_n 0, 1) := by decide +kernel
theorem dX10_checkField_1 : decode cX10_checkField 1 = .ok (.iload_n 1, 1) := by decide +kernel
theorem dX10_checkField_2 : decode cX10_checkField 2 = .ok (.invokevirtual 109, 3) := by decide +kernel
theorem dX10_checkField_5 : decode cX10_checkField 5 = .ok (.ifCond .eq 7, 3) := by decide +kernel
theorem dX10_checkField_8 : decode cX10_checkField 8 = .ok (.iconst 1, 1) := by decide +kernel
theorem dX10_checkField_9 : decode cX10_checkField 9 = .ok (.goto 17, 3) := by decide +kernel
theorem dX10_checkField_12 : decode cX10_checkField 12 = .ok (.aload_n 0, 1) := by decide +kernel
theorem dX10_checkField_13 : decode cX10_checkField 13 = .ok (.getfield 7, 3) := by decide +kernel
theorem dX10_checkField_16 : decode cX10_checkField 16 = .ok (.iload_n 1, 1) := by decide +kernel
theorem dX10_checkField_17 : decode cX10_checkField 17 = .ok (.iaload, 1) := by decide +kernel
theorem dX10_checkField_18 : decode cX10_checkField 18 = .ok (.ifCond .ne 7, 3) := by decide +kernel
theorem dX10_checkField_21 : decode cX10_checkField 21 = .ok (.iconst 2, 1) := by decide +kernel
theorem dX10_checkField_22 : decode cX10_checkField 22 = .ok (.goto 4, 3) := by decide +kernel
theorem dX10_checkField_25 : decode cX10_checkField 25 = .ok (.iconst 0, 1) := by decide +kernel
theorem dX10_checkField_26 : decode cX10_checkField 26 = .ok (.ireturn, 1) := by decide +kernel
theorem dX10_size_0 : decode cX10_size 0 = .ok (.aload_n 0, 1) := by decide +kernel
theorem dX10_size_1 : decode cX10_size 1 = .ok (.aload_n 0, 1) := by decide +kernel
theorem dX10_size_2 : decode cX10_size 2 = .ok (.iload_n 1, 1) := by decide +kernel
theorem dX10_size_3 : decode cX10_size 3 = .ok (.invokevirtual 262, 3) := by decide +kernel
theorem dX10_size_6 : decode cX10_size 6 = .ok (.putfield 102, 3) := by decide +kernel
theorem dX10_size_9 : decode cX10_size 9 = .ok (.aload_n 0, 1) := by decide +kernel
theorem dX10_size_10 : decode cX10_size 10 = .ok (.getfield 102, 3) := by decide +kernel
theorem dX10_size_13 : decode cX10_size 13 = .ok (.ifCond .le 7, 3) := by decide +kernel
theorem dX10_size_16 : decode cX10_size 16 = .ok (.iconst 0, 1) := by decide +kernel
theorem dX10_size_17 : decode cX10_size 17 = .ok (.goto 8, 3) := by decide +kernel
theorem dX10_size_20 : decode cX10_size 20 = .ok (.aload_n 0, 1) := by decide +kernel
theorem dX10_size_21 : decode cX10_size 21 = .ok (.iload_n 1, 1) := by decide +kernel
theorem dX10_size_22 : decode cX10_size 22 = .ok (.invokevirtual 265, 3) := by decide +kernel
theorem dX10_size_25 : decode cX10_size 25 = .ok (.ireturn, 1) := by decide +kernel
theorem dX10_validate_0 : decode cX10_validate 0 = .ok (.aload_n 0, 1) := by decide +kernel
theorem dX10_validate_1 : decode cX10_validate 1 = .ok (.aload_n 0, 1) := by decide +kernel
theorem dX10_validate_2 : decode cX10_validate 2 = .ok (.iload_n 1, 1) := by decide +kernel
theorem dX10_validate_3 : decode cX10_validate 3 = .ok (.invokevirtual 262, 3) := by decide +kernel
theorem dX10_validate_6 : decode cX10_validate 6 = .ok (.putfield 102, 3) := by decide +kernel
theorem dX10_validate_9 : decode cX10_validate 9 = .ok (.aload_n 0, 1) := by decide +kernel
theorem dX10_validate_10 : decode cX10_validate 10 = .ok (.getfield 102, 3) := by decide +kernel
theorem dX10_validate_13 : decode cX10_validate 13 = .ok (.ifCond .le 5, 3) := by decide +kernel
theorem dX10_validate_16 : decode cX10_validate 16 = .ok (.iconst 0, 1) := by decide +kernel
theorem dX10_validate_17 : decode cX10_validate 17 = .ok (.ireturn, 1) := by decide +kernel
theorem dX10_validate_18 : decode cX10_validate 18 = .ok (.aload_n 0, 1) := by decide +kernel
theorem dX10_validate_19 : decode cX10_validate 19 = .ok (.getfield 19, 3) := by decide +kernel
theorem dX10_validate_22 : decode cX10_validate 22 = .ok (.iload_n 1, 1) := by decide +kernel
theorem dX10_validate_23 : decode cX10_validate 23 = .ok (.iaload, 1) := by decide +kernel
theorem dX10_validate_24 : decode cX10_validate 24 = .ok (.istore_n 2, 1) := by decide +kernel
theorem dX10_validate_25 : decode cX10_validate 25 = .ok (.aload_n 0, 1) := by decide +kernel
theorem dX10_validate_26 : decode cX10_validate 26 = .ok (.iload_n 2, 1) := by decide +kernel
theorem dX10_validate_27 : decode cX10_validate 27 = .ok (.invokevirtual 140, 3) := by decide +kernel
theorem dX10_validate_30 : decode cX10_validate 30 = .ok (.ifCond .eq 20, 3) := by decide +kernel
theorem dX10_validate_33 : decode cX10_validate 33 = .ok (.aload_n 0, 1) := by decide +kernel
theorem dX10_validate_34 : decode cX10_validate 34 = .ok (.getfield 38, 3) := by decide +kernel
theorem dX10_validate_37 : decode cX10_validate 37 = .ok (.iload_n 2, 1) := by decide +kernel
theorem dX10_validate_38 : decode cX10_validate 38 = .ok (.iaload, 1) := by decide +kernel
theorem dX10_validate_39 : decode cX10_validate 39 = .ok (.ifCond .ne 7, 3) := by decide +kernel
theorem dX10_validate_42 : decode cX10_validate 42 = .ok (.iconst 1, 1) := by decide +kernel
theorem dX10_validate_43 : decode cX10_validate 43 = .ok (.goto 49, 3) := by decide +kernel
theorem dX10_validate_46 : decode cX10_validate 46 = .ok (.iconst 0, 1) := by decide +kernel
theorem dX10_validate_47 : decode cX10_validate 47 = .ok (.goto 45, 3) := by decide +kernel
theorem dX10_validate_50 : decode cX10_validate 50 = .ok (.aload_n 0, 1) := by decide +kernel
theorem dX10_validate_51 : decode cX10_validate 51 = .ok (.getfield 7, 3) := by decide +kernel
theorem dX10_validate_54 : decode cX10_validate 54 = .ok (.iload_n 2, 1) := by decide +kernel
theorem dX10_validate_55 : decode cX10_validate 55 = .ok (.iaload, 1) := by decide +kernel
theorem dX10_validate_56 : decode cX10_validate 56 = .ok (.iconst 2, 1) := by decide +kernel
theorem dX10_validate_57 : decode cX10_validate 57 = .ok (.if_icmp .ne 20, 3) := by decide +kernel
theorem dX10_validate_60 : decode cX10_validate 60 = .ok (.aload_n 0, 1) := by decide +kernel
theorem dX10_validate_61 : decode cX10_validate 61 = .ok (.getfield 41, 3) := by decide +kernel
theorem dX10_validate_64 : decode cX10_validate 64 = .ok (.iload_n 2, 1) := by decide +kernel
theorem dX10_validate_65 : decode cX10_validate 65 = .ok (.iaload, 1) := by decide +kernel
theorem dX10_validate_66 : decode cX10_validate 66 = .ok (.ifCond .ne 7, 3) := by decide +kernel
theorem dX10_validate_69 : decode cX10_validate 69 = .ok (.iconst 1, 1) := by decide +kernel
theorem dX10_validate_70 : decode cX10_validate 70 = .ok (.goto 22, 3) := by decide +kernel
theorem dX10_validate_73 : decode cX10_validate 73 = .ok (.iconst 0, 1) := by decide +kernel
theorem dX10_validate_74 : decode cX10_validate 74 = .ok (.goto 18, 3) := by decide +kernel
theorem dX10_validate_77 : decode cX10_validate 77 = .ok (.aload_n 0, 1) := by decide +kernel
theorem dX10_validate_78 : decode cX10_validate 78 = .ok (.getfield 41, 3) := by decide +kernel
theorem dX10_validate_81 : decode cX10_validate 81 = .ok (.iload_n 2, 1) := by decide +kernel
theorem dX10_validate_82 : decode cX10_validate 82 = .ok (.iaload, 1) := by decide +kernel
theorem dX10_validate_83 : decode cX10_validate 83 = .ok (.iconst (-1), 1) := by decide +kernel
theorem dX10_validate_84 : decode cX10_validate 84 = .ok (.if_icmp .ne 7, 3) := by decide +kernel
theorem dX10_validate_87 : decode cX10_validate 87 = .ok (.iconst 1, 1) := by decide +kernel
theorem dX10_validate_88 : decode cX10_validate 88 = .ok (.goto 4, 3) := by decide +kernel
theorem dX10_validate_91 : decode cX10_validate 91 = .ok (.iconst 0, 1) := by decide +kernel
theorem dX10_validate_92 : decode cX10_validate 92 = .ok (.istore_n 3, 1) := by decide +kernel
theorem dX10_validate_93 : decode cX10_validate 93 = .ok (.iload_n 3, 1) := by decide +kernel
theorem dX10_validate_94 : decode cX10_validate 94 = .ok (.ifCond .eq 17, 3) := by decide +kernel
theorem dX10_validate_97 : decode cX10_validate 97 = .ok (.aload_n 0, 1) := by decide +kernel
theorem dX10_validate_98 : decode cX10_validate 98 = .ok (.getfield 50, 3) := by decide +kernel
theorem dX10_validate_101 : decode cX10_validate 101 = .ok (.iconst 5, 1) := by decide +kernel
theorem dX10_validate_102 : decode cX10_validate 102 = .ok (.iload_n 2, 1) := by decide +kernel
theorem dX10_validate_103 : decode cX10_validate 103 = .ok (.imul, 1) := by decide +kernel
theorem dX10_validate_104 : decode cX10_validate 104 = .ok (.iaload, 1) := by decide +kernel
theorem dX10_validate_105 : decode cX10_validate 105 = .ok (.iconst 1, 1) := by decide +kernel
theorem dX10_validate_106 : decode cX10_validate 106 = .ok (.if_icmp .ne 5, 3) := by decide +kernel
theorem dX10_validate_109 : decode cX10_validate 109 = .ok (.iconst 2, 1) := by decide +kernel
theorem dX10_validate_110 : decode cX10_validate 110 = .ok (.ireturn, 1) := by decide +kernel
theorem dX10_validate_111 : decode cX10_validate 111 = .ok (.aload_n 0, 1) := by decide +kernel
theorem dX10_validate_112 : decode cX10_validate 112 = .ok (.getfield 7, 3) := by decide +kernel
theorem dX10_validate_115 : decode cX10_validate 115 = .ok (.iload_n 2, 1) := by decide +kernel
theorem dX10_validate_116 : decode cX10_validate 116 = .ok (.iaload, 1) := by decide +kernel
theorem dX10_validate_117 : decode cX10_validate 117 = .ok (.iconst 5, 1) := by decide +kernel
theorem dX10_validate_118 : decode cX10_validate 118 = .ok (.if_icmp .ne 12, 3) := by decide +kernel
theorem dX10_validate_121 : decode cX10_validate 121 = .ok (.aload_n 0, 1) := by decide +kernel
theorem dX10_validate_122 : decode cX10_validate 122 = .ok (.getfield 38, 3) := by decide +kernel
theorem dX10_validate_125 : decode cX10_validate 125 = .ok (.iload_n 2, 1) := by decide +kernel
theorem dX10_validate_126 : decode cX10_validate 126 = .ok (.iaload, 1) := by decide +kernel
theorem dX10_validate_127 : decode cX10_validate 127 = .ok (.ifCond .ne 5, 3) := by decide +kernel
theorem dX10_validate_130 : decode cX10_validate 130 = .ok (.iconst 1, 1) := by decide +kernel
theorem dX10_validate_131 : decode cX10_validate 131 = .ok (.ireturn, 1) := by decide +kernel
theorem dX10_validate_132 : decode cX10_validate 132 = .ok (.aload_n 0, 1) := by decide +kernel
theorem dX10_validate_133 : decode cX10_validate 133 = .ok (.iload_n 2, 1) := by decide +kernel
theorem dX10_validate_134 : decode cX10_validate 134 = .ok (.invokevirtual 209, 3) := by decide +kernel
theorem dX10_validate_137 : decode cX10_validate 137 = .ok (.lstore 4, 2) := by decide +kernel
theorem dX10_validate_139 : decode cX10_validate 139 = .ok (.lload 4, 2) := by decide +kernel
theorem dX10_validate_141 : decode cX10_validate 141 = .ok (.ldc2_w 178, 3) := by decide +kernel
theorem dX10_validate_144 : decode cX10_validate 144 = .ok (.lcmp, 1) := by decide +kernel
theorem dX10_validate_145 : decode cX10_validate 145 = .ok (.ifCond .ne 7, 3) := by decide +kernel
theorem dX10_validate_148 : decode cX10_validate 148 = .ok (.iconst 3, 1) := by decide +kernel
theorem dX10_validate_149 : decode cX10_validate 149 = .ok (.goto 36, 3) := by decide +kernel
theorem dX10_validate_152 : decode cX10_validate 152 = .ok (.lload 4, 2) := by decide +kernel
theorem dX10_validate_154 : decode cX10_validate 154 = .ok (.aload_n 0, 1) := by decide +kernel
theorem dX10_validate_155 : decode cX10_validate 155 = .ok (.getfield 53, 3) := by decide +kernel
theorem dX10_validate_158 : decode cX10_validate 158 = .ok (.iload_n 2, 1) := by decide +kernel
theorem dX10_validate_159 : decode cX10_validate 159 = .ok (.laload, 1) := by decide +kernel
theorem dX10_validate_160 : decode cX10_validate 160 = .ok (.lcmp, 1) := by decide +kernel
theorem dX10_validate_161 : decode cX10_validate 161 = .ok (.ifCond .ge 7, 3) := by decide +kernel
theorem dX10_validate_164 : decode cX10_validate 164 = .ok (.iconst 4, 1) := by decide +kernel
theorem dX10_validate_165 : decode cX10_validate 165 = .ok (.goto 20, 3) := by decide +kernel
theorem dX10_validate_168 : decode cX10_validate 168 = .ok (.lload 4, 2) := by decide +kernel
theorem dX10_validate_170 : decode cX10_validate 170 = .ok (.aload_n 0, 1) := by decide +kernel
theorem dX10_validate_171 : decode cX10_validate 171 = .ok (.getfield 57, 3) := by decide +kernel
theorem dX10_validate_174 : decode cX10_validate 174 = .ok (.iload_n 2, 1) := by decide +kernel
theorem dX10_validate_175 : decode cX10_validate 175 = .ok (.laload, 1) := by decide +kernel
theorem dX10_validate_176 : decode cX10_validate 176 = .ok (.lcmp, 1) := by decide +kernel
theorem dX10_validate_177 : decode cX10_validate 177 = .ok (.ifCond .le 7, 3) := by decide +kernel
theorem dX10_validate_180 : decode cX10_validate 180 = .ok (.iconst 5, 1) := by decide +kernel
theorem dX10_validate_181 : decode cX10_validate 181 = .ok (.goto 4, 3) := by decide +kernel
theorem dX10_validate_184 : decode cX10_validate 184 = .ok (.iconst 1, 1) := by decide +kernel
theorem dX10_validate_185 : decode cX10_validate 185 = .ok (.ireturn, 1) := by decide +kernel
theorem dX10_mark_0 : decode cX10_mark 0 = .ok (.aload_n 0, 1) := by decide +kernel
theorem dX10_mark_1 : decode cX10_mark 1 = .ok (.iconst 4, 1) := by decide +kernel
theorem dX10_mark_2 : decode cX10_mark 2 = .ok (.iload_n 1, 1) := by decide +kernel
theorem dX10_mark_3 : decode cX10_mark 3 = .ok (.imul, 1) := by decide +kernel
theorem dX10_mark_4 : decode cX10_mark 4 = .ok (.iload_n 2, 1) := by decide +kernel
theorem dX10_mark_5 : decode cX10_mark 5 = .ok (.iastore, 1) := by decide +kernel
theorem dX10_mark_6 : decode cX10_mark 6 = .ok (.aload_n 0, 1) := by decide +kernel
theorem dX10_mark_7 : decode cX10_mark 7 = .ok (.iconst 4, 1) := by decide +kernel
theorem dX10_mark_8 : decode cX10_mark 8 = .ok (.iload_n 1, 1) := by decide +kernel
theorem dX10_mark_9 : decode cX10_mark 9 = .ok (.imul, 1) := by decide +kernel
theorem dX10_mark_10 : decode cX10_mark 10 = .ok (.iconst 1, 1) := by decide +kernel
theorem dX10_mark_11 : decode cX10_mark 11 = .ok (.iadd, 1) := by decide +kernel
theorem dX10_mark_12 : decode cX10_mark 12 = .ok (.iload_n 3, 1) := by decide +kernel
theorem dX10_mark_13 : decode cX10_mark 13 = .ok (.iastore, 1) := by decide +kernel
theorem dX10_mark_14 : decode cX10_mark 14 = .ok (.aload_n 0, 1) := by decide +kernel
theorem dX10_mark_15 : decode cX10_mark 15 = .ok (.iconst 4, 1) := by decide +kernel
theorem dX10_mark_16 : decode cX10_mark 16 = .ok (.iload_n 1, 1) := by decide +kernel
theorem dX10_mark_17 : decode cX10_mark 17 = .ok (.imul, 1) := by decide +kernel
theorem dX10_mark_18 : decode cX10_mark 18 = .ok (.iconst 2, 1) := by decide +kernel
theorem dX10_mark_19 : decode cX10_mark 19 = .ok (.iadd, 1) := by decide +kernel
theorem dX10_mark_20 : decode cX10_mark 20 = .ok (.iload 4, 2) := by decide +kernel
theorem dX10_mark_22 : decode cX10_mark 22 = .ok (.iastore, 1) := by decide +kernel
theorem dX10_mark_23 : decode cX10_mark 23 = .ok (.aload_n 0, 1) := by decide +kernel
theorem dX10_mark_24 : decode cX10_mark 24 = .ok (.iconst 4, 1) := by decide +kernel
theorem dX10_mark_25 : decode cX10_mark 25 = .ok (.iload_n 1, 1) := by decide +kernel
theorem dX10_mark_26 : decode cX10_mark 26 = .ok (.imul, 1) := by decide +kernel
theorem dX10_mark_27 : decode cX10_mark 27 = .ok (.iconst 3, 1) := by decide +kernel
theorem dX10_mark_28 : decode cX10_mark 28 = .ok (.iadd, 1) := by decide +kernel
theorem dX10_mark_29 : decode cX10_mark 29 = .ok (.iload 5, 2) := by decide +kernel
theorem dX10_mark_31 : decode cX10_mark 31 = .ok (.iastore, 1) := by decide +kernel
theorem dX10_mark_32 : decode cX10_mark 32 = .ok (.return_, 1) := by decide +kernel
theorem dX10_make_0 : decode cX10_make 0 = .ok (.aload_n 0, 1) := by decide +kernel
theorem dX10_make_1 : decode cX10_make 1 = .ok (.getfield 19, 3) := by decide +kernel
theorem dX10_make_4 : decode cX10_make 4 = .ok (.iload_n 1, 1) := by decide +kernel
theorem dX10_make_5 : decode cX10_make 5 = .ok (.iaload, 1) := by decide +kernel
theorem dX10_make_6 : decode cX10_make 6 = .ok (.istore_n 3, 1) := by decide +kernel
theorem dX10_make_7 : decode cX10_make 7 = .ok (.aload_n 0, 1) := by decide +kernel
theorem dX10_make_8 : decode cX10_make 8 = .ok (.iload_n 1, 1) := by decide +kernel
theorem dX10_make_9 : decode cX10_make 9 = .ok (.invokevirtual 265, 3) := by decide +kernel
theorem dX10_make_12 : decode cX10_make 12 = .ok (.i2l, 1) := by decide +kernel
theorem dX10_make_13 : decode cX10_make 13 = .ok (.invokestatic 213, 3) := by decide +kernel
theorem dX10_make_16 : decode cX10_make 16 = .ok (.l2i, 1) := by decide +kernel
theorem dX10_make_17 : decode cX10_make 17 = .ok (.istore 4, 2) := by decide +kernel
theorem dX10_make_19 : decode cX10_make 19 = .ok (.aload_n 0, 1) := by decide +kernel
theorem dX10_make_20 : decode cX10_make 20 = .ok (.iload_n 3, 1) := by decide +kernel
theorem dX10_make_21 : decode cX10_make 21 = .ok (.invokevirtual 259, 3) := by decide +kernel
theorem dX10_make_24 : decode cX10_make 24 = .ok (.istore 5, 2) := by decide +kernel
theorem dX10_make_26 : decode cX10_make 26 = .ok (.aload_n 0, 1) := by decide +kernel
theorem dX10_make_27 : decode cX10_make 27 = .ok (.getfield 22, 3) := by decide +kernel
theorem dX10_make_30 : decode cX10_make 30 = .ok (.iload_n 1, 1) := by decide +kernel
theorem dX10_make_31 : decode cX10_make 31 = .ok (.iaload, 1) := by decide +kernel
theorem dX10_make_32 : decode cX10_make 32 = .ok (.istore 6, 2) := by decide +kernel
theorem dX10_make_34 : decode cX10_make 34 = .ok (.iload 6, 2) := by decide +kernel
theorem dX10_make_36 : decode cX10_make 36 = .ok (.aload_n 0, 1) := by decide +kernel
theorem dX10_make_37 : decode cX10_make 37 = .ok (.getfield 180, 3) := by decide +kernel
theorem dX10_make_40 : decode cX10_make 40 = .ok (.iload 4, 2) := by decide +kernel
theorem dX10_make_42 : decode cX10_make 42 = .ok (.iconst 2, 1) := by decide +kernel
theorem dX10_make_43 : decode cX10_make 43 = .ok (.idiv, 1) := by decide +kernel
theorem dX10_make_44 : decode cX10_make 44 = .ok (.imul, 1) := by decide +kernel
theorem dX10_make_45 : decode cX10_make 45 = .ok (.isub, 1) := by decide +kernel
theorem dX10_make_46 : decode cX10_make 46 = .ok (.istore 7, 2) := by decide +kernel
theorem dX10_make_48 : decode cX10_make 48 = .ok (.aload_n 0, 1) := by decide +kernel
theorem dX10_make_49 : decode cX10_make 49 = .ok (.getfield 28, 3) := by decide +kernel
theorem dX10_make_52 : decode cX10_make 52 = .ok (.iload_n 1, 1) := by decide +kernel
theorem dX10_make_53 : decode cX10_make 53 = .ok (.iaload, 1) := by decide +kernel
theorem dX10_make_54 : decode cX10_make 54 = .ok (.ifCond .ne 7, 3) := by decide +kernel
theorem dX10_make_57 : decode cX10_make 57 = .ok (.iconst 0, 1) := by decide +kernel
theorem dX10_make_58 : decode cX10_make 58 = .ok (.goto 22, 3) := by decide +kernel
theorem dX10_make_61 : decode cX10_make 61 = .ok (.aload_n 0, 1) := by decide +kernel
theorem dX10_make_62 : decode cX10_make 62 = .ok (.getfield 28, 3) := by decide +kernel
theorem dX10_make_65 : decode cX10_make 65 = .ok (.iload_n 1, 1) := by decide +kernel
theorem dX10_make_66 : decode cX10_make 66 = .ok (.iaload, 1) := by decide +kernel
theorem dX10_make_67 : decode cX10_make 67 = .ok (.iconst 1, 1) := by decide +kernel
theorem dX10_make_68 : decode cX10_make 68 = .ok (.if_icmp .ne 10, 3) := by decide +kernel
theorem dX10_make_71 : decode cX10_make 71 = .ok (.iload 7, 2) := by decide +kernel
theorem dX10_make_73 : decode cX10_make 73 = .ok (.iconst 2, 1) := by decide +kernel
theorem dX10_make_74 : decode cX10_make 74 = .ok (.idiv, 1) := by decide +kernel
theorem dX10_make_75 : decode cX10_make 75 = .ok (.goto 5, 3) := by decide +kernel
theorem dX10_make_78 : decode cX10_make 78 = .ok (.iload 7, 2) := by decide +kernel
theorem dX10_make_80 : decode cX10_make 80 = .ok (.istore 8, 2) := by decide +kernel
theorem dX10_make_82 : decode cX10_make 82 = .ok (.aload_n 2, 1) := by decide +kernel
theorem dX10_make_83 : decode cX10_make 83 = .ok (.iconst 0, 1) := by decide +kernel
theorem dX10_make_84 : decode cX10_make 84 = .ok (.iconst 0, 1) := by decide +kernel
theorem dX10_make_85 : decode cX10_make 85 = .ok (.iconst 0, 1) := by decide +kernel
theorem dX10_make_86 : decode cX10_make 86 = .ok (.iconst 0, 1) := by decide +kernel
theorem dX10_make_87 : decode cX10_make 87 = .ok (.iconst 0, 1) := by decide +kernel
theorem dX10_make_88 : decode cX10_make 88 = .ok (.invokestatic 268, 3) := by decide +kernel
theorem dX10_make_91 : decode cX10_make 91 = .ok (.iconst 0, 1) := by decide +kernel
theorem dX10_make_92 : decode cX10_make 92 = .ok (.istore 9, 2) := by decide +kernel
theorem dX10_make_94 : decode cX10_make 94 = .ok (.iload 9, 2) := by decide +kernel
theorem dX10_make_96 : decode cX10_make 96 = .ok (.aload_n 0, 1) := by decide +kernel
theorem dX10_make_97 : decode cX10_make 97 = .ok (.getfield 180, 3) := by decide +kernel
theorem dX10_make_100 : decode cX10_make 100 = .ok (.if_icmp .ge 80, 3) := by decide +kernel
theorem dX10_make_103 : decode cX10_make 103 = .ok (.iload 5, 2) := by decide +kernel
theorem dX10_make_105 : decode cX10_make 105 = .ok (.ifCond .le 27, 3) := by decide +kernel
theorem dX10_make_108 : decode cX10_make 108 = .ok (.iload 9, 2) := by decide +kernel
theorem dX10_make_110 : decode cX10_make 110 = .ok (.iload 6, 2) := by decide +kernel
theorem dX10_make_112 : decode cX10_make 112 = .ok (.imul, 1) := by decide +kernel
theorem dX10_make_113 : decode cX10_make 113 = .ok (.iload 5, 2) := by decide +kernel
theorem dX10_make_115 : decode cX10_make 115 = .ok (.idiv, 1) := by decide +kernel
theorem dX10_make_116 : decode cX10_make 116 = .ok (.iload 6, 2) := by decide +kernel
theorem dX10_make_118 : decode cX10_make 118 = .ok (.iload 5, 2) := by decide +kernel
theorem dX10_make_120 : decode cX10_make 120 = .ok (.idiv, 1) := by decide +kernel
theorem dX10_make_121 : decode cX10_make 121 = .ok (.iload 4, 2) := by decide +kernel
theorem dX10_make_123 : decode cX10_make 123 = .ok (.iconst 2, 1) := by decide +kernel
theorem dX10_make_124 : decode cX10_make 124 = .ok (.idiv, 1) := by decide +kernel
theorem dX10_make_125 : decode cX10_make 125 = .ok (.isub, 1) := by decide +kernel
theorem dX10_make_126 : decode cX10_make 126 = .ok (.iconst 2, 1) := by decide +kernel
theorem dX10_make_127 : decode cX10_make 127 = .ok (.idiv, 1) := by decide +kernel
theorem dX10_make_128 : decode cX10_make 128 = .ok (.iadd, 1) := by decide +kernel
theorem dX10_make_129 : decode cX10_make 129 = .ok (.goto 13, 3) := by decide +kernel
theorem dX10_make_132 : decode cX10_make 132 = .ok (.iload 8, 2) := by decide +kernel
theorem dX10_make_134 : decode cX10_make 134 = .ok (.iload 9, 2) := by decide +kernel
theorem dX10_make_136 : decode cX10_make 136 = .ok (.iload 4, 2) := by decide +kernel
theorem dX10_make_138 : decode cX10_make 138 = .ok (.iconst 2, 1) := by decide +kernel
theorem dX10_make_139 : decode cX10_make 139 = .ok (.idiv, 1) := by decide +kernel
theorem dX10_make_140 : decode cX10_make 140 = .ok (.imul, 1) := by decide +kernel
theorem dX10_make_141 : decode cX10_make 141 = .ok (.iadd, 1) := by decide +kernel
theorem dX10_make_142 : decode cX10_make 142 = .ok (.istore 10, 2) := by decide +kernel
theorem dX10_make_144 : decode cX10_make 144 = .ok (.aload_n 2, 1) := by decide +kernel
theorem dX10_make_145 : decode cX10_make 145 = .ok (.iload 9, 2) := by decide +kernel
theorem dX10_make_147 : decode cX10_make 147 = .ok (.iconst 1, 1) := by decide +kernel
theorem dX10_make_148 : decode cX10_make 148 = .ok (.iadd, 1) := by decide +kernel
theorem dX10_make_149 : decode cX10_make 149 = .ok (.aload_n 0, 1) := by decide +kernel
theorem dX10_make_150 : decode cX10_make 150 = .ok (.getfield 84, 3) := by decide +kernel
theorem dX10_make_153 : decode cX10_make 153 = .ok (.iload 9, 2) := by decide +kernel
theorem dX10_make_155 : decode cX10_make 155 = .ok (.iaload, 1) := by decide +kernel
theorem dX10_make_156 : decode cX10_make 156 = .ok (.iload 10, 2) := by decide +kernel
theorem dX10_make_158 : decode cX10_make 158 = .ok (.aload_n 0, 1) := by decide +kernel
theorem dX10_make_159 : decode cX10_make 159 = .ok (.getfield 25, 3) := by decide +kernel
theorem dX10_make_162 : decode cX10_make 162 = .ok (.iload_n 1, 1) := by decide +kernel
theorem dX10_make_163 : decode cX10_make 163 = .ok (.iaload, 1) := by decide +kernel
theorem dX10_make_164 : decode cX10_make 164 = .ok (.iload 4, 2) := by decide +kernel
theorem dX10_make_166 : decode cX10_make 166 = .ok (.isub, 1) := by decide +kernel
theorem dX10_make_167 : decode cX10_make 167 = .ok (.iconst 2, 1) := by decide +kernel
theorem dX10_make_168 : decode cX10_make 168 = .ok (.idiv, 1) := by decide +kernel
theorem dX10_make_169 : decode cX10_make 169 = .ok (.iload 4, 2) := by decide +kernel
theorem dX10_make_171 : decode cX10_make 171 = .ok (.invokestatic 268, 3) := by decide +kernel
theorem dX10_make_174 : decode cX10_make 174 = .ok (.iinc 9 1, 3) := by decide +kernel
theorem dX10_make_177 : decode cX10_make 177 = .ok (.goto (-83), 3) := by decide +kernel
theorem dX10_make_180 : decode cX10_make 180 = .ok (.aload_n 0, 1) := by decide +kernel
theorem dX10_make_181 : decode cX10_make 181 = .ok (.getfield 180, 3) := by decide +kernel
theorem dX10_make_184 : decode cX10_make 184 = .ok (.iconst 1, 1) := by decide +kernel
theorem dX10_make_185 : decode cX10_make 185 = .ok (.iadd, 1) := by decide +kernel
theorem dX10_make_186 : decode cX10_make 186 = .ok (.ireturn, 1) := by decide +kernel
theorem dX10_appearance_0 : decode cX10_appearance 0 = .ok (.aload_n 0, 1) := by decide +kernel
theorem dX10_appearance_1 : decode cX10_appearance 1 = .ok (.aload_n 0, 1) := by decide +kernel
theorem dX10_appearance_2 : decode cX10_appearance 2 = .ok (.iload_n 1, 1) := by decide +kernel
theorem dX10_appearance_3 : decode cX10_appearance 3 = .ok (.invokevirtual 262, 3) := by decide +kernel
theorem dX10_appearance_6 : decode cX10_appearance 6 = .ok (.putfield 102, 3) := by decide +kernel
theorem dX10_appearance_9 : decode cX10_appearance 9 = .ok (.aload_n 0, 1) := by decide +kernel
theorem dX10_appearance_10 : decode cX10_appearance 10 = .ok (.getfield 102, 3) := by decide +kernel
theorem dX10_appearance_13 : decode cX10_appearance 13 = .ok (.ifCond .le 5, 3) := by decide +kernel
theorem dX10_appearance_16 : decode cX10_appearance 16 = .ok (.iconst 0, 1) := by decide +kernel
theorem dX10_appearance_17 : decode cX10_appearance 17 = .ok (.ireturn, 1) := by decide +kernel
theorem dX10_appearance_18 : decode cX10_appearance 18 = .ok (.aload_n 0, 1) := by decide +kernel
theorem dX10_appearance_19 : decode cX10_appearance 19 = .ok (.aload_n 0, 1) := by decide +kernel
theorem dX10_appearance_20 : decode cX10_appearance 20 = .ok (.iload_n 1, 1) := by decide +kernel
theorem dX10_appearance_21 : decode cX10_appearance 21 = .ok (.aload_n 0, 1) := by decide +kernel
theorem dX10_appearance_22 : decode cX10_appearance 22 = .ok (.getfield 87, 3) := by decide +kernel
theorem dX10_appearance_25 : decode cX10_appearance 25 = .ok (.invokevirtual 272, 3) := by decide +kernel
theorem dX10_appearance_28 : decode cX10_appearance 28 = .ok (.putfield 276, 3) := by decide +kernel
theorem dX10_appearance_31 : decode cX10_appearance 31 = .ok (.aload_n 0, 1) := by decide +kernel
theorem dX10_appearance_32 : decode cX10_appearance 32 = .ok (.getfield 276, 3) := by decide +kernel
theorem dX10_appearance_35 : decode cX10_appearance 35 = .ok (.ireturn, 1) := by decide +kernel
theorem dX10_mark__0 : decode cX10_mark_ 0 = .ok (.aload_n 0, 1) := by decide +kernel
theorem dX10_mark__1 : decode cX10_mark_ 1 = .ok (.iload_n 1, 1) := by decide +kernel
theorem dX10_mark__2 : decode cX10_mark_ 2 = .ok (.i2l, 1) := by decide +kernel
theorem dX10_mark__3 : decode cX10_mark_ 3 = .ok (.lconst 0, 1) := by decide +kernel
theorem dX10_mark__4 : decode cX10_mark_ 4 = .ok (.aload_n 0, 1) := by decide +kernel
theorem dX10_mark__5 : decode cX10_mark_ 5 = .ok (.getfield 276, 3) := by decide +kernel
theorem dX10_mark__8 : decode cX10_mark_ 8 = .ok (.i2l, 1) := by decide +kernel
theorem dX10_mark__9 : decode cX10_mark_ 9 = .ok (.lconst 1, 1) := by decide +kernel
theorem dX10_mark__10 : decode cX10_mark_ 10 = .ok (.lsub, 1) := by decide +kernel
theorem dX10_mark__11 : decode cX10_mark_ 11 = .ok (.invokestatic 115, 3) := by decide +kernel
theorem dX10_mark__14 : decode cX10_mark_ 14 = .ok (.ifCond .eq 19, 3) := by decide +kernel
theorem dX10_mark__17 : decode cX10_mark_ 17 = .ok (.iload_n 2, 1) := by decide +kernel
theorem dX10_mark__18 : decode cX10_mark_ 18 = .ok (.i2l, 1) := by decide +kernel
theorem dX10_mark__19 : decode cX10_mark_ 19 = .ok (.lconst 0, 1) := by decide +kernel
theorem dX10_mark__20 : decode cX10_mark_ 20 = .ok (.ldc2_w 160, 3) := by decide +kernel
theorem dX10_mark__23 : decode cX10_mark_ 23 = .ok (.invokestatic 115, 3) := by decide +kernel
theorem dX10_mark__26 : decode cX10_mark_ 26 = .ok (.ifCond .eq 7, 3) := by decide +kernel
theorem dX10_mark__29 : decode cX10_mark_ 29 = .ok (.iconst 0, 1) := by decide +kernel
theorem dX10_mark__30 : decode cX10_mark_ 30 = .ok (.goto 4, 3) := by decide +kernel
theorem dX10_mark__33 : decode cX10_mark_ 33 = .ok (.iconst 1, 1) := by decide +kernel
theorem dX10_mark__34 : decode cX10_mark_ 34 = .ok (.putfield 102, 3) := by decide +kernel
theorem dX10_mark__37 : decode cX10_mark_ 37 = .ok (.aload_n 0, 1) := by decide +kernel
theorem dX10_mark__38 : decode cX10_mark_ 38 = .ok (.getfield 102, 3) := by decide +kernel
theorem dX10_mark__41 : decode cX10_mark_ 41 = .ok (.ifCond .le 7, 3) := by decide +kernel
theorem dX10_mark__44 : decode cX10_mark_ 44 = .ok (.iconst 0, 1) := by decide +kernel
theorem dX10_mark__45 : decode cX10_mark_ 45 = .ok (.goto 13, 3) := by decide +kernel
theorem dX10_mark__48 : decode cX10_mark_ 48 = .ok (.aload_n 0, 1) := by decide +kernel
theorem dX10_mark__49 : decode cX10_mark_ 49 = .ok (.getfield 87, 3) := by decide +kernel
theorem dX10_mark__52 : decode cX10_mark_ 52 = .ok (.iconst 4, 1) := by decide +kernel
theorem dX10_mark__53 : decode cX10_mark_ 53 = .ok (.iload_n 1, 1) := by decide +kernel
theorem dX10_mark__54 : decode cX10_mark_ 54 = .ok (.imul, 1) := by decide +kernel
theorem dX10_mark__55 : decode cX10_mark_ 55 = .ok (.iload_n 2, 1) := by decide +kernel
theorem dX10_mark__56 : decode cX10_mark_ 56 = .ok (.iadd, 1) := by decide +kernel
theorem dX10_mark__57 : decode cX10_mark_ 57 = .ok (.iaload, 1) := by decide +kernel
theorem dX10_mark__58 : decode cX10_mark_ 58 = .ok (.ireturn, 1) := by decide +kernel
theorem dX10_flatten_0 : decode cX10_flatten 0 = .ok (.aload_n 0, 1) := by decide +kernel
theorem dX10_flatten_1 : decode cX10_flatten 1 = .ok (.aload_n 0, 1) := by decide +kernel
theorem dX10_flatten_2 : decode cX10_flatten 2 = .ok (.iload_n 1, 1) := by decide +kernel
theorem dX10_flatten_3 : decode cX10_flatten 3 = .ok (.invokevirtual 262, 3) := by decide +kernel
theorem dX10_flatten_6 : decode cX10_flatten 6 = .ok (.putfield 102, 3) := by decide +kernel
theorem dX10_flatten_9 : decode cX10_flatten 9 = .ok (.aload_n 0, 1) := by decide +kernel
theorem dX10_flatten_10 : decode cX10_flatten 10 = .ok (.getfield 102, 3) := by decide +kernel
theorem dX10_flatten_13 : decode cX10_flatten 13 = .ok (.ifCond .le 5, 3) := by decide +kernel
theorem dX10_flatten_16 : decode cX10_flatten 16 = .ok (.iconst 0, 1) := by decide +kernel
theorem dX10_flatten_17 : decode cX10_flatten 17 = .ok (.ireturn, 1) := by decide +kernel
theorem dX10_flatten_18 : decode cX10_flatten 18 = .ok (.aload_n 0, 1) := by decide +kernel
theorem dX10_flatten_19 : decode cX10_flatten 19 = .ok (.aload_n 0, 1) := by decide +kernel
theorem dX10_flatten_20 : decode cX10_flatten 20 = .ok (.getfield 19, 3) := by decide +kernel
theorem dX10_flatten_23 : decode cX10_flatten 23 = .ok (.iload_n 1, 1) := by decide +kernel
theorem dX10_flatten_24 : decode cX10_flatten 24 = .ok (.iaload, 1) := by decide +kernel
theorem dX10_flatten_25 : decode cX10_flatten 25 = .ok (.invokevirtual 256, 3) := by decide +kernel
theorem dX10_flatten_28 : decode cX10_flatten 28 = .ok (.aload_n 0, 1) := by decide +kernel
theorem dX10_flatten_29 : decode cX10_flatten 29 = .ok (.getfield 180, 3) := by decide +kernel
theorem dX10_flatten_32 : decode cX10_flatten 32 = .ok (.iconst 1, 1) := by decide +kernel
theorem dX10_flatten_33 : decode cX10_flatten 33 = .ok (.iadd, 1) := by decide +kernel
theorem dX10_flatten_34 : decode cX10_flatten 34 = .ok (.istore_n 2, 1) := by decide +kernel
theorem dX10_flatten_35 : decode cX10_flatten 35 = .ok (.aload_n 0, 1) := by decide +kernel
theorem dX10_flatten_36 : decode cX10_flatten 36 = .ok (.aload_n 0, 1) := by decide +kernel
theorem dX10_flatten_37 : decode cX10_flatten 37 = .ok (.getfield 31, 3) := by decide +kernel
theorem dX10_flatten_40 : decode cX10_flatten 40 = .ok (.iload_n 1, 1) := by decide +kernel
theorem dX10_flatten_41 : decode cX10_flatten 41 = .ok (.baload, 1) := by decide +kernel
theorem dX10_flatten_42 : decode cX10_flatten 42 = .ok (.ifCond .eq 7, 3) := by decide +kernel
theorem dX10_flatten_45 : decode cX10_flatten 45 = .ok (.iconst 3, 1) := by decide +kernel
theorem dX10_flatten_46 : decode cX10_flatten 46 = .ok (.goto 20, 3) := by decide +kernel
theorem dX10_flatten_49 : decode cX10_flatten 49 = .ok (.aload_n 0, 1) := by decide +kernel
theorem dX10_flatten_50 : decode cX10_flatten 50 = .ok (.getfield 279, 3) := by decide +kernel
theorem dX10_flatten_53 : decode cX10_flatten 53 = .ok (.iload_n 2, 1) := by decide +kernel
theorem dX10_flatten_54 : decode cX10_flatten 54 = .ok (.iadd, 1) := by decide +kernel
theorem dX10_flatten_55 : decode cX10_flatten 55 = .ok (.sipush 400, 3) := by decide +kernel
theorem dX10_flatten_58 : decode cX10_flatten 58 = .ok (.if_icmp .le 7, 3) := by decide +kernel
theorem dX10_flatten_61 : decode cX10_flatten 61 = .ok (.iconst 4, 1) := by decide +kernel
theorem dX10_flatten_62 : decode cX10_flatten 62 = .ok (.goto 4, 3) := by decide +kernel
theorem dX10_flatten_65 : decode cX10_flatten 65 = .ok (.iconst 0, 1) := by decide +kernel
theorem dX10_flatten_66 : decode cX10_flatten 66 = .ok (.putfield 102, 3) := by decide +kernel
theorem dX10_flatten_69 : decode cX10_flatten 69 = .ok (.aload_n 0, 1) := by decide +kernel
theorem dX10_flatten_70 : decode cX10_flatten 70 = .ok (.getfield 102, 3) := by decide +kernel
theorem dX10_flatten_73 : decode cX10_flatten 73 = .ok (.ifCond .le 5, 3) := by decide +kernel
theorem dX10_flatten_76 : decode cX10_flatten 76 = .ok (.iconst 0, 1) := by decide +kernel
theorem dX10_flatten_77 : decode cX10_flatten 77 = .ok (.ireturn, 1) := by decide +kernel
theorem dX10_flatten_78 : decode cX10_flatten 78 = .ok (.aload_n 0, 1) := by decide +kernel
theorem dX10_flatten_79 : decode cX10_flatten 79 = .ok (.iload_n 1, 1) := by decide +kernel
theorem dX10_flatten_80 : decode cX10_flatten 80 = .ok (.aload_n 0, 1) := by decide +kernel
theorem dX10_flatten_81 : decode cX10_flatten 81 = .ok (.getfield 90, 3) := by decide +kernel
theorem dX10_flatten_84 : decode cX10_flatten 84 = .ok (.invokevirtual 272, 3) := by decide +kernel
theorem dX10_flatten_87 : decode cX10_flatten 87 = .ok (.istore_n 3, 1) := by decide +kernel
theorem dX10_flatten_88 : decode cX10_flatten 88 = .ok (.iconst 0, 1) := by decide +kernel
theorem dX10_flatten_89 : decode cX10_flatten 89 = .ok (.istore 4, 2) := by decide +kernel
theorem dX10_flatten_91 : decode cX10_flatten 91 = .ok (.iload 4, 2) := by decide +kernel
theorem dX10_flatten_93 : decode cX10_flatten 93 = .ok (.iload_n 3, 1) := by decide +kernel
theorem dX10_flatten_94 : decode cX10_flatten 94 = .ok (.if_icmp .ge 74, 3) := by decide +kernel
theorem dX10_flatten_97 : decode cX10_flatten 97 = .ok (.iconst 0, 1) := by decide +kernel
theorem dX10_flatten_98 : decode cX10_flatten 98 = .ok (.istore 5, 2) := by decide +kernel
theorem dX10_flatten_100 : decode cX10_flatten 100 = .ok (.iload 5, 2) := by decide +kernel
theorem dX10_flatten_102 : decode cX10_flatten 102 = .ok (.iconst 4, 1) := by decide +kernel
theorem dX10_flatten_103 : decode cX10_flatten 103 = .ok (.if_icmp .ge 35, 3) := by decide +kernel
theorem dX10_flatten_106 : decode cX10_flatten 106 = .ok (.aload_n 0, 1) := by decide +kernel
theorem dX10_flatten_107 : decode cX10_flatten 107 = .ok (.getfield 93, 3) := by decide +kernel
theorem dX10_flatten_110 : decode cX10_flatten 110 = .ok (.iconst 5, 1) := by decide +kernel
theorem dX10_flatten_111 : decode cX10_flatten 111 = .ok (.aload_n 0, 1) := by decide +kernel
theorem dX10_flatten_112 : decode cX10_flatten 112 = .ok (.getfield 279, 3) := by decide +kernel
theorem dX10_flatten_115 : decode cX10_flatten 115 = .ok (.imul, 1) := by decide +kernel
theorem dX10_flatten_116 : decode cX10_flatten 116 = .ok (.iload 5, 2) := by decide +kernel
theorem dX10_flatten_118 : decode cX10_flatten 118 = .ok (.iadd, 1) := by decide +kernel
theorem dX10_flatten_119 : decode cX10_flatten 119 = .ok (.aload_n 0, 1) := by decide +kernel
theorem dX10_flatten_120 : decode cX10_flatten 120 = .ok (.getfield 90, 3) := by decide +kernel
theorem dX10_flatten_123 : decode cX10_flatten 123 = .ok (.iconst 4, 1) := by decide +kernel
theorem dX10_flatten_124 : decode cX10_flatten 124 = .ok (.iload 4, 2) := by decide +kernel
theorem dX10_flatten_126 : decode cX10_flatten 126 = .ok (.imul, 1) := by decide +kernel
theorem dX10_flatten_127 : decode cX10_flatten 127 = .ok (.iload 5, 2) := by decide +kernel
theorem dX10_flatten_129 : decode cX10_flatten 129 = .ok (.iadd, 1) := by decide +kernel
theorem dX10_flatten_130 : decode cX10_flatten 130 = .ok (.iaload, 1) := by decide +kernel
theorem dX10_flatten_131 : decode cX10_flatten 131 = .ok (.iastore, 1) := by decide +kernel
theorem dX10_flatten_132 : decode cX10_flatten 132 = .ok (.iinc 5 1, 3) := by decide +kernel
theorem dX10_flatten_135 : decode cX10_flatten 135 = .ok (.goto (-35), 3) := by decide +kernel
theorem dX10_flatten_138 : decode cX10_flatten 138 = .ok (.aload_n 0, 1) := by decide +kernel
theorem dX10_flatten_139 : decode cX10_flatten 139 = .ok (.getfield 93, 3) := by decide +kernel
theorem dX10_flatten_142 : decode cX10_flatten 142 = .ok (.iconst 5, 1) := by decide +kernel
theorem dX10_flatten_143 : decode cX10_flatten 143 = .ok (.aload_n 0, 1) := by decide +kernel
theorem dX10_flatten_144 : decode cX10_flatten 144 = .ok (.getfield 279, 3) := by decide +kernel
theorem dX10_flatten_147 : decode cX10_flatten 147 = .ok (.imul, 1) := by decide +kernel
theorem dX10_flatten_148 : decode cX10_flatten 148 = .ok (.iconst 4, 1) := by decide +kernel
theorem dX10_flatten_149 : decode cX10_flatten 149 = .ok (.iadd, 1) := by decide +kernel
theorem dX10_flatten_150 : decode cX10_flatten 150 = .ok (.iload_n 1, 1) := by decide +kernel
theorem dX10_flatten_151 : decode cX10_flatten 151 = .ok (.iastore, 1) := by decide +kernel
theorem dX10_flatten_152 : decode cX10_flatten 152 = .ok (.aload_n 0, 1) := by decide +kernel
theorem dX10_flatten_153 : decode cX10_flatten 153 = .ok (.dup, 1) := by decide +kernel
theorem dX10_flatten_154 : decode cX10_flatten 154 = .ok (.getfield 279, 3) := by decide +kernel
theorem dX10_flatten_157 : decode cX10_flatten 157 = .ok (.iconst 1, 1) := by decide +kernel
theorem dX10_flatten_158 : decode cX10_flatten 158 = .ok (.iadd, 1) := by decide +kernel
theorem dX10_flatten_159 : decode cX10_flatten 159 = .ok (.putfield 279, 3) := by decide +kernel
theorem dX10_flatten_162 : decode cX10_flatten 162 = .ok (.iinc 4 1, 3) := by decide +kernel
theorem dX10_flatten_165 : decode cX10_flatten 165 = .ok (.goto (-74), 3) := by decide +kernel
theorem dX10_flatten_168 : decode cX10_flatten 168 = .ok (.aload_n 0, 1) := by decide +kernel
theorem dX10_flatten_169 : decode cX10_flatten 169 = .ok (.getfield 31, 3) := by decide +kernel
theorem dX10_flatten_172 : decode cX10_flatten 172 = .ok (.iload_n 1, 1) := by decide +kernel
theorem dX10_flatten_173 : decode cX10_flatten 173 = .ok (.iconst 1, 1) := by decide +kernel
theorem dX10_flatten_174 : decode cX10_flatten 174 = .ok (.bastore, 1) := by decide +kernel
theorem dX10_flatten_175 : decode cX10_flatten 175 = .ok (.aload_n 0, 1) := by decide +kernel
theorem dX10_flatten_176 : decode cX10_flatten 176 = .ok (.getfield 279, 3) := by decide +kernel
theorem dX10_flatten_179 : decode cX10_flatten 179 = .ok (.ireturn, 1) := by decide +kernel
theorem dX10_page_0 : decode cX10_page 0 = .ok (.aload_n 0, 1) := by decide +kernel
theorem dX10_page_1 : decode cX10_page 1 = .ok (.iload_n 1, 1) := by decide +kernel
theorem dX10_page_2 : decode cX10_page 2 = .ok (.i2l, 1) := by decide +kernel
theorem dX10_page_3 : decode cX10_page 3 = .ok (.lconst 0, 1) := by decide +kernel
theorem dX10_page_4 : decode cX10_page 4 = .ok (.aload_n 0, 1) := by decide +kernel
theorem dX10_page_5 : decode cX10_page 5 = .ok (.getfield 279, 3) := by decide +kernel
theorem dX10_page_8 : decode cX10_page 8 = .ok (.i2l, 1) := by decide +kernel
theorem dX10_page_9 : decode cX10_page 9 = .ok (.lconst 1, 1) := by decide +kernel
theorem dX10_page_10 : decode cX10_page 10 = .ok (.lsub, 1) := by decide +kernel
theorem dX10_page_11 : decode cX10_page 11 = .ok (.invokestatic 115, 3) := by decide +kernel
theorem dX10_page_14 : decode cX10_page 14 = .ok (.ifCond .eq 19, 3) := by decide +kernel
theorem dX10_page_17 : decode cX10_page 17 = .ok (.iload_n 2, 1) := by decide +kernel
theorem dX10_page_18 : decode cX10_page 18 = .ok (.i2l, 1) := by decide +kernel
theorem dX10_page_19 : decode cX10_page 19 = .ok (.lconst 0, 1) := by decide +kernel
theorem dX10_page_20 : decode cX10_page 20 = .ok (.ldc2_w 282, 3) := by decide +kernel
theorem dX10_page_23 : decode cX10_page 23 = .ok (.invokestatic 115, 3) := by decide +kernel
theorem dX10_page_26 : decode cX10_page 26 = .ok (.ifCond .eq 7, 3) := by decide +kernel
theorem dX10_page_29 : decode cX10_page 29 = .ok (.iconst 0, 1) := by decide +kernel
theorem dX10_page_30 : decode cX10_page 30 = .ok (.goto 4, 3) := by decide +kernel
theorem dX10_page_33 : decode cX10_page 33 = .ok (.iconst 1, 1) := by decide +kernel
theorem dX10_page_34 : decode cX10_page 34 = .ok (.putfield 102, 3) := by decide +kernel
theorem dX10_page_37 : decode cX10_page 37 = .ok (.aload_n 0, 1) := by decide +kernel
theorem dX10_page_38 : decode cX10_page 38 = .ok (.getfield 102, 3) := by decide +kernel
theorem dX10_page_41 : decode cX10_page 41 = .ok (.ifCond .le 7, 3) := by decide +kernel
theorem dX10_page_44 : decode cX10_page 44 = .ok (.iconst 0, 1) := by decide +kernel
theorem dX10_page_45 : decode cX10_page 45 = .ok (.goto 13, 3) := by decide +kernel
theorem dX10_page_48 : decode cX10_page 48 = .ok (.aload_n 0, 1) := by decide +kernel
theorem dX10_page_49 : decode cX10_page 49 = .ok (.getfield 93, 3) := by decide +kernel
theorem dX10_page_52 : decode cX10_page 52 = .ok (.iconst 5, 1) := by decide +kernel
theorem dX10_page_53 : decode cX10_page 53 = .ok (.iload_n 1, 1) := by decide +kernel
theorem dX10_page_54 : decode cX10_page 54 = .ok (.imul, 1) := by decide +kernel
theorem dX10_page_55 : decode cX10_page 55 = .ok (.iload_n 2, 1) := by decide +kernel
theorem dX10_page_56 : decode cX10_page 56 = .ok (.iadd, 1) := by decide +kernel
theorem dX10_page_57 : decode cX10_page 57 = .ok (.iaload, 1) := by decide +kernel
theorem dX10_page_58 : decode cX10_page 58 = .ok (.ireturn, 1) := by decide +kernel
theorem dX10_out_0 : decode cX10_out 0 = .ok (.iconst 0, 1) := by decide +kernel
theorem dX10_out_1 : decode cX10_out 1 = .ok (.istore_n 1, 1) := by decide +kernel
theorem dX10_out_2 : decode cX10_out 2 = .ok (.iload_n 1, 1) := by decide +kernel
theorem dX10_out_3 : decode cX10_out 3 = .ok (.aload_n 0, 1) := by decide +kernel
theorem dX10_out_4 : decode cX10_out 4 = .ok (.getfield 180, 3) := by decide +kernel
theorem dX10_out_7 : decode cX10_out 7 = .ok (.if_icmp .ge 34, 3) := by decide +kernel
theorem dX10_out_10 : decode cX10_out 10 = .ok (.aload_n 0, 1) := by decide +kernel
theorem dX10_out_11 : decode cX10_out 11 = .ok (.getfield 96, 3) := by decide +kernel
theorem dX10_out_14 : decode cX10_out 14 = .ok (.aload_n 0, 1) := by decide +kernel
theorem dX10_out_15 : decode cX10_out 15 = .ok (.getfield 284, 3) := by decide +kernel
theorem dX10_out_18 : decode cX10_out 18 = .ok (.aload_n 0, 1) := by decide +kernel
theorem dX10_out_19 : decode cX10_out 19 = .ok (.getfield 84, 3) := by decide +kernel
theorem dX10_out_22 : decode cX10_out 22 = .ok (.iload_n 1, 1) := by decide +kernel
theorem dX10_out_23 : decode cX10_out 23 = .ok (.iaload, 1) := by decide +kernel
theorem dX10_out_24 : decode cX10_out 24 = .ok (.iastore, 1) := by decide +kernel
theorem dX10_out_25 : decode cX10_out 25 = .ok (.aload_n 0, 1) := by decide +kernel
theorem dX10_out_26 : decode cX10_out 26 = .ok (.dup, 1) := by decide +kernel
theorem dX10_out_27 : decode cX10_out 27 = .ok (.getfield 284, 3) := by decide +kernel
theorem dX10_out_30 : decode cX10_out 30 = .ok (.iconst 1, 1) := by decide +kernel
theorem dX10_out_31 : decode cX10_out 31 = .ok (.iadd, 1) := by decide +kernel
theorem dX10_out_32 : decode cX10_out 32 = .ok (.putfield 284, 3) := by decide +kernel
theorem dX10_out_35 : decode cX10_out 35 = .ok (.iinc 1 1, 3) := by decide +kernel
theorem dX10_out_38 : decode cX10_out 38 = .ok (.goto (-36), 3) := by decide +kernel
theorem dX10_out_41 : decode cX10_out 41 = .ok (.aload_n 0, 1) := by decide +kernel
theorem dX10_out_42 : decode cX10_out 42 = .ok (.iconst 0, 1) := by decide +kernel
theorem dX10_out_43 : decode cX10_out 43 = .ok (.putfield 180, 3) := by decide +kernel
theorem dX10_out_46 : decode cX10_out 46 = .ok (.return_, 1) := by decide +kernel
theorem dX10_putValue_0 : decode cX10_putValue 0 = .ok (.aload_n 0, 1) := by decide +kernel
theorem dX10_putValue_1 : decode cX10_putValue 1 = .ok (.iload_n 1, 1) := by decide +kernel
theorem dX10_putValue_2 : decode cX10_putValue 2 = .ok (.invokevirtual 140, 3) := by decide +kernel
theorem dX10_putValue_5 : decode cX10_putValue 5 = .ok (.ifCond .eq 11, 3) := by decide +kernel
theorem dX10_putValue_8 : decode cX10_putValue 8 = .ok (.aload_n 0, 1) := by decide +kernel
theorem dX10_putValue_9 : decode cX10_putValue 9 = .ok (.iload_n 1, 1) := by decide +kernel
theorem dX10_putValue_10 : decode cX10_putValue 10 = .ok (.invokevirtual 253, 3) := by decide +kernel
theorem dX10_putValue_13 : decode cX10_putValue 13 = .ok (.goto 60, 3) := by decide +kernel
theorem dX10_putValue_16 : decode cX10_putValue 16 = .ok (.aload_n 0, 1) := by decide +kernel
theorem dX10_putValue_17 : decode cX10_putValue 17 = .ok (.getfield 7, 3) := by decide +kernel
theorem dX10_putValue_20 : decode cX10_putValue 20 = .ok (.iload_n 1, 1) := by decide +kernel
theorem dX10_putValue_21 : decode cX10_putValue 21 = .ok (.iaload, 1) := by decide +kernel
theorem dX10_putValue_22 : decode cX10_putValue 22 = .ok (.iconst 2, 1) := by decide +kernel
theorem dX10_putValue_23 : decode cX10_putValue 23 = .ok (.if_icmp .ne 19, 3) := by decide +kernel
theorem dX10_putValue_26 : decode cX10_putValue 26 = .ok (.aload_n 0, 1) := by decide +kernel
theorem dX10_putValue_27 : decode cX10_putValue 27 = .ok (.bipush 48, 2) := by decide +kernel
theorem dX10_putValue_29 : decode cX10_putValue 29 = .ok (.aload_n 0, 1) := by decide +kernel
theorem dX10_putValue_30 : decode cX10_putValue 30 = .ok (.getfield 41, 3) := by decide +kernel
theorem dX10_putValue_33 : decode cX10_putValue 33 = .ok (.iload_n 1, 1) := by decide +kernel
theorem dX10_putValue_34 : decode cX10_putValue 34 = .ok (.iaload, 1) := by decide +kernel
theorem dX10_putValue_35 : decode cX10_putValue 35 = .ok (.iadd, 1) := by decide +kernel
theorem dX10_putValue_36 : decode cX10_putValue 36 = .ok (.invokevirtual 183, 3) := by decide +kernel
theorem dX10_putValue_39 : decode cX10_putValue 39 = .ok (.goto 34, 3) := by decide +kernel
theorem dX10_putValue_42 : decode cX10_putValue 42 = .ok (.aload_n 0, 1) := by decide +kernel
theorem dX10_putValue_43 : decode cX10_putValue 43 = .ok (.getfield 41, 3) := by decide +kernel
theorem dX10_putValue_46 : decode cX10_putValue 46 = .ok (.iload_n 1, 1) := by decide +kernel
theorem dX10_putValue_47 : decode cX10_putValue 47 = .ok (.iaload, 1) := by decide +kernel
theorem dX10_putValue_48 : decode cX10_putValue 48 = .ok (.ifCond .lt 25, 3) := by decide +kernel
theorem dX10_putValue_51 : decode cX10_putValue 51 = .ok (.aload_n 0, 1) := by decide +kernel
theorem dX10_putValue_52 : decode cX10_putValue 52 = .ok (.aload_n 0, 1) := by decide +kernel
theorem dX10_putValue_53 : decode cX10_putValue 53 = .ok (.getfield 44, 3) := by decide +kernel
theorem dX10_putValue_56 : decode cX10_putValue 56 = .ok (.bipush 12, 2) := by decide +kernel
theorem dX10_putValue_58 : decode cX10_putValue 58 = .ok (.iload_n 1, 1) := by decide +kernel
theorem dX10_putValue_59 : decode cX10_putValue 59 = .ok (.imul, 1) := by decide +kernel
theorem dX10_putValue_60 : decode cX10_putValue 60 = .ok (.aload_n 0, 1) := by decide +kernel
theorem dX10_putValue_61 : decode cX10_putValue 61 = .ok (.getfield 41, 3) := by decide +kernel
theorem dX10_putValue_64 : decode cX10_putValue 64 = .ok (.iload_n 1, 1) := by decide +kernel
theorem dX10_putValue_65 : decode cX10_putValue 65 = .ok (.iaload, 1) := by decide +kernel
theorem dX10_putValue_66 : decode cX10_putValue 66 = .ok (.iadd, 1) := by decide +kernel
theorem dX10_putValue_67 : decode cX10_putValue 67 = .ok (.iaload, 1) := by decide +kernel
theorem dX10_putValue_68 : decode cX10_putValue 68 = .ok (.i2l, 1) := by decide +kernel
theorem dX10_putValue_69 : decode cX10_putValue 69 = .ok (.iconst 0, 1) := by decide +kernel
theorem dX10_putValue_70 : decode cX10_putValue 70 = .ok (.invokevirtual 187, 3) := by decide +kernel
theorem dX10_putValue_73 : decode cX10_putValue 73 = .ok (.return_, 1) := by decide +kernel
theorem dX10_isMaster_0 : decode cX10_isMaster 0 = .ok (.aload_n 0, 1) := by decide +kernel
theorem dX10_isMaster_1 : decode cX10_isMaster 1 = .ok (.getfield 19, 3) := by decide +kernel
theorem dX10_isMaster_4 : decode cX10_isMaster 4 = .ok (.iload_n 1, 1) := by decide +kernel
theorem dX10_isMaster_5 : decode cX10_isMaster 5 = .ok (.iaload, 1) := by decide +kernel
theorem dX10_isMaster_6 : decode cX10_isMaster 6 = .ok (.iload_n 1, 1) := by decide +kernel
theorem dX10_isMaster_7 : decode cX10_isMaster 7 = .ok (.if_icmp .ne 16, 3) := by decide +kernel
theorem dX10_isMaster_10 : decode cX10_isMaster 10 = .ok (.aload_n 0, 1) := by decide +kernel
theorem dX10_isMaster_11 : decode cX10_isMaster 11 = .ok (.getfield 7, 3) := by decide +kernel
theorem dX10_isMaster_14 : decode cX10_isMaster 14 = .ok (.iload_n 1, 1) := by decide +kernel
theorem dX10_isMaster_15 : decode cX10_isMaster 15 = .ok (.iaload, 1) := by decide +kernel
theorem dX10_isMaster_16 : decode cX10_isMaster 16 = .ok (.ifCond .eq 7, 3) := by decide +kernel
theorem dX10_isMaster_19 : decode cX10_isMaster 19 = .ok (.iconst 1, 1) := by decide +kernel
theorem dX10_isMaster_20 : decode cX10_isMaster 20 = .ok (.goto 4, 3) := by decide +kernel
theorem dX10_isMaster_23 : decode cX10_isMaster 23 = .ok (.iconst 0, 1) := by decide +kernel
theorem dX10_isMaster_24 : decode cX10_isMaster 24 = .ok (.ireturn, 1) := by decide +kernel
theorem dX10_write_0 : decode cX10_write 0 = .ok (.aload_n 0, 1) := by decide +kernel
theorem dX10_write_1 : decode cX10_write 1 = .ok (.iconst 0, 1) := by decide +kernel
theorem dX10_write_2 : decode cX10_write 2 = .ok (.putfield 102, 3) := by decide +kernel
theorem dX10_write_5 : decode cX10_write 5 = .ok (.aload_n 0, 1) := by decide +kernel
theorem dX10_write_6 : decode cX10_write 6 = .ok (.iconst 0, 1) := by decide +kernel
theorem dX10_write_7 : decode cX10_write 7 = .ok (.putfield 284, 3) := by decide +kernel
theorem dX10_write_10 : decode cX10_write 10 = .ok (.iconst 0, 1) := by decide +kernel
theorem dX10_write_11 : decode cX10_write 11 = .ok (.istore_n 1, 1) := by decide +kernel
theorem dX10_write_12 : decode cX10_write 12 = .ok (.iload_n 1, 1) := by decide +kernel
theorem dX10_write_13 : decode cX10_write 13 = .ok (.aload_n 0, 1) := by decide +kernel
theorem dX10_write_14 : decode cX10_write 14 = .ok (.getfield 106, 3) := by decide +kernel
theorem dX10_write_17 : decode cX10_write 17 = .ok (.if_icmp .ge 48, 3) := by decide +kernel
theorem dX10_write_20 : decode cX10_write 20 = .ok (.aload_n 0, 1) := by decide +kernel
theorem dX10_write_21 : decode cX10_write 21 = .ok (.iload_n 1, 1) := by decide +kernel
theorem dX10_write_22 : decode cX10_write 22 = .ok (.invokevirtual 287, 3) := by decide +kernel
theorem dX10_write_25 : decode cX10_write 25 = .ok (.ifCond .eq 34, 3) := by decide +kernel
theorem dX10_write_28 : decode cX10_write 28 = .ok (.aload_n 0, 1) := by decide +kernel
theorem dX10_write_29 : decode cX10_write 29 = .ok (.iconst 0, 1) := by decide +kernel
theorem dX10_write_30 : decode cX10_write 30 = .ok (.putfield 180, 3) := by decide +kernel
theorem dX10_write_33 : decode cX10_write 33 = .ok (.aload_n 0, 1) := by decide +kernel
theorem dX10_write_34 : decode cX10_write 34 = .ok (.iload_n 1, 1) := by decide +kernel
theorem dX10_write_35 : decode cX10_write 35 = .ok (.invokevirtual 290, 3) := by decide +kernel
theorem dX10_write_38 : decode cX10_write 38 = .ok (.aload_n 0, 1) := by decide +kernel
theorem dX10_write_39 : decode cX10_write 39 = .ok (.bipush 61, 2) := by decide +kernel
theorem dX10_write_41 : decode cX10_write 41 = .ok (.invokevirtual 183, 3) := by decide +kernel
theorem dX10_write_44 : decode cX10_write 44 = .ok (.aload_n 0, 1) := by decide +kernel
theorem dX10_write_45 : decode cX10_write 45 = .ok (.iload_n 1, 1) := by decide +kernel
theorem dX10_write_46 : decode cX10_write 46 = .ok (.invokevirtual 293, 3) := by decide +kernel
theorem dX10_write_49 : decode cX10_write 49 = .ok (.aload_n 0, 1) := by decide +kernel
theorem dX10_write_50 : decode cX10_write 50 = .ok (.bipush 10, 2) := by decide +kernel
theorem dX10_write_52 : decode cX10_write 52 = .ok (.invokevirtual 183, 3) := by decide +kernel
theorem dX10_write_55 : decode cX10_write 55 = .ok (.aload_n 0, 1) := by decide +kernel
theorem dX10_write_56 : decode cX10_write 56 = .ok (.invokevirtual 296, 3) := by decide +kernel
theorem dX10_write_59 : decode cX10_write 59 = .ok (.iinc 1 1, 3) := by decide +kernel
theorem dX10_write_62 : decode cX10_write 62 = .ok (.goto (-50), 3) := by decide +kernel
theorem dX10_write_65 : decode cX10_write 65 = .ok (.aload_n 0, 1) := by decide +kernel
theorem dX10_write_66 : decode cX10_write 66 = .ok (.getfield 284, 3) := by decide +kernel
theorem dX10_write_69 : decode cX10_write 69 = .ok (.ireturn, 1) := by decide +kernel
theorem dX10_nameOut_0 : decode cX10_nameOut 0 = .ok (.iconst 0, 1) := by decide +kernel
theorem dX10_nameOut_1 : decode cX10_nameOut 1 = .ok (.istore_n 2, 1) := by decide +kernel
theorem dX10_nameOut_2 : decode cX10_nameOut 2 = .ok (.iload_n 1, 1) := by decide +kernel
theorem dX10_nameOut_3 : decode cX10_nameOut 3 = .ok (.istore_n 3, 1) := by decide +kernel
theorem dX10_nameOut_4 : decode cX10_nameOut 4 = .ok (.iload_n 3, 1) := by decide +kernel
theorem dX10_nameOut_5 : decode cX10_nameOut 5 = .ok (.ifCond .lt 16, 3) := by decide +kernel
theorem dX10_nameOut_8 : decode cX10_nameOut 8 = .ok (.iinc 2 1, 3) := by decide +kernel
theorem dX10_nameOut_11 : decode cX10_nameOut 11 = .ok (.aload_n 0, 1) := by decide +kernel
theorem dX10_nameOut_12 : decode cX10_nameOut 12 = .ok (.getfield 13, 3) := by decide +kernel
theorem dX10_nameOut_15 : decode cX10_nameOut 15 = .ok (.iload_n 3, 1) := by decide +kernel
theorem dX10_nameOut_16 : decode cX10_nameOut 16 = .ok (.iaload, 1) := by decide +kernel
theorem dX10_nameOut_17 : decode cX10_nameOut 17 = .ok (.istore_n 3, 1) := by decide +kernel
theorem dX10_nameOut_18 : decode cX10_nameOut 18 = .ok (.goto (-14), 3) := by decide +kernel
theorem dX10_nameOut_21 : decode cX10_nameOut 21 = .ok (.iload_n 2, 1) := by decide +kernel
theorem dX10_nameOut_22 : decode cX10_nameOut 22 = .ok (.iconst 1, 1) := by decide +kernel
theorem dX10_nameOut_23 : decode cX10_nameOut 23 = .ok (.isub, 1) := by decide +kernel
theorem dX10_nameOut_24 : decode cX10_nameOut 24 = .ok (.istore_n 3, 1) := by decide +kernel
theorem dX10_nameOut_25 : decode cX10_nameOut 25 = .ok (.iload_n 3, 1) := by decide +kernel
theorem dX10_nameOut_26 : decode cX10_nameOut 26 = .ok (.ifCond .lt 63, 3) := by decide +kernel
theorem dX10_nameOut_29 : decode cX10_nameOut 29 = .ok (.iload_n 1, 1) := by decide +kernel
theorem dX10_nameOut_30 : decode cX10_nameOut 30 = .ok (.istore 4, 2) := by decide +kernel
theorem dX10_nameOut_32 : decode cX10_nameOut 32 = .ok (.iconst 0, 1) := by decide +kernel
theorem dX10_nameOut_33 : decode cX10_nameOut 33 = .ok (.istore 5, 2) := by decide +kernel
theorem dX10_nameOut_35 : decode cX10_nameOut 35 = .ok (.iload 5, 2) := by decide +kernel
theorem dX10_nameOut_37 : decode cX10_nameOut 37 = .ok (.iload_n 3, 1) := by decide +kernel
theorem dX10_nameOut_38 : decode cX10_nameOut 38 = .ok (.if_icmp .ge 18, 3) := by decide +kernel
theorem dX10_nameOut_41 : decode cX10_nameOut 41 = .ok (.aload_n 0, 1) := by decide +kernel
theorem dX10_nameOut_42 : decode cX10_nameOut 42 = .ok (.getfield 13, 3) := by decide +kernel
theorem dX10_nameOut_45 : decode cX10_nameOut 45 = .ok (.iload 4, 2) := by decide +kernel
theorem dX10_nameOut_47 : decode cX10_nameOut 47 = .ok (.iaload, 1) := by decide +kernel
theorem dX10_nameOut_48 : decode cX10_nameOut 48 = .ok (.istore 4, 2) := by decide +kernel
theorem dX10_nameOut_50 : decode cX10_nameOut 50 = .ok (.iinc 5 1, 3) := by decide +kernel
theorem dX10_nameOut_53 : decode cX10_nameOut 53 = .ok (.goto (-18), 3) := by decide +kernel
theorem dX10_nameOut_56 : decode cX10_nameOut 56 = .ok (.aload_n 0, 1) := by decide +kernel
theorem dX10_nameOut_57 : decode cX10_nameOut 57 = .ok (.aload_n 0, 1) := by decide +kernel
theorem dX10_nameOut_58 : decode cX10_nameOut 58 = .ok (.getfield 16, 3) := by decide +kernel
theorem dX10_nameOut_61 : decode cX10_nameOut 61 = .ok (.iload 4, 2) := by decide +kernel
theorem dX10_nameOut_63 : decode cX10_nameOut 63 = .ok (.iaload, 1) := by decide +kernel
theorem dX10_nameOut_64 : decode cX10_nameOut 64 = .ok (.i2l, 1) := by decide +kernel
theorem dX10_nameOut_65 : decode cX10_nameOut 65 = .ok (.iconst 0, 1) := by decide +kernel
theorem dX10_nameOut_66 : decode cX10_nameOut 66 = .ok (.invokevirtual 187, 3) := by decide +kernel
theorem dX10_nameOut_69 : decode cX10_nameOut 69 = .ok (.iload_n 3, 1) := by decide +kernel
theorem dX10_nameOut_70 : decode cX10_nameOut 70 = .ok (.ifCond .le 9, 3) := by decide +kernel
theorem dX10_nameOut_73 : decode cX10_nameOut 73 = .ok (.aload_n 0, 1) := by decide +kernel
theorem dX10_nameOut_74 : decode cX10_nameOut 74 = .ok (.bipush 46, 2) := by decide +kernel
theorem dX10_nameOut_76 : decode cX10_nameOut 76 = .ok (.invokevirtual 183, 3) := by decide +kernel
theorem dX10_nameOut_79 : decode cX10_nameOut 79 = .ok (.aload_n 0, 1) := by decide +kernel
theorem dX10_nameOut_80 : decode cX10_nameOut 80 = .ok (.invokevirtual 296, 3) := by decide +kernel
theorem dX10_nameOut_83 : decode cX10_nameOut 83 = .ok (.iinc 3 (-1), 3) := by decide +kernel
theorem dX10_nameOut_86 : decode cX10_nameOut 86 = .ok (.goto (-61), 3) := by decide +kernel
theorem dX10_nameOut_89 : decode cX10_nameOut 89 = .ok (.return_, 1) := by decide +kernel
theorem dX10_at_0 : decode cX10_at 0 = .ok (.aload_n 0, 1) := by decide +kernel
theorem dX10_at_1 : decode cX10_at 1 = .ok (.iload_n 1, 1) := by decide +kernel
theorem dX10_at_2 : decode cX10_at 2 = .ok (.i2l, 1) := by decide +kernel
theorem dX10_at_3 : decode cX10_at 3 = .ok (.lconst 0, 1) := by decide +kernel
theorem dX10_at_4 : decode cX10_at 4 = .ok (.aload_n 0, 1) := by decide +kernel
theorem dX10_at_5 : decode cX10_at 5 = .ok (.getfield 284, 3) := by decide +kernel
theorem dX10_at_8 : decode cX10_at 8 = .ok (.i2l, 1) := by decide +kernel
theorem dX10_at_9 : decode cX10_at 9 = .ok (.lconst 1, 1) := by decide +kernel
theorem dX10_at_10 : decode cX10_at 10 = .ok (.lsub, 1) := by decide +kernel
theorem dX10_at_11 : decode cX10_at 11 = .ok (.invokestatic 115, 3) := by decide +kernel
theorem dX10_at_14 : decode cX10_at 14 = .ok (.ifCond .eq 7, 3) := by decide +kernel
theorem dX10_at_17 : decode cX10_at 17 = .ok (.iconst 0, 1) := by decide +kernel
theorem dX10_at_18 : decode cX10_at 18 = .ok (.goto 4, 3) := by decide +kernel
theorem dX10_at_21 : decode cX10_at 21 = .ok (.iconst 1, 1) := by decide +kernel
theorem dX10_at_22 : decode cX10_at 22 = .ok (.putfield 102, 3) := by decide +kernel
theorem dX10_at_25 : decode cX10_at 25 = .ok (.aload_n 0, 1) := by decide +kernel
theorem dX10_at_26 : decode cX10_at 26 = .ok (.getfield 102, 3) := by decide +kernel
theorem dX10_at_29 : decode cX10_at 29 = .ok (.ifCond .le 7, 3) := by decide +kernel
theorem dX10_at_32 : decode cX10_at 32 = .ok (.iconst 0, 1) := by decide +kernel
theorem dX10_at_33 : decode cX10_at 33 = .ok (.goto 9, 3) := by decide +kernel
theorem dX10_at_36 : decode cX10_at 36 = .ok (.aload_n 0, 1) := by decide +kernel
theorem dX10_at_37 : decode cX10_at 37 = .ok (.getfield 96, 3) := by decide +kernel
theorem dX10_at_40 : decode cX10_at 40 = .ok (.iload_n 1, 1) := by decide +kernel
theorem dX10_at_41 : decode cX10_at 41 = .ok (.iaload, 1) := by decide +kernel
theorem dX10_at_42 : decode cX10_at 42 = .ok (.ireturn, 1) := by decide +kernel
theorem dX10_behindName_0 : decode cX10_behindName 0 = .ok (.iconst 0, 1) := by decide +kernel
theorem dX10_behindName_1 : decode cX10_behindName 1 = .ok (.istore_n 3, 1) := by decide +kernel
theorem dX10_behindName_2 : decode cX10_behindName 2 = .ok (.iload_n 2, 1) := by decide +kernel
theorem dX10_behindName_3 : decode cX10_behindName 3 = .ok (.istore 4, 2) := by decide +kernel
theorem dX10_behindName_5 : decode cX10_behindName 5 = .ok (.iload 4, 2) := by decide +kernel
theorem dX10_behindName_7 : decode cX10_behindName 7 = .ok (.ifCond .lt 18, 3) := by decide +kernel
theorem dX10_behindName_10 : decode cX10_behindName 10 = .ok (.iinc 3 1, 3) := by decide +kernel
theorem dX10_behindName_13 : decode cX10_behindName 13 = .ok (.aload_n 0, 1) := by decide +kernel
theorem dX10_behindName_14 : decode cX10_behindName 14 = .ok (.getfield 13, 3) := by decide +kernel
theorem dX10_behindName_17 : decode cX10_behindName 17 = .ok (.iload 4, 2) := by decide +kernel
theorem dX10_behindName_19 : decode cX10_behindName 19 = .ok (.iaload, 1) := by decide +kernel
theorem dX10_behindName_20 : decode cX10_behindName 20 = .ok (.istore 4, 2) := by decide +kernel
theorem dX10_behindName_22 : decode cX10_behindName 22 = .ok (.goto (-17), 3) := by decide +kernel
theorem dX10_behindName_25 : decode cX10_behindName 25 = .ok (.iload_n 1, 1) := by decide +kernel
theorem dX10_behindName_26 : decode cX10_behindName 26 = .ok (.istore 4, 2) := by decide +kernel
theorem dX10_behindName_28 : decode cX10_behindName 28 = .ok (.iload_n 3, 1) := by decide +kernel
theorem dX10_behindName_29 : decode cX10_behindName 29 = .ok (.iconst 1, 1) := by decide +kernel
theorem dX10_behindName_30 : decode cX10_behindName 30 = .ok (.isub, 1) := by decide +kernel
theorem dX10_behindName_31 : decode cX10_behindName 31 = .ok (.istore 5, 2) := by decide +kernel
theorem dX10_behindName_33 : decode cX10_behindName 33 = .ok (.iload 5, 2) := by decide +kernel
theorem dX10_behindName_35 : decode cX10_behindName 35 = .ok (.ifCond .lt 120, 3) := by decide +kernel
theorem dX10_behindName_38 : decode cX10_behindName 38 = .ok (.iload_n 2, 1) := by decide +kernel
theorem dX10_behindName_39 : decode cX10_behindName 39 = .ok (.istore 6, 2) := by decide +kernel
theorem dX10_behindName_41 : decode cX10_behindName 41 = .ok (.iconst 0, 1) := by decide +kernel
theorem dX10_behindName_42 : decode cX10_behindName 42 = .ok (.istore 7, 2) := by decide +kernel
theorem dX10_behindName_44 : decode cX10_behindName 44 = .ok (.iload 7, 2) := by decide +kernel
theorem dX10_behindName_46 : decode cX10_behindName 46 = .ok (.iload 5, 2) := by decide +kernel
theorem dX10_behindName_48 : decode cX10_behindName 48 = .ok (.if_icmp .ge 18, 3) := by decide +kernel
theorem dX10_behindName_51 : decode cX10_behindName 51 = .ok (.aload_n 0, 1) := by decide +kernel
theorem dX10_behindName_52 : decode cX10_behindName 52 = .ok (.getfield 13, 3) := by decide +kernel
theorem dX10_behindName_55 : decode cX10_behindName 55 = .ok (.iload 6, 2) := by decide +kernel
theorem dX10_behindName_57 : decode cX10_behindName 57 = .ok (.iaload, 1) := by decide +kernel
theorem dX10_behindName_58 : decode cX10_behindName 58 = .ok (.istore 6, 2) := by decide +kernel
theorem dX10_behindName_60 : decode cX10_behindName 60 = .ok (.iinc 7 1, 3) := by decide +kernel
theorem dX10_behindName_63 : decode cX10_behindName 63 = .ok (.goto (-19), 3) := by decide +kernel
theorem dX10_behindName_66 : decode cX10_behindName 66 = .ok (.aload_n 0, 1) := by decide +kernel
theorem dX10_behindName_67 : decode cX10_behindName 67 = .ok (.iconst 0, 1) := by decide +kernel
theorem dX10_behindName_68 : decode cX10_behindName 68 = .ok (.putfield 180, 3) := by decide +kernel
theorem dX10_behindName_71 : decode cX10_behindName 71 = .ok (.aload_n 0, 1) := by decide +kernel
theorem dX10_behindName_72 : decode cX10_behindName 72 = .ok (.aload_n 0, 1) := by decide +kernel
theorem dX10_behindName_73 : decode cX10_behindName 73 = .ok (.getfield 16, 3) := by decide +kernel
theorem dX10_behindName_76 : decode cX10_behindName 76 = .ok (.iload 6, 2) := by decide +kernel
theorem dX10_behindName_78 : decode cX10_behindName 78 = .ok (.iaload, 1) := by decide +kernel
theorem dX10_behindName_79 : decode cX10_behindName 79 = .ok (.i2l, 1) := by decide +kernel
theorem dX10_behindName_80 : decode cX10_behindName 80 = .ok (.iconst 0, 1) := by decide +kernel
theorem dX10_behindName_81 : decode cX10_behindName 81 = .ok (.invokevirtual 187, 3) := by decide +kernel
theorem dX10_behindName_84 : decode cX10_behindName 84 = .ok (.aload_n 0, 1) := by decide +kernel
theorem dX10_behindName_85 : decode cX10_behindName 85 = .ok (.iload 5, 2) := by decide +kernel
theorem dX10_behindName_87 : decode cX10_behindName 87 = .ok (.ifCond .le 8, 3) := by decide +kernel
theorem dX10_behindName_90 : decode cX10_behindName 90 = .ok (.bipush 46, 2) := by decide +kernel
theorem dX10_behindName_92 : decode cX10_behindName 92 = .ok (.goto 5, 3) := by decide +kernel
theorem dX10_behindName_95 : decode cX10_behindName 95 = .ok (.bipush 61, 2) := by decide +kernel
theorem dX10_behindName_97 : decode cX10_behindName 97 = .ok (.invokevirtual 183, 3) := by decide +kernel
theorem dX10_behindName_100 : decode cX10_behindName 100 = .ok (.iconst 0, 1) := by decide +kernel
theorem dX10_behindName_101 : decode cX10_behindName 101 = .ok (.istore 7, 2) := by decide +kernel
theorem dX10_behindName_103 : decode cX10_behindName 103 = .ok (.iload 7, 2) := by decide +kernel
theorem dX10_behindName_105 : decode cX10_behindName 105 = .ok (.aload_n 0, 1) := by decide +kernel
theorem dX10_behindName_106 : decode cX10_behindName 106 = .ok (.getfield 180, 3) := by decide +kernel
theorem dX10_behindName_109 : decode cX10_behindName 109 = .ok (.if_icmp .ge 40, 3) := by decide +kernel
theorem dX10_behindName_112 : decode cX10_behindName 112 = .ok (.iload 4, 2) := by decide +kernel
theorem dX10_behindName_114 : decode cX10_behindName 114 = .ok (.aload_n 0, 1) := by decide +kernel
theorem dX10_behindName_115 : decode cX10_behindName 115 = .ok (.getfield 299, 3) := by decide +kernel
theorem dX10_behindName_118 : decode cX10_behindName 118 = .ok (.if_icmp .ge 20, 3) := by decide +kernel
theorem dX10_behindName_121 : decode cX10_behindName 121 = .ok (.aload_n 0, 1) := by decide +kernel
theorem dX10_behindName_122 : decode cX10_behindName 122 = .ok (.getfield 99, 3) := by decide +kernel
theorem dX10_behindName_125 : decode cX10_behindName 125 = .ok (.iload 4, 2) := by decide +kernel
theorem dX10_behindName_127 : decode cX10_behindName 127 = .ok (.iaload, 1) := by decide +kernel
theorem dX10_behindName_128 : decode cX10_behindName 128 = .ok (.aload_n 0, 1) := by decide +kernel
theorem dX10_behindName_129 : decode cX10_behindName 129 = .ok (.getfield 84, 3) := by decide +kernel
theorem dX10_behindName_132 : decode cX10_behindName 132 = .ok (.iload 7, 2) := by decide +kernel
theorem dX10_behindName_134 : decode cX10_behindName 134 = .ok (.iaload, 1) := by decide +kernel
theorem dX10_behindName_135 : decode cX10_behindName 135 = .ok (.if_icmp .eq 5, 3) := by decide +kernel
theorem dX10_behindName_138 : decode cX10_behindName 138 = .ok (.iconst (-1), 1) := by decide +kernel
theorem dX10_behindName_139 : decode cX10_behindName 139 = .ok (.ireturn, 1) := by decide +kernel
theorem dX10_behindName_140 : decode cX10_behindName 140 = .ok (.iinc 4 1, 3) := by decide +kernel
theorem dX10_behindName_143 : decode cX10_behindName 143 = .ok (.iinc 7 1, 3) := by decide +kernel
theorem dX10_behindName_146 : decode cX10_behindName 146 = .ok (.goto (-43), 3) := by decide +kernel
theorem dX10_behindName_149 : decode cX10_behindName 149 = .ok (.iinc 5 (-1), 3) := by decide +kernel
theorem dX10_behindName_152 : decode cX10_behindName 152 = .ok (.goto (-119), 3) := by decide +kernel
theorem dX10_behindName_155 : decode cX10_behindName 155 = .ok (.iload 4, 2) := by decide +kernel
theorem dX10_behindName_157 : decode cX10_behindName 157 = .ok (.ireturn, 1) := by decide +kernel
theorem dX10_takeValue_0 : decode cX10_takeValue 0 = .ok (.aload_n 0, 1) := by decide +kernel
theorem dX10_takeValue_1 : decode cX10_takeValue 1 = .ok (.iload_n 1, 1) := by decide +kernel
theorem dX10_takeValue_2 : decode cX10_takeValue 2 = .ok (.invokevirtual 140, 3) := by decide +kernel
theorem dX10_takeValue_5 : decode cX10_takeValue 5 = .ok (.ifCond .eq 130, 3) := by decide +kernel
theorem dX10_takeValue_8 : decode cX10_takeValue 8 = .ok (.iload_n 3, 1) := by decide +kernel
theorem dX10_takeValue_9 : decode cX10_takeValue 9 = .ok (.iload_n 2, 1) := by decide +kernel
theorem dX10_takeValue_10 : decode cX10_takeValue 10 = .ok (.isub, 1) := by decide +kernel
theorem dX10_takeValue_11 : decode cX10_takeValue 11 = .ok (.aload_n 0, 1) := by decide +kernel
theorem dX10_takeValue_12 : decode cX10_takeValue 12 = .ok (.iload_n 1, 1) := by decide +kernel
theorem dX10_takeValue_13 : decode cX10_takeValue 13 = .ok (.invokevirtual 152, 3) := by decide +kernel
theorem dX10_takeValue_16 : decode cX10_takeValue 16 = .ok (.if_icmp .gt 7, 3) := by decide +kernel
theorem dX10_takeValue_19 : decode cX10_takeValue 19 = .ok (.iconst 1, 1) := by decide +kernel
theorem dX10_takeValue_20 : decode cX10_takeValue 20 = .ok (.goto 4, 3) := by decide +kernel
theorem dX10_takeValue_23 : decode cX10_takeValue 23 = .ok (.iconst 0, 1) := by decide +kernel
theorem dX10_takeValue_24 : decode cX10_takeValue 24 = .ok (.istore 5, 2) := by decide +kernel
theorem dX10_takeValue_26 : decode cX10_takeValue 26 = .ok (.iload_n 2, 1) := by decide +kernel
theorem dX10_takeValue_27 : decode cX10_takeValue 27 = .ok (.istore 6, 2) := by decide +kernel
theorem dX10_takeValue_29 : decode cX10_takeValue 29 = .ok (.iload 6, 2) := by decide +kernel
theorem dX10_takeValue_31 : decode cX10_takeValue 31 = .ok (.iload_n 3, 1) := by decide +kernel
theorem dX10_takeValue_32 : decode cX10_takeValue 32 = .ok (.if_icmp .ge 36, 3) := by decide +kernel
theorem dX10_takeValue_35 : decode cX10_takeValue 35 = .ok (.iload 5, 2) := by decide +kernel
theorem dX10_takeValue_37 : decode cX10_takeValue 37 = .ok (.ifCond .eq 22, 3) := by decide +kernel
theorem dX10_takeValue_40 : decode cX10_takeValue 40 = .ok (.aload_n 0, 1) := by decide +kernel
theorem dX10_takeValue_41 : decode cX10_takeValue 41 = .ok (.iload_n 1, 1) := by decide +kernel
theorem dX10_takeValue_42 : decode cX10_takeValue 42 = .ok (.aload_n 0, 1) := by decide +kernel
theorem dX10_takeValue_43 : decode cX10_takeValue 43 = .ok (.getfield 99, 3) := by decide +kernel
theorem dX10_takeValue_46 : decode cX10_takeValue 46 = .ok (.iload 6, 2) := by decide +kernel
theorem dX10_takeValue_48 : decode cX10_takeValue 48 = .ok (.iaload, 1) := by decide +kernel
theorem dX10_takeValue_49 : decode cX10_takeValue 49 = .ok (.invokevirtual 143, 3) := by decide +kernel
theorem dX10_takeValue_52 : decode cX10_takeValue 52 = .ok (.ifCond .eq 7, 3) := by decide +kernel
theorem dX10_takeValue_55 : decode cX10_takeValue 55 = .ok (.iconst 1, 1) := by decide +kernel
theorem dX10_takeValue_56 : decode cX10_takeValue 56 = .ok (.goto 4, 3) := by decide +kernel
theorem dX10_takeValue_59 : decode cX10_takeValue 59 = .ok (.iconst 0, 1) := by decide +kernel
theorem dX10_takeValue_60 : decode cX10_takeValue 60 = .ok (.istore 5, 2) := by decide +kernel
theorem dX10_takeValue_62 : decode cX10_takeValue 62 = .ok (.iinc 6 1, 3) := by decide +kernel
theorem dX10_takeValue_65 : decode cX10_takeValue 65 = .ok (.goto (-36), 3) := by decide +kernel
theorem dX10_takeValue_68 : decode cX10_takeValue 68 = .ok (.iload_n 2, 1) := by decide +kernel
theorem dX10_takeValue_69 : decode cX10_takeValue 69 = .ok (.istore 6, 2) := by decide +kernel
theorem dX10_takeValue_71 : decode cX10_takeValue 71 = .ok (.iload 6, 2) := by decide +kernel
theorem dX10_takeValue_73 : decode cX10_takeValue 73 = .ok (.iload_n 3, 1) := by decide +kernel
theorem dX10_takeValue_74 : decode cX10_takeValue 74 = .ok (.if_icmp .ge 35, 3) := by decide +kernel
theorem dX10_takeValue_77 : decode cX10_takeValue 77 = .ok (.iload 4, 2) := by decide +kernel
theorem dX10_takeValue_79 : decode cX10_takeValue 79 = .ok (.ifCond .eq 30, 3) := by decide +kernel
theorem dX10_takeValue_82 : decode cX10_takeValue 82 = .ok (.aload_n 0, 1) := by decide +kernel
theorem dX10_takeValue_83 : decode cX10_takeValue 83 = .ok (.getfield 35, 3) := by decide +kernel
theorem dX10_takeValue_86 : decode cX10_takeValue 86 = .ok (.bipush 30, 2) := by decide +kernel
theorem dX10_takeValue_88 : decode cX10_takeValue 88 = .ok (.iload_n 1, 1) := by decide +kernel
theorem dX10_takeValue_89 : decode cX10_takeValue 89 = .ok (.imul, 1) := by decide +kernel
theorem dX10_takeValue_90 : decode cX10_takeValue 90 = .ok (.iload 6, 2) := by decide +kernel
theorem dX10_takeValue_92 : decode cX10_takeValue 92 = .ok (.iadd, 1) := by decide +kernel
theorem dX10_takeValue_93 : decode cX10_takeValue 93 = .ok (.iload_n 2, 1) := by decide +kernel
theorem dX10_takeValue_94 : decode cX10_takeValue 94 = .ok (.isub, 1) := by decide +kernel
theorem dX10_takeValue_95 : decode cX10_takeValue 95 = .ok (.aload_n 0, 1) := by decide +kernel
theorem dX10_takeValue_96 : decode cX10_takeValue 96 = .ok (.getfield 99, 3) := by decide +kernel
theorem dX10_takeValue_99 : decode cX10_takeValue 99 = .ok (.iload 6, 2) := by decide +kernel
theorem dX10_takeValue_101 : decode cX10_takeValue 101 = .ok (.iaload, 1) := by decide +kernel
theorem dX10_takeValue_102 : decode cX10_takeValue 102 = .ok (.iastore, 1) := by decide +kernel
theorem dX10_takeValue_103 : decode cX10_takeValue 103 = .ok (.iinc 6 1, 3) := by decide +kernel
theorem dX10_takeValue_106 : decode cX10_takeValue 106 = .ok (.goto (-35), 3) := by decide +kernel
theorem dX10_takeValue_109 : decode cX10_takeValue 109 = .ok (.aload_n 0, 1) := by decide +kernel
theorem dX10_takeValue_110 : decode cX10_takeValue 110 = .ok (.getfield 38, 3) := by decide +kernel
theorem dX10_takeValue_113 : decode cX10_takeValue 113 = .ok (.iload_n 1, 1) := by decide +kernel
theorem dX10_takeValue_114 : decode cX10_takeValue 114 = .ok (.iload 4, 2) := by decide +kernel
theorem dX10_takeValue_116 : decode cX10_takeValue 116 = .ok (.ifCond .eq 9, 3) := by decide +kernel
theorem dX10_takeValue_119 : decode cX10_takeValue 119 = .ok (.iload_n 3, 1) := by decide +kernel
theorem dX10_takeValue_120 : decode cX10_takeValue 120 = .ok (.iload_n 2, 1) := by decide +kernel
theorem dX10_takeValue_121 : decode cX10_takeValue 121 = .ok (.isub, 1) := by decide +kernel
theorem dX10_takeValue_122 : decode cX10_takeValue 122 = .ok (.goto 9, 3) := by decide +kernel
theorem dX10_takeValue_125 : decode cX10_takeValue 125 = .ok (.aload_n 0, 1) := by decide +kernel
theorem dX10_takeValue_126 : decode cX10_takeValue 126 = .ok (.getfield 38, 3) := by decide +kernel
theorem dX10_takeValue_129 : decode cX10_takeValue 129 = .ok (.iload_n 1, 1) := by decide +kernel
theorem dX10_takeValue_130 : decode cX10_takeValue 130 = .ok (.iaload, 1) := by decide +kernel
theorem dX10_takeValue_131 : decode cX10_takeValue 131 = .ok (.iastore, 1) := by decide +kernel
theorem dX10_takeValue_132 : decode cX10_takeValue 132 = .ok (.iload 5, 2) := by decide +kernel
theorem dX10_takeValue_134 : decode cX10_takeValue 134 = .ok (.ireturn, 1) := by decide +kernel
theorem dX10_takeValue_135 : decode cX10_takeValue 135 = .ok (.aload_n 0, 1) := by decide +kernel
theorem dX10_takeValue_136 : decode cX10_takeValue 136 = .ok (.getfield 7, 3) := by decide +kernel
theorem dX10_takeValue_139 : decode cX10_takeValue 139 = .ok (.iload_n 1, 1) := by decide +kernel
theorem dX10_takeValue_140 : decode cX10_takeValue 140 = .ok (.iaload, 1) := by decide +kernel
theorem dX10_takeValue_141 : decode cX10_takeValue 141 = .ok (.iconst 2, 1) := by decide +kernel
theorem dX10_takeValue_142 : decode cX10_takeValue 142 = .ok (.if_icmp .ne 68, 3) := by decide +kernel
theorem dX10_takeValue_145 : decode cX10_takeValue 145 = .ok (.iload_n 3, 1) := by decide +kernel
theorem dX10_takeValue_146 : decode cX10_takeValue 146 = .ok (.iload_n 2, 1) := by decide +kernel
theorem dX10_takeValue_147 : decode cX10_takeValue 147 = .ok (.isub, 1) := by decide +kernel
theorem dX10_takeValue_148 : decode cX10_takeValue 148 = .ok (.iconst 1, 1) := by decide +kernel
theorem dX10_takeValue_149 : decode cX10_takeValue 149 = .ok (.if_icmp .ne 26, 3) := by decide +kernel
theorem dX10_takeValue_152 : decode cX10_takeValue 152 = .ok (.aload_n 0, 1) := by decide +kernel
theorem dX10_takeValue_153 : decode cX10_takeValue 153 = .ok (.getfield 99, 3) := by decide +kernel
theorem dX10_takeValue_156 : decode cX10_takeValue 156 = .ok (.iload_n 2, 1) := by decide +kernel
theorem dX10_takeValue_157 : decode cX10_takeValue 157 = .ok (.iaload, 1) := by decide +kernel
theorem dX10_takeValue_158 : decode cX10_takeValue 158 = .ok (.i2l, 1) := by decide +kernel
theorem dX10_takeValue_159 : decode cX10_takeValue 159 = .ok (.ldc2_w 172, 3) := by decide +kernel
theorem dX10_takeValue_162 : decode cX10_takeValue 162 = .ok (.ldc2_w 302, 3) := by decide +kernel
theorem dX10_takeValue_165 : decode cX10_takeValue 165 = .ok (.invokestatic 115, 3) := by decide +kernel
theorem dX10_takeValue_168 : decode cX10_takeValue 168 = .ok (.ifCond .eq 7, 3) := by decide +kernel
theorem dX10_takeValue_171 : decode cX10_takeValue 171 = .ok (.iconst 1, 1) := by decide +kernel
theorem dX10_takeValue_172 : decode cX10_takeValue 172 = .ok (.goto 4, 3) := by decide +kernel
theorem dX10_takeValue_175 : decode cX10_takeValue 175 = .ok (.iconst 0, 1) := by decide +kernel
theorem dX10_takeValue_176 : decode cX10_takeValue 176 = .ok (.istore 5, 2) := by decide +kernel
theorem dX10_takeValue_178 : decode cX10_takeValue 178 = .ok (.aload_n 0, 1) := by decide +kernel
theorem dX10_takeValue_179 : decode cX10_takeValue 179 = .ok (.getfield 41, 3) := by decide +kernel
theorem dX10_takeValue_182 : decode cX10_takeValue 182 = .ok (.iload_n 1, 1) := by decide +kernel
theorem dX10_takeValue_183 : decode cX10_takeValue 183 = .ok (.iload 4, 2) := by decide +kernel
theorem dX10_takeValue_185 : decode cX10_takeValue 185 = .ok (.ifCond .eq 15, 3) := by decide +kernel
theorem dX10_takeValue_188 : decode cX10_takeValue 188 = .ok (.aload_n 0, 1) := by decide +kernel
theorem dX10_takeValue_189 : decode cX10_takeValue 189 = .ok (.getfield 99, 3) := by decide +kernel
theorem dX10_takeValue_192 : decode cX10_takeValue 192 = .ok (.iload_n 2, 1) := by decide +kernel
theorem dX10_takeValue_193 : decode cX10_takeValue 193 = .ok (.iaload, 1) := by decide +kernel
theorem dX10_takeValue_194 : decode cX10_takeValue 194 = .ok (.bipush 48, 2) := by decide +kernel
theorem dX10_takeValue_196 : decode cX10_takeValue 196 = .ok (.isub, 1) := by decide +kernel
theorem dX10_takeValue_197 : decode cX10_takeValue 197 = .ok (.goto 9, 3) := by decide +kernel
theorem dX10_takeValue_200 : decode cX10_takeValue 200 = .ok (.aload_n 0, 1) := by decide +kernel
theorem dX10_takeValue_201 : decode cX10_takeValue 201 = .ok (.getfield 41, 3) := by decide +kernel
theorem dX10_takeValue_204 : decode cX10_takeValue 204 = .ok (.iload_n 1, 1) := by decide +kernel
theorem dX10_takeValue_205 : decode cX10_takeValue 205 = .ok (.iaload, 1) := by decide +kernel
theorem dX10_takeValue_206 : decode cX10_takeValue 206 = .ok (.iastore, 1) := by decide +kernel
theorem dX10_takeValue_207 : decode cX10_takeValue 207 = .ok (.iload 5, 2) := by decide +kernel
theorem dX10_takeValue_209 : decode cX10_takeValue 209 = .ok (.ireturn, 1) := by decide +kernel
theorem dX10_takeValue_210 : decode cX10_takeValue 210 = .ok (.iload_n 2, 1) := by decide +kernel
theorem dX10_takeValue_211 : decode cX10_takeValue 211 = .ok (.iload_n 3, 1) := by decide +kernel
theorem dX10_takeValue_212 : decode cX10_takeValue 212 = .ok (.if_icmp .ne 48, 3) := by decide +kernel
theorem dX10_takeValue_215 : decode cX10_takeValue 215 = .ok (.iload 4, 2) := by decide +kernel
theorem dX10_takeValue_217 : decode cX10_takeValue 217 = .ok (.ifCond .ne 12, 3) := by decide +kernel
theorem dX10_takeValue_220 : decode cX10_takeValue 220 = .ok (.aload_n 0, 1) := by decide +kernel
theorem dX10_takeValue_221 : decode cX10_takeValue 221 = .ok (.iload_n 1, 1) := by decide +kernel
theorem dX10_takeValue_222 : decode cX10_takeValue 222 = .ok (.iconst (-1), 1) := by decide +kernel
theorem dX10_takeValue_223 : decode cX10_takeValue 223 = .ok (.invokevirtual 149, 3) := by decide +kernel
theorem dX10_takeValue_226 : decode cX10_takeValue 226 = .ok (.ifCond .eq 7, 3) := by decide +kernel
theorem dX10_takeValue_229 : decode cX10_takeValue 229 = .ok (.iconst 1, 1) := by decide +kernel
theorem dX10_takeValue_230 : decode cX10_takeValue 230 = .ok (.goto 4, 3) := by decide +kernel
theorem dX10_takeValue_233 : decode cX10_takeValue 233 = .ok (.iconst 0, 1) := by decide +kernel
theorem dX10_takeValue_234 : decode cX10_takeValue 234 = .ok (.istore 5, 2) := by decide +kernel
theorem dX10_takeValue_236 : decode cX10_takeValue 236 = .ok (.aload_n 0, 1) := by decide +kernel
theorem dX10_takeValue_237 : decode cX10_takeValue 237 = .ok (.getfield 41, 3) := by decide +kernel
theorem dX10_takeValue_240 : decode cX10_takeValue 240 = .ok (.iload_n 1, 1) := by decide +kernel
theorem dX10_takeValue_241 : decode cX10_takeValue 241 = .ok (.iload 4, 2) := by decide +kernel
theorem dX10_takeValue_243 : decode cX10_takeValue 243 = .ok (.ifCond .eq 7, 3) := by decide +kernel
theorem dX10_takeValue_246 : decode cX10_takeValue 246 = .ok (.iconst (-1), 1) := by decide +kernel
theorem dX10_takeValue_247 : decode cX10_takeValue 247 = .ok (.goto 9, 3) := by decide +kernel
theorem dX10_takeValue_250 : decode cX10_takeValue 250 = .ok (.aload_n 0, 1) := by decide +kernel
theorem dX10_takeValue_251 : decode cX10_takeValue 251 = .ok (.getfield 41, 3) := by decide +kernel
theorem dX10_takeValue_254 : decode cX10_takeValue 254 = .ok (.iload_n 1, 1) := by decide +kernel
theorem dX10_takeValue_255 : decode cX10_takeValue 255 = .ok (.iaload, 1) := by decide +kernel
theorem dX10_takeValue_256 : decode cX10_takeValue 256 = .ok (.iastore, 1) := by decide +kernel
theorem dX10_takeValue_257 : decode cX10_takeValue 257 = .ok (.iload 5, 2) := by decide +kernel
theorem dX10_takeValue_259 : decode cX10_takeValue 259 = .ok (.ireturn, 1) := by decide +kernel
theorem dX10_takeValue_260 : decode cX10_takeValue 260 = .ok (.iconst 0, 1) := by decide +kernel
theorem dX10_takeValue_261 : decode cX10_takeValue 261 = .ok (.istore 5, 2) := by decide +kernel
theorem dX10_takeValue_263 : decode cX10_takeValue 263 = .ok (.iload 5, 2) := by decide +kernel
theorem dX10_takeValue_265 : decode cX10_takeValue 265 = .ok (.aload_n 0, 1) := by decide +kernel
theorem dX10_takeValue_266 : decode cX10_takeValue 266 = .ok (.getfield 47, 3) := by decide +kernel
theorem dX10_takeValue_269 : decode cX10_takeValue 269 = .ok (.iload_n 1, 1) := by decide +kernel
theorem dX10_takeValue_270 : decode cX10_takeValue 270 = .ok (.iaload, 1) := by decide +kernel
theorem dX10_takeValue_271 : decode cX10_takeValue 271 = .ok (.if_icmp .ge 127, 3) := by decide +kernel
theorem dX10_takeValue_274 : decode cX10_takeValue 274 = .ok (.aload_n 0, 1) := by decide +kernel
theorem dX10_takeValue_275 : decode cX10_takeValue 275 = .ok (.iconst 0, 1) := by decide +kernel
theorem dX10_takeValue_276 : decode cX10_takeValue 276 = .ok (.putfield 180, 3) := by decide +kernel
theorem dX10_takeValue_279 : decode cX10_takeValue 279 = .ok (.aload_n 0, 1) := by decide +kernel
theorem dX10_takeValue_280 : decode cX10_takeValue 280 = .ok (.aload_n 0, 1) := by decide +kernel
theorem dX10_takeValue_281 : decode cX10_takeValue 281 = .ok (.getfield 44, 3) := by decide +kernel
theorem dX10_takeValue_284 : decode cX10_takeValue 284 = .ok (.bipush 12, 2) := by decide +kernel
theorem dX10_takeValue_286 : decode cX10_takeValue 286 = .ok (.iload_n 1, 1) := by decide +kernel
theorem dX10_takeValue_287 : decode cX10_takeValue 287 = .ok (.imul, 1) := by decide +kernel
theorem dX10_takeValue_288 : decode cX10_takeValue 288 = .ok (.iload 5, 2) := by decide +kernel
theorem dX10_takeValue_290 : decode cX10_takeValue 290 = .ok (.iadd, 1) := by decide +kernel
theorem dX10_takeValue_291 : decode cX10_takeValue 291 = .ok (.iaload, 1) := by decide +kernel
theorem dX10_takeValue_292 : decode cX10_takeValue 292 = .ok (.i2l, 1) := by decide +kernel
theorem dX10_takeValue_293 : decode cX10_takeValue 293 = .ok (.iconst 0, 1) := by decide +kernel
theorem dX10_takeValue_294 : decode cX10_takeValue 294 = .ok (.invokevirtual 187, 3) := by decide +kernel
theorem dX10_takeValue_297 : decode cX10_takeValue 297 = .ok (.aload_n 0, 1) := by decide +kernel
theorem dX10_takeValue_298 : decode cX10_takeValue 298 = .ok (.getfield 180, 3) := by decide +kernel
theorem dX10_takeValue_301 : decode cX10_takeValue 301 = .ok (.iload_n 3, 1) := by decide +kernel
theorem dX10_takeValue_302 : decode cX10_takeValue 302 = .ok (.iload_n 2, 1) := by decide +kernel
theorem dX10_takeValue_303 : decode cX10_takeValue 303 = .ok (.isub, 1) := by decide +kernel
theorem dX10_takeValue_304 : decode cX10_takeValue 304 = .ok (.if_icmp .ne 7, 3) := by decide +kernel
theorem dX10_takeValue_307 : decode cX10_takeValue 307 = .ok (.iconst 1, 1) := by decide +kernel
theorem dX10_takeValue_308 : decode cX10_takeValue 308 = .ok (.goto 4, 3) := by decide +kernel
theorem dX10_takeValue_311 : decode cX10_takeValue 311 = .ok (.iconst 0, 1) := by decide +kernel
theorem dX10_takeValue_312 : decode cX10_takeValue 312 = .ok (.istore 6, 2) := by decide +kernel
theorem dX10_takeValue_314 : decode cX10_takeValue 314 = .ok (.iconst 0, 1) := by decide +kernel
theorem dX10_takeValue_315 : decode cX10_takeValue 315 = .ok (.istore 7, 2) := by decide +kernel
theorem dX10_takeValue_317 : decode cX10_takeValue 317 = .ok (.iload 7, 2) := by decide +kernel
theorem dX10_takeValue_319 : decode cX10_takeValue 319 = .ok (.aload_n 0, 1) := by decide +kernel
theorem dX10_takeValue_320 : decode cX10_takeValue 320 = .ok (.getfield 180, 3) := by decide +kernel
theorem dX10_takeValue_323 : decode cX10_takeValue 323 = .ok (.if_icmp .ge 40, 3) := by decide +kernel
theorem dX10_takeValue_326 : decode cX10_takeValue 326 = .ok (.iload 6, 2) := by decide +kernel
theorem dX10_takeValue_328 : decode cX10_takeValue 328 = .ok (.ifCond .eq 35, 3) := by decide +kernel
theorem dX10_takeValue_331 : decode cX10_takeValue 331 = .ok (.aload_n 0, 1) := by decide +kernel
theorem dX10_takeValue_332 : decode cX10_takeValue 332 = .ok (.getfield 99, 3) := by decide +kernel
theorem dX10_takeValue_335 : decode cX10_takeValue 335 = .ok (.iload_n 2, 1) := by decide +kernel
theorem dX10_takeValue_336 : decode cX10_takeValue 336 = .ok (.iload 7, 2) := by decide +kernel
theorem dX10_takeValue_338 : decode cX10_takeValue 338 = .ok (.iadd, 1) := by decide +kernel
theorem dX10_takeValue_339 : decode cX10_takeValue 339 = .ok (.iaload, 1) := by decide +kernel
theorem dX10_takeValue_340 : decode cX10_takeValue 340 = .ok (.aload_n 0, 1) := by decide +kernel
theorem dX10_takeValue_341 : decode cX10_takeValue 341 = .ok (.getfield 84, 3) := by decide +kernel
theorem dX10_takeValue_344 : decode cX10_takeValue 344 = .ok (.iload 7, 2) := by decide +kernel
theorem dX10_takeValue_346 : decode cX10_takeValue 346 = .ok (.iaload, 1) := by decide +kernel
theorem dX10_takeValue_347 : decode cX10_takeValue 347 = .ok (.if_icmp .ne 7, 3) := by decide +kernel
theorem dX10_takeValue_350 : decode cX10_takeValue 350 = .ok (.iconst 1, 1) := by decide +kernel
theorem dX10_takeValue_351 : decode cX10_takeValue 351 = .ok (.goto 4, 3) := by decide +kernel
theorem dX10_takeValue_354 : decode cX10_takeValue 354 = .ok (.iconst 0, 1) := by decide +kernel
theorem dX10_takeValue_355 : decode cX10_takeValue 355 = .ok (.istore 6, 2) := by decide +kernel
theorem dX10_takeValue_357 : decode cX10_takeValue 357 = .ok (.iinc 7 1, 3) := by decide +kernel
theorem dX10_takeValue_360 : decode cX10_takeValue 360 = .ok (.goto (-43), 3) := by decide +kernel
theorem dX10_takeValue_363 : decode cX10_takeValue 363 = .ok (.iload 6, 2) := by decide +kernel
theorem dX10_takeValue_365 : decode cX10_takeValue 365 = .ok (.ifCond .eq 27, 3) := by decide +kernel
theorem dX10_takeValue_368 : decode cX10_takeValue 368 = .ok (.aload_n 0, 1) := by decide +kernel
theorem dX10_takeValue_369 : decode cX10_takeValue 369 = .ok (.getfield 41, 3) := by decide +kernel
theorem dX10_takeValue_372 : decode cX10_takeValue 372 = .ok (.iload_n 1, 1) := by decide +kernel
theorem dX10_takeValue_373 : decode cX10_takeValue 373 = .ok (.iload 4, 2) := by decide +kernel
theorem dX10_takeValue_375 : decode cX10_takeValue 375 = .ok (.ifCond .eq 8, 3) := by decide +kernel
theorem dX10_takeValue_378 : decode cX10_takeValue 378 = .ok (.iload 5, 2) := by decide +kernel
theorem dX10_takeValue_380 : decode cX10_takeValue 380 = .ok (.goto 9, 3) := by decide +kernel
theorem dX10_takeValue_383 : decode cX10_takeValue 383 = .ok (.aload_n 0, 1) := by decide +kernel
theorem dX10_takeValue_384 : decode cX10_takeValue 384 = .ok (.getfield 41, 3) := by decide +kernel
theorem dX10_takeValue_387 : decode cX10_takeValue 387 = .ok (.iload_n 1, 1) := by decide +kernel
theorem dX10_takeValue_388 : decode cX10_takeValue 388 = .ok (.iaload, 1) := by decide +kernel
theorem dX10_takeValue_389 : decode cX10_takeValue 389 = .ok (.iastore, 1) := by decide +kernel
theorem dX10_takeValue_390 : decode cX10_takeValue 390 = .ok (.iconst 1, 1) := by decide +kernel
theorem dX10_takeValue_391 : decode cX10_takeValue 391 = .ok (.ireturn, 1) := by decide +kernel
theorem dX10_takeValue_392 : decode cX10_takeValue 392 = .ok (.iinc 5 1, 3) := by decide +kernel
theorem dX10_takeValue_395 : decode cX10_takeValue 395 = .ok (.goto (-132), 3) := by decide +kernel
theorem dX10_takeValue_398 : decode cX10_takeValue 398 = .ok (.iconst 0, 1) := by decide +kernel
theorem dX10_takeValue_399 : decode cX10_takeValue 399 = .ok (.ireturn, 1) := by decide +kernel
theorem dX10_takeLine_0 : decode cX10_takeLine 0 = .ok (.iconst 0, 1) := by decide +kernel
theorem dX10_takeLine_1 : decode cX10_takeLine 1 = .ok (.istore 4, 2) := by decide +kernel
theorem dX10_takeLine_3 : decode cX10_takeLine 3 = .ok (.iload 4, 2) := by decide +kernel
theorem dX10_takeLine_5 : decode cX10_takeLine 5 = .ok (.aload_n 0, 1) := by decide +kernel
theorem dX10_takeLine_6 : decode cX10_takeLine 6 = .ok (.getfield 106, 3) := by decide +kernel
theorem dX10_takeLine_9 : decode cX10_takeLine 9 = .ok (.if_icmp .ge 59, 3) := by decide +kernel
theorem dX10_takeLine_12 : decode cX10_takeLine 12 = .ok (.aload_n 0, 1) := by decide +kernel
theorem dX10_takeLine_13 : decode cX10_takeLine 13 = .ok (.iload 4, 2) := by decide +kernel
theorem dX10_takeLine_15 : decode cX10_takeLine 15 = .ok (.invokevirtual 287, 3) := by decide +kernel
theorem dX10_takeLine_18 : decode cX10_takeLine 18 = .ok (.ifCond .eq 44, 3) := by decide +kernel
theorem dX10_takeLine_21 : decode cX10_takeLine 21 = .ok (.aload_n 0, 1) := by decide +kernel
theorem dX10_takeLine_22 : decode cX10_takeLine 22 = .ok (.getfield 72, 3) := by decide +kernel
theorem dX10_takeLine_25 : decode cX10_takeLine 25 = .ok (.iload 4, 2) := by decide +kernel
theorem dX10_takeLine_27 : decode cX10_takeLine 27 = .ok (.baload, 1) := by decide +kernel
theorem dX10_takeLine_28 : decode cX10_takeLine 28 = .ok (.ifCond .ne 34, 3) := by decide +kernel
theorem dX10_takeLine_31 : decode cX10_takeLine 31 = .ok (.aload_n 0, 1) := by decide +kernel
theorem dX10_takeLine_32 : decode cX10_takeLine 32 = .ok (.iload_n 1, 1) := by decide +kernel
theorem dX10_takeLine_33 : decode cX10_takeLine 33 = .ok (.iload 4, 2) := by decide +kernel
theorem dX10_takeLine_35 : decode cX10_takeLine 35 = .ok (.invokevirtual 304, 3) := by decide +kernel
theorem dX10_takeLine_38 : decode cX10_takeLine 38 = .ok (.istore 5, 2) := by decide +kernel
theorem dX10_takeLine_40 : decode cX10_takeLine 40 = .ok (.iload 5, 2) := by decide +kernel
theorem dX10_takeLine_42 : decode cX10_takeLine 42 = .ok (.ifCond .lt 20, 3) := by decide +kernel
theorem dX10_takeLine_45 : decode cX10_takeLine 45 = .ok (.iload 5, 2) := by decide +kernel
theorem dX10_takeLine_47 : decode cX10_takeLine 47 = .ok (.iload_n 2, 1) := by decide +kernel
theorem dX10_takeLine_48 : decode cX10_takeLine 48 = .ok (.if_icmp .gt 14, 3) := by decide +kernel
theorem dX10_takeLine_51 : decode cX10_takeLine 51 = .ok (.aload_n 0, 1) := by decide +kernel
theorem dX10_takeLine_52 : decode cX10_takeLine 52 = .ok (.iload 4, 2) := by decide +kernel
theorem dX10_takeLine_54 : decode cX10_takeLine 54 = .ok (.iload 5, 2) := by decide +kernel
theorem dX10_takeLine_56 : decode cX10_takeLine 56 = .ok (.iload_n 2, 1) := by decide +kernel
theorem dX10_takeLine_57 : decode cX10_takeLine 57 = .ok (.iload_n 3, 1) := by decide +kernel
theorem dX10_takeLine_58 : decode cX10_takeLine 58 = .ok (.invokevirtual 307, 3) := by decide +kernel
theorem dX10_takeLine_61 : decode cX10_takeLine 61 = .ok (.ireturn, 1) := by decide +kernel
theorem dX10_takeLine_62 : decode cX10_takeLine 62 = .ok (.iinc 4 1, 3) := by decide +kernel
theorem dX10_takeLine_65 : decode cX10_takeLine 65 = .ok (.goto (-62), 3) := by decide +kernel
theorem dX10_takeLine_68 : decode cX10_takeLine 68 = .ok (.iconst 0, 1) := by decide +kernel
theorem dX10_takeLine_69 : decode cX10_takeLine 69 = .ok (.ireturn, 1) := by decide +kernel
theorem dX10_goOver_0 : decode cX10_goOver 0 = .ok (.iconst 0, 1) := by decide +kernel
theorem dX10_goOver_1 : decode cX10_goOver 1 = .ok (.istore_n 2, 1) := by decide +kernel
theorem dX10_goOver_2 : decode cX10_goOver 2 = .ok (.iconst 0, 1) := by decide +kernel
theorem dX10_goOver_3 : decode cX10_goOver 3 = .ok (.istore_n 3, 1) := by decide +kernel
theorem dX10_goOver_4 : decode cX10_goOver 4 = .ok (.iconst 1, 1) := by decide +kernel
theorem dX10_goOver_5 : decode cX10_goOver 5 = .ok (.istore 4, 2) := by decide +kernel
theorem dX10_goOver_7 : decode cX10_goOver 7 = .ok (.iload_n 3, 1) := by decide +kernel
theorem dX10_goOver_8 : decode cX10_goOver 8 = .ok (.aload_n 0, 1) := by decide +kernel
theorem dX10_goOver_9 : decode cX10_goOver 9 = .ok (.getfield 299, 3) := by decide +kernel
theorem dX10_goOver_12 : decode cX10_goOver 12 = .ok (.if_icmp .ge 86, 3) := by decide +kernel
theorem dX10_goOver_15 : decode cX10_goOver 15 = .ok (.iload 4, 2) := by decide +kernel
theorem dX10_goOver_17 : decode cX10_goOver 17 = .ok (.ifCond .eq 81, 3) := by decide +kernel
theorem dX10_goOver_20 : decode cX10_goOver 20 = .ok (.iload_n 3, 1) := by decide +kernel
theorem dX10_goOver_21 : decode cX10_goOver 21 = .ok (.istore 5, 2) := by decide +kernel
theorem dX10_goOver_23 : decode cX10_goOver 23 = .ok (.iload 5, 2) := by decide +kernel
theorem dX10_goOver_25 : decode cX10_goOver 25 = .ok (.aload_n 0, 1) := by decide +kernel
theorem dX10_goOver_26 : decode cX10_goOver 26 = .ok (.getfield 299, 3) := by decide +kernel
theorem dX10_goOver_29 : decode cX10_goOver 29 = .ok (.if_icmp .ge 21, 3) := by decide +kernel
theorem dX10_goOver_32 : decode cX10_goOver 32 = .ok (.aload_n 0, 1) := by decide +kernel
theorem dX10_goOver_33 : decode cX10_goOver 33 = .ok (.getfield 99, 3) := by decide +kernel
theorem dX10_goOver_36 : decode cX10_goOver 36 = .ok (.iload 5, 2) := by decide +kernel
theorem dX10_goOver_38 : decode cX10_goOver 38 = .ok (.iaload, 1) := by decide +kernel
theorem dX10_goOver_39 : decode cX10_goOver 39 = .ok (.bipush 10, 2) := by decide +kernel
theorem dX10_goOver_41 : decode cX10_goOver 41 = .ok (.if_icmp .eq 9, 3) := by decide +kernel
theorem dX10_goOver_44 : decode cX10_goOver 44 = .ok (.iinc 5 1, 3) := by decide +kernel
theorem dX10_goOver_47 : decode cX10_goOver 47 = .ok (.goto (-24), 3) := by decide +kernel
theorem dX10_goOver_50 : decode cX10_goOver 50 = .ok (.iload 5, 2) := by decide +kernel
theorem dX10_goOver_52 : decode cX10_goOver 52 = .ok (.aload_n 0, 1) := by decide +kernel
theorem dX10_goOver_53 : decode cX10_goOver 53 = .ok (.getfield 299, 3) := by decide +kernel
theorem dX10_goOver_56 : decode cX10_goOver 56 = .ok (.if_icmp .ge 18, 3) := by decide +kernel
theorem dX10_goOver_59 : decode cX10_goOver 59 = .ok (.aload_n 0, 1) := by decide +kernel
theorem dX10_goOver_60 : decode cX10_goOver 60 = .ok (.iload_n 3, 1) := by decide +kernel
theorem dX10_goOver_61 : decode cX10_goOver 61 = .ok (.iload 5, 2) := by decide +kernel
theorem dX10_goOver_63 : decode cX10_goOver 63 = .ok (.iload_n 1, 1) := by decide +kernel
theorem dX10_goOver_64 : decode cX10_goOver 64 = .ok (.invokevirtual 311, 3) := by decide +kernel
theorem dX10_goOver_67 : decode cX10_goOver 67 = .ok (.ifCond .eq 7, 3) := by decide +kernel
theorem dX10_goOver_70 : decode cX10_goOver 70 = .ok (.iconst 1, 1) := by decide +kernel
theorem dX10_goOver_71 : decode cX10_goOver 71 = .ok (.goto 4, 3) := by decide +kernel
theorem dX10_goOver_74 : decode cX10_goOver 74 = .ok (.iconst 0, 1) := by decide +kernel
theorem dX10_goOver_75 : decode cX10_goOver 75 = .ok (.istore 4, 2) := by decide +kernel
theorem dX10_goOver_77 : decode cX10_goOver 77 = .ok (.iload 4, 2) := by decide +kernel
theorem dX10_goOver_79 : decode cX10_goOver 79 = .ok (.ifCond .eq 9, 3) := by decide +kernel
theorem dX10_goOver_82 : decode cX10_goOver 82 = .ok (.iload_n 2, 1) := by decide +kernel
theorem dX10_goOver_83 : decode cX10_goOver 83 = .ok (.iconst 1, 1) := by decide +kernel
theorem dX10_goOver_84 : decode cX10_goOver 84 = .ok (.iadd, 1) := by decide +kernel
theorem dX10_goOver_85 : decode cX10_goOver 85 = .ok (.goto 4, 3) := by decide +kernel
theorem dX10_goOver_88 : decode cX10_goOver 88 = .ok (.iload_n 2, 1) := by decide +kernel
theorem dX10_goOver_89 : decode cX10_goOver 89 = .ok (.istore_n 2, 1) := by decide +kernel
theorem dX10_goOver_90 : decode cX10_goOver 90 = .ok (.iload 5, 2) := by decide +kernel
theorem dX10_goOver_92 : decode cX10_goOver 92 = .ok (.iconst 1, 1) := by decide +kernel
theorem dX10_goOver_93 : decode cX10_goOver 93 = .ok (.iadd, 1) := by decide +kernel
theorem dX10_goOver_94 : decode cX10_goOver 94 = .ok (.istore_n 3, 1) := by decide +kernel
theorem dX10_goOver_95 : decode cX10_goOver 95 = .ok (.goto (-88), 3) := by decide +kernel
theorem dX10_goOver_98 : decode cX10_goOver 98 = .ok (.iload 4, 2) := by decide +kernel
theorem dX10_goOver_100 : decode cX10_goOver 100 = .ok (.ifCond .eq 7, 3) := by decide +kernel
theorem dX10_goOver_103 : decode cX10_goOver 103 = .ok (.iload_n 2, 1) := by decide +kernel
theorem dX10_goOver_104 : decode cX10_goOver 104 = .ok (.goto 6, 3) := by decide +kernel
theorem dX10_goOver_107 : decode cX10_goOver 107 = .ok (.iconst (-1), 1) := by decide +kernel
theorem dX10_goOver_108 : decode cX10_goOver 108 = .ok (.iload_n 2, 1) := by decide +kernel
theorem dX10_goOver_109 : decode cX10_goOver 109 = .ok (.isub, 1) := by decide +kernel
theorem dX10_goOver_110 : decode cX10_goOver 110 = .ok (.ireturn, 1) := by decide +kernel
theorem dX10_readAll_0 : decode cX10_readAll 0 = .ok (.aload_n 0, 1) := by decide +kernel
theorem dX10_readAll_1 : decode cX10_readAll 1 = .ok (.iconst 0, 1) := by decide +kernel
theorem dX10_readAll_2 : decode cX10_readAll 2 = .ok (.invokevirtual 315, 3) := by decide +kernel
theorem dX10_readAll_5 : decode cX10_readAll 5 = .ok (.istore_n 1, 1) := by decide +kernel
theorem dX10_readAll_6 : decode cX10_readAll 6 = .ok (.iload_n 1, 1) := by decide +kernel
theorem dX10_readAll_7 : decode cX10_readAll 7 = .ok (.ifCond .le 9, 3) := by decide +kernel
theorem dX10_readAll_10 : decode cX10_readAll 10 = .ok (.aload_n 0, 1) := by decide +kernel
theorem dX10_readAll_11 : decode cX10_readAll 11 = .ok (.iconst 1, 1) := by decide +kernel
theorem dX10_readAll_12 : decode cX10_readAll 12 = .ok (.invokevirtual 315, 3) := by decide +kernel
theorem dX10_readAll_15 : decode cX10_readAll 15 = .ok (.istore_n 1, 1) := by decide +kernel
theorem dX10_readAll_16 : decode cX10_readAll 16 = .ok (.aload_n 0, 1) := by decide +kernel
theorem dX10_readAll_17 : decode cX10_readAll 17 = .ok (.iconst 0, 1) := by decide +kernel
theorem dX10_readAll_18 : decode cX10_readAll 18 = .ok (.putfield 299, 3) := by decide +kernel
theorem dX10_readAll_21 : decode cX10_readAll 21 = .ok (.iload_n 1, 1) := by decide +kernel
theorem dX10_readAll_22 : decode cX10_readAll 22 = .ok (.ireturn, 1) := by decide +kernel
theorem dX10_read_0 : decode cX10_read 0 = .ok (.aload_n 0, 1) := by decide +kernel
theorem dX10_read_1 : decode cX10_read 1 = .ok (.iload_n 1, 1) := by decide +kernel
theorem dX10_read_2 : decode cX10_read 2 = .ok (.i2l, 1) := by decide +kernel
theorem dX10_read_3 : decode cX10_read 3 = .ok (.ldc2_w 193, 3) := by decide +kernel
theorem dX10_read_6 : decode cX10_read 6 = .ok (.ldc2_w 319, 3) := by decide +kernel
theorem dX10_read_9 : decode cX10_read 9 = .ok (.invokestatic 115, 3) := by decide +kernel
theorem dX10_read_12 : decode cX10_read 12 = .ok (.ifCond .ne 7, 3) := by decide +kernel
theorem dX10_read_15 : decode cX10_read 15 = .ok (.iconst 1, 1) := by decide +kernel
theorem dX10_read_16 : decode cX10_read 16 = .ok (.goto 22, 3) := by decide +kernel
theorem dX10_read_19 : decode cX10_read 19 = .ok (.iload_n 1, 1) := by decide +kernel
theorem dX10_read_20 : decode cX10_read 20 = .ok (.ifCond .lt 17, 3) := by decide +kernel
theorem dX10_read_23 : decode cX10_read 23 = .ok (.aload_n 0, 1) := by decide +kernel
theorem dX10_read_24 : decode cX10_read 24 = .ok (.getfield 299, 3) := by decide +kernel
theorem dX10_read_27 : decode cX10_read 27 = .ok (.sipush 3000, 3) := by decide +kernel
theorem dX10_read_30 : decode cX10_read 30 = .ok (.if_icmp .ne 7, 3) := by decide +kernel
theorem dX10_read_33 : decode cX10_read 33 = .ok (.iconst 2, 1) := by decide +kernel
theorem dX10_read_34 : decode cX10_read 34 = .ok (.goto 4, 3) := by decide +kernel
theorem dX10_read_37 : decode cX10_read 37 = .ok (.iconst 0, 1) := by decide +kernel
theorem dX10_read_38 : decode cX10_read 38 = .ok (.putfield 102, 3) := by decide +kernel
theorem dX10_read_41 : decode cX10_read 41 = .ok (.aload_n 0, 1) := by decide +kernel
theorem dX10_read_42 : decode cX10_read 42 = .ok (.getfield 102, 3) := by decide +kernel
theorem dX10_read_45 : decode cX10_read 45 = .ok (.ifCond .le 5, 3) := by decide +kernel
theorem dX10_read_48 : decode cX10_read 48 = .ok (.iconst 0, 1) := by decide +kernel
theorem dX10_read_49 : decode cX10_read 49 = .ok (.ireturn, 1) := by decide +kernel
theorem dX10_read_50 : decode cX10_read 50 = .ok (.iload_n 1, 1) := by decide +kernel
theorem dX10_read_51 : decode cX10_read 51 = .ok (.iconst (-1), 1) := by decide +kernel
theorem dX10_read_52 : decode cX10_read 52 = .ok (.if_icmp .ne 8, 3) := by decide +kernel
theorem dX10_read_55 : decode cX10_read 55 = .ok (.aload_n 0, 1) := by decide +kernel
theorem dX10_read_56 : decode cX10_read 56 = .ok (.invokevirtual 321, 3) := by decide +kernel
theorem dX10_read_59 : decode cX10_read 59 = .ok (.ireturn, 1) := by decide +kernel
theorem dX10_read_60 : decode cX10_read 60 = .ok (.aload_n 0, 1) := by decide +kernel
theorem dX10_read_61 : decode cX10_read 61 = .ok (.getfield 99, 3) := by decide +kernel
theorem dX10_read_64 : decode cX10_read 64 = .ok (.aload_n 0, 1) := by decide +kernel
theorem dX10_read_65 : decode cX10_read 65 = .ok (.getfield 299, 3) := by decide +kernel
theorem dX10_read_68 : decode cX10_read 68 = .ok (.iload_n 1, 1) := by decide +kernel
theorem dX10_read_69 : decode cX10_read 69 = .ok (.iastore, 1) := by decide +kernel
theorem dX10_read_70 : decode cX10_read 70 = .ok (.aload_n 0, 1) := by decide +kernel
theorem dX10_read_71 : decode cX10_read 71 = .ok (.dup, 1) := by decide +kernel
theorem dX10_read_72 : decode cX10_read 72 = .ok (.getfield 299, 3) := by decide +kernel
theorem dX10_read_75 : decode cX10_read 75 = .ok (.iconst 1, 1) := by decide +kernel
theorem dX10_read_76 : decode cX10_read 76 = .ok (.iadd, 1) := by decide +kernel
theorem dX10_read_77 : decode cX10_read 77 = .ok (.putfield 299, 3) := by decide +kernel
theorem dX10_read_80 : decode cX10_read 80 = .ok (.aload_n 0, 1) := by decide +kernel
theorem dX10_read_81 : decode cX10_read 81 = .ok (.getfield 299, 3) := by decide +kernel
theorem dX10_read_84 : decode cX10_read 84 = .ok (.ireturn, 1) := by decide +kernel
theorem dX10_lock_0 : decode cX10_lock 0 = .ok (.aload_n 0, 1) := by decide +kernel
theorem dX10_lock_1 : decode cX10_lock 1 = .ok (.aload_n 0, 1) := by decide +kernel
theorem dX10_lock_2 : decode cX10_lock 2 = .ok (.iload_n 1, 1) := by decide +kernel
theorem dX10_lock_3 : decode cX10_lock 3 = .ok (.invokevirtual 262, 3) := by decide +kernel
theorem dX10_lock_6 : decode cX10_lock 6 = .ok (.putfield 102, 3) := by decide +kernel
theorem dX10_lock_9 : decode cX10_lock 9 = .ok (.aload_n 0, 1) := by decide +kernel
theorem dX10_lock_10 : decode cX10_lock 10 = .ok (.getfield 102, 3) := by decide +kernel
theorem dX10_lock_13 : decode cX10_lock 13 = .ok (.ifCond .le 5, 3) := by decide +kernel
theorem dX10_lock_16 : decode cX10_lock 16 = .ok (.iconst 0, 1) := by decide +kernel
theorem dX10_lock_17 : decode cX10_lock 17 = .ok (.ireturn, 1) := by decide +kernel
theorem dX10_lock_18 : decode cX10_lock 18 = .ok (.aload_n 0, 1) := by decide +kernel
theorem dX10_lock_19 : decode cX10_lock 19 = .ok (.getfield 72, 3) := by decide +kernel
theorem dX10_lock_22 : decode cX10_lock 22 = .ok (.aload_n 0, 1) := by decide +kernel
theorem dX10_lock_23 : decode cX10_lock 23 = .ok (.getfield 19, 3) := by decide +kernel
theorem dX10_lock_26 : decode cX10_lock 26 = .ok (.iload_n 1, 1) := by decide +kernel
theorem dX10_lock_27 : decode cX10_lock 27 = .ok (.iaload, 1) := by decide +kernel
theorem dX10_lock_28 : decode cX10_lock 28 = .ok (.baload, 1) := by decide +kernel
theorem dX10_lock_29 : decode cX10_lock 29 = .ok (.ifCond .eq 7, 3) := by decide +kernel
theorem dX10_lock_32 : decode cX10_lock 32 = .ok (.iconst 1, 1) := by decide +kernel
theorem dX10_lock_33 : decode cX10_lock 33 = .ok (.goto 4, 3) := by decide +kernel
theorem dX10_lock_36 : decode cX10_lock 36 = .ok (.iconst 0, 1) := by decide +kernel
theorem dX10_lock_37 : decode cX10_lock 37 = .ok (.istore_n 3, 1) := by decide +kernel
theorem dX10_lock_38 : decode cX10_lock 38 = .ok (.aload_n 0, 1) := by decide +kernel
theorem dX10_lock_39 : decode cX10_lock 39 = .ok (.getfield 72, 3) := by decide +kernel
theorem dX10_lock_42 : decode cX10_lock 42 = .ok (.aload_n 0, 1) := by decide +kernel
theorem dX10_lock_43 : decode cX10_lock 43 = .ok (.getfield 19, 3) := by decide +kernel
theorem dX10_lock_46 : decode cX10_lock 46 = .ok (.iload_n 1, 1) := by decide +kernel
theorem dX10_lock_47 : decode cX10_lock 47 = .ok (.iaload, 1) := by decide +kernel
theorem dX10_lock_48 : decode cX10_lock 48 = .ok (.iload_n 2, 1) := by decide +kernel
theorem dX10_lock_49 : decode cX10_lock 49 = .ok (.bastore, 1) := by decide +kernel
theorem dX10_lock_50 : decode cX10_lock 50 = .ok (.iload_n 3, 1) := by decide +kernel
theorem dX10_lock_51 : decode cX10_lock 51 = .ok (.ireturn, 1) := by decide +kernel
theorem dJ9_abs_0f7a4_0 : decode cJ9_abs_0f7a4 0 = .ok (.iload_n 0, 1) := by decide +kernel
theorem dJ9_abs_0f7a4_1 : decode cJ9_abs_0f7a4 1 = .ok (.ifCond .ge 8, 3) := by decide +kernel
theorem dJ9_abs_0f7a4_4 : decode cJ9_abs_0f7a4 4 = .ok (.iload_n 0, 1) := by decide +kernel
theorem dJ9_abs_0f7a4_5 : decode cJ9_abs_0f7a4 5 = .ok (.ineg, 1) := by decide +kernel
theorem dJ9_abs_0f7a4_6 : decode cJ9_abs_0f7a4 6 = .ok (.goto 4, 3) := by decide +kernel
theorem dJ9_abs_0f7a4_9 : decode cJ9_abs_0f7a4 9 = .ok (.iload_n 0, 1) := by decide +kernel
theorem dJ9_abs_0f7a4_10 : decode cJ9_abs_0f7a4 10 = .ok (.ireturn, 1) := by decide +kernel
theorem dJ9_abs_067f4_0 : decode cJ9_abs_067f4 0 = .ok (.lload_n 0, 1) := by decide +kernel
theorem dJ9_abs_067f4_1 : decode cJ9_abs_067f4 1 = .ok (.lconst 0, 1) := by decide +kernel
theorem dJ9_abs_067f4_2 : decode cJ9_abs_067f4 2 = .ok (.lcmp, 1) := by decide +kernel
theorem dJ9_abs_067f4_3 : decode cJ9_abs_067f4 3 = .ok (.ifCond .ge 8, 3) := by decide +kernel
theorem dJ9_abs_067f4_6 : decode cJ9_abs_067f4 6 = .ok (.lload_n 0, 1) := by decide +kernel
theorem dJ9_abs_067f4_7 : decode cJ9_abs_067f4 7 = .ok (.lneg, 1) := by decide +kernel
theorem dJ9_abs_067f4_8 : decode cJ9_abs_067f4 8 = .ok (.goto 4, 3) := by decide +kernel
theorem dJ9_abs_067f4_11 : decode cJ9_abs_067f4 11 = .ok (.lload_n 0, 1) := by decide +kernel
theorem dJ9_abs_067f4_12 : decode cJ9_abs_067f4 12 = .ok (.lreturn, 1) := by decide +kernel
theorem dJ9_max_7cf53_0 : decode cJ9_max_7cf53 0 = .ok (.iload_n 0, 1) := by decide +kernel
theorem dJ9_max_7cf53_1 : decode cJ9_max_7cf53 1 = .ok (.iload_n 1, 1) := by decide +kernel
theorem dJ9_max_7cf53_2 : decode cJ9_max_7cf53 2 = .ok (.if_icmp .lt 7, 3) := by decide +kernel
theorem dJ9_max_7cf53_5 : decode cJ9_max_7cf53 5 = .ok (.iload_n 0, 1) := by decide +kernel
theorem dJ9_max_7cf53_6 : decode cJ9_max_7cf53 6 = .ok (.goto 4, 3) := by decide +kernel
theorem dJ9_max_7cf53_9 : decode cJ9_max_7cf53 9 = .ok (.iload_n 1, 1) := by decide +kernel
theorem dJ9_max_7cf53_10 : decode cJ9_max_7cf53 10 = .ok (.ireturn, 1) := by decide +kernel
theorem dJ9_max_f86c9_0 : decode cJ9_max_f86c9 0 = .ok (.lload_n 0, 1) := by decide +kernel
theorem dJ9_max_f86c9_1 : decode cJ9_max_f86c9 1 = .ok (.lload_n 2, 1) := by decide +kernel
theorem dJ9_max_f86c9_2 : decode cJ9_max_f86c9 2 = .ok (.lcmp, 1) := by decide +kernel
theorem dJ9_max_f86c9_3 : decode cJ9_max_f86c9 3 = .ok (.ifCond .lt 7, 3) := by decide +kernel
theorem dJ9_max_f86c9_6 : decode cJ9_max_f86c9 6 = .ok (.lload_n 0, 1) := by decide +kernel
theorem dJ9_max_f86c9_7 : decode cJ9_max_f86c9 7 = .ok (.goto 4, 3) := by decide +kernel
theorem dJ9_max_f86c9_10 : decode cJ9_max_f86c9 10 = .ok (.lload_n 2, 1) := by decide +kernel
theorem dJ9_max_f86c9_11 : decode cJ9_max_f86c9 11 = .ok (.lreturn, 1) := by decide +kernel
theorem dJ9_min_7cf53_0 : decode cJ9_min_7cf53 0 = .ok (.iload_n 0, 1) := by decide +kernel
theorem dJ9_min_7cf53_1 : decode cJ9_min_7cf53 1 = .ok (.iload_n 1, 1) := by decide +kernel
theorem dJ9_min_7cf53_2 : decode cJ9_min_7cf53 2 = .ok (.if_icmp .gt 7, 3) := by decide +kernel
theorem dJ9_min_7cf53_5 : decode cJ9_min_7cf53 5 = .ok (.iload_n 0, 1) := by decide +kernel
theorem dJ9_min_7cf53_6 : decode cJ9_min_7cf53 6 = .ok (.goto 4, 3) := by decide +kernel
theorem dJ9_min_7cf53_9 : decode cJ9_min_7cf53 9 = .ok (.iload_n 1, 1) := by decide +kernel
theorem dJ9_min_7cf53_10 : decode cJ9_min_7cf53 10 = .ok (.ireturn, 1) := by decide +kernel
theorem dJ9_min_f86c9_0 : decode cJ9_min_f86c9 0 = .ok (.lload_n 0, 1) := by decide +kernel
theorem dJ9_min_f86c9_1 : decode cJ9_min_f86c9 1 = .ok (.lload_n 2, 1) := by decide +kernel
theorem dJ9_min_f86c9_2 : decode cJ9_min_f86c9 2 = .ok (.lcmp, 1) := by decide +kernel
theorem dJ9_min_f86c9_3 : decode cJ9_min_f86c9 3 = .ok (.ifCond .gt 7, 3) := by decide +kernel
theorem dJ9_min_f86c9_6 : decode cJ9_min_f86c9 6 = .ok (.lload_n 0, 1) := by decide +kernel
theorem dJ9_min_f86c9_7 : decode cJ9_min_f86c9 7 = .ok (.goto 4, 3) := by decide +kernel
theorem dJ9_min_f86c9_10 : decode cJ9_min_f86c9 10 = .ok (.lload_n 2, 1) := by decide +kernel
theorem dJ9_min_f86c9_11 : decode cJ9_min_f86c9 11 = .ok (.lreturn, 1) := by decide +kernel
theorem dL_field_0 : decode cL_field 0 = .ok (.aload 4, 2) := by decide +kernel
theorem dL_field_2 : decode cL_field 2 = .ok (.iconst 0, 1) := by decide +kernel
theorem dL_field_3 : decode cL_field 3 = .ok (.aload_n 0, 1) := by decide +kernel
theorem dL_field_4 : decode cL_field 4 = .ok (.iload_n 1, 1) := by decide +kernel
theorem dL_field_5 : decode cL_field 5 = .ok (.iload_n 2, 1) := by decide +kernel
theorem dL_field_6 : decode cL_field 6 = .ok (.iload_n 3, 1) := by decide +kernel
theorem dL_field_7 : decode cL_field 7 = .ok (.invokevirtual 7, 3) := by decide +kernel
theorem dL_field_10 : decode cL_field 10 = .ok (.i2l, 1) := by decide +kernel
theorem dL_field_11 : decode cL_field 11 = .ok (.lastore, 1) := by decide +kernel
theorem dL_field_12 : decode cL_field 12 = .ok (.goto 19, 3) := by decide +kernel
theorem dL_field_15 : decode cL_field 15 = .ok (.astore 5, 2) := by decide +kernel
theorem dL_field_17 : decode cL_field 17 = .ok (.iconst 1, 1) := by decide +kernel
theorem dL_field_18 : decode cL_field 18 = .ok (.ireturn, 1) := by decide +kernel
theorem dL_field_19 : decode cL_field 19 = .ok (.astore 5, 2) := by decide +kernel
theorem dL_field_21 : decode cL_field 21 = .ok (.iconst 2, 1) := by decide +kernel
theorem dL_field_22 : decode cL_field 22 = .ok (.ireturn, 1) := by decide +kernel
theorem dL_field_23 : decode cL_field 23 = .ok (.astore 5, 2) := by decide +kernel
theorem dL_field_25 : decode cL_field 25 = .ok (.iconst 3, 1) := by decide +kernel
theorem dL_field_26 : decode cL_field 26 = .ok (.ireturn, 1) := by decide +kernel
theorem dL_field_27 : decode cL_field 27 = .ok (.astore 5, 2) := by decide +kernel
theorem dL_field_29 : decode cL_field 29 = .ok (.iconst 4, 1) := by decide +kernel
theorem dL_field_30 : decode cL_field 30 = .ok (.ireturn, 1) := by decide +kernel
theorem dL_field_31 : decode cL_field 31 = .ok (.iconst 0, 1) := by decide +kernel
theorem dL_field_32 : decode cL_field 32 = .ok (.ireturn, 1) := by decide +kernel
theorem dL_value_0 : decode cL_value 0 = .ok (.aload_n 3, 1) := by decide +kernel
theorem dL_value_1 : decode cL_value 1 = .ok (.iconst 0, 1) := by decide +kernel
theorem dL_value_2 : decode cL_value 2 = .ok (.aload_n 0, 1) := by decide +kernel
theorem dL_value_3 : decode cL_value 3 = .ok (.iload_n 1, 1) := by decide +kernel
theorem dL_value_4 : decode cL_value 4 = .ok (.iload_n 2, 1) := by decide +kernel
theorem dL_value_5 : decode cL_value 5 = .ok (.invokevirtual 21, 3) := by decide +kernel
theorem dL_value_8 : decode cL_value 8 = .ok (.i2l, 1) := by decide +kernel
theorem dL_value_9 : decode cL_value 9 = .ok (.lastore, 1) := by decide +kernel
theorem dL_value_10 : decode cL_value 10 = .ok (.goto 19, 3) := by decide +kernel
theorem dL_value_13 : decode cL_value 13 = .ok (.astore 4, 2) := by decide +kernel
theorem dL_value_15 : decode cL_value 15 = .ok (.iconst 1, 1) := by decide +kernel
theorem dL_value_16 : decode cL_value 16 = .ok (.ireturn, 1) := by decide +kernel
theorem dL_value_17 : decode cL_value 17 = .ok (.astore 4, 2) := by decide +kernel
theorem dL_value_19 : decode cL_value 19 = .ok (.iconst 2, 1) := by decide +kernel
theorem dL_value_20 : decode cL_value 20 = .ok (.ireturn, 1) := by decide +kernel
theorem dL_value_21 : decode cL_value 21 = .ok (.astore 4, 2) := by decide +kernel
theorem dL_value_23 : decode cL_value 23 = .ok (.iconst 3, 1) := by decide +kernel
theorem dL_value_24 : decode cL_value 24 = .ok (.ireturn, 1) := by decide +kernel
theorem dL_value_25 : decode cL_value 25 = .ok (.astore 4, 2) := by decide +kernel
theorem dL_value_27 : decode cL_value 27 = .ok (.iconst 4, 1) := by decide +kernel
theorem dL_value_28 : decode cL_value 28 = .ok (.ireturn, 1) := by decide +kernel
theorem dL_value_29 : decode cL_value 29 = .ok (.iconst 0, 1) := by decide +kernel
theorem dL_value_30 : decode cL_value 30 = .ok (.ireturn, 1) := by decide +kernel
theorem dL_option_0 : decode cL_option 0 = .ok (.aload_n 3, 1) := by decide +kernel
theorem dL_option_1 : decode cL_option 1 = .ok (.iconst 0, 1) := by decide +kernel
theorem dL_option_2 : decode cL_option 2 = .ok (.aload_n 0, 1) := by decide +kernel
theorem dL_option_3 : decode cL_option 3 = .ok (.iload_n 1, 1) := by decide +kernel
theorem dL_option_4 : decode cL_option 4 = .ok (.iload_n 2, 1) := by decide +kernel
theorem dL_option_5 : decode cL_option 5 = .ok (.invokevirtual 25, 3) := by decide +kernel
theorem dL_option_8 : decode cL_option 8 = .ok (.i2l, 1) := by decide +kernel
theorem dL_option_9 : decode cL_option 9 = .ok (.lastore, 1) := by decide +kernel
theorem dL_option_10 : decode cL_option 10 = .ok (.goto 15, 3) := by decide +kernel
theorem dL_option_13 : decode cL_option 13 = .ok (.astore 4, 2) := by decide +kernel
theorem dL_option_15 : decode cL_option 15 = .ok (.iconst 1, 1) := by decide +kernel
theorem dL_option_16 : decode cL_option 16 = .ok (.ireturn, 1) := by decide +kernel
theorem dL_option_17 : decode cL_option 17 = .ok (.astore 4, 2) := by decide +kernel
theorem dL_option_19 : decode cL_option 19 = .ok (.iconst 2, 1) := by decide +kernel
theorem dL_option_20 : decode cL_option 20 = .ok (.ireturn, 1) := by decide +kernel
theorem dL_option_21 : decode cL_option 21 = .ok (.astore 4, 2) := by decide +kernel
theorem dL_option_23 : decode cL_option 23 = .ok (.iconst 3, 1) := by decide +kernel
theorem dL_option_24 : decode cL_option 24 = .ok (.ireturn, 1) := by decide +kernel
theorem dL_option_25 : decode cL_option 25 = .ok (.iconst 0, 1) := by decide +kernel
theorem dL_option_26 : decode cL_option 26 = .ok (.ireturn, 1) := by decide +kernel
theorem dL_set_0 : decode cL_set 0 = .ok (.aload 4, 2) := by decide +kernel
theorem dL_set_2 : decode cL_set 2 = .ok (.iconst 0, 1) := by decide +kernel
theorem dL_set_3 : decode cL_set 3 = .ok (.aload_n 0, 1) := by decide +kernel
theorem dL_set_4 : decode cL_set 4 = .ok (.iload_n 1, 1) := by decide +kernel
theorem dL_set_5 : decode cL_set 5 = .ok (.iload_n 2, 1) := by decide +kernel
theorem dL_set_6 : decode cL_set 6 = .ok (.iload_n 3, 1) := by decide +kernel
theorem dL_set_7 : decode cL_set 7 = .ok (.invokevirtual 28, 3) := by decide +kernel
theorem dL_set_10 : decode cL_set 10 = .ok (.i2l, 1) := by decide +kernel
theorem dL_set_11 : decode cL_set 11 = .ok (.lastore, 1) := by decide +kernel
theorem dL_set_12 : decode cL_set 12 = .ok (.goto 11, 3) := by decide +kernel
theorem dL_set_15 : decode cL_set 15 = .ok (.astore 5, 2) := by decide +kernel
theorem dL_set_17 : decode cL_set 17 = .ok (.iconst 1, 1) := by decide +kernel
theorem dL_set_18 : decode cL_set 18 = .ok (.ireturn, 1) := by decide +kernel
theorem dL_set_19 : decode cL_set 19 = .ok (.astore 5, 2) := by decide +kernel
theorem dL_set_21 : decode cL_set 21 = .ok (.iconst 2, 1) := by decide +kernel
theorem dL_set_22 : decode cL_set 22 = .ok (.ireturn, 1) := by decide +kernel
theorem dL_set_23 : decode cL_set 23 = .ok (.iconst 0, 1) := by decide +kernel
theorem dL_set_24 : decode cL_set 24 = .ok (.ireturn, 1) := by decide +kernel
theorem dL_bounds_0 : decode cL_bounds 0 = .ok (.aload_n 0, 1) := by decide +kernel
theorem dL_bounds_1 : decode cL_bounds 1 = .ok (.iload_n 1, 1) := by decide +kernel
theorem dL_bounds_2 : decode cL_bounds 2 = .ok (.lload_n 2, 1) := by decide +kernel
theorem dL_bounds_3 : decode cL_bounds 3 = .ok (.lload 4, 2) := by decide +kernel
theorem dL_bounds_5 : decode cL_bounds 5 = .ok (.invokevirtual 31, 3) := by decide +kernel
theorem dL_bounds_8 : decode cL_bounds 8 = .ok (.goto 11, 3) := by decide +kernel
theorem dL_bounds_11 : decode cL_bounds 11 = .ok (.astore 6, 2) := by decide +kernel
theorem dL_bounds_13 : decode cL_bounds 13 = .ok (.iconst 1, 1) := by decide +kernel
theorem dL_bounds_14 : decode cL_bounds 14 = .ok (.ireturn, 1) := by decide +kernel
theorem dL_bounds_15 : decode cL_bounds 15 = .ok (.astore 6, 2) := by decide +kernel
theorem dL_bounds_17 : decode cL_bounds 17 = .ok (.iconst 2, 1) := by decide +kernel
theorem dL_bounds_18 : decode cL_bounds 18 = .ok (.ireturn, 1) := by decide +kernel
theorem dL_bounds_19 : decode cL_bounds 19 = .ok (.iconst 0, 1) := by decide +kernel
theorem dL_bounds_20 : decode cL_bounds 20 = .ok (.ireturn, 1) := by decide +kernel
theorem dL_formula_0 : decode cL_formula 0 = .ok (.aload 5, 2) := by decide +kernel
theorem dL_formula_2 : decode cL_formula 2 = .ok (.iconst 0, 1) := by decide +kernel
theorem dL_formula_3 : decode cL_formula 3 = .ok (.aload_n 0, 1) := by decide +kernel
theorem dL_formula_4 : decode cL_formula 4 = .ok (.iload_n 1, 1) := by decide +kernel
theorem dL_formula_5 : decode cL_formula 5 = .ok (.iload_n 2, 1) := by decide +kernel
theorem dL_formula_6 : decode cL_formula 6 = .ok (.iload_n 3, 1) := by decide +kernel
theorem dL_formula_7 : decode cL_formula 7 = .ok (.iload 4, 2) := by decide +kernel
theorem dL_formula_9 : decode cL_formula 9 = .ok (.invokevirtual 35, 3) := by decide +kernel
theorem dL_formula_12 : decode cL_formula 12 = .ok (.i2l, 1) := by decide +kernel
theorem dL_formula_13 : decode cL_formula 13 = .ok (.lastore, 1) := by decide +kernel
theorem dL_formula_14 : decode cL_formula 14 = .ok (.goto 11, 3) := by decide +kernel
theorem dL_formula_17 : decode cL_formula 17 = .ok (.astore 6, 2) := by decide +kernel
theorem dL_formula_19 : decode cL_formula 19 = .ok (.iconst 1, 1) := by decide +kernel
theorem dL_formula_20 : decode cL_formula 20 = .ok (.ireturn, 1) := by decide +kernel
theorem dL_formula_21 : decode cL_formula 21 = .ok (.astore 6, 2) := by decide +kernel
theorem dL_formula_23 : decode cL_formula 23 = .ok (.iconst 2, 1) := by decide +kernel
theorem dL_formula_24 : decode cL_formula 24 = .ok (.ireturn, 1) := by decide +kernel
theorem dL_formula_25 : decode cL_formula 25 = .ok (.iconst 0, 1) := by decide +kernel
theorem dL_formula_26 : decode cL_formula 26 = .ok (.ireturn, 1) := by decide +kernel
