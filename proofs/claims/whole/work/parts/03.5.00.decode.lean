theorem dX0_isBeyond_0 : decode cX0_isBeyond 0 = .ok (.lload_n 0, 1) := by decide +kernel
theorem dX0_isBeyond_1 : decode cX0_isBeyond 1 = .ok (.ldc2_w 9, 3) := by decide +kernel
theorem dX0_isBeyond_4 : decode cX0_isBeyond 4 = .ok (.lcmp, 1) := by decide +kernel
theorem dX0_isBeyond_5 : decode cX0_isBeyond 5 = .ok (.ifCond .lt 11, 3) := by decide +kernel
theorem dX0_isBeyond_8 : decode cX0_isBeyond 8 = .ok (.lload_n 0, 1) := by decide +kernel
theorem dX0_isBeyond_9 : decode cX0_isBeyond 9 = .ok (.ldc2_w 11, 3) := by decide +kernel
theorem dX0_isBeyond_12 : decode cX0_isBeyond 12 = .ok (.lcmp, 1) := by decide +kernel
theorem dX0_isBeyond_13 : decode cX0_isBeyond 13 = .ok (.ifCond .le 7, 3) := by decide +kernel
theorem dX0_isBeyond_16 : decode cX0_isBeyond 16 = .ok (.iconst 1, 1) := by decide +kernel
theorem dX0_isBeyond_17 : decode cX0_isBeyond 17 = .ok (.goto 4, 3) := by decide +kernel
theorem dX0_isBeyond_20 : decode cX0_isBeyond 20 = .ok (.iconst 0, 1) := by decide +kernel
theorem dX0_isBeyond_21 : decode cX0_isBeyond 21 = .ok (.ireturn, 1) := by decide +kernel
theorem dX0_isDigit_0 : decode cX0_isDigit 0 = .ok (.iload_n 0, 1) := by decide +kernel
theorem dX0_isDigit_1 : decode cX0_isDigit 1 = .ok (.bipush 48, 2) := by decide +kernel
theorem dX0_isDigit_3 : decode cX0_isDigit 3 = .ok (.if_icmp .lt 13, 3) := by decide +kernel
theorem dX0_isDigit_6 : decode cX0_isDigit 6 = .ok (.iload_n 0, 1) := by decide +kernel
theorem dX0_isDigit_7 : decode cX0_isDigit 7 = .ok (.bipush 57, 2) := by decide +kernel
theorem dX0_isDigit_9 : decode cX0_isDigit 9 = .ok (.if_icmp .gt 7, 3) := by decide +kernel
theorem dX0_isDigit_12 : decode cX0_isDigit 12 = .ok (.iconst 1, 1) := by decide +kernel
theorem dX0_isDigit_13 : decode cX0_isDigit 13 = .ok (.goto 4, 3) := by decide +kernel
theorem dX0_isDigit_16 : decode cX0_isDigit 16 = .ok (.iconst 0, 1) := by decide +kernel
theorem dX0_isDigit_17 : decode cX0_isDigit 17 = .ok (.ireturn, 1) := by decide +kernel
theorem dX0_of_0 : decode cX0_of 0 = .ok (.aload_n 0, 1) := by decide +kernel
theorem dX0_of_1 : decode cX0_of 1 = .ok (.invokevirtual 13, 3) := by decide +kernel
theorem dX0_of_4 : decode cX0_of 4 = .ok (.ifCond .ne 5, 3) := by decide +kernel
theorem dX0_of_7 : decode cX0_of 7 = .ok (.lconst 0, 1) := by decide +kernel
theorem dX0_of_8 : decode cX0_of 8 = .ok (.lreturn, 1) := by decide +kernel
theorem dX0_of_9 : decode cX0_of 9 = .ok (.aload_n 0, 1) := by decide +kernel
theorem dX0_of_10 : decode cX0_of 10 = .ok (.iconst 0, 1) := by decide +kernel
theorem dX0_of_11 : decode cX0_of 11 = .ok (.invokevirtual 19, 3) := by decide +kernel
theorem dX0_of_14 : decode cX0_of 14 = .ok (.bipush 45, 2) := by decide +kernel
theorem dX0_of_16 : decode cX0_of 16 = .ok (.if_icmp .ne 7, 3) := by decide +kernel
theorem dX0_of_19 : decode cX0_of 19 = .ok (.iconst 1, 1) := by decide +kernel
theorem dX0_of_20 : decode cX0_of 20 = .ok (.goto 4, 3) := by decide +kernel
theorem dX0_of_23 : decode cX0_of 23 = .ok (.iconst 0, 1) := by decide +kernel
theorem dX0_of_24 : decode cX0_of 24 = .ok (.istore_n 1, 1) := by decide +kernel
theorem dX0_of_25 : decode cX0_of 25 = .ok (.iload_n 1, 1) := by decide +kernel
theorem dX0_of_26 : decode cX0_of 26 = .ok (.ifCond .eq 7, 3) := by decide +kernel
theorem dX0_of_29 : decode cX0_of 29 = .ok (.iconst 1, 1) := by decide +kernel
theorem dX0_of_30 : decode cX0_of 30 = .ok (.goto 4, 3) := by decide +kernel
theorem dX0_of_33 : decode cX0_of 33 = .ok (.iconst 0, 1) := by decide +kernel
theorem dX0_of_34 : decode cX0_of 34 = .ok (.istore_n 2, 1) := by decide +kernel
theorem dX0_of_35 : decode cX0_of 35 = .ok (.iload_n 2, 1) := by decide +kernel
theorem dX0_of_36 : decode cX0_of 36 = .ok (.istore_n 3, 1) := by decide +kernel
theorem dX0_of_37 : decode cX0_of 37 = .ok (.lconst 0, 1) := by decide +kernel
theorem dX0_of_38 : decode cX0_of 38 = .ok (.lstore 4, 2) := by decide +kernel
theorem dX0_of_40 : decode cX0_of 40 = .ok (.iload_n 3, 1) := by decide +kernel
theorem dX0_of_41 : decode cX0_of 41 = .ok (.aload_n 0, 1) := by decide +kernel
theorem dX0_of_42 : decode cX0_of 42 = .ok (.invokevirtual 13, 3) := by decide +kernel
theorem dX0_of_45 : decode cX0_of 45 = .ok (.if_icmp .ge 39, 3) := by decide +kernel
theorem dX0_of_48 : decode cX0_of 48 = .ok (.aload_n 0, 1) := by decide +kernel
theorem dX0_of_49 : decode cX0_of 49 = .ok (.iload_n 3, 1) := by decide +kernel
theorem dX0_of_50 : decode cX0_of 50 = .ok (.invokevirtual 19, 3) := by decide +kernel
theorem dX0_of_53 : decode cX0_of 53 = .ok (.invokestatic 23, 3) := by decide +kernel
theorem dX0_of_56 : decode cX0_of 56 = .ok (.ifCond .eq 28, 3) := by decide +kernel
theorem dX0_of_59 : decode cX0_of 59 = .ok (.lload 4, 2) := by decide +kernel
theorem dX0_of_61 : decode cX0_of 61 = .ok (.ldc2_w 29, 3) := by decide +kernel
theorem dX0_of_64 : decode cX0_of 64 = .ok (.lmul, 1) := by decide +kernel
theorem dX0_of_65 : decode cX0_of 65 = .ok (.aload_n 0, 1) := by decide +kernel
theorem dX0_of_66 : decode cX0_of 66 = .ok (.iload_n 3, 1) := by decide +kernel
theorem dX0_of_67 : decode cX0_of 67 = .ok (.invokevirtual 19, 3) := by decide +kernel
theorem dX0_of_70 : decode cX0_of 70 = .ok (.i2l, 1) := by decide +kernel
theorem dX0_of_71 : decode cX0_of 71 = .ok (.ladd, 1) := by decide +kernel
theorem dX0_of_72 : decode cX0_of 72 = .ok (.ldc2_w 31, 3) := by decide +kernel
theorem dX0_of_75 : decode cX0_of 75 = .ok (.lsub, 1) := by decide +kernel
theorem dX0_of_76 : decode cX0_of 76 = .ok (.lstore 4, 2) := by decide +kernel
theorem dX0_of_78 : decode cX0_of 78 = .ok (.iinc 3 1, 3) := by decide +kernel
theorem dX0_of_81 : decode cX0_of 81 = .ok (.goto (-41), 3) := by decide +kernel
theorem dX0_of_84 : decode cX0_of 84 = .ok (.iload_n 3, 1) := by decide +kernel
theorem dX0_of_85 : decode cX0_of 85 = .ok (.iload_n 2, 1) := by decide +kernel
theorem dX0_of_86 : decode cX0_of 86 = .ok (.isub, 1) := by decide +kernel
theorem dX0_of_87 : decode cX0_of 87 = .ok (.iconst 1, 1) := by decide +kernel
theorem dX0_of_88 : decode cX0_of 88 = .ok (.if_icmp .lt 11, 3) := by decide +kernel
theorem dX0_of_91 : decode cX0_of 91 = .ok (.iload_n 3, 1) := by decide +kernel
theorem dX0_of_92 : decode cX0_of 92 = .ok (.iload_n 2, 1) := by decide +kernel
theorem dX0_of_93 : decode cX0_of 93 = .ok (.isub, 1) := by decide +kernel
theorem dX0_of_94 : decode cX0_of 94 = .ok (.bipush 9, 2) := by decide +kernel
theorem dX0_of_96 : decode cX0_of 96 = .ok (.if_icmp .le 7, 3) := by decide +kernel
theorem dX0_of_99 : decode cX0_of 99 = .ok (.ldc2_w 33, 3) := by decide +kernel
theorem dX0_of_102 : decode cX0_of 102 = .ok (.lreturn, 1) := by decide +kernel
theorem dX0_of_103 : decode cX0_of 103 = .ok (.aload_n 0, 1) := by decide +kernel
theorem dX0_of_104 : decode cX0_of 104 = .ok (.iload_n 3, 1) := by decide +kernel
theorem dX0_of_105 : decode cX0_of 105 = .ok (.invokestatic 35, 3) := by decide +kernel
theorem dX0_of_108 : decode cX0_of 108 = .ok (.lstore 6, 2) := by decide +kernel
theorem dX0_of_110 : decode cX0_of 110 = .ok (.lload 6, 2) := by decide +kernel
theorem dX0_of_112 : decode cX0_of 112 = .ok (.ldc2_w 33, 3) := by decide +kernel
theorem dX0_of_115 : decode cX0_of 115 = .ok (.lcmp, 1) := by decide +kernel
theorem dX0_of_116 : decode cX0_of 116 = .ok (.ifCond .ne 7, 3) := by decide +kernel
theorem dX0_of_119 : decode cX0_of 119 = .ok (.ldc2_w 33, 3) := by decide +kernel
theorem dX0_of_122 : decode cX0_of 122 = .ok (.lreturn, 1) := by decide +kernel
theorem dX0_of_123 : decode cX0_of 123 = .ok (.iload_n 1, 1) := by decide +kernel
theorem dX0_of_124 : decode cX0_of 124 = .ok (.ifCond .eq 16, 3) := by decide +kernel
theorem dX0_of_127 : decode cX0_of 127 = .ok (.lload 4, 2) := by decide +kernel
theorem dX0_of_129 : decode cX0_of 129 = .ok (.ldc2_w 39, 3) := by decide +kernel
theorem dX0_of_132 : decode cX0_of 132 = .ok (.lmul, 1) := by decide +kernel
theorem dX0_of_133 : decode cX0_of 133 = .ok (.lload 6, 2) := by decide +kernel
theorem dX0_of_135 : decode cX0_of 135 = .ok (.ladd, 1) := by decide +kernel
theorem dX0_of_136 : decode cX0_of 136 = .ok (.lneg, 1) := by decide +kernel
theorem dX0_of_137 : decode cX0_of 137 = .ok (.goto 12, 3) := by decide +kernel
theorem dX0_of_140 : decode cX0_of 140 = .ok (.lload 4, 2) := by decide +kernel
theorem dX0_of_142 : decode cX0_of 142 = .ok (.ldc2_w 39, 3) := by decide +kernel
theorem dX0_of_145 : decode cX0_of 145 = .ok (.lmul, 1) := by decide +kernel
theorem dX0_of_146 : decode cX0_of 146 = .ok (.lload 6, 2) := by decide +kernel
theorem dX0_of_148 : decode cX0_of 148 = .ok (.ladd, 1) := by decide +kernel
theorem dX0_of_149 : decode cX0_of 149 = .ok (.lreturn, 1) := by decide +kernel
theorem dX0_partOf_0 : decode cX0_partOf 0 = .ok (.iload_n 1, 1) := by decide +kernel
theorem dX0_partOf_1 : decode cX0_partOf 1 = .ok (.aload_n 0, 1) := by decide +kernel
theorem dX0_partOf_2 : decode cX0_partOf 2 = .ok (.invokevirtual 13, 3) := by decide +kernel
theorem dX0_partOf_5 : decode cX0_partOf 5 = .ok (.if_icmp .ne 5, 3) := by decide +kernel
theorem dX0_partOf_8 : decode cX0_partOf 8 = .ok (.lconst 0, 1) := by decide +kernel
theorem dX0_partOf_9 : decode cX0_partOf 9 = .ok (.lreturn, 1) := by decide +kernel
theorem dX0_partOf_10 : decode cX0_partOf 10 = .ok (.aload_n 0, 1) := by decide +kernel
theorem dX0_partOf_11 : decode cX0_partOf 11 = .ok (.invokevirtual 13, 3) := by decide +kernel
theorem dX0_partOf_14 : decode cX0_partOf 14 = .ok (.iload_n 1, 1) := by decide +kernel
theorem dX0_partOf_15 : decode cX0_partOf 15 = .ok (.isub, 1) := by decide +kernel
theorem dX0_partOf_16 : decode cX0_partOf 16 = .ok (.iconst 1, 1) := by decide +kernel
theorem dX0_partOf_17 : decode cX0_partOf 17 = .ok (.isub, 1) := by decide +kernel
theorem dX0_partOf_18 : decode cX0_partOf 18 = .ok (.istore_n 2, 1) := by decide +kernel
theorem dX0_partOf_19 : decode cX0_partOf 19 = .ok (.aload_n 0, 1) := by decide +kernel
theorem dX0_partOf_20 : decode cX0_partOf 20 = .ok (.iload_n 1, 1) := by decide +kernel
theorem dX0_partOf_21 : decode cX0_partOf 21 = .ok (.invokevirtual 19, 3) := by decide +kernel
theorem dX0_partOf_24 : decode cX0_partOf 24 = .ok (.bipush 46, 2) := by decide +kernel
theorem dX0_partOf_26 : decode cX0_partOf 26 = .ok (.if_icmp .ne 13, 3) := by decide +kernel
theorem dX0_partOf_29 : decode cX0_partOf 29 = .ok (.iload_n 2, 1) := by decide +kernel
theorem dX0_partOf_30 : decode cX0_partOf 30 = .ok (.iconst 1, 1) := by decide +kernel
theorem dX0_partOf_31 : decode cX0_partOf 31 = .ok (.if_icmp .lt 8, 3) := by decide +kernel
theorem dX0_partOf_34 : decode cX0_partOf 34 = .ok (.iload_n 2, 1) := by decide +kernel
theorem dX0_partOf_35 : decode cX0_partOf 35 = .ok (.iconst 3, 1) := by decide +kernel
theorem dX0_partOf_36 : decode cX0_partOf 36 = .ok (.if_icmp .le 7, 3) := by decide +kernel
theorem dX0_partOf_39 : decode cX0_partOf 39 = .ok (.ldc2_w 33, 3) := by decide +kernel
theorem dX0_partOf_42 : decode cX0_partOf 42 = .ok (.lreturn, 1) := by decide +kernel
theorem dX0_partOf_43 : decode cX0_partOf 43 = .ok (.lconst 0, 1) := by decide +kernel
theorem dX0_partOf_44 : decode cX0_partOf 44 = .ok (.lstore_n 3, 1) := by decide +kernel
theorem dX0_partOf_45 : decode cX0_partOf 45 = .ok (.bipush 100, 2) := by decide +kernel
theorem dX0_partOf_47 : decode cX0_partOf 47 = .ok (.istore 5, 2) := by decide +kernel
theorem dX0_partOf_49 : decode cX0_partOf 49 = .ok (.iload_n 1, 1) := by decide +kernel
theorem dX0_partOf_50 : decode cX0_partOf 50 = .ok (.iconst 1, 1) := by decide +kernel
theorem dX0_partOf_51 : decode cX0_partOf 51 = .ok (.iadd, 1) := by decide +kernel
theorem dX0_partOf_52 : decode cX0_partOf 52 = .ok (.istore 6, 2) := by decide +kernel
theorem dX0_partOf_54 : decode cX0_partOf 54 = .ok (.iload 6, 2) := by decide +kernel
theorem dX0_partOf_56 : decode cX0_partOf 56 = .ok (.aload_n 0, 1) := by decide +kernel
theorem dX0_partOf_57 : decode cX0_partOf 57 = .ok (.invokevirtual 13, 3) := by decide +kernel
theorem dX0_partOf_60 : decode cX0_partOf 60 = .ok (.if_icmp .ge 49, 3) := by decide +kernel
theorem dX0_partOf_63 : decode cX0_partOf 63 = .ok (.aload_n 0, 1) := by decide +kernel
theorem dX0_partOf_64 : decode cX0_partOf 64 = .ok (.iload 6, 2) := by decide +kernel
theorem dX0_partOf_66 : decode cX0_partOf 66 = .ok (.invokevirtual 19, 3) := by decide +kernel
theorem dX0_partOf_69 : decode cX0_partOf 69 = .ok (.invokestatic 23, 3) := by decide +kernel
theorem dX0_partOf_72 : decode cX0_partOf 72 = .ok (.ifCond .ne 7, 3) := by decide +kernel
theorem dX0_partOf_75 : decode cX0_partOf 75 = .ok (.ldc2_w 33, 3) := by decide +kernel
theorem dX0_partOf_78 : decode cX0_partOf 78 = .ok (.lreturn, 1) := by decide +kernel
theorem dX0_partOf_79 : decode cX0_partOf 79 = .ok (.lload_n 3, 1) := by decide +kernel
theorem dX0_partOf_80 : decode cX0_partOf 80 = .ok (.aload_n 0, 1) := by decide +kernel
theorem dX0_partOf_81 : decode cX0_partOf 81 = .ok (.iload 6, 2) := by decide +kernel
theorem dX0_partOf_83 : decode cX0_partOf 83 = .ok (.invokevirtual 19, 3) := by decide +kernel
theorem dX0_partOf_86 : decode cX0_partOf 86 = .ok (.bipush 48, 2) := by decide +kernel
theorem dX0_partOf_88 : decode cX0_partOf 88 = .ok (.isub, 1) := by decide +kernel
theorem dX0_partOf_89 : decode cX0_partOf 89 = .ok (.i2l, 1) := by decide +kernel
theorem dX0_partOf_90 : decode cX0_partOf 90 = .ok (.iload 5, 2) := by decide +kernel
theorem dX0_partOf_92 : decode cX0_partOf 92 = .ok (.i2l, 1) := by decide +kernel
theorem dX0_partOf_93 : decode cX0_partOf 93 = .ok (.lmul, 1) := by decide +kernel
theorem dX0_partOf_94 : decode cX0_partOf 94 = .ok (.ladd, 1) := by decide +kernel
theorem dX0_partOf_95 : decode cX0_partOf 95 = .ok (.lstore_n 3, 1) := by decide +kernel
theorem dX0_partOf_96 : decode cX0_partOf 96 = .ok (.iload 5, 2) := by decide +kernel
theorem dX0_partOf_98 : decode cX0_partOf 98 = .ok (.bipush 10, 2) := by decide +kernel
theorem dX0_partOf_100 : decode cX0_partOf 100 = .ok (.idiv, 1) := by decide +kernel
theorem dX0_partOf_101 : decode cX0_partOf 101 = .ok (.istore 5, 2) := by decide +kernel
theorem dX0_partOf_103 : decode cX0_partOf 103 = .ok (.iinc 6 1, 3) := by decide +kernel
theorem dX0_partOf_106 : decode cX0_partOf 106 = .ok (.goto (-52), 3) := by decide +kernel
theorem dX0_partOf_109 : decode cX0_partOf 109 = .ok (.lload_n 3, 1) := by decide +kernel
theorem dX0_partOf_110 : decode cX0_partOf 110 = .ok (.lreturn, 1) := by decide +kernel
theorem dX0_cut_0 : decode cX0_cut 0 = .ok (.lload_n 0, 1) := by decide +kernel
theorem dX0_cut_1 : decode cX0_cut 1 = .ok (.lstore_n 3, 1) := by decide +kernel
theorem dX0_cut_2 : decode cX0_cut 2 = .ok (.iconst 0, 1) := by decide +kernel
theorem dX0_cut_3 : decode cX0_cut 3 = .ok (.istore 5, 2) := by decide +kernel
theorem dX0_cut_5 : decode cX0_cut 5 = .ok (.iload 5, 2) := by decide +kernel
theorem dX0_cut_7 : decode cX0_cut 7 = .ok (.iload_n 2, 1) := by decide +kernel
theorem dX0_cut_8 : decode cX0_cut 8 = .ok (.if_icmp .ge 15, 3) := by decide +kernel
theorem dX0_cut_11 : decode cX0_cut 11 = .ok (.lload_n 3, 1) := by decide +kernel
theorem dX0_cut_12 : decode cX0_cut 12 = .ok (.ldc2_w 29, 3) := by decide +kernel
theorem dX0_cut_15 : decode cX0_cut 15 = .ok (.ldiv, 1) := by decide +kernel
theorem dX0_cut_16 : decode cX0_cut 16 = .ok (.lstore_n 3, 1) := by decide +kernel
theorem dX0_cut_17 : decode cX0_cut 17 = .ok (.iinc 5 1, 3) := by decide +kernel
theorem dX0_cut_20 : decode cX0_cut 20 = .ok (.goto (-15), 3) := by decide +kernel
theorem dX0_cut_23 : decode cX0_cut 23 = .ok (.lload_n 3, 1) := by decide +kernel
theorem dX0_cut_24 : decode cX0_cut 24 = .ok (.lreturn, 1) := by decide +kernel
theorem dX0_digitSign_0 : decode cX0_digitSign 0 = .ok (.bipush 48, 2) := by decide +kernel
theorem dX0_digitSign_2 : decode cX0_digitSign 2 = .ok (.lload_n 0, 1) := by decide +kernel
theorem dX0_digitSign_3 : decode cX0_digitSign 3 = .ok (.iload_n 2, 1) := by decide +kernel
theorem dX0_digitSign_4 : decode cX0_digitSign 4 = .ok (.invokestatic 41, 3) := by decide +kernel
theorem dX0_digitSign_7 : decode cX0_digitSign 7 = .ok (.ldc2_w 29, 3) := by decide +kernel
theorem dX0_digitSign_10 : decode cX0_digitSign 10 = .ok (.lrem, 1) := by decide +kernel
theorem dX0_digitSign_11 : decode cX0_digitSign 11 = .ok (.l2i, 1) := by decide +kernel
theorem dX0_digitSign_12 : decode cX0_digitSign 12 = .ok (.iadd, 1) := by decide +kernel
theorem dX0_digitSign_13 : decode cX0_digitSign 13 = .ok (.ireturn, 1) := by decide +kernel
theorem dX0_addNumber_0 : decode cX0_addNumber 0 = .ok (.iconst 1, 1) := by decide +kernel
theorem dX0_addNumber_1 : decode cX0_addNumber 1 = .ok (.istore 4, 2) := by decide +kernel
theorem dX0_addNumber_3 : decode cX0_addNumber 3 = .ok (.iload 4, 2) := by decide +kernel
theorem dX0_addNumber_5 : decode cX0_addNumber 5 = .ok (.bipush 18, 2) := by decide +kernel
theorem dX0_addNumber_7 : decode cX0_addNumber 7 = .ok (.if_icmp .ge 20, 3) := by decide +kernel
theorem dX0_addNumber_10 : decode cX0_addNumber 10 = .ok (.lload_n 0, 1) := by decide +kernel
theorem dX0_addNumber_11 : decode cX0_addNumber 11 = .ok (.iload 4, 2) := by decide +kernel
theorem dX0_addNumber_13 : decode cX0_addNumber 13 = .ok (.invokestatic 41, 3) := by decide +kernel
theorem dX0_addNumber_16 : decode cX0_addNumber 16 = .ok (.lconst 0, 1) := by decide +kernel
theorem dX0_addNumber_17 : decode cX0_addNumber 17 = .ok (.lcmp, 1) := by decide +kernel
theorem dX0_addNumber_18 : decode cX0_addNumber 18 = .ok (.ifCond .le 9, 3) := by decide +kernel
theorem dX0_addNumber_21 : decode cX0_addNumber 21 = .ok (.iinc 4 1, 3) := by decide +kernel
theorem dX0_addNumber_24 : decode cX0_addNumber 24 = .ok (.goto (-21), 3) := by decide +kernel
theorem dX0_addNumber_27 : decode cX0_addNumber 27 = .ok (.iload 4, 2) := by decide +kernel
theorem dX0_addNumber_29 : decode cX0_addNumber 29 = .ok (.iconst 1, 1) := by decide +kernel
theorem dX0_addNumber_30 : decode cX0_addNumber 30 = .ok (.isub, 1) := by decide +kernel
theorem dX0_addNumber_31 : decode cX0_addNumber 31 = .ok (.istore 5, 2) := by decide +kernel
theorem dX0_addNumber_33 : decode cX0_addNumber 33 = .ok (.iload 5, 2) := by decide +kernel
theorem dX0_addNumber_35 : decode cX0_addNumber 35 = .ok (.ifCond .lt 43, 3) := by decide +kernel
theorem dX0_addNumber_38 : decode cX0_addNumber 38 = .ok (.aload_n 3, 1) := by decide +kernel
theorem dX0_addNumber_39 : decode cX0_addNumber 39 = .ok (.lload_n 0, 1) := by decide +kernel
theorem dX0_addNumber_40 : decode cX0_addNumber 40 = .ok (.iload 5, 2) := by decide +kernel
theorem dX0_addNumber_42 : decode cX0_addNumber 42 = .ok (.invokestatic 45, 3) := by decide +kernel
theorem dX0_addNumber_45 : decode cX0_addNumber 45 = .ok (.invokevirtual 49, 3) := by decide +kernel
theorem dX0_addNumber_48 : decode cX0_addNumber 48 = .ok (.pop, 1) := by decide +kernel
theorem dX0_addNumber_49 : decode cX0_addNumber 49 = .ok (.iload_n 2, 1) := by decide +kernel
theorem dX0_addNumber_50 : decode cX0_addNumber 50 = .ok (.ifCond .eq 22, 3) := by decide +kernel
theorem dX0_addNumber_53 : decode cX0_addNumber 53 = .ok (.iload 5, 2) := by decide +kernel
theorem dX0_addNumber_55 : decode cX0_addNumber 55 = .ok (.ifCond .le 17, 3) := by decide +kernel
theorem dX0_addNumber_58 : decode cX0_addNumber 58 = .ok (.iload 5, 2) := by decide +kernel
theorem dX0_addNumber_60 : decode cX0_addNumber 60 = .ok (.iconst 3, 1) := by decide +kernel
theorem dX0_addNumber_61 : decode cX0_addNumber 61 = .ok (.irem, 1) := by decide +kernel
theorem dX0_addNumber_62 : decode cX0_addNumber 62 = .ok (.ifCond .ne 10, 3) := by decide +kernel
theorem dX0_addNumber_65 : decode cX0_addNumber 65 = .ok (.aload_n 3, 1) := by decide +kernel
theorem dX0_addNumber_66 : decode cX0_addNumber 66 = .ok (.bipush 44, 2) := by decide +kernel
theorem dX0_addNumber_68 : decode cX0_addNumber 68 = .ok (.invokevirtual 49, 3) := by decide +kernel
theorem dX0_addNumber_71 : decode cX0_addNumber 71 = .ok (.pop, 1) := by decide +kernel
theorem dX0_addNumber_72 : decode cX0_addNumber 72 = .ok (.iinc 5 (-1), 3) := by decide +kernel
theorem dX0_addNumber_75 : decode cX0_addNumber 75 = .ok (.goto (-42), 3) := by decide +kernel
theorem dX0_addNumber_78 : decode cX0_addNumber 78 = .ok (.return_, 1) := by decide +kernel
theorem dX0_addPart_0 : decode cX0_addPart 0 = .ok (.iload_n 2, 1) := by decide +kernel
theorem dX0_addPart_1 : decode cX0_addPart 1 = .ok (.ifCond .gt 4, 3) := by decide +kernel
theorem dX0_addPart_4 : decode cX0_addPart 4 = .ok (.return_, 1) := by decide +kernel
theorem dX0_addPart_5 : decode cX0_addPart 5 = .ok (.aload_n 3, 1) := by decide +kernel
theorem dX0_addPart_6 : decode cX0_addPart 6 = .ok (.bipush 46, 2) := by decide +kernel
theorem dX0_addPart_8 : decode cX0_addPart 8 = .ok (.invokevirtual 49, 3) := by decide +kernel
theorem dX0_addPart_11 : decode cX0_addPart 11 = .ok (.pop, 1) := by decide +kernel
theorem dX0_addPart_12 : decode cX0_addPart 12 = .ok (.iload_n 2, 1) := by decide +kernel
theorem dX0_addPart_13 : decode cX0_addPart 13 = .ok (.iconst 1, 1) := by decide +kernel
theorem dX0_addPart_14 : decode cX0_addPart 14 = .ok (.isub, 1) := by decide +kernel
theorem dX0_addPart_15 : decode cX0_addPart 15 = .ok (.istore 4, 2) := by decide +kernel
theorem dX0_addPart_17 : decode cX0_addPart 17 = .ok (.iload 4, 2) := by decide +kernel
theorem dX0_addPart_19 : decode cX0_addPart 19 = .ok (.ifCond .lt 20, 3) := by decide +kernel
theorem dX0_addPart_22 : decode cX0_addPart 22 = .ok (.aload_n 3, 1) := by decide +kernel
theorem dX0_addPart_23 : decode cX0_addPart 23 = .ok (.lload_n 0, 1) := by decide +kernel
theorem dX0_addPart_24 : decode cX0_addPart 24 = .ok (.iload 4, 2) := by decide +kernel
theorem dX0_addPart_26 : decode cX0_addPart 26 = .ok (.invokestatic 45, 3) := by decide +kernel
theorem dX0_addPart_29 : decode cX0_addPart 29 = .ok (.invokevirtual 49, 3) := by decide +kernel
theorem dX0_addPart_32 : decode cX0_addPart 32 = .ok (.pop, 1) := by decide +kernel
theorem dX0_addPart_33 : decode cX0_addPart 33 = .ok (.iinc 4 (-1), 3) := by decide +kernel
theorem dX0_addPart_36 : decode cX0_addPart 36 = .ok (.goto (-19), 3) := by decide +kernel
theorem dX0_addPart_39 : decode cX0_addPart 39 = .ok (.return_, 1) := by decide +kernel
theorem dX0_addWritten_0 : decode cX0_addWritten 0 = .ok (.lload_n 0, 1) := by decide +kernel
theorem dX0_addWritten_1 : decode cX0_addWritten 1 = .ok (.invokestatic 52, 3) := by decide +kernel
theorem dX0_addWritten_4 : decode cX0_addWritten 4 = .ok (.lstore_n 3, 1) := by decide +kernel
theorem dX0_addWritten_5 : decode cX0_addWritten 5 = .ok (.lload_n 0, 1) := by decide +kernel
theorem dX0_addWritten_6 : decode cX0_addWritten 6 = .ok (.lconst 0, 1) := by decide +kernel
theorem dX0_addWritten_7 : decode cX0_addWritten 7 = .ok (.lcmp, 1) := by decide +kernel
theorem dX0_addWritten_8 : decode cX0_addWritten 8 = .ok (.ifCond .ge 10, 3) := by decide +kernel
theorem dX0_addWritten_11 : decode cX0_addWritten 11 = .ok (.aload_n 2, 1) := by decide +kernel
theorem dX0_addWritten_12 : decode cX0_addWritten 12 = .ok (.bipush 45, 2) := by decide +kernel
theorem dX0_addWritten_14 : decode cX0_addWritten 14 = .ok (.invokevirtual 49, 3) := by decide +kernel
theorem dX0_addWritten_17 : decode cX0_addWritten 17 = .ok (.pop, 1) := by decide +kernel
theorem dX0_addWritten_18 : decode cX0_addWritten 18 = .ok (.lload_n 3, 1) := by decide +kernel
theorem dX0_addWritten_19 : decode cX0_addWritten 19 = .ok (.ldc2_w 39, 3) := by decide +kernel
theorem dX0_addWritten_22 : decode cX0_addWritten 22 = .ok (.ldiv, 1) := by decide +kernel
theorem dX0_addWritten_23 : decode cX0_addWritten 23 = .ok (.iconst 0, 1) := by decide +kernel
theorem dX0_addWritten_24 : decode cX0_addWritten 24 = .ok (.aload_n 2, 1) := by decide +kernel
theorem dX0_addWritten_25 : decode cX0_addWritten 25 = .ok (.invokestatic 58, 3) := by decide +kernel
theorem dX0_addWritten_28 : decode cX0_addWritten 28 = .ok (.lload_n 3, 1) := by decide +kernel
theorem dX0_addWritten_29 : decode cX0_addWritten 29 = .ok (.ldc2_w 39, 3) := by decide +kernel
theorem dX0_addWritten_32 : decode cX0_addWritten 32 = .ok (.lrem, 1) := by decide +kernel
theorem dX0_addWritten_33 : decode cX0_addWritten 33 = .ok (.lstore 5, 2) := by decide +kernel
theorem dX0_addWritten_35 : decode cX0_addWritten 35 = .ok (.lload 5, 2) := by decide +kernel
theorem dX0_addWritten_37 : decode cX0_addWritten 37 = .ok (.lconst 0, 1) := by decide +kernel
theorem dX0_addWritten_38 : decode cX0_addWritten 38 = .ok (.lcmp, 1) := by decide +kernel
theorem dX0_addWritten_39 : decode cX0_addWritten 39 = .ok (.ifCond .ne 7, 3) := by decide +kernel
theorem dX0_addWritten_42 : decode cX0_addWritten 42 = .ok (.iconst 0, 1) := by decide +kernel
theorem dX0_addWritten_43 : decode cX0_addWritten 43 = .ok (.goto 4, 3) := by decide +kernel
theorem dX0_addWritten_46 : decode cX0_addWritten 46 = .ok (.iconst 3, 1) := by decide +kernel
theorem dX0_addWritten_47 : decode cX0_addWritten 47 = .ok (.istore 7, 2) := by decide +kernel
theorem dX0_addWritten_49 : decode cX0_addWritten 49 = .ok (.iconst 0, 1) := by decide +kernel
theorem dX0_addWritten_50 : decode cX0_addWritten 50 = .ok (.istore 8, 2) := by decide +kernel
theorem dX0_addWritten_52 : decode cX0_addWritten 52 = .ok (.iload 8, 2) := by decide +kernel
theorem dX0_addWritten_54 : decode cX0_addWritten 54 = .ok (.iconst 2, 1) := by decide +kernel
theorem dX0_addWritten_55 : decode cX0_addWritten 55 = .ok (.if_icmp .ge 36, 3) := by decide +kernel
theorem dX0_addWritten_58 : decode cX0_addWritten 58 = .ok (.iload 7, 2) := by decide +kernel
theorem dX0_addWritten_60 : decode cX0_addWritten 60 = .ok (.ifCond .le 31, 3) := by decide +kernel
theorem dX0_addWritten_63 : decode cX0_addWritten 63 = .ok (.lload 5, 2) := by decide +kernel
theorem dX0_addWritten_65 : decode cX0_addWritten 65 = .ok (.ldc2_w 29, 3) := by decide +kernel
theorem dX0_addWritten_68 : decode cX0_addWritten 68 = .ok (.lrem, 1) := by decide +kernel
theorem dX0_addWritten_69 : decode cX0_addWritten 69 = .ok (.lconst 0, 1) := by decide +kernel
theorem dX0_addWritten_70 : decode cX0_addWritten 70 = .ok (.lcmp, 1) := by decide +kernel
theorem dX0_addWritten_71 : decode cX0_addWritten 71 = .ok (.ifCond .ne 20, 3) := by decide +kernel
theorem dX0_addWritten_74 : decode cX0_addWritten 74 = .ok (.lload 5, 2) := by decide +kernel
theorem dX0_addWritten_76 : decode cX0_addWritten 76 = .ok (.ldc2_w 29, 3) := by decide +kernel
theorem dX0_addWritten_79 : decode cX0_addWritten 79 = .ok (.ldiv, 1) := by decide +kernel
theorem dX0_addWritten_80 : decode cX0_addWritten 80 = .ok (.lstore 5, 2) := by decide +kernel
theorem dX0_addWritten_82 : decode cX0_addWritten 82 = .ok (.iinc 7 (-1), 3) := by decide +kernel
theorem dX0_addWritten_85 : decode cX0_addWritten 85 = .ok (.iinc 8 1, 3) := by decide +kernel
theorem dX0_addWritten_88 : decode cX0_addWritten 88 = .ok (.goto (-36), 3) := by decide +kernel
theorem dX0_addWritten_91 : decode cX0_addWritten 91 = .ok (.lload 5, 2) := by decide +kernel
theorem dX0_addWritten_93 : decode cX0_addWritten 93 = .ok (.iload 7, 2) := by decide +kernel
theorem dX0_addWritten_95 : decode cX0_addWritten 95 = .ok (.aload_n 2, 1) := by decide +kernel
theorem dX0_addWritten_96 : decode cX0_addWritten 96 = .ok (.invokestatic 62, 3) := by decide +kernel
theorem dX0_addWritten_99 : decode cX0_addWritten 99 = .ok (.return_, 1) := by decide +kernel
theorem dX0_addShown_0 : decode cX0_addShown 0 = .ok (.lload_n 0, 1) := by decide +kernel
theorem dX0_addShown_1 : decode cX0_addShown 1 = .ok (.invokestatic 52, 3) := by decide +kernel
theorem dX0_addShown_4 : decode cX0_addShown 4 = .ok (.iload_n 2, 1) := by decide +kernel
theorem dX0_addShown_5 : decode cX0_addShown 5 = .ok (.invokestatic 66, 3) := by decide +kernel
theorem dX0_addShown_8 : decode cX0_addShown 8 = .ok (.ladd, 1) := by decide +kernel
theorem dX0_addShown_9 : decode cX0_addShown 9 = .ok (.iconst 3, 1) := by decide +kernel
theorem dX0_addShown_10 : decode cX0_addShown 10 = .ok (.iload_n 2, 1) := by decide +kernel
theorem dX0_addShown_11 : decode cX0_addShown 11 = .ok (.isub, 1) := by decide +kernel
theorem dX0_addShown_12 : decode cX0_addShown 12 = .ok (.invokestatic 41, 3) := by decide +kernel
theorem dX0_addShown_15 : decode cX0_addShown 15 = .ok (.lstore 5, 2) := by decide +kernel
theorem dX0_addShown_17 : decode cX0_addShown 17 = .ok (.lload_n 0, 1) := by decide +kernel
theorem dX0_addShown_18 : decode cX0_addShown 18 = .ok (.lconst 0, 1) := by decide +kernel
theorem dX0_addShown_19 : decode cX0_addShown 19 = .ok (.lcmp, 1) := by decide +kernel
theorem dX0_addShown_20 : decode cX0_addShown 20 = .ok (.ifCond .ge 18, 3) := by decide +kernel
theorem dX0_addShown_23 : decode cX0_addShown 23 = .ok (.lload 5, 2) := by decide +kernel
theorem dX0_addShown_25 : decode cX0_addShown 25 = .ok (.lconst 0, 1) := by decide +kernel
theorem dX0_addShown_26 : decode cX0_addShown 26 = .ok (.lcmp, 1) := by decide +kernel
theorem dX0_addShown_27 : decode cX0_addShown 27 = .ok (.ifCond .le 11, 3) := by decide +kernel
theorem dX0_addShown_30 : decode cX0_addShown 30 = .ok (.aload 4, 2) := by decide +kernel
theorem dX0_addShown_32 : decode cX0_addShown 32 = .ok (.bipush 45, 2) := by decide +kernel
theorem dX0_addShown_34 : decode cX0_addShown 34 = .ok (.invokevirtual 49, 3) := by decide +kernel
theorem dX0_addShown_37 : decode cX0_addShown 37 = .ok (.pop, 1) := by decide +kernel
theorem dX0_addShown_38 : decode cX0_addShown 38 = .ok (.lload 5, 2) := by decide +kernel
theorem dX0_addShown_40 : decode cX0_addShown 40 = .ok (.iload_n 2, 1) := by decide +kernel
theorem dX0_addShown_41 : decode cX0_addShown 41 = .ok (.invokestatic 41, 3) := by decide +kernel
theorem dX0_addShown_44 : decode cX0_addShown 44 = .ok (.iload_n 3, 1) := by decide +kernel
theorem dX0_addShown_45 : decode cX0_addShown 45 = .ok (.aload 4, 2) := by decide +kernel
theorem dX0_addShown_47 : decode cX0_addShown 47 = .ok (.invokestatic 58, 3) := by decide +kernel
theorem dX0_addShown_50 : decode cX0_addShown 50 = .ok (.lload 5, 2) := by decide +kernel
theorem dX0_addShown_52 : decode cX0_addShown 52 = .ok (.iload_n 2, 1) := by decide +kernel
theorem dX0_addShown_53 : decode cX0_addShown 53 = .ok (.aload 4, 2) := by decide +kernel
theorem dX0_addShown_55 : decode cX0_addShown 55 = .ok (.invokestatic 62, 3) := by decide +kernel
theorem dX0_addShown_58 : decode cX0_addShown 58 = .ok (.return_, 1) := by decide +kernel
theorem dX0_halfOfLast_0 : decode cX0_halfOfLast 0 = .ok (.iload_n 0, 1) := by decide +kernel
theorem dX0_halfOfLast_1 : decode cX0_halfOfLast 1 = .ok (.tableswitch 39 0 2 #[27, 31, 35], 27) := by decide +kernel
theorem dX0_halfOfLast_28 : decode cX0_halfOfLast 28 = .ok (.ldc2_w 70, 3) := by decide +kernel
theorem dX0_halfOfLast_31 : decode cX0_halfOfLast 31 = .ok (.lreturn, 1) := by decide +kernel
theorem dX0_halfOfLast_32 : decode cX0_halfOfLast 32 = .ok (.ldc2_w 72, 3) := by decide +kernel
theorem dX0_halfOfLast_35 : decode cX0_halfOfLast 35 = .ok (.lreturn, 1) := by decide +kernel
theorem dX0_halfOfLast_36 : decode cX0_halfOfLast 36 = .ok (.ldc2_w 74, 3) := by decide +kernel
theorem dX0_halfOfLast_39 : decode cX0_halfOfLast 39 = .ok (.lreturn, 1) := by decide +kernel
theorem dX0_halfOfLast_40 : decode cX0_halfOfLast 40 = .ok (.lconst 0, 1) := by decide +kernel
theorem dX0_halfOfLast_41 : decode cX0_halfOfLast 41 = .ok (.lreturn, 1) := by decide +kernel
theorem dX0_combine_0 : decode cX0_combine 0 = .ok (.iload_n 0, 1) := by decide +kernel
theorem dX0_combine_1 : decode cX0_combine 1 = .ok (.tableswitch 85 0 5 #[39, 43, 47, 53, 73, 79], 39) := by decide +kernel
theorem dX0_combine_40 : decode cX0_combine 40 = .ok (.lload_n 1, 1) := by decide +kernel
theorem dX0_combine_41 : decode cX0_combine 41 = .ok (.lload_n 3, 1) := by decide +kernel
theorem dX0_combine_42 : decode cX0_combine 42 = .ok (.ladd, 1) := by decide +kernel
theorem dX0_combine_43 : decode cX0_combine 43 = .ok (.lreturn, 1) := by decide +kernel
theorem dX0_combine_44 : decode cX0_combine 44 = .ok (.lload_n 1, 1) := by decide +kernel
theorem dX0_combine_45 : decode cX0_combine 45 = .ok (.lload_n 3, 1) := by decide +kernel
theorem dX0_combine_46 : decode cX0_combine 46 = .ok (.lsub, 1) := by decide +kernel
theorem dX0_combine_47 : decode cX0_combine 47 = .ok (.lreturn, 1) := by decide +kernel
theorem dX0_combine_48 : decode cX0_combine 48 = .ok (.lload_n 1, 1) := by decide +kernel
theorem dX0_combine_49 : decode cX0_combine 49 = .ok (.lload_n 3, 1) := by decide +kernel
theorem dX0_combine_50 : decode cX0_combine 50 = .ok (.invokestatic 76, 3) := by decide +kernel
theorem dX0_combine_53 : decode cX0_combine 53 = .ok (.lreturn, 1) := by decide +kernel
theorem dX0_combine_54 : decode cX0_combine 54 = .ok (.lload_n 3, 1) := by decide +kernel
theorem dX0_combine_55 : decode cX0_combine 55 = .ok (.lconst 0, 1) := by decide +kernel
theorem dX0_combine_56 : decode cX0_combine 56 = .ok (.lcmp, 1) := by decide +kernel
theorem dX0_combine_57 : decode cX0_combine 57 = .ok (.ifCond .ne 9, 3) := by decide +kernel
theorem dX0_combine_60 : decode cX0_combine 60 = .ok (.ldc2_w 33, 3) := by decide +kernel
theorem dX0_combine_63 : decode cX0_combine 63 = .ok (.goto 10, 3) := by decide +kernel
theorem dX0_combine_66 : decode cX0_combine 66 = .ok (.lload_n 1, 1) := by decide +kernel
theorem dX0_combine_67 : decode cX0_combine 67 = .ok (.ldc2_w 39, 3) := by decide +kernel
theorem dX0_combine_70 : decode cX0_combine 70 = .ok (.lmul, 1) := by decide +kernel
theorem dX0_combine_71 : decode cX0_combine 71 = .ok (.lload_n 3, 1) := by decide +kernel
theorem dX0_combine_72 : decode cX0_combine 72 = .ok (.ldiv, 1) := by decide +kernel
theorem dX0_combine_73 : decode cX0_combine 73 = .ok (.lreturn, 1) := by decide +kernel
theorem dX0_combine_74 : decode cX0_combine 74 = .ok (.lload_n 1, 1) := by decide +kernel
theorem dX0_combine_75 : decode cX0_combine 75 = .ok (.lload_n 3, 1) := by decide +kernel
theorem dX0_combine_76 : decode cX0_combine 76 = .ok (.invokestatic 80, 3) := by decide +kernel
theorem dX0_combine_79 : decode cX0_combine 79 = .ok (.lreturn, 1) := by decide +kernel
theorem dX0_combine_80 : decode cX0_combine 80 = .ok (.lload_n 1, 1) := by decide +kernel
theorem dX0_combine_81 : decode cX0_combine 81 = .ok (.lload_n 3, 1) := by decide +kernel
theorem dX0_combine_82 : decode cX0_combine 82 = .ok (.invokestatic 83, 3) := by decide +kernel
theorem dX0_combine_85 : decode cX0_combine 85 = .ok (.lreturn, 1) := by decide +kernel
theorem dX0_combine_86 : decode cX0_combine 86 = .ok (.ldc2_w 33, 3) := by decide +kernel
theorem dX0_combine_89 : decode cX0_combine 89 = .ok (.lreturn, 1) := by decide +kernel
theorem dX0_product_0 : decode cX0_product 0 = .ok (.ldc2_w 86, 3) := by decide +kernel
theorem dX0_product_3 : decode cX0_product 3 = .ok (.lstore 4, 2) := by decide +kernel
theorem dX0_product_5 : decode cX0_product 5 = .ok (.lload_n 2, 1) := by decide +kernel
theorem dX0_product_6 : decode cX0_product 6 = .ok (.lconst 0, 1) := by decide +kernel
theorem dX0_product_7 : decode cX0_product 7 = .ok (.lcmp, 1) := by decide +kernel
theorem dX0_product_8 : decode cX0_product 8 = .ok (.ifCond .eq 22, 3) := by decide +kernel
theorem dX0_product_11 : decode cX0_product 11 = .ok (.lload_n 0, 1) := by decide +kernel
theorem dX0_product_12 : decode cX0_product 12 = .ok (.invokestatic 52, 3) := by decide +kernel
theorem dX0_product_15 : decode cX0_product 15 = .ok (.lload 4, 2) := by decide +kernel
theorem dX0_product_17 : decode cX0_product 17 = .ok (.lload_n 2, 1) := by decide +kernel
theorem dX0_product_18 : decode cX0_product 18 = .ok (.invokestatic 52, 3) := by decide +kernel
theorem dX0_product_21 : decode cX0_product 21 = .ok (.ldiv, 1) := by decide +kernel
theorem dX0_product_22 : decode cX0_product 22 = .ok (.lcmp, 1) := by decide +kernel
theorem dX0_product_23 : decode cX0_product 23 = .ok (.ifCond .le 7, 3) := by decide +kernel
theorem dX0_product_26 : decode cX0_product 26 = .ok (.ldc2_w 33, 3) := by decide +kernel
theorem dX0_product_29 : decode cX0_product 29 = .ok (.lreturn, 1) := by decide +kernel
theorem dX0_product_30 : decode cX0_product 30 = .ok (.lload_n 0, 1) := by decide +kernel
theorem dX0_product_31 : decode cX0_product 31 = .ok (.lload_n 2, 1) := by decide +kernel
theorem dX0_product_32 : decode cX0_product 32 = .ok (.lmul, 1) := by decide +kernel
theorem dX0_product_33 : decode cX0_product 33 = .ok (.ldc2_w 39, 3) := by decide +kernel
theorem dX0_product_36 : decode cX0_product 36 = .ok (.ldiv, 1) := by decide +kernel
theorem dX0_product_37 : decode cX0_product 37 = .ok (.lreturn, 1) := by decide +kernel
theorem dX1_init_0 : decode cX1_init 0 = .ok (.aload_n 0, 1) := by decide +kernel
theorem dX1_init_1 : decode cX1_init 1 = .ok (.invokespecial 3, 3) := by decide +kernel
theorem dX1_init_4 : decode cX1_init 4 = .ok (.aload_n 0, 1) := by decide +kernel
theorem dX1_init_5 : decode cX1_init 5 = .ok (.bipush 40, 2) := by decide +kernel
theorem dX1_init_7 : decode cX1_init 7 = .ok (.newarray .long, 2) := by decide +kernel
theorem dX1_init_9 : decode cX1_init 9 = .ok (.putfield 9, 3) := by decide +kernel
theorem dX1_init_12 : decode cX1_init 12 = .ok (.aload_n 0, 1) := by decide +kernel
theorem dX1_init_13 : decode cX1_init 13 = .ok (.bipush 40, 2) := by decide +kernel
theorem dX1_init_15 : decode cX1_init 15 = .ok (.newarray .long, 2) := by decide +kernel
theorem dX1_init_17 : decode cX1_init 17 = .ok (.putfield 15, 3) := by decide +kernel
theorem dX1_init_20 : decode cX1_init 20 = .ok (.aload_n 0, 1) := by decide +kernel
theorem dX1_init_21 : decode cX1_init 21 = .ok (.new 18, 3) := by decide +kernel
theorem dX1_init_24 : decode cX1_init 24 = .ok (.dup, 1) := by decide +kernel
theorem dX1_init_25 : decode cX1_init 25 = .ok (.bipush 14, 2) := by decide +kernel
theorem dX1_init_27 : decode cX1_init 27 = .ok (.invokespecial 20, 3) := by decide +kernel
theorem dX1_init_30 : decode cX1_init 30 = .ok (.putfield 23, 3) := by decide +kernel
theorem dX1_init_33 : decode cX1_init 33 = .ok (.aload_n 0, 1) := by decide +kernel
theorem dX1_init_34 : decode cX1_init 34 = .ok (.new 18, 3) := by decide +kernel
theorem dX1_init_37 : decode cX1_init 37 = .ok (.dup, 1) := by decide +kernel
theorem dX1_init_38 : decode cX1_init 38 = .ok (.bipush 40, 2) := by decide +kernel
theorem dX1_init_40 : decode cX1_init 40 = .ok (.invokespecial 20, 3) := by decide +kernel
theorem dX1_init_43 : decode cX1_init 43 = .ok (.putfield 27, 3) := by decide +kernel
theorem dX1_init_46 : decode cX1_init 46 = .ok (.aload_n 0, 1) := by decide +kernel
theorem dX1_init_47 : decode cX1_init 47 = .ok (.aload_n 1, 1) := by decide +kernel
theorem dX1_init_48 : decode cX1_init 48 = .ok (.putfield 30, 3) := by decide +kernel
theorem dX1_init_51 : decode cX1_init 51 = .ok (.return_, 1) := by decide +kernel
theorem dX1_mayWorkWith_0 : decode cX1_mayWorkWith 0 = .ok (.iload_n 1, 1) := by decide +kernel
theorem dX1_mayWorkWith_1 : decode cX1_mayWorkWith 1 = .ok (.ifCond .lt 50, 3) := by decide +kernel
theorem dX1_mayWorkWith_4 : decode cX1_mayWorkWith 4 = .ok (.iload_n 1, 1) := by decide +kernel
theorem dX1_mayWorkWith_5 : decode cX1_mayWorkWith 5 = .ok (.iconst 5, 1) := by decide +kernel
theorem dX1_mayWorkWith_6 : decode cX1_mayWorkWith 6 = .ok (.if_icmp .gt 45, 3) := by decide +kernel
theorem dX1_mayWorkWith_9 : decode cX1_mayWorkWith 9 = .ok (.aload_n 0, 1) := by decide +kernel
theorem dX1_mayWorkWith_10 : decode cX1_mayWorkWith 10 = .ok (.getfield 30, 3) := by decide +kernel
theorem dX1_mayWorkWith_13 : decode cX1_mayWorkWith 13 = .ok (.iload_n 2, 1) := by decide +kernel
theorem dX1_mayWorkWith_14 : decode cX1_mayWorkWith 14 = .ok (.invokevirtual 34, 3) := by decide +kernel
theorem dX1_mayWorkWith_17 : decode cX1_mayWorkWith 17 = .ok (.astore 4, 2) := by decide +kernel
theorem dX1_mayWorkWith_19 : decode cX1_mayWorkWith 19 = .ok (.aload_n 0, 1) := by decide +kernel
theorem dX1_mayWorkWith_20 : decode cX1_mayWorkWith 20 = .ok (.getfield 30, 3) := by decide +kernel
theorem dX1_mayWorkWith_23 : decode cX1_mayWorkWith 23 = .ok (.iload_n 3, 1) := by decide +kernel
theorem dX1_mayWorkWith_24 : decode cX1_mayWorkWith 24 = .ok (.invokevirtual 34, 3) := by decide +kernel
theorem dX1_mayWorkWith_27 : decode cX1_mayWorkWith 27 = .ok (.astore 5, 2) := by decide +kernel
theorem dX1_mayWorkWith_29 : decode cX1_mayWorkWith 29 = .ok (.aload 4, 2) := by decide +kernel
theorem dX1_mayWorkWith_31 : decode cX1_mayWorkWith 31 = .ok (.invokestatic 40, 3) := by decide +kernel
theorem dX1_mayWorkWith_34 : decode cX1_mayWorkWith 34 = .ok (.ifCond .eq 15, 3) := by decide +kernel
theorem dX1_mayWorkWith_37 : decode cX1_mayWorkWith 37 = .ok (.aload 5, 2) := by decide +kernel
theorem dX1_mayWorkWith_39 : decode cX1_mayWorkWith 39 = .ok (.invokestatic 40, 3) := by decide +kernel
theorem dX1_mayWorkWith_42 : decode cX1_mayWorkWith 42 = .ok (.ifCond .eq 7, 3) := by decide +kernel
theorem dX1_mayWorkWith_45 : decode cX1_mayWorkWith 45 = .ok (.iconst 1, 1) := by decide +kernel
theorem dX1_mayWorkWith_46 : decode cX1_mayWorkWith 46 = .ok (.goto 4, 3) := by decide +kernel
theorem dX1_mayWorkWith_49 : decode cX1_mayWorkWith 49 = .ok (.iconst 0, 1) := by decide +kernel
theorem dX1_mayWorkWith_50 : decode cX1_mayWorkWith 50 = .ok (.ireturn, 1) := by decide +kernel
theorem dX1_mayWorkWith_51 : decode cX1_mayWorkWith 51 = .ok (.iload_n 1, 1) := by decide +kernel
theorem dX1_mayWorkWith_52 : decode cX1_mayWorkWith 52 = .ok (.bipush 6, 2) := by decide +kernel
theorem dX1_mayWorkWith_54 : decode cX1_mayWorkWith 54 = .ok (.if_icmp .ne 23, 3) := by decide +kernel
theorem dX1_mayWorkWith_57 : decode cX1_mayWorkWith 57 = .ok (.aload_n 0, 1) := by decide +kernel
theorem dX1_mayWorkWith_58 : decode cX1_mayWorkWith 58 = .ok (.getfield 30, 3) := by decide +kernel
theorem dX1_mayWorkWith_61 : decode cX1_mayWorkWith 61 = .ok (.iload_n 2, 1) := by decide +kernel
theorem dX1_mayWorkWith_62 : decode cX1_mayWorkWith 62 = .ok (.invokevirtual 34, 3) := by decide +kernel
theorem dX1_mayWorkWith_65 : decode cX1_mayWorkWith 65 = .ok (.getfield 44, 3) := by decide +kernel
theorem dX1_mayWorkWith_68 : decode cX1_mayWorkWith 68 = .ok (.ifCond .ne 7, 3) := by decide +kernel
theorem dX1_mayWorkWith_71 : decode cX1_mayWorkWith 71 = .ok (.iconst 1, 1) := by decide +kernel
theorem dX1_mayWorkWith_72 : decode cX1_mayWorkWith 72 = .ok (.goto 4, 3) := by decide +kernel
theorem dX1_mayWorkWith_75 : decode cX1_mayWorkWith 75 = .ok (.iconst 0, 1) := by decide +kernel
theorem dX1_mayWorkWith_76 : decode cX1_mayWorkWith 76 = .ok (.ireturn, 1) := by decide +kernel
theorem dX1_mayWorkWith_77 : decode cX1_mayWorkWith 77 = .ok (.iload_n 1, 1) := by decide +kernel
theorem dX1_mayWorkWith_78 : decode cX1_mayWorkWith 78 = .ok (.bipush 7, 2) := by decide +kernel
theorem dX1_mayWorkWith_80 : decode cX1_mayWorkWith 80 = .ok (.if_icmp .eq 8, 3) := by decide +kernel
theorem dX1_mayWorkWith_83 : decode cX1_mayWorkWith 83 = .ok (.iload_n 1, 1) := by decide +kernel
theorem dX1_mayWorkWith_84 : decode cX1_mayWorkWith 84 = .ok (.iconst (-1), 1) := by decide +kernel
theorem dX1_mayWorkWith_85 : decode cX1_mayWorkWith 85 = .ok (.if_icmp .ne 7, 3) := by decide +kernel
theorem dX1_mayWorkWith_88 : decode cX1_mayWorkWith 88 = .ok (.iconst 1, 1) := by decide +kernel
theorem dX1_mayWorkWith_89 : decode cX1_mayWorkWith 89 = .ok (.goto 4, 3) := by decide +kernel
theorem dX1_mayWorkWith_92 : decode cX1_mayWorkWith 92 = .ok (.iconst 0, 1) := by decide +kernel
theorem dX1_mayWorkWith_93 : decode cX1_mayWorkWith 93 = .ok (.ireturn, 1) := by decide +kernel
theorem dX1_canBeReckoned_0 : decode cX1_canBeReckoned 0 = .ok (.aload_n 0, 1) := by decide +kernel
theorem dX1_canBeReckoned_1 : decode cX1_canBeReckoned 1 = .ok (.getfield 44, 3) := by decide +kernel
theorem dX1_canBeReckoned_4 : decode cX1_canBeReckoned 4 = .ok (.iconst 5, 1) := by decide +kernel
theorem dX1_canBeReckoned_5 : decode cX1_canBeReckoned 5 = .ok (.if_icmp .eq 11, 3) := by decide +kernel
theorem dX1_canBeReckoned_8 : decode cX1_canBeReckoned 8 = .ok (.aload_n 0, 1) := by decide +kernel
theorem dX1_canBeReckoned_9 : decode cX1_canBeReckoned 9 = .ok (.getfield 44, 3) := by decide +kernel
theorem dX1_canBeReckoned_12 : decode cX1_canBeReckoned 12 = .ok (.iconst 2, 1) := by decide +kernel
theorem dX1_canBeReckoned_13 : decode cX1_canBeReckoned 13 = .ok (.if_icmp .ne 7, 3) := by decide +kernel
theorem dX1_canBeReckoned_16 : decode cX1_canBeReckoned 16 = .ok (.iconst 1, 1) := by decide +kernel
theorem dX1_canBeReckoned_17 : decode cX1_canBeReckoned 17 = .ok (.goto 4, 3) := by decide +kernel
theorem dX1_canBeReckoned_20 : decode cX1_canBeReckoned 20 = .ok (.iconst 0, 1) := by decide +kernel
theorem dX1_canBeReckoned_21 : decode cX1_canBeReckoned 21 = .ok (.ireturn, 1) := by decide +kernel
theorem dX1_workOutAll_0 : decode cX1_workOutAll 0 = .ok (.aload_n 0, 1) := by decide +kernel
theorem dX1_workOutAll_1 : decode cX1_workOutAll 1 = .ok (.invokevirtual 50, 3) := by decide +kernel
theorem dX1_workOutAll_4 : decode cX1_workOutAll 4 = .ok (.lstore_n 1, 1) := by decide +kernel
theorem dX1_workOutAll_5 : decode cX1_workOutAll 5 = .ok (.aload_n 0, 1) := by decide +kernel
theorem dX1_workOutAll_6 : decode cX1_workOutAll 6 = .ok (.invokevirtual 54, 3) := by decide +kernel
theorem dX1_workOutAll_9 : decode cX1_workOutAll 9 = .ok (.istore_n 3, 1) := by decide +kernel
theorem dX1_workOutAll_10 : decode cX1_workOutAll 10 = .ok (.iload_n 3, 1) := by decide +kernel
theorem dX1_workOutAll_11 : decode cX1_workOutAll 11 = .ok (.iconst (-1), 1) := by decide +kernel
theorem dX1_workOutAll_12 : decode cX1_workOutAll 12 = .ok (.if_icmp .eq 7, 3) := by decide +kernel
theorem dX1_workOutAll_15 : decode cX1_workOutAll 15 = .ok (.iconst (-1), 1) := by decide +kernel
theorem dX1_workOutAll_16 : decode cX1_workOutAll 16 = .ok (.iload_n 3, 1) := by decide +kernel
theorem dX1_workOutAll_17 : decode cX1_workOutAll 17 = .ok (.isub, 1) := by decide +kernel
theorem dX1_workOutAll_18 : decode cX1_workOutAll 18 = .ok (.ireturn, 1) := by decide +kernel
theorem dX1_workOutAll_19 : decode cX1_workOutAll 19 = .ok (.aload_n 0, 1) := by decide +kernel
theorem dX1_workOutAll_20 : decode cX1_workOutAll 20 = .ok (.getfield 27, 3) := by decide +kernel
theorem dX1_workOutAll_23 : decode cX1_workOutAll 23 = .ok (.invokevirtual 58, 3) := by decide +kernel
theorem dX1_workOutAll_26 : decode cX1_workOutAll 26 = .ok (.iconst 0, 1) := by decide +kernel
theorem dX1_workOutAll_27 : decode cX1_workOutAll 27 = .ok (.istore 4, 2) := by decide +kernel
theorem dX1_workOutAll_29 : decode cX1_workOutAll 29 = .ok (.iconst 0, 1) := by decide +kernel
theorem dX1_workOutAll_30 : decode cX1_workOutAll 30 = .ok (.istore 5, 2) := by decide +kernel
theorem dX1_workOutAll_32 : decode cX1_workOutAll 32 = .ok (.iload 5, 2) := by decide +kernel
theorem dX1_workOutAll_34 : decode cX1_workOutAll 34 = .ok (.bipush 40, 2) := by decide +kernel
theorem dX1_workOutAll_36 : decode cX1_workOutAll 36 = .ok (.if_icmp .ge 67, 3) := by decide +kernel
theorem dX1_workOutAll_39 : decode cX1_workOutAll 39 = .ok (.lload_n 1, 1) := by decide +kernel
theorem dX1_workOutAll_40 : decode cX1_workOutAll 40 = .ok (.lconst 0, 1) := by decide +kernel
theorem dX1_workOutAll_41 : decode cX1_workOutAll 41 = .ok (.lcmp, 1) := by decide +kernel
theorem dX1_workOutAll_42 : decode cX1_workOutAll 42 = .ok (.ifCond .eq 61, 3) := by decide +kernel
theorem dX1_workOutAll_45 : decode cX1_workOutAll 45 = .ok (.aload_n 0, 1) := by decide +kernel
theorem dX1_workOutAll_46 : decode cX1_workOutAll 46 = .ok (.lload_n 1, 1) := by decide +kernel
theorem dX1_workOutAll_47 : decode cX1_workOutAll 47 = .ok (.invokevirtual 61, 3) := by decide +kernel
theorem dX1_workOutAll_50 : decode cX1_workOutAll 50 = .ok (.istore 6, 2) := by decide +kernel
theorem dX1_workOutAll_52 : decode cX1_workOutAll 52 = .ok (.iload 6, 2) := by decide +kernel
theorem dX1_workOutAll_54 : decode cX1_workOutAll 54 = .ok (.iconst (-1), 1) := by decide +kernel
theorem dX1_workOutAll_55 : decode cX1_workOutAll 55 = .ok (.if_icmp .ne 6, 3) := by decide +kernel
theorem dX1_workOutAll_58 : decode cX1_workOutAll 58 = .ok (.iload 4, 2) := by decide +kernel
theorem dX1_workOutAll_60 : decode cX1_workOutAll 60 = .ok (.ireturn, 1) := by decide +kernel
theorem dX1_workOutAll_61 : decode cX1_workOutAll 61 = .ok (.iload 4, 2) := by decide +kernel
theorem dX1_workOutAll_63 : decode cX1_workOutAll 63 = .ok (.aload_n 0, 1) := by decide +kernel
theorem dX1_workOutAll_64 : decode cX1_workOutAll 64 = .ok (.iload 6, 2) := by decide +kernel
theorem dX1_workOutAll_66 : decode cX1_workOutAll 66 = .ok (.aload_n 0, 1) := by decide +kernel
theorem dX1_workOutAll_67 : decode cX1_workOutAll 67 = .ok (.aload_n 0, 1) := by decide +kernel
theorem dX1_workOutAll_68 : decode cX1_workOutAll 68 = .ok (.getfield 30, 3) := by decide +kernel
theorem dX1_workOutAll_71 : decode cX1_workOutAll 71 = .ok (.iload 6, 2) := by decide +kernel
theorem dX1_workOutAll_73 : decode cX1_workOutAll 73 = .ok (.invokevirtual 34, 3) := by decide +kernel
theorem dX1_workOutAll_76 : decode cX1_workOutAll 76 = .ok (.invokevirtual 65, 3) := by decide +kernel
theorem dX1_workOutAll_79 : decode cX1_workOutAll 79 = .ok (.invokevirtual 69, 3) := by decide +kernel
theorem dX1_workOutAll_82 : decode cX1_workOutAll 82 = .ok (.iadd, 1) := by decide +kernel
theorem dX1_workOutAll_83 : decode cX1_workOutAll 83 = .ok (.istore 4, 2) := by decide +kernel
theorem dX1_workOutAll_85 : decode cX1_workOutAll 85 = .ok (.lload_n 1, 1) := by decide +kernel
theorem dX1_workOutAll_86 : decode cX1_workOutAll 86 = .ok (.iload 6, 2) := by decide +kernel
theorem dX1_workOutAll_88 : decode cX1_workOutAll 88 = .ok (.invokestatic 73, 3) := by decide +kernel
theorem dX1_workOutAll_91 : decode cX1_workOutAll 91 = .ok (.ldc2_w 77, 3) := by decide +kernel
theorem dX1_workOutAll_94 : decode cX1_workOutAll 94 = .ok (.lxor, 1) := by decide +kernel
theorem dX1_workOutAll_95 : decode cX1_workOutAll 95 = .ok (.land, 1) := by decide +kernel
theorem dX1_workOutAll_96 : decode cX1_workOutAll 96 = .ok (.lstore_n 1, 1) := by decide +kernel
theorem dX1_workOutAll_97 : decode cX1_workOutAll 97 = .ok (.iinc 5 1, 3) := by decide +kernel
theorem dX1_workOutAll_100 : decode cX1_workOutAll 100 = .ok (.goto (-68), 3) := by decide +kernel
theorem dX1_workOutAll_103 : decode cX1_workOutAll 103 = .ok (.iload 4, 2) := by decide +kernel
theorem dX1_workOutAll_105 : decode cX1_workOutAll 105 = .ok (.ireturn, 1) := by decide +kernel
theorem dX1_bit_0 : decode cX1_bit 0 = .ok (.lconst 1, 1) := by decide +kernel
theorem dX1_bit_1 : decode cX1_bit 1 = .ok (.iload_n 0, 1) := by decide +kernel
theorem dX1_bit_2 : decode cX1_bit 2 = .ok (.lshl, 1) := by decide +kernel
theorem dX1_bit_3 : decode cX1_bit 3 = .ok (.lreturn, 1) := by decide +kernel
theorem dX1_isIn_0 : decode cX1_isIn 0 = .ok (.lload_n 0, 1) := by decide +kernel
theorem dX1_isIn_1 : decode cX1_isIn 1 = .ok (.iload_n 2, 1) := by decide +kernel
theorem dX1_isIn_2 : decode cX1_isIn 2 = .ok (.invokestatic 73, 3) := by decide +kernel
theorem dX1_isIn_5 : decode cX1_isIn 5 = .ok (.land, 1) := by decide +kernel
theorem dX1_isIn_6 : decode cX1_isIn 6 = .ok (.lconst 0, 1) := by decide +kernel
theorem dX1_isIn_7 : decode cX1_isIn 7 = .ok (.lcmp, 1) := by decide +kernel
theorem dX1_isIn_8 : decode cX1_isIn 8 = .ok (.ifCond .eq 7, 3) := by decide +kernel
theorem dX1_isIn_11 : decode cX1_isIn 11 = .ok (.iconst 1, 1) := by decide +kernel
theorem dX1_isIn_12 : decode cX1_isIn 12 = .ok (.goto 4, 3) := by decide +kernel
theorem dX1_isIn_15 : decode cX1_isIn 15 = .ok (.iconst 0, 1) := by decide +kernel
theorem dX1_isIn_16 : decode cX1_isIn 16 = .ok (.ireturn, 1) := by decide +kernel
theorem dX1_gatherNeeds_0 : decode cX1_gatherNeeds 0 = .ok (.lconst 0, 1) := by decide +kernel
theorem dX1_gatherNeeds_1 : decode cX1_gatherNeeds 1 = .ok (.lstore_n 1, 1) := by decide +kernel
theorem dX1_gatherNeeds_2 : decode cX1_gatherNeeds 2 = .ok (.iconst 0, 1) := by decide +kernel
theorem dX1_gatherNeeds_3 : decode cX1_gatherNeeds 3 = .ok (.istore_n 3, 1) := by decide +kernel
theorem dX1_gatherNeeds_4 : decode cX1_gatherNeeds 4 = .ok (.iload_n 3, 1) := by decide +kernel
theorem dX1_gatherNeeds_5 : decode cX1_gatherNeeds 5 = .ok (.aload_n 0, 1) := by decide +kernel
theorem dX1_gatherNeeds_6 : decode cX1_gatherNeeds 6 = .ok (.getfield 30, 3) := by decide +kernel
theorem dX1_gatherNeeds_9 : decode cX1_gatherNeeds 9 = .ok (.invokevirtual 79, 3) := by decide +kernel
theorem dX1_gatherNeeds_12 : decode cX1_gatherNeeds 12 = .ok (.if_icmp .ge 65, 3) := by decide +kernel
theorem dX1_gatherNeeds_15 : decode cX1_gatherNeeds 15 = .ok (.iload_n 3, 1) := by decide +kernel
theorem dX1_gatherNeeds_16 : decode cX1_gatherNeeds 16 = .ok (.bipush 40, 2) := by decide +kernel
theorem dX1_gatherNeeds_18 : decode cX1_gatherNeeds 18 = .ok (.if_icmp .ge 59, 3) := by decide +kernel
theorem dX1_gatherNeeds_21 : decode cX1_gatherNeeds 21 = .ok (.aload_n 0, 1) := by decide +kernel
theorem dX1_gatherNeeds_22 : decode cX1_gatherNeeds 22 = .ok (.getfield 30, 3) := by decide +kernel
theorem dX1_gatherNeeds_25 : decode cX1_gatherNeeds 25 = .ok (.iload_n 3, 1) := by decide +kernel
theorem dX1_gatherNeeds_26 : decode cX1_gatherNeeds 26 = .ok (.invokevirtual 34, 3) := by decide +kernel
theorem dX1_gatherNeeds_29 : decode cX1_gatherNeeds 29 = .ok (.astore 4, 2) := by decide +kernel
theorem dX1_gatherNeeds_31 : decode cX1_gatherNeeds 31 = .ok (.aload_n 0, 1) := by decide +kernel
theorem dX1_gatherNeeds_32 : decode cX1_gatherNeeds 32 = .ok (.getfield 9, 3) := by decide +kernel
theorem dX1_gatherNeeds_35 : decode cX1_gatherNeeds 35 = .ok (.iload_n 3, 1) := by decide +kernel
theorem dX1_gatherNeeds_36 : decode cX1_gatherNeeds 36 = .ok (.aload_n 0, 1) := by decide +kernel
theorem dX1_gatherNeeds_37 : decode cX1_gatherNeeds 37 = .ok (.aload 4, 2) := by decide +kernel
theorem dX1_gatherNeeds_39 : decode cX1_gatherNeeds 39 = .ok (.invokevirtual 82, 3) := by decide +kernel
theorem dX1_gatherNeeds_42 : decode cX1_gatherNeeds 42 = .ok (.lastore, 1) := by decide +kernel
theorem dX1_gatherNeeds_43 : decode cX1_gatherNeeds 43 = .ok (.aload_n 0, 1) := by decide +kernel
theorem dX1_gatherNeeds_44 : decode cX1_gatherNeeds 44 = .ok (.getfield 15, 3) := by decide +kernel
theorem dX1_gatherNeeds_47 : decode cX1_gatherNeeds 47 = .ok (.iload_n 3, 1) := by decide +kernel
theorem dX1_gatherNeeds_48 : decode cX1_gatherNeeds 48 = .ok (.aload_n 0, 1) := by decide +kernel
theorem dX1_gatherNeeds_49 : decode cX1_gatherNeeds 49 = .ok (.getfield 9, 3) := by decide +kernel
theorem dX1_gatherNeeds_52 : decode cX1_gatherNeeds 52 = .ok (.iload_n 3, 1) := by decide +kernel
theorem dX1_gatherNeeds_53 : decode cX1_gatherNeeds 53 = .ok (.laload, 1) := by decide +kernel
theorem dX1_gatherNeeds_54 : decode cX1_gatherNeeds 54 = .ok (.lastore, 1) := by decide +kernel
theorem dX1_gatherNeeds_55 : decode cX1_gatherNeeds 55 = .ok (.aload 4, 2) := by decide +kernel
theorem dX1_gatherNeeds_57 : decode cX1_gatherNeeds 57 = .ok (.getfield 85, 3) := by decide +kernel
theorem dX1_gatherNeeds_60 : decode cX1_gatherNeeds 60 = .ok (.iconst (-1), 1) := by decide +kernel
theorem dX1_gatherNeeds_61 : decode cX1_gatherNeeds 61 = .ok (.if_icmp .eq 10, 3) := by decide +kernel
theorem dX1_gatherNeeds_64 : decode cX1_gatherNeeds 64 = .ok (.lload_n 1, 1) := by decide +kernel
theorem dX1_gatherNeeds_65 : decode cX1_gatherNeeds 65 = .ok (.iload_n 3, 1) := by decide +kernel
theorem dX1_gatherNeeds_66 : decode cX1_gatherNeeds 66 = .ok (.invokestatic 73, 3) := by decide +kernel
theorem dX1_gatherNeeds_69 : decode cX1_gatherNeeds 69 = .ok (.lor, 1) := by decide +kernel
theorem dX1_gatherNeeds_70 : decode cX1_gatherNeeds 70 = .ok (.lstore_n 1, 1) := by decide +kernel
theorem dX1_gatherNeeds_71 : decode cX1_gatherNeeds 71 = .ok (.iinc 3 1, 3) := by decide +kernel
theorem dX1_gatherNeeds_74 : decode cX1_gatherNeeds 74 = .ok (.goto (-70), 3) := by decide +kernel
theorem dX1_gatherNeeds_77 : decode cX1_gatherNeeds 77 = .ok (.lload_n 1, 1) := by decide +kernel
theorem dX1_gatherNeeds_78 : decode cX1_gatherNeeds 78 = .ok (.lreturn, 1) := by decide +kernel
theorem dX1_needsOf_0 : decode cX1_needsOf 0 = .ok (.aload_n 1, 1) := by decide +kernel
theorem dX1_needsOf_1 : decode cX1_needsOf 1 = .ok (.getfield 85, 3) := by decide +kernel
theorem dX1_needsOf_4 : decode cX1_needsOf 4 = .ok (.ifCond .lt 47, 3) := by decide +kernel
theorem dX1_needsOf_7 : decode cX1_needsOf 7 = .ok (.aload_n 1, 1) := by decide +kernel
theorem dX1_needsOf_8 : decode cX1_needsOf 8 = .ok (.getfield 85, 3) := by decide +kernel
theorem dX1_needsOf_11 : decode cX1_needsOf 11 = .ok (.iconst 5, 1) := by decide +kernel
theorem dX1_needsOf_12 : decode cX1_needsOf 12 = .ok (.if_icmp .gt 39, 3) := by decide +kernel
theorem dX1_needsOf_15 : decode cX1_needsOf 15 = .ok (.aload_n 0, 1) := by decide +kernel
theorem dX1_needsOf_16 : decode cX1_needsOf 16 = .ok (.getfield 30, 3) := by decide +kernel
theorem dX1_needsOf_19 : decode cX1_needsOf 19 = .ok (.aload_n 1, 1) := by decide +kernel
theorem dX1_needsOf_20 : decode cX1_needsOf 20 = .ok (.getfield 88, 3) := by decide +kernel
theorem dX1_needsOf_23 : decode cX1_needsOf 23 = .ok (.invokevirtual 34, 3) := by decide +kernel
theorem dX1_needsOf_26 : decode cX1_needsOf 26 = .ok (.getfield 91, 3) := by decide +kernel
theorem dX1_needsOf_29 : decode cX1_needsOf 29 = .ok (.invokestatic 73, 3) := by decide +kernel
theorem dX1_needsOf_32 : decode cX1_needsOf 32 = .ok (.aload_n 0, 1) := by decide +kernel
theorem dX1_needsOf_33 : decode cX1_needsOf 33 = .ok (.getfield 30, 3) := by decide +kernel
theorem dX1_needsOf_36 : decode cX1_needsOf 36 = .ok (.aload_n 1, 1) := by decide +kernel
theorem dX1_needsOf_37 : decode cX1_needsOf 37 = .ok (.getfield 94, 3) := by decide +kernel
theorem dX1_needsOf_40 : decode cX1_needsOf 40 = .ok (.invokevirtual 34, 3) := by decide +kernel
theorem dX1_needsOf_43 : decode cX1_needsOf 43 = .ok (.getfield 91, 3) := by decide +kernel
theorem dX1_needsOf_46 : decode cX1_needsOf 46 = .ok (.invokestatic 73, 3) := by decide +kernel
theorem dX1_needsOf_49 : decode cX1_needsOf 49 = .ok (.lor, 1) := by decide +kernel
theorem dX1_needsOf_50 : decode cX1_needsOf 50 = .ok (.lreturn, 1) := by decide +kernel
theorem dX1_needsOf_51 : decode cX1_needsOf 51 = .ok (.aload_n 1, 1) := by decide +kernel
theorem dX1_needsOf_52 : decode cX1_needsOf 52 = .ok (.getfield 85, 3) := by decide +kernel
theorem dX1_needsOf_55 : decode cX1_needsOf 55 = .ok (.bipush 6, 2) := by decide +kernel
theorem dX1_needsOf_57 : decode cX1_needsOf 57 = .ok (.if_icmp .ne 14, 3) := by decide +kernel
theorem dX1_needsOf_60 : decode cX1_needsOf 60 = .ok (.aload_n 0, 1) := by decide +kernel
theorem dX1_needsOf_61 : decode cX1_needsOf 61 = .ok (.aload_n 1, 1) := by decide +kernel
theorem dX1_needsOf_62 : decode cX1_needsOf 62 = .ok (.getfield 88, 3) := by decide +kernel
theorem dX1_needsOf_65 : decode cX1_needsOf 65 = .ok (.invokevirtual 97, 3) := by decide +kernel
theorem dX1_needsOf_68 : decode cX1_needsOf 68 = .ok (.goto 4, 3) := by decide +kernel
theorem dX1_needsOf_71 : decode cX1_needsOf 71 = .ok (.lconst 0, 1) := by decide +kernel
theorem dX1_needsOf_72 : decode cX1_needsOf 72 = .ok (.lreturn, 1) := by decide +kernel
theorem dX1_numbersIn_0 : decode cX1_numbersIn 0 = .ok (.lconst 0, 1) := by decide +kernel
theorem dX1_numbersIn_1 : decode cX1_numbersIn 1 = .ok (.lstore_n 2, 1) := by decide +kernel
theorem dX1_numbersIn_2 : decode cX1_numbersIn 2 = .ok (.iconst 0, 1) := by decide +kernel
theorem dX1_numbersIn_3 : decode cX1_numbersIn 3 = .ok (.istore 4, 2) := by decide +kernel
theorem dX1_numbersIn_5 : decode cX1_numbersIn 5 = .ok (.iload 4, 2) := by decide +kernel
theorem dX1_numbersIn_7 : decode cX1_numbersIn 7 = .ok (.aload_n 0, 1) := by decide +kernel
theorem dX1_numbersIn_8 : decode cX1_numbersIn 8 = .ok (.getfield 30, 3) := by decide +kernel
theorem dX1_numbersIn_11 : decode cX1_numbersIn 11 = .ok (.invokevirtual 79, 3) := by decide +kernel
theorem dX1_numbersIn_14 : decode cX1_numbersIn 14 = .ok (.if_icmp .ge 56, 3) := by decide +kernel
theorem dX1_numbersIn_17 : decode cX1_numbersIn 17 = .ok (.aload_n 0, 1) := by decide +kernel
theorem dX1_numbersIn_18 : decode cX1_numbersIn 18 = .ok (.getfield 30, 3) := by decide +kernel
theorem dX1_numbersIn_21 : decode cX1_numbersIn 21 = .ok (.iload 4, 2) := by decide +kernel
theorem dX1_numbersIn_23 : decode cX1_numbersIn 23 = .ok (.invokevirtual 34, 3) := by decide +kernel
theorem dX1_numbersIn_26 : decode cX1_numbersIn 26 = .ok (.getfield 44, 3) := by decide +kernel
theorem dX1_numbersIn_29 : decode cX1_numbersIn 29 = .ok (.iconst 5, 1) := by decide +kernel
theorem dX1_numbersIn_30 : decode cX1_numbersIn 30 = .ok (.if_icmp .ne 34, 3) := by decide +kernel
theorem dX1_numbersIn_33 : decode cX1_numbersIn 33 = .ok (.aload_n 0, 1) := by decide +kernel
theorem dX1_numbersIn_34 : decode cX1_numbersIn 34 = .ok (.getfield 30, 3) := by decide +kernel
theorem dX1_numbersIn_37 : decode cX1_numbersIn 37 = .ok (.iload 4, 2) := by decide +kernel
theorem dX1_numbersIn_39 : decode cX1_numbersIn 39 = .ok (.iload_n 1, 1) := by decide +kernel
theorem dX1_numbersIn_40 : decode cX1_numbersIn 40 = .ok (.invokevirtual 100, 3) := by decide +kernel
theorem dX1_numbersIn_43 : decode cX1_numbersIn 43 = .ok (.ifCond .eq 21, 3) := by decide +kernel
theorem dX1_numbersIn_46 : decode cX1_numbersIn 46 = .ok (.lload_n 2, 1) := by decide +kernel
theorem dX1_numbersIn_47 : decode cX1_numbersIn 47 = .ok (.aload_n 0, 1) := by decide +kernel
theorem dX1_numbersIn_48 : decode cX1_numbersIn 48 = .ok (.getfield 30, 3) := by decide +kernel
theorem dX1_numbersIn_51 : decode cX1_numbersIn 51 = .ok (.iload 4, 2) := by decide +kernel
theorem dX1_numbersIn_53 : decode cX1_numbersIn 53 = .ok (.invokevirtual 34, 3) := by decide +kernel
theorem dX1_numbersIn_56 : decode cX1_numbersIn 56 = .ok (.getfield 91, 3) := by decide +kernel
theorem dX1_numbersIn_59 : decode cX1_numbersIn 59 = .ok (.invokestatic 73, 3) := by decide +kernel
theorem dX1_numbersIn_62 : decode cX1_numbersIn 62 = .ok (.lor, 1) := by decide +kernel
theorem dX1_numbersIn_63 : decode cX1_numbersIn 63 = .ok (.lstore_n 2, 1) := by decide +kernel
theorem dX1_numbersIn_64 : decode cX1_numbersIn 64 = .ok (.iinc 4 1, 3) := by decide +kernel
theorem dX1_numbersIn_67 : decode cX1_numbersIn 67 = .ok (.goto (-62), 3) := by decide +kernel
theorem dX1_numbersIn_70 : decode cX1_numbersIn 70 = .ok (.lload_n 2, 1) := by decide +kernel
theorem dX1_numbersIn_71 : decode cX1_numbersIn 71 = .ok (.lreturn, 1) := by decide +kernel
theorem dX1_leastInRing_0 : decode cX1_leastInRing 0 = .ok (.aload_n 0, 1) := by decide +kernel
theorem dX1_leastInRing_1 : decode cX1_leastInRing 1 = .ok (.getfield 30, 3) := by decide +kernel
theorem dX1_leastInRing_4 : decode cX1_leastInRing 4 = .ok (.invokevirtual 79, 3) := by decide +kernel
theorem dX1_leastInRing_7 : decode cX1_leastInRing 7 = .ok (.bipush 40, 2) := by decide +kernel
theorem dX1_leastInRing_9 : decode cX1_leastInRing 9 = .ok (.invokestatic 104, 3) := by decide +kernel
theorem dX1_leastInRing_12 : decode cX1_leastInRing 12 = .ok (.istore_n 1, 1) := by decide +kernel
theorem dX1_leastInRing_13 : decode cX1_leastInRing 13 = .ok (.iconst 0, 1) := by decide +kernel
theorem dX1_leastInRing_14 : decode cX1_leastInRing 14 = .ok (.istore_n 2, 1) := by decide +kernel
theorem dX1_leastInRing_15 : decode cX1_leastInRing 15 = .ok (.iload_n 2, 1) := by decide +kernel
theorem dX1_leastInRing_16 : decode cX1_leastInRing 16 = .ok (.iload_n 1, 1) := by decide +kernel
theorem dX1_leastInRing_17 : decode cX1_leastInRing 17 = .ok (.if_icmp .ge 50, 3) := by decide +kernel
theorem dX1_leastInRing_20 : decode cX1_leastInRing 20 = .ok (.iconst 0, 1) := by decide +kernel
theorem dX1_leastInRing_21 : decode cX1_leastInRing 21 = .ok (.istore_n 3, 1) := by decide +kernel
theorem dX1_leastInRing_22 : decode cX1_leastInRing 22 = .ok (.iload_n 3, 1) := by decide +kernel
theorem dX1_leastInRing_23 : decode cX1_leastInRing 23 = .ok (.iload_n 1, 1) := by decide +kernel
theorem dX1_leastInRing_24 : decode cX1_leastInRing 24 = .ok (.if_icmp .ge 37, 3) := by decide +kernel
theorem dX1_leastInRing_27 : decode cX1_leastInRing 27 = .ok (.aload_n 0, 1) := by decide +kernel
theorem dX1_leastInRing_28 : decode cX1_leastInRing 28 = .ok (.getfield 15, 3) := by decide +kernel
theorem dX1_leastInRing_31 : decode cX1_leastInRing 31 = .ok (.iload_n 3, 1) := by decide +kernel
theorem dX1_leastInRing_32 : decode cX1_leastInRing 32 = .ok (.laload, 1) := by decide +kernel
theorem dX1_leastInRing_33 : decode cX1_leastInRing 33 = .ok (.iload_n 2, 1) := by decide +kernel
theorem dX1_leastInRing_34 : decode cX1_leastInRing 34 = .ok (.invokestatic 110, 3) := by decide +kernel
theorem dX1_leastInRing_37 : decode cX1_leastInRing 37 = .ok (.ifCond .eq 18, 3) := by decide +kernel
theorem dX1_leastInRing_40 : decode cX1_leastInRing 40 = .ok (.aload_n 0, 1) := by decide +kernel
theorem dX1_leastInRing_41 : decode cX1_leastInRing 41 = .ok (.getfield 15, 3) := by decide +kernel
theorem dX1_leastInRing_44 : decode cX1_leastInRing 44 = .ok (.iload_n 3, 1) := by decide +kernel
theorem dX1_leastInRing_45 : decode cX1_leastInRing 45 = .ok (.dup2, 1) := by decide +kernel
theorem dX1_leastInRing_46 : decode cX1_leastInRing 46 = .ok (.laload, 1) := by decide +kernel
theorem dX1_leastInRing_47 : decode cX1_leastInRing 47 = .ok (.aload_n 0, 1) := by decide +kernel
theorem dX1_leastInRing_48 : decode cX1_leastInRing 48 = .ok (.getfield 15, 3) := by decide +kernel
theorem dX1_leastInRing_51 : decode cX1_leastInRing 51 = .ok (.iload_n 2, 1) := by decide +kernel
theorem dX1_leastInRing_52 : decode cX1_leastInRing 52 = .ok (.laload, 1) := by decide +kernel
theorem dX1_leastInRing_53 : decode cX1_leastInRing 53 = .ok (.lor, 1) := by decide +kernel
theorem dX1_leastInRing_54 : decode cX1_leastInRing 54 = .ok (.lastore, 1) := by decide +kernel
theorem dX1_leastInRing_55 : decode cX1_leastInRing 55 = .ok (.iinc 3 1, 3) := by decide +kernel
theorem dX1_leastInRing_58 : decode cX1_leastInRing 58 = .ok (.goto (-36), 3) := by decide +kernel
theorem dX1_leastInRing_61 : decode cX1_leastInRing 61 = .ok (.iinc 2 1, 3) := by decide +kernel
theorem dX1_leastInRing_64 : decode cX1_leastInRing 64 = .ok (.goto (-49), 3) := by decide +kernel
theorem dX1_leastInRing_67 : decode cX1_leastInRing 67 = .ok (.iconst 0, 1) := by decide +kernel
theorem dX1_leastInRing_68 : decode cX1_leastInRing 68 = .ok (.istore_n 2, 1) := by decide +kernel
theorem dX1_leastInRing_69 : decode cX1_leastInRing 69 = .ok (.iload_n 2, 1) := by decide +kernel
theorem dX1_leastInRing_70 : decode cX1_leastInRing 70 = .ok (.iload_n 1, 1) := by decide +kernel
theorem dX1_leastInRing_71 : decode cX1_leastInRing 71 = .ok (.if_icmp .ge 24, 3) := by decide +kernel
theorem dX1_leastInRing_74 : decode cX1_leastInRing 74 = .ok (.aload_n 0, 1) := by decide +kernel
theorem dX1_leastInRing_75 : decode cX1_leastInRing 75 = .ok (.getfield 15, 3) := by decide +kernel
theorem dX1_leastInRing_78 : decode cX1_leastInRing 78 = .ok (.iload_n 2, 1) := by decide +kernel
theorem dX1_leastInRing_79 : decode cX1_leastInRing 79 = .ok (.laload, 1) := by decide +kernel
theorem dX1_leastInRing_80 : decode cX1_leastInRing 80 = .ok (.iload_n 2, 1) := by decide +kernel
theorem dX1_leastInRing_81 : decode cX1_leastInRing 81 = .ok (.invokestatic 110, 3) := by decide +kernel
theorem dX1_leastInRing_84 : decode cX1_leastInRing 84 = .ok (.ifCond .eq 5, 3) := by decide +kernel
theorem dX1_leastInRing_87 : decode cX1_leastInRing 87 = .ok (.iload_n 2, 1) := by decide +kernel
theorem dX1_leastInRing_88 : decode cX1_leastInRing 88 = .ok (.ireturn, 1) := by decide +kernel
theorem dX1_leastInRing_89 : decode cX1_leastInRing 89 = .ok (.iinc 2 1, 3) := by decide +kernel
theorem dX1_leastInRing_92 : decode cX1_leastInRing 92 = .ok (.goto (-23), 3) := by decide +kernel
theorem dX1_leastInRing_95 : decode cX1_leastInRing 95 = .ok (.iconst (-1), 1) := by decide +kernel
theorem dX1_leastInRing_96 : decode cX1_leastInRing 96 = .ok (.ireturn, 1) := by decide +kernel
theorem dX1_leastReady_0 : decode cX1_leastReady 0 = .ok (.iconst 0, 1) := by decide +kernel
theorem dX1_leastReady_1 : decode cX1_leastReady 1 = .ok (.istore_n 3, 1) := by decide +kernel
theorem dX1_leastReady_2 : decode cX1_leastReady 2 = .ok (.iload_n 3, 1) := by decide +kernel
theorem dX1_leastReady_3 : decode cX1_leastReady 3 = .ok (.bipush 40, 2) := by decide +kernel
theorem dX1_leastReady_5 : decode cX1_leastReady 5 = .ok (.if_icmp .ge 32, 3) := by decide +kernel
theorem dX1_leastReady_8 : decode cX1_leastReady 8 = .ok (.lload_n 1, 1) := by decide +kernel
theorem dX1_leastReady_9 : decode cX1_leastReady 9 = .ok (.iload_n 3, 1) := by decide +kernel
theorem dX1_leastReady_10 : decode cX1_leastReady 10 = .ok (.invokestatic 110, 3) := by decide +kernel
theorem dX1_leastReady_13 : decode cX1_leastReady 13 = .ok (.ifCond .eq 18, 3) := by decide +kernel
theorem dX1_leastReady_16 : decode cX1_leastReady 16 = .ok (.aload_n 0, 1) := by decide +kernel
theorem dX1_leastReady_17 : decode cX1_leastReady 17 = .ok (.getfield 9, 3) := by decide +kernel
theorem dX1_leastReady_20 : decode cX1_leastReady 20 = .ok (.iload_n 3, 1) := by decide +kernel
theorem dX1_leastReady_21 : decode cX1_leastReady 21 = .ok (.laload, 1) := by decide +kernel
theorem dX1_leastReady_22 : decode cX1_leastReady 22 = .ok (.lload_n 1, 1) := by decide +kernel
theorem dX1_leastReady_23 : decode cX1_leastReady 23 = .ok (.land, 1) := by decide +kernel
theorem dX1_leastReady_24 : decode cX1_leastReady 24 = .ok (.lconst 0, 1) := by decide +kernel
theorem dX1_leastReady_25 : decode cX1_leastReady 25 = .ok (.lcmp, 1) := by decide +kernel
theorem dX1_leastReady_26 : decode cX1_leastReady 26 = .ok (.ifCond .ne 5, 3) := by decide +kernel
theorem dX1_leastReady_29 : decode cX1_leastReady 29 = .ok (.iload_n 3, 1) := by decide +kernel
theorem dX1_leastReady_30 : decode cX1_leastReady 30 = .ok (.ireturn, 1) := by decide +kernel
theorem dX1_leastReady_31 : decode cX1_leastReady 31 = .ok (.iinc 3 1, 3) := by decide +kernel
theorem dX1_leastReady_34 : decode cX1_leastReady 34 = .ok (.goto (-32), 3) := by decide +kernel
theorem dX1_leastReady_37 : decode cX1_leastReady 37 = .ok (.iconst (-1), 1) := by decide +kernel
theorem dX1_leastReady_38 : decode cX1_leastReady 38 = .ok (.ireturn, 1) := by decide +kernel
theorem dX1_writeResult_0 : decode cX1_writeResult 0 = .ok (.aload_n 0, 1) := by decide +kernel
theorem dX1_writeResult_1 : decode cX1_writeResult 1 = .ok (.getfield 30, 3) := by decide +kernel
theorem dX1_writeResult_4 : decode cX1_writeResult 4 = .ok (.iload_n 1, 1) := by decide +kernel
theorem dX1_writeResult_5 : decode cX1_writeResult 5 = .ok (.invokevirtual 34, 3) := by decide +kernel
theorem dX1_writeResult_8 : decode cX1_writeResult 8 = .ok (.astore 4, 2) := by decide +kernel
theorem dX1_writeResult_10 : decode cX1_writeResult 10 = .ok (.lload_n 2, 1) := by decide +kernel
theorem dX1_writeResult_11 : decode cX1_writeResult 11 = .ok (.ldc2_w 114, 3) := by decide +kernel
theorem dX1_writeResult_14 : decode cX1_writeResult 14 = .ok (.lcmp, 1) := by decide +kernel
theorem dX1_writeResult_15 : decode cX1_writeResult 15 = .ok (.ifCond .eq 10, 3) := by decide +kernel
theorem dX1_writeResult_18 : decode cX1_writeResult 18 = .ok (.lload_n 2, 1) := by decide +kernel
theorem dX1_writeResult_19 : decode cX1_writeResult 19 = .ok (.invokestatic 116, 3) := by decide +kernel
theorem dX1_writeResult_22 : decode cX1_writeResult 22 = .ok (.ifCond .eq 14, 3) := by decide +kernel
theorem dX1_writeResult_25 : decode cX1_writeResult 25 = .ok (.aload_n 0, 1) := by decide +kernel
theorem dX1_writeResult_26 : decode cX1_writeResult 26 = .ok (.getfield 27, 3) := by decide +kernel
theorem dX1_writeResult_29 : decode cX1_writeResult 29 = .ok (.iload_n 1, 1) := by decide +kernel
theorem dX1_writeResult_30 : decode cX1_writeResult 30 = .ok (.invokevirtual 122, 3) := by decide +kernel
theorem dX1_writeResult_33 : decode cX1_writeResult 33 = .ok (.pop, 1) := by decide +kernel
theorem dX1_writeResult_34 : decode cX1_writeResult 34 = .ok (.iconst 0, 1) := by decide +kernel
theorem dX1_writeResult_35 : decode cX1_writeResult 35 = .ok (.ireturn, 1) := by decide +kernel
theorem dX1_writeResult_36 : decode cX1_writeResult 36 = .ok (.aload_n 0, 1) := by decide +kernel
theorem dX1_writeResult_37 : decode cX1_writeResult 37 = .ok (.getfield 23, 3) := by decide +kernel
theorem dX1_writeResult_40 : decode cX1_writeResult 40 = .ok (.invokevirtual 58, 3) := by decide +kernel
theorem dX1_writeResult_43 : decode cX1_writeResult 43 = .ok (.lload_n 2, 1) := by decide +kernel
theorem dX1_writeResult_44 : decode cX1_writeResult 44 = .ok (.aload_n 0, 1) := by decide +kernel
theorem dX1_writeResult_45 : decode cX1_writeResult 45 = .ok (.getfield 23, 3) := by decide +kernel
theorem dX1_writeResult_48 : decode cX1_writeResult 48 = .ok (.invokestatic 126, 3) := by decide +kernel
theorem dX1_writeResult_51 : decode cX1_writeResult 51 = .ok (.aload_n 0, 1) := by decide +kernel
theorem dX1_writeResult_52 : decode cX1_writeResult 52 = .ok (.getfield 23, 3) := by decide +kernel
theorem dX1_writeResult_55 : decode cX1_writeResult 55 = .ok (.aload 4, 2) := by decide +kernel
theorem dX1_writeResult_57 : decode cX1_writeResult 57 = .ok (.getfield 130, 3) := by decide +kernel
theorem dX1_writeResult_60 : decode cX1_writeResult 60 = .ok (.invokevirtual 133, 3) := by decide +kernel
theorem dX1_writeResult_63 : decode cX1_writeResult 63 = .ok (.ifCond .eq 5, 3) := by decide +kernel
theorem dX1_writeResult_66 : decode cX1_writeResult 66 = .ok (.iconst 0, 1) := by decide +kernel
theorem dX1_writeResult_67 : decode cX1_writeResult 67 = .ok (.ireturn, 1) := by decide +kernel
theorem dX1_writeResult_68 : decode cX1_writeResult 68 = .ok (.aload 4, 2) := by decide +kernel
theorem dX1_writeResult_70 : decode cX1_writeResult 70 = .ok (.getfield 130, 3) := by decide +kernel
theorem dX1_writeResult_73 : decode cX1_writeResult 73 = .ok (.aload_n 0, 1) := by decide +kernel
theorem dX1_writeResult_74 : decode cX1_writeResult 74 = .ok (.getfield 23, 3) := by decide +kernel
theorem dX1_writeResult_77 : decode cX1_writeResult 77 = .ok (.invokevirtual 137, 3) := by decide +kernel
theorem dX1_writeResult_80 : decode cX1_writeResult 80 = .ok (.iconst 1, 1) := by decide +kernel
theorem dX1_writeResult_81 : decode cX1_writeResult 81 = .ok (.ireturn, 1) := by decide +kernel
theorem dX1_resultOf_0 : decode cX1_resultOf 0 = .ok (.aload_n 1, 1) := by decide +kernel
theorem dX1_resultOf_1 : decode cX1_resultOf 1 = .ok (.getfield 141, 3) := by decide +kernel
theorem dX1_resultOf_4 : decode cX1_resultOf 4 = .ok (.ifCond .eq 7, 3) := by decide +kernel
theorem dX1_resultOf_7 : decode cX1_resultOf 7 = .ok (.ldc2_w 114, 3) := by decide +kernel
theorem dX1_resultOf_10 : decode cX1_resultOf 10 = .ok (.lreturn, 1) := by decide +kernel
theorem dX1_resultOf_11 : decode cX1_resultOf 11 = .ok (.aload_n 1, 1) := by decide +kernel
theorem dX1_resultOf_12 : decode cX1_resultOf 12 = .ok (.getfield 85, 3) := by decide +kernel
theorem dX1_resultOf_15 : decode cX1_resultOf 15 = .ok (.bipush 7, 2) := by decide +kernel
theorem dX1_resultOf_17 : decode cX1_resultOf 17 = .ok (.if_icmp .ne 9, 3) := by decide +kernel
theorem dX1_resultOf_20 : decode cX1_resultOf 20 = .ok (.aload_n 1, 1) := by decide +kernel
theorem dX1_resultOf_21 : decode cX1_resultOf 21 = .ok (.getfield 88, 3) := by decide +kernel
theorem dX1_resultOf_24 : decode cX1_resultOf 24 = .ok (.i2l, 1) := by decide +kernel
theorem dX1_resultOf_25 : decode cX1_resultOf 25 = .ok (.lreturn, 1) := by decide +kernel
theorem dX1_resultOf_26 : decode cX1_resultOf 26 = .ok (.aload_n 1, 1) := by decide +kernel
theorem dX1_resultOf_27 : decode cX1_resultOf 27 = .ok (.getfield 85, 3) := by decide +kernel
theorem dX1_resultOf_30 : decode cX1_resultOf 30 = .ok (.bipush 6, 2) := by decide +kernel
theorem dX1_resultOf_32 : decode cX1_resultOf 32 = .ok (.if_icmp .ne 16, 3) := by decide +kernel
theorem dX1_resultOf_35 : decode cX1_resultOf 35 = .ok (.aload_n 0, 1) := by decide +kernel
theorem dX1_resultOf_36 : decode cX1_resultOf 36 = .ok (.aload_n 0, 1) := by decide +kernel
theorem dX1_resultOf_37 : decode cX1_resultOf 37 = .ok (.aload_n 1, 1) := by decide +kernel
theorem dX1_resultOf_38 : decode cX1_resultOf 38 = .ok (.getfield 88, 3) := by decide +kernel
theorem dX1_resultOf_41 : decode cX1_resultOf 41 = .ok (.invokevirtual 97, 3) := by decide +kernel
theorem dX1_resultOf_44 : decode cX1_resultOf 44 = .ok (.invokevirtual 145, 3) := by decide +kernel
theorem dX1_resultOf_47 : decode cX1_resultOf 47 = .ok (.lreturn, 1) := by decide +kernel
theorem dX1_resultOf_48 : decode cX1_resultOf 48 = .ok (.aload_n 0, 1) := by decide +kernel
theorem dX1_resultOf_49 : decode cX1_resultOf 49 = .ok (.getfield 30, 3) := by decide +kernel
theorem dX1_resultOf_52 : decode cX1_resultOf 52 = .ok (.aload_n 1, 1) := by decide +kernel
theorem dX1_resultOf_53 : decode cX1_resultOf 53 = .ok (.getfield 88, 3) := by decide +kernel
theorem dX1_resultOf_56 : decode cX1_resultOf 56 = .ok (.invokevirtual 149, 3) := by decide +kernel
theorem dX1_resultOf_59 : decode cX1_resultOf 59 = .ok (.invokevirtual 152, 3) := by decide +kernel
theorem dX1_resultOf_62 : decode cX1_resultOf 62 = .ok (.lstore_n 2, 1) := by decide +kernel
theorem dX1_resultOf_63 : decode cX1_resultOf 63 = .ok (.aload_n 0, 1) := by decide +kernel
theorem dX1_resultOf_64 : decode cX1_resultOf 64 = .ok (.getfield 30, 3) := by decide +kernel
theorem dX1_resultOf_67 : decode cX1_resultOf 67 = .ok (.aload_n 1, 1) := by decide +kernel
theorem dX1_resultOf_68 : decode cX1_resultOf 68 = .ok (.getfield 94, 3) := by decide +kernel
theorem dX1_resultOf_71 : decode cX1_resultOf 71 = .ok (.invokevirtual 149, 3) := by decide +kernel
theorem dX1_resultOf_74 : decode cX1_resultOf 74 = .ok (.invokevirtual 152, 3) := by decide +kernel
theorem dX1_resultOf_77 : decode cX1_resultOf 77 = .ok (.lstore 4, 2) := by decide +kernel
theorem dX1_resultOf_79 : decode cX1_resultOf 79 = .ok (.lload_n 2, 1) := by decide +kernel
theorem dX1_resultOf_80 : decode cX1_resultOf 80 = .ok (.ldc2_w 114, 3) := by decide +kernel
theorem dX1_resultOf_83 : decode cX1_resultOf 83 = .ok (.lcmp, 1) := by decide +kernel
theorem dX1_resultOf_84 : decode cX1_resultOf 84 = .ok (.ifCond .eq 12, 3) := by decide +kernel
theorem dX1_resultOf_87 : decode cX1_resultOf 87 = .ok (.lload 4, 2) := by decide +kernel
theorem dX1_resultOf_89 : decode cX1_resultOf 89 = .ok (.ldc2_w 114, 3) := by decide +kernel
theorem dX1_resultOf_92 : decode cX1_resultOf 92 = .ok (.lcmp, 1) := by decide +kernel
theorem dX1_resultOf_93 : decode cX1_resultOf 93 = .ok (.ifCond .ne 7, 3) := by decide +kernel
theorem dX1_resultOf_96 : decode cX1_resultOf 96 = .ok (.ldc2_w 114, 3) := by decide +kernel
theorem dX1_resultOf_99 : decode cX1_resultOf 99 = .ok (.lreturn, 1) := by decide +kernel
theorem dX1_resultOf_100 : decode cX1_resultOf 100 = .ok (.aload_n 1, 1) := by decide +kernel
theorem dX1_resultOf_101 : decode cX1_resultOf 101 = .ok (.getfield 85, 3) := by decide +kernel
theorem dX1_resultOf_104 : decode cX1_resultOf 104 = .ok (.lload_n 2, 1) := by decide +kernel
theorem dX1_resultOf_105 : decode cX1_resultOf 105 = .ok (.lload 4, 2) := by decide +kernel
theorem dX1_resultOf_107 : decode cX1_resultOf 107 = .ok (.invokestatic 155, 3) := by decide +kernel
theorem dX1_resultOf_110 : decode cX1_resultOf 110 = .ok (.lreturn, 1) := by decide +kernel
theorem dX1_sumOf_0 : decode cX1_sumOf 0 = .ok (.lconst 0, 1) := by decide +kernel
theorem dX1_sumOf_1 : decode cX1_sumOf 1 = .ok (.lstore_n 3, 1) := by decide +kernel
theorem dX1_sumOf_2 : decode cX1_sumOf 2 = .ok (.iconst 0, 1) := by decide +kernel
theorem dX1_sumOf_3 : decode cX1_sumOf 3 = .ok (.istore 5, 2) := by decide +kernel
theorem dX1_sumOf_5 : decode cX1_sumOf 5 = .ok (.iload 5, 2) := by decide +kernel
theorem dX1_sumOf_7 : decode cX1_sumOf 7 = .ok (.aload_n 0, 1) := by decide +kernel
theorem dX1_sumOf_8 : decode cX1_sumOf 8 = .ok (.getfield 30, 3) := by decide +kernel
theorem dX1_sumOf_11 : decode cX1_sumOf 11 = .ok (.invokevirtual 79, 3) := by decide +kernel
theorem dX1_sumOf_14 : decode cX1_sumOf 14 = .ok (.if_icmp .ge 50, 3) := by decide +kernel
theorem dX1_sumOf_17 : decode cX1_sumOf 17 = .ok (.lload_n 1, 1) := by decide +kernel
theorem dX1_sumOf_18 : decode cX1_sumOf 18 = .ok (.iload 5, 2) := by decide +kernel
theorem dX1_sumOf_20 : decode cX1_sumOf 20 = .ok (.invokestatic 110, 3) := by decide +kernel
theorem dX1_sumOf_23 : decode cX1_sumOf 23 = .ok (.ifCond .eq 35, 3) := by decide +kernel
theorem dX1_sumOf_26 : decode cX1_sumOf 26 = .ok (.aload_n 0, 1) := by decide +kernel
theorem dX1_sumOf_27 : decode cX1_sumOf 27 = .ok (.getfield 30, 3) := by decide +kernel
theorem dX1_sumOf_30 : decode cX1_sumOf 30 = .ok (.iload 5, 2) := by decide +kernel
theorem dX1_sumOf_32 : decode cX1_sumOf 32 = .ok (.invokevirtual 34, 3) := by decide +kernel
theorem dX1_sumOf_35 : decode cX1_sumOf 35 = .ok (.invokevirtual 152, 3) := by decide +kernel
theorem dX1_sumOf_38 : decode cX1_sumOf 38 = .ok (.lstore 6, 2) := by decide +kernel
theorem dX1_sumOf_40 : decode cX1_sumOf 40 = .ok (.lload 6, 2) := by decide +kernel
theorem dX1_sumOf_42 : decode cX1_sumOf 42 = .ok (.ldc2_w 114, 3) := by decide +kernel
theorem dX1_sumOf_45 : decode cX1_sumOf 45 = .ok (.lcmp, 1) := by decide +kernel
theorem dX1_sumOf_46 : decode cX1_sumOf 46 = .ok (.ifCond .ne 7, 3) := by decide +kernel
theorem dX1_sumOf_49 : decode cX1_sumOf 49 = .ok (.ldc2_w 114, 3) := by decide +kernel
theorem dX1_sumOf_52 : decode cX1_sumOf 52 = .ok (.lreturn, 1) := by decide +kernel
theorem dX1_sumOf_53 : decode cX1_sumOf 53 = .ok (.lload_n 3, 1) := by decide +kernel
theorem dX1_sumOf_54 : decode cX1_sumOf 54 = .ok (.lload 6, 2) := by decide +kernel
theorem dX1_sumOf_56 : decode cX1_sumOf 56 = .ok (.ladd, 1) := by decide +kernel
theorem dX1_sumOf_57 : decode cX1_sumOf 57 = .ok (.lstore_n 3, 1) := by decide +kernel
theorem dX1_sumOf_58 : decode cX1_sumOf 58 = .ok (.iinc 5 1, 3) := by decide +kernel
theorem dX1_sumOf_61 : decode cX1_sumOf 61 = .ok (.goto (-56), 3) := by decide +kernel
theorem dX1_sumOf_64 : decode cX1_sumOf 64 = .ok (.lload_n 3, 1) := by decide +kernel
theorem dX1_sumOf_65 : decode cX1_sumOf 65 = .ok (.lreturn, 1) := by decide +kernel
theorem dX2_init_0 : decode cX2_init 0 = .ok (.aload_n 0, 1) := by decide +kernel
theorem dX2_init_1 : decode cX2_init 1 = .ok (.invokespecial 3, 3) := by decide +kernel
theorem dX2_init_4 : decode cX2_init 4 = .ok (.aload_n 0, 1) := by decide +kernel
theorem dX2_init_5 : decode cX2_init 5 = .ok (.bipush 8, 2) := by decide +kernel
theorem dX2_init_7 : decode cX2_init 7 = .ok (.newarray .int, 2) := by decide +kernel
theorem dX2_init_9 : decode cX2_init 9 = .ok (.putfield 9, 3) := by decide +kernel
theorem dX2_init_12 : decode cX2_init 12 = .ok (.aload_n 0, 1) := by decide +kernel
theorem dX2_init_13 : decode cX2_init 13 = .ok (.new 15, 3) := by decide +kernel
theorem dX2_init_16 : decode cX2_init 16 = .ok (.dup, 1) := by decide +kernel
theorem dX2_init_17 : decode cX2_init 17 = .ok (.bipush 30, 2) := by decide +kernel
theorem dX2_init_19 : decode cX2_init 19 = .ok (.invokespecial 17, 3) := by decide +kernel
theorem dX2_init_22 : decode cX2_init 22 = .ok (.putfield 20, 3) := by decide +kernel
theorem dX2_init_25 : decode cX2_init 25 = .ok (.aload_n 0, 1) := by decide +kernel
theorem dX2_init_26 : decode cX2_init 26 = .ok (.new 15, 3) := by decide +kernel
theorem dX2_init_29 : decode cX2_init 29 = .ok (.dup, 1) := by decide +kernel
theorem dX2_init_30 : decode cX2_init 30 = .ok (.bipush 12, 2) := by decide +kernel
theorem dX2_init_32 : decode cX2_init 32 = .ok (.invokespecial 17, 3) := by decide +kernel
theorem dX2_init_35 : decode cX2_init 35 = .ok (.putfield 24, 3) := by decide +kernel
theorem dX2_init_38 : decode cX2_init 38 = .ok (.aload_n 0, 1) := by decide +kernel
theorem dX2_init_39 : decode cX2_init 39 = .ok (.ldc2_w 27, 3) := by decide +kernel
theorem dX2_init_42 : decode cX2_init 42 = .ok (.putfield 29, 3) := by decide +kernel
theorem dX2_init_45 : decode cX2_init 45 = .ok (.aload_n 0, 1) := by decide +kernel
theorem dX2_init_46 : decode cX2_init 46 = .ok (.ldc2_w 33, 3) := by decide +kernel
theorem dX2_init_49 : decode cX2_init 49 = .ok (.putfield 35, 3) := by decide +kernel
theorem dX2_init_52 : decode cX2_init 52 = .ok (.aload_n 0, 1) := by decide +kernel
theorem dX2_init_53 : decode cX2_init 53 = .ok (.iconst (-1), 1) := by decide +kernel
theorem dX2_init_54 : decode cX2_init 54 = .ok (.putfield 38, 3) := by decide +kernel
theorem dX2_init_57 : decode cX2_init 57 = .ok (.return_, 1) := by decide +kernel
theorem dX2_begin_0 : decode cX2_begin 0 = .ok (.aload_n 0, 1) := by decide +kernel
theorem dX2_begin_1 : decode cX2_begin 1 = .ok (.iload_n 1, 1) := by decide +kernel
theorem dX2_begin_2 : decode cX2_begin 2 = .ok (.putfield 42, 3) := by decide +kernel
theorem dX2_begin_5 : decode cX2_begin 5 = .ok (.aload_n 0, 1) := by decide +kernel
theorem dX2_begin_6 : decode cX2_begin 6 = .ok (.iload_n 2, 1) := by decide +kernel
theorem dX2_begin_7 : decode cX2_begin 7 = .ok (.putfield 45, 3) := by decide +kernel
theorem dX2_begin_10 : decode cX2_begin 10 = .ok (.aload_n 0, 1) := by decide +kernel
theorem dX2_begin_11 : decode cX2_begin 11 = .ok (.iload_n 3, 1) := by decide +kernel
theorem dX2_begin_12 : decode cX2_begin 12 = .ok (.putfield 48, 3) := by decide +kernel
theorem dX2_begin_15 : decode cX2_begin 15 = .ok (.aload_n 0, 1) := by decide +kernel
theorem dX2_begin_16 : decode cX2_begin 16 = .ok (.iload 4, 2) := by decide +kernel
theorem dX2_begin_18 : decode cX2_begin 18 = .ok (.putfield 51, 3) := by decide +kernel
theorem dX2_begin_21 : decode cX2_begin 21 = .ok (.aload_n 0, 1) := by decide +kernel
theorem dX2_begin_22 : decode cX2_begin 22 = .ok (.iload 5, 2) := by decide +kernel
theorem dX2_begin_24 : decode cX2_begin 24 = .ok (.putfield 54, 3) := by decide +kernel
theorem dX2_begin_27 : decode cX2_begin 27 = .ok (.aload_n 0, 1) := by decide +kernel
theorem dX2_begin_28 : decode cX2_begin 28 = .ok (.aload_n 0, 1) := by decide +kernel
theorem dX2_begin_29 : decode cX2_begin 29 = .ok (.invokevirtual 57, 3) := by decide +kernel
theorem dX2_begin_32 : decode cX2_begin 32 = .ok (.ifCond .eq 7, 3) := by decide +kernel
theorem dX2_begin_35 : decode cX2_begin 35 = .ok (.iconst (-1), 1) := by decide +kernel
theorem dX2_begin_36 : decode cX2_begin 36 = .ok (.goto 4, 3) := by decide +kernel
theorem dX2_begin_39 : decode cX2_begin 39 = .ok (.iconst 0, 1) := by decide +kernel
theorem dX2_begin_40 : decode cX2_begin 40 = .ok (.putfield 61, 3) := by decide +kernel
theorem dX2_begin_43 : decode cX2_begin 43 = .ok (.aload_n 0, 1) := by decide +kernel
theorem dX2_begin_44 : decode cX2_begin 44 = .ok (.getfield 9, 3) := by decide +kernel
theorem dX2_begin_47 : decode cX2_begin 47 = .ok (.iconst 3, 1) := by decide +kernel
theorem dX2_begin_48 : decode cX2_begin 48 = .ok (.iconst 3, 1) := by decide +kernel
theorem dX2_begin_49 : decode cX2_begin 49 = .ok (.iastore, 1) := by decide +kernel
theorem dX2_begin_50 : decode cX2_begin 50 = .ok (.aload_n 0, 1) := by decide +kernel
theorem dX2_begin_51 : decode cX2_begin 51 = .ok (.getfield 9, 3) := by decide +kernel
theorem dX2_begin_54 : decode cX2_begin 54 = .ok (.iconst 5, 1) := by decide +kernel
theorem dX2_begin_55 : decode cX2_begin 55 = .ok (.sipush 800, 3) := by decide +kernel
theorem dX2_begin_58 : decode cX2_begin 58 = .ok (.iastore, 1) := by decide +kernel
theorem dX2_begin_59 : decode cX2_begin 59 = .ok (.aload_n 0, 1) := by decide +kernel
theorem dX2_begin_60 : decode cX2_begin 60 = .ok (.getfield 9, 3) := by decide +kernel
theorem dX2_begin_63 : decode cX2_begin 63 = .ok (.bipush 6, 2) := by decide +kernel
theorem dX2_begin_65 : decode cX2_begin 65 = .ok (.sipush 160, 3) := by decide +kernel
theorem dX2_begin_68 : decode cX2_begin 68 = .ok (.iastore, 1) := by decide +kernel
theorem dX2_begin_69 : decode cX2_begin 69 = .ok (.return_, 1) := by decide +kernel
theorem dX2_hasSigns_0 : decode cX2_hasSigns 0 = .ok (.aload_n 0, 1) := by decide +kernel
theorem dX2_hasSigns_1 : decode cX2_hasSigns 1 = .ok (.getfield 48, 3) := by decide +kernel
theorem dX2_hasSigns_4 : decode cX2_hasSigns 4 = .ok (.iconst 1, 1) := by decide +kernel
theorem dX2_hasSigns_5 : decode cX2_hasSigns 5 = .ok (.if_icmp .eq 11, 3) := by decide +kernel
theorem dX2_hasSigns_8 : decode cX2_hasSigns 8 = .ok (.aload_n 0, 1) := by decide +kernel
theorem dX2_hasSigns_9 : decode cX2_hasSigns 9 = .ok (.getfield 48, 3) := by decide +kernel
theorem dX2_hasSigns_12 : decode cX2_hasSigns 12 = .ok (.iconst 5, 1) := by decide +kernel
theorem dX2_hasSigns_13 : decode cX2_hasSigns 13 = .ok (.if_icmp .ne 7, 3) := by decide +kernel
theorem dX2_hasSigns_16 : decode cX2_hasSigns 16 = .ok (.iconst 1, 1) := by decide +kernel
theorem dX2_hasSigns_17 : decode cX2_hasSigns 17 = .ok (.goto 4, 3) := by decide +kernel
theorem dX2_hasSigns_20 : decode cX2_hasSigns 20 = .ok (.iconst 0, 1) := by decide +kernel
theorem dX2_hasSigns_21 : decode cX2_hasSigns 21 = .ok (.ireturn, 1) := by decide +kernel
theorem dX2_hasOptions_0 : decode cX2_hasOptions 0 = .ok (.aload_n 0, 1) := by decide +kernel
theorem dX2_hasOptions_1 : decode cX2_hasOptions 1 = .ok (.getfield 48, 3) := by decide +kernel
theorem dX2_hasOptions_4 : decode cX2_hasOptions 4 = .ok (.iconst 3, 1) := by decide +kernel
theorem dX2_hasOptions_5 : decode cX2_hasOptions 5 = .ok (.if_icmp .eq 11, 3) := by decide +kernel
theorem dX2_hasOptions_8 : decode cX2_hasOptions 8 = .ok (.aload_n 0, 1) := by decide +kernel
theorem dX2_hasOptions_9 : decode cX2_hasOptions 9 = .ok (.getfield 48, 3) := by decide +kernel
theorem dX2_hasOptions_12 : decode cX2_hasOptions 12 = .ok (.iconst 4, 1) := by decide +kernel
theorem dX2_hasOptions_13 : decode cX2_hasOptions 13 = .ok (.if_icmp .ne 7, 3) := by decide +kernel
theorem dX2_hasOptions_16 : decode cX2_hasOptions 16 = .ok (.iconst 1, 1) := by decide +kernel
theorem dX2_hasOptions_17 : decode cX2_hasOptions 17 = .ok (.goto 4, 3) := by decide +kernel
theorem dX2_hasOptions_20 : decode cX2_hasOptions 20 = .ok (.iconst 0, 1) := by decide +kernel
theorem dX2_hasOptions_21 : decode cX2_hasOptions 21 = .ok (.ireturn, 1) := by decide +kernel
theorem dX2_isSign_0 : decode cX2_isSign 0 = .ok (.aload_n 0, 1) := by decide +kernel
theorem dX2_isSign_1 : decode cX2_isSign 1 = .ok (.getfield 48, 3) := by decide +kernel
theorem dX2_isSign_4 : decode cX2_isSign 4 = .ok (.iconst 5, 1) := by decide +kernel
theorem dX2_isSign_5 : decode cX2_isSign 5 = .ok (.if_icmp .ne 33, 3) := by decide +kernel
theorem dX2_isSign_8 : decode cX2_isSign 8 = .ok (.iload_n 1, 1) := by decide +kernel
theorem dX2_isSign_9 : decode cX2_isSign 9 = .ok (.bipush 48, 2) := by decide +kernel
theorem dX2_isSign_11 : decode cX2_isSign 11 = .ok (.if_icmp .lt 9, 3) := by decide +kernel
theorem dX2_isSign_14 : decode cX2_isSign 14 = .ok (.iload_n 1, 1) := by decide +kernel
theorem dX2_isSign_15 : decode cX2_isSign 15 = .ok (.bipush 57, 2) := by decide +kernel
theorem dX2_isSign_17 : decode cX2_isSign 17 = .ok (.if_icmp .le 15, 3) := by decide +kernel
theorem dX2_isSign_20 : decode cX2_isSign 20 = .ok (.iload_n 1, 1) := by decide +kernel
theorem dX2_isSign_21 : decode cX2_isSign 21 = .ok (.bipush 45, 2) := by decide +kernel
theorem dX2_isSign_23 : decode cX2_isSign 23 = .ok (.if_icmp .eq 9, 3) := by decide +kernel
theorem dX2_isSign_26 : decode cX2_isSign 26 = .ok (.iload_n 1, 1) := by decide +kernel
theorem dX2_isSign_27 : decode cX2_isSign 27 = .ok (.bipush 46, 2) := by decide +kernel
theorem dX2_isSign_29 : decode cX2_isSign 29 = .ok (.if_icmp .ne 7, 3) := by decide +kernel
theorem dX2_isSign_32 : decode cX2_isSign 32 = .ok (.iconst 1, 1) := by decide +kernel
theorem dX2_isSign_33 : decode cX2_isSign 33 = .ok (.goto 4, 3) := by decide +kernel
theorem dX2_isSign_36 : decode cX2_isSign 36 = .ok (.iconst 0, 1) := by decide +kernel
theorem dX2_isSign_37 : decode cX2_isSign 37 = .ok (.ireturn, 1) := by decide +kernel
theorem dX2_isSign_38 : decode cX2_isSign 38 = .ok (.aload_n 0, 1) := by decide +kernel
theorem dX2_isSign_39 : decode cX2_isSign 39 = .ok (.getfield 48, 3) := by decide +kernel
theorem dX2_isSign_42 : decode cX2_isSign 42 = .ok (.iconst 1, 1) := by decide +kernel
theorem dX2_isSign_43 : decode cX2_isSign 43 = .ok (.if_icmp .ne 19, 3) := by decide +kernel
theorem dX2_isSign_46 : decode cX2_isSign 46 = .ok (.iload_n 1, 1) := by decide +kernel
theorem dX2_isSign_47 : decode cX2_isSign 47 = .ok (.bipush 32, 2) := by decide +kernel
theorem dX2_isSign_49 : decode cX2_isSign 49 = .ok (.if_icmp .lt 13, 3) := by decide +kernel
theorem dX2_isSign_52 : decode cX2_isSign 52 = .ok (.iload_n 1, 1) := by decide +kernel
theorem dX2_isSign_53 : decode cX2_isSign 53 = .ok (.bipush 126, 2) := by decide +kernel
theorem dX2_isSign_55 : decode cX2_isSign 55 = .ok (.if_icmp .gt 7, 3) := by decide +kernel
theorem dX2_isSign_58 : decode cX2_isSign 58 = .ok (.iconst 1, 1) := by decide +kernel
theorem dX2_isSign_59 : decode cX2_isSign 59 = .ok (.goto 4, 3) := by decide +kernel
theorem dX2_isSign_62 : decode cX2_isSign 62 = .ok (.iconst 0, 1) := by decide +kernel
theorem dX2_isSign_63 : decode cX2_isSign 63 = .ok (.ireturn, 1) := by decide +kernel
theorem dX2_room_0 : decode cX2_room 0 = .ok (.aload_n 0, 1) := by decide +kernel
theorem dX2_room_1 : decode cX2_room 1 = .ok (.getfield 48, 3) := by decide +kernel
theorem dX2_room_4 : decode cX2_room 4 = .ok (.iconst 5, 1) := by decide +kernel
theorem dX2_room_5 : decode cX2_room 5 = .ok (.if_icmp .ne 6, 3) := by decide +kernel
theorem dX2_room_8 : decode cX2_room 8 = .ok (.bipush 14, 2) := by decide +kernel
theorem dX2_room_10 : decode cX2_room 10 = .ok (.ireturn, 1) := by decide +kernel
theorem dX2_room_11 : decode cX2_room 11 = .ok (.aload_n 0, 1) := by decide +kernel
theorem dX2_room_12 : decode cX2_room 12 = .ok (.getfield 9, 3) := by decide +kernel
theorem dX2_room_15 : decode cX2_room 15 = .ok (.iconst 1, 1) := by decide +kernel
theorem dX2_room_16 : decode cX2_room 16 = .ok (.iaload, 1) := by decide +kernel
theorem dX2_room_17 : decode cX2_room 17 = .ok (.ifCond .le 12, 3) := by decide +kernel
theorem dX2_room_20 : decode cX2_room 20 = .ok (.aload_n 0, 1) := by decide +kernel
theorem dX2_room_21 : decode cX2_room 21 = .ok (.getfield 9, 3) := by decide +kernel
theorem dX2_room_24 : decode cX2_room 24 = .ok (.iconst 1, 1) := by decide +kernel
theorem dX2_room_25 : decode cX2_room 25 = .ok (.iaload, 1) := by decide +kernel
theorem dX2_room_26 : decode cX2_room 26 = .ok (.goto 5, 3) := by decide +kernel
theorem dX2_room_29 : decode cX2_room 29 = .ok (.bipush 30, 2) := by decide +kernel
theorem dX2_room_31 : decode cX2_room 31 = .ok (.ireturn, 1) := by decide +kernel
theorem dX2_mayBeNone_0 : decode cX2_mayBeNone 0 = .ok (.aload_n 0, 1) := by decide +kernel
theorem dX2_mayBeNone_1 : decode cX2_mayBeNone 1 = .ok (.getfield 48, 3) := by decide +kernel
theorem dX2_mayBeNone_4 : decode cX2_mayBeNone 4 = .ok (.iconst 4, 1) := by decide +kernel
theorem dX2_mayBeNone_5 : decode cX2_mayBeNone 5 = .ok (.if_icmp .eq 29, 3) := by decide +kernel
theorem dX2_mayBeNone_8 : decode cX2_mayBeNone 8 = .ok (.aload_n 0, 1) := by decide +kernel
theorem dX2_mayBeNone_9 : decode cX2_mayBeNone 9 = .ok (.getfield 48, 3) := by decide +kernel
theorem dX2_mayBeNone_12 : decode cX2_mayBeNone 12 = .ok (.iconst 3, 1) := by decide +kernel
theorem dX2_mayBeNone_13 : decode cX2_mayBeNone 13 = .ok (.if_icmp .ne 25, 3) := by decide +kernel
theorem dX2_mayBeNone_16 : decode cX2_mayBeNone 16 = .ok (.aload_n 0, 1) := by decide +kernel
theorem dX2_mayBeNone_17 : decode cX2_mayBeNone 17 = .ok (.getfield 9, 3) := by decide +kernel
theorem dX2_mayBeNone_20 : decode cX2_mayBeNone 20 = .ok (.iconst 2, 1) := by decide +kernel
theorem dX2_mayBeNone_21 : decode cX2_mayBeNone 21 = .ok (.iaload, 1) := by decide +kernel
theorem dX2_mayBeNone_22 : decode cX2_mayBeNone 22 = .ok (.iconst 1, 1) := by decide +kernel
theorem dX2_mayBeNone_23 : decode cX2_mayBeNone 23 = .ok (.if_icmp .eq 11, 3) := by decide +kernel
theorem dX2_mayBeNone_26 : decode cX2_mayBeNone 26 = .ok (.aload_n 0, 1) := by decide +kernel
theorem dX2_mayBeNone_27 : decode cX2_mayBeNone 27 = .ok (.getfield 61, 3) := by decide +kernel
theorem dX2_mayBeNone_30 : decode cX2_mayBeNone 30 = .ok (.iconst (-1), 1) := by decide +kernel
theorem dX2_mayBeNone_31 : decode cX2_mayBeNone 31 = .ok (.if_icmp .ne 7, 3) := by decide +kernel
theorem dX2_mayBeNone_34 : decode cX2_mayBeNone 34 = .ok (.iconst 1, 1) := by decide +kernel
theorem dX2_mayBeNone_35 : decode cX2_mayBeNone 35 = .ok (.goto 4, 3) := by decide +kernel
theorem dX2_mayBeNone_38 : decode cX2_mayBeNone 38 = .ok (.iconst 0, 1) := by decide +kernel
theorem dX2_mayBeNone_39 : decode cX2_mayBeNone 39 = .ok (.ireturn, 1) := by decide +kernel
theorem dX2_couldTake_0 : decode cX2_couldTake 0 = .ok (.aload_n 0, 1) := by decide +kernel
theorem dX2_couldTake_1 : decode cX2_couldTake 1 = .ok (.invokevirtual 64, 3) := by decide +kernel
theorem dX2_couldTake_4 : decode cX2_couldTake 4 = .ok (.ifCond .eq 22, 3) := by decide +kernel
theorem dX2_couldTake_7 : decode cX2_couldTake 7 = .ok (.iload_n 1, 1) := by decide +kernel
theorem dX2_couldTake_8 : decode cX2_couldTake 8 = .ok (.iconst (-1), 1) := by decide +kernel
theorem dX2_couldTake_9 : decode cX2_couldTake 9 = .ok (.if_icmp .eq 11, 3) := by decide +kernel
theorem dX2_couldTake_12 : decode cX2_couldTake 12 = .ok (.aload_n 0, 1) := by decide +kernel
theorem dX2_couldTake_13 : decode cX2_couldTake 13 = .ok (.iload_n 1, 1) := by decide +kernel
theorem dX2_couldTake_14 : decode cX2_couldTake 14 = .ok (.invokevirtual 67, 3) := by decide +kernel
theorem dX2_couldTake_17 : decode cX2_couldTake 17 = .ok (.ifCond .eq 7, 3) := by decide +kernel
theorem dX2_couldTake_20 : decode cX2_couldTake 20 = .ok (.iconst 1, 1) := by decide +kernel
theorem dX2_couldTake_21 : decode cX2_couldTake 21 = .ok (.goto 4, 3) := by decide +kernel
theorem dX2_couldTake_24 : decode cX2_couldTake 24 = .ok (.iconst 0, 1) := by decide +kernel
theorem dX2_couldTake_25 : decode cX2_couldTake 25 = .ok (.ireturn, 1) := by decide +kernel
theorem dX2_couldTake_26 : decode cX2_couldTake 26 = .ok (.aload_n 0, 1) := by decide +kernel
theorem dX2_couldTake_27 : decode cX2_couldTake 27 = .ok (.invokevirtual 57, 3) := by decide +kernel
theorem dX2_couldTake_30 : decode cX2_couldTake 30 = .ok (.ifCond .eq 24, 3) := by decide +kernel
theorem dX2_couldTake_33 : decode cX2_couldTake 33 = .ok (.iload_n 1, 1) := by decide +kernel
theorem dX2_couldTake_34 : decode cX2_couldTake 34 = .ok (.iconst (-1), 1) := by decide +kernel
theorem dX2_couldTake_35 : decode cX2_couldTake 35 = .ok (.if_icmp .ne 10, 3) := by decide +kernel
theorem dX2_couldTake_38 : decode cX2_couldTake 38 = .ok (.aload_n 0, 1) := by decide +kernel
theorem dX2_couldTake_39 : decode cX2_couldTake 39 = .ok (.invokevirtual 71, 3) := by decide +kernel
theorem dX2_couldTake_42 : decode cX2_couldTake 42 = .ok (.goto 11, 3) := by decide +kernel
theorem dX2_couldTake_45 : decode cX2_couldTake 45 = .ok (.aload_n 0, 1) := by decide +kernel
theorem dX2_couldTake_46 : decode cX2_couldTake 46 = .ok (.getfield 24, 3) := by decide +kernel
theorem dX2_couldTake_49 : decode cX2_couldTake 49 = .ok (.iload_n 1, 1) := by decide +kernel
theorem dX2_couldTake_50 : decode cX2_couldTake 50 = .ok (.invokevirtual 74, 3) := by decide +kernel
theorem dX2_couldTake_53 : decode cX2_couldTake 53 = .ok (.ireturn, 1) := by decide +kernel
theorem dX2_couldTake_54 : decode cX2_couldTake 54 = .ok (.aload_n 0, 1) := by decide +kernel
theorem dX2_couldTake_55 : decode cX2_couldTake 55 = .ok (.getfield 48, 3) := by decide +kernel
theorem dX2_couldTake_58 : decode cX2_couldTake 58 = .ok (.iconst 2, 1) := by decide +kernel
theorem dX2_couldTake_59 : decode cX2_couldTake 59 = .ok (.if_icmp .ne 14, 3) := by decide +kernel
theorem dX2_couldTake_62 : decode cX2_couldTake 62 = .ok (.iload_n 1, 1) := by decide +kernel
theorem dX2_couldTake_63 : decode cX2_couldTake 63 = .ok (.invokestatic 77, 3) := by decide +kernel
theorem dX2_couldTake_66 : decode cX2_couldTake 66 = .ok (.ifCond .eq 7, 3) := by decide +kernel
theorem dX2_couldTake_69 : decode cX2_couldTake 69 = .ok (.iconst 1, 1) := by decide +kernel
theorem dX2_couldTake_70 : decode cX2_couldTake 70 = .ok (.goto 4, 3) := by decide +kernel
theorem dX2_couldTake_73 : decode cX2_couldTake 73 = .ok (.iconst 0, 1) := by decide +kernel
theorem dX2_couldTake_74 : decode cX2_couldTake 74 = .ok (.ireturn, 1) := by decide +kernel
theorem dX2_takeSign_0 : decode cX2_takeSign 0 = .ok (.iload_n 1, 1) := by decide +kernel
theorem dX2_takeSign_1 : decode cX2_takeSign 1 = .ok (.iconst (-1), 1) := by decide +kernel
theorem dX2_takeSign_2 : decode cX2_takeSign 2 = .ok (.if_icmp .ne 12, 3) := by decide +kernel
theorem dX2_takeSign_5 : decode cX2_takeSign 5 = .ok (.aload_n 0, 1) := by decide +kernel
theorem dX2_takeSign_6 : decode cX2_takeSign 6 = .ok (.getfield 20, 3) := by decide +kernel
theorem dX2_takeSign_9 : decode cX2_takeSign 9 = .ok (.invokevirtual 80, 3) := by decide +kernel
theorem dX2_takeSign_12 : decode cX2_takeSign 12 = .ok (.iconst 0, 1) := by decide +kernel
theorem dX2_takeSign_13 : decode cX2_takeSign 13 = .ok (.ireturn, 1) := by decide +kernel
theorem dX2_takeSign_14 : decode cX2_takeSign 14 = .ok (.aload_n 0, 1) := by decide +kernel
theorem dX2_takeSign_15 : decode cX2_takeSign 15 = .ok (.getfield 20, 3) := by decide +kernel
theorem dX2_takeSign_18 : decode cX2_takeSign 18 = .ok (.invokevirtual 83, 3) := by decide +kernel
theorem dX2_takeSign_21 : decode cX2_takeSign 21 = .ok (.aload_n 0, 1) := by decide +kernel
theorem dX2_takeSign_22 : decode cX2_takeSign 22 = .ok (.invokevirtual 87, 3) := by decide +kernel
theorem dX2_takeSign_25 : decode cX2_takeSign 25 = .ok (.if_icmp .lt 11, 3) := by decide +kernel
theorem dX2_takeSign_28 : decode cX2_takeSign 28 = .ok (.new 90, 3) := by decide +kernel
theorem dX2_takeSign_31 : decode cX2_takeSign 31 = .ok (.dup, 1) := by decide +kernel
theorem dX2_takeSign_32 : decode cX2_takeSign 32 = .ok (.invokespecial 92, 3) := by decide +kernel
theorem dX2_takeSign_35 : decode cX2_takeSign 35 = .ok (.athrow, 1) := by decide +kernel
theorem dX2_takeSign_36 : decode cX2_takeSign 36 = .ok (.aload_n 0, 1) := by decide +kernel
theorem dX2_takeSign_37 : decode cX2_takeSign 37 = .ok (.getfield 20, 3) := by decide +kernel
theorem dX2_takeSign_40 : decode cX2_takeSign 40 = .ok (.iload_n 1, 1) := by decide +kernel
theorem dX2_takeSign_41 : decode cX2_takeSign 41 = .ok (.invokevirtual 93, 3) := by decide +kernel
theorem dX2_takeSign_44 : decode cX2_takeSign 44 = .ok (.pop, 1) := by decide +kernel
theorem dX2_takeSign_45 : decode cX2_takeSign 45 = .ok (.aload_n 0, 1) := by decide +kernel
theorem dX2_takeSign_46 : decode cX2_takeSign 46 = .ok (.getfield 20, 3) := by decide +kernel
theorem dX2_takeSign_49 : decode cX2_takeSign 49 = .ok (.invokevirtual 83, 3) := by decide +kernel
theorem dX2_takeSign_52 : decode cX2_takeSign 52 = .ok (.ireturn, 1) := by decide +kernel
theorem dX2_pick_0 : decode cX2_pick 0 = .ok (.aload_n 0, 1) := by decide +kernel
theorem dX2_pick_1 : decode cX2_pick 1 = .ok (.iload_n 1, 1) := by decide +kernel
theorem dX2_pick_2 : decode cX2_pick 2 = .ok (.putfield 61, 3) := by decide +kernel
theorem dX2_pick_5 : decode cX2_pick 5 = .ok (.iload_n 1, 1) := by decide +kernel
theorem dX2_pick_6 : decode cX2_pick 6 = .ok (.ireturn, 1) := by decide +kernel
theorem dX2_isFlag_0 : decode cX2_isFlag 0 = .ok (.iload_n 0, 1) := by decide +kernel
theorem dX2_isFlag_1 : decode cX2_isFlag 1 = .ok (.ifCond .eq 8, 3) := by decide +kernel
theorem dX2_isFlag_4 : decode cX2_isFlag 4 = .ok (.iload_n 0, 1) := by decide +kernel
theorem dX2_isFlag_5 : decode cX2_isFlag 5 = .ok (.iconst 1, 1) := by decide +kernel
theorem dX2_isFlag_6 : decode cX2_isFlag 6 = .ok (.if_icmp .ne 7, 3) := by decide +kernel
theorem dX2_isFlag_9 : decode cX2_isFlag 9 = .ok (.iconst 1, 1) := by decide +kernel
theorem dX2_isFlag_10 : decode cX2_isFlag 10 = .ok (.goto 4, 3) := by decide +kernel
theorem dX2_isFlag_13 : decode cX2_isFlag 13 = .ok (.iconst 0, 1) := by decide +kernel
theorem dX2_isFlag_14 : decode cX2_isFlag 14 = .ok (.ireturn, 1) := by decide +kernel
theorem dX2_maySetTo_0 : decode cX2_maySetTo 0 = .ok (.iload_n 1, 1) := by decide +kernel
theorem dX2_maySetTo_1 : decode cX2_maySetTo 1 = .ok (.tableswitch 212 0 7 #[47, 67, 102, 123, 146, 167, 167, 190], 47) := by decide +kernel
theorem dX2_maySetTo_48 : decode cX2_maySetTo 48 = .ok (.aload_n 0, 1) := by decide +kernel
theorem dX2_maySetTo_49 : decode cX2_maySetTo 49 = .ok (.getfield 48, 3) := by decide +kernel
theorem dX2_maySetTo_52 : decode cX2_maySetTo 52 = .ok (.ifCond .eq 14, 3) := by decide +kernel
theorem dX2_maySetTo_55 : decode cX2_maySetTo 55 = .ok (.iload_n 2, 1) := by decide +kernel
theorem dX2_maySetTo_56 : decode cX2_maySetTo 56 = .ok (.invokestatic 77, 3) := by decide +kernel
theorem dX2_maySetTo_59 : decode cX2_maySetTo 59 = .ok (.ifCond .eq 7, 3) := by decide +kernel
theorem dX2_maySetTo_62 : decode cX2_maySetTo 62 = .ok (.iconst 1, 1) := by decide +kernel
theorem dX2_maySetTo_63 : decode cX2_maySetTo 63 = .ok (.goto 4, 3) := by decide +kernel
theorem dX2_maySetTo_66 : decode cX2_maySetTo 66 = .ok (.iconst 0, 1) := by decide +kernel
theorem dX2_maySetTo_67 : decode cX2_maySetTo 67 = .ok (.ireturn, 1) := by decide +kernel
theorem dX2_maySetTo_68 : decode cX2_maySetTo 68 = .ok (.aload_n 0, 1) := by decide +kernel
theorem dX2_maySetTo_69 : decode cX2_maySetTo 69 = .ok (.getfield 48, 3) := by decide +kernel
theorem dX2_maySetTo_72 : decode cX2_maySetTo 72 = .ok (.iconst 1, 1) := by decide +kernel
theorem dX2_maySetTo_73 : decode cX2_maySetTo 73 = .ok (.if_icmp .ne 28, 3) := by decide +kernel
theorem dX2_maySetTo_76 : decode cX2_maySetTo 76 = .ok (.iload_n 2, 1) := by decide +kernel
theorem dX2_maySetTo_77 : decode cX2_maySetTo 77 = .ok (.ifCond .eq 20, 3) := by decide +kernel
theorem dX2_maySetTo_80 : decode cX2_maySetTo 80 = .ok (.iload_n 2, 1) := by decide +kernel
theorem dX2_maySetTo_81 : decode cX2_maySetTo 81 = .ok (.aload_n 0, 1) := by decide +kernel
theorem dX2_maySetTo_82 : decode cX2_maySetTo 82 = .ok (.getfield 20, 3) := by decide +kernel
theorem dX2_maySetTo_85 : decode cX2_maySetTo 85 = .ok (.invokevirtual 83, 3) := by decide +kernel
theorem dX2_maySetTo_88 : decode cX2_maySetTo 88 = .ok (.if_icmp .lt 13, 3) := by decide +kernel
theorem dX2_maySetTo_91 : decode cX2_maySetTo 91 = .ok (.iload_n 2, 1) := by decide +kernel
theorem dX2_maySetTo_92 : decode cX2_maySetTo 92 = .ok (.bipush 30, 2) := by decide +kernel
theorem dX2_maySetTo_94 : decode cX2_maySetTo 94 = .ok (.if_icmp .gt 7, 3) := by decide +kernel
theorem dX2_maySetTo_97 : decode cX2_maySetTo 97 = .ok (.iconst 1, 1) := by decide +kernel
theorem dX2_maySetTo_98 : decode cX2_maySetTo 98 = .ok (.goto 4, 3) := by decide +kernel
theorem dX2_maySetTo_101 : decode cX2_maySetTo 101 = .ok (.iconst 0, 1) := by decide +kernel
theorem dX2_maySetTo_102 : decode cX2_maySetTo 102 = .ok (.ireturn, 1) := by decide +kernel
theorem dX2_maySetTo_103 : decode cX2_maySetTo 103 = .ok (.aload_n 0, 1) := by decide +kernel
theorem dX2_maySetTo_104 : decode cX2_maySetTo 104 = .ok (.getfield 48, 3) := by decide +kernel
theorem dX2_maySetTo_107 : decode cX2_maySetTo 107 = .ok (.iconst 3, 1) := by decide +kernel
theorem dX2_maySetTo_108 : decode cX2_maySetTo 108 = .ok (.if_icmp .ne 14, 3) := by decide +kernel
theorem dX2_maySetTo_111 : decode cX2_maySetTo 111 = .ok (.iload_n 2, 1) := by decide +kernel
theorem dX2_maySetTo_112 : decode cX2_maySetTo 112 = .ok (.invokestatic 77, 3) := by decide +kernel
theorem dX2_maySetTo_115 : decode cX2_maySetTo 115 = .ok (.ifCond .eq 7, 3) := by decide +kernel
theorem dX2_maySetTo_118 : decode cX2_maySetTo 118 = .ok (.iconst 1, 1) := by decide +kernel
theorem dX2_maySetTo_119 : decode cX2_maySetTo 119 = .ok (.goto 4, 3) := by decide +kernel
theorem dX2_maySetTo_122 : decode cX2_maySetTo 122 = .ok (.iconst 0, 1) := by decide +kernel
theorem dX2_maySetTo_123 : decode cX2_maySetTo 123 = .ok (.ireturn, 1) := by decide +kernel
theorem dX2_maySetTo_124 : decode cX2_maySetTo 124 = .ok (.aload_n 0, 1) := by decide +kernel
theorem dX2_maySetTo_125 : decode cX2_maySetTo 125 = .ok (.getfield 48, 3) := by decide +kernel
theorem dX2_maySetTo_128 : decode cX2_maySetTo 128 = .ok (.iconst 5, 1) := by decide +kernel
theorem dX2_maySetTo_129 : decode cX2_maySetTo 129 = .ok (.if_icmp .ne 16, 3) := by decide +kernel
theorem dX2_maySetTo_132 : decode cX2_maySetTo 132 = .ok (.iload_n 2, 1) := by decide +kernel
theorem dX2_maySetTo_133 : decode cX2_maySetTo 133 = .ok (.ifCond .lt 12, 3) := by decide +kernel
theorem dX2_maySetTo_136 : decode cX2_maySetTo 136 = .ok (.iload_n 2, 1) := by decide +kernel
theorem dX2_maySetTo_137 : decode cX2_maySetTo 137 = .ok (.iconst 3, 1) := by decide +kernel
theorem dX2_maySetTo_138 : decode cX2_maySetTo 138 = .ok (.if_icmp .gt 7, 3) := by decide +kernel
theorem dX2_maySetTo_141 : decode cX2_maySetTo 141 = .ok (.iconst 1, 1) := by decide +kernel
theorem dX2_maySetTo_142 : decode cX2_maySetTo 142 = .ok (.goto 4, 3) := by decide +kernel
theorem dX2_maySetTo_145 : decode cX2_maySetTo 145 = .ok (.iconst 0, 1) := by decide +kernel
theorem dX2_maySetTo_146 : decode cX2_maySetTo 146 = .ok (.ireturn, 1) := by decide +kernel
theorem dX2_maySetTo_147 : decode cX2_maySetTo 147 = .ok (.aload_n 0, 1) := by decide +kernel
theorem dX2_maySetTo_148 : decode cX2_maySetTo 148 = .ok (.getfield 48, 3) := by decide +kernel
theorem dX2_maySetTo_151 : decode cX2_maySetTo 151 = .ok (.iconst 5, 1) := by decide +kernel
theorem dX2_maySetTo_152 : decode cX2_maySetTo 152 = .ok (.if_icmp .ne 14, 3) := by decide +kernel
theorem dX2_maySetTo_155 : decode cX2_maySetTo 155 = .ok (.iload_n 2, 1) := by decide +kernel
theorem dX2_maySetTo_156 : decode cX2_maySetTo 156 = .ok (.invokestatic 77, 3) := by decide +kernel
theorem dX2_maySetTo_159 : decode cX2_maySetTo 159 = .ok (.ifCond .eq 7, 3) := by decide +kernel
theorem dX2_maySetTo_162 : decode cX2_maySetTo 162 = .ok (.iconst 1, 1) := by decide +kernel
theorem dX2_maySetTo_163 : decode cX2_maySetTo 163 = .ok (.goto 4, 3) := by decide +kernel
theorem dX2_maySetTo_166 : decode cX2_maySetTo 166 = .ok (.iconst 0, 1) := by decide +kernel
theorem dX2_maySetTo_167 : decode cX2_maySetTo 167 = .ok (.ireturn, 1) := by decide +kernel
theorem dX2_maySetTo_168 : decode cX2_maySetTo 168 = .ok (.aload_n 0, 1) := by decide +kernel
theorem dX2_maySetTo_169 : decode cX2_maySetTo 169 = .ok (.getfield 48, 3) := by decide +kernel
theorem dX2_maySetTo_172 : decode cX2_maySetTo 172 = .ok (.ifCond .eq 17, 3) := by decide +kernel
theorem dX2_maySetTo_175 : decode cX2_maySetTo 175 = .ok (.iload_n 2, 1) := by decide +kernel
theorem dX2_maySetTo_176 : decode cX2_maySetTo 176 = .ok (.ifCond .lt 13, 3) := by decide +kernel
theorem dX2_maySetTo_179 : decode cX2_maySetTo 179 = .ok (.iload_n 2, 1) := by decide +kernel
theorem dX2_maySetTo_180 : decode cX2_maySetTo 180 = .ok (.ldc 96, 2) := by decide +kernel
theorem dX2_maySetTo_182 : decode cX2_maySetTo 182 = .ok (.if_icmp .gt 7, 3) := by decide +kernel
theorem dX2_maySetTo_185 : decode cX2_maySetTo 185 = .ok (.iconst 1, 1) := by decide +kernel
theorem dX2_maySetTo_186 : decode cX2_maySetTo 186 = .ok (.goto 4, 3) := by decide +kernel
theorem dX2_maySetTo_189 : decode cX2_maySetTo 189 = .ok (.iconst 0, 1) := by decide +kernel
theorem dX2_maySetTo_190 : decode cX2_maySetTo 190 = .ok (.ireturn, 1) := by decide +kernel
theorem dX2_maySetTo_191 : decode cX2_maySetTo 191 = .ok (.aload_n 0, 1) := by decide +kernel
theorem dX2_maySetTo_192 : decode cX2_maySetTo 192 = .ok (.getfield 48, 3) := by decide +kernel
theorem dX2_maySetTo_195 : decode cX2_maySetTo 195 = .ok (.ifCond .eq 16, 3) := by decide +kernel
theorem dX2_maySetTo_198 : decode cX2_maySetTo 198 = .ok (.iload_n 2, 1) := by decide +kernel
theorem dX2_maySetTo_199 : decode cX2_maySetTo 199 = .ok (.ifCond .lt 12, 3) := by decide +kernel
theorem dX2_maySetTo_202 : decode cX2_maySetTo 202 = .ok (.iload_n 2, 1) := by decide +kernel
theorem dX2_maySetTo_203 : decode cX2_maySetTo 203 = .ok (.iconst 2, 1) := by decide +kernel
theorem dX2_maySetTo_204 : decode cX2_maySetTo 204 = .ok (.if_icmp .gt 7, 3) := by decide +kernel
theorem dX2_maySetTo_207 : decode cX2_maySetTo 207 = .ok (.iconst 1, 1) := by decide +kernel
theorem dX2_maySetTo_208 : decode cX2_maySetTo 208 = .ok (.goto 4, 3) := by decide +kernel
theorem dX2_maySetTo_211 : decode cX2_maySetTo 211 = .ok (.iconst 0, 1) := by decide +kernel
theorem dX2_maySetTo_212 : decode cX2_maySetTo 212 = .ok (.ireturn, 1) := by decide +kernel
theorem dX2_maySetTo_213 : decode cX2_maySetTo 213 = .ok (.iconst 0, 1) := by decide +kernel
theorem dX2_maySetTo_214 : decode cX2_maySetTo 214 = .ok (.ireturn, 1) := by decide +kernel
theorem dX2_change_0 : decode cX2_change 0 = .ok (.iload_n 1, 1) := by decide +kernel
theorem dX2_change_1 : decode cX2_change 1 = .ok (.ifCond .lt 12, 3) := by decide +kernel
theorem dX2_change_4 : decode cX2_change 4 = .ok (.iload_n 1, 1) := by decide +kernel
theorem dX2_change_5 : decode cX2_change 5 = .ok (.aload_n 0, 1) := by decide +kernel
theorem dX2_change_6 : decode cX2_change 6 = .ok (.getfield 9, 3) := by decide +kernel
theorem dX2_change_9 : decode cX2_change 9 = .ok (.arraylength, 1) := by decide +kernel
theorem dX2_change_10 : decode cX2_change 10 = .ok (.if_icmp .lt 5, 3) := by decide +kernel
theorem dX2_change_13 : decode cX2_change 13 = .ok (.iconst (-1), 1) := by decide +kernel
theorem dX2_change_14 : decode cX2_change 14 = .ok (.ireturn, 1) := by decide +kernel
theorem dX2_change_15 : decode cX2_change 15 = .ok (.aload_n 0, 1) := by decide +kernel
theorem dX2_change_16 : decode cX2_change 16 = .ok (.getfield 9, 3) := by decide +kernel
theorem dX2_change_19 : decode cX2_change 19 = .ok (.iload_n 1, 1) := by decide +kernel
theorem dX2_change_20 : decode cX2_change 20 = .ok (.iaload, 1) := by decide +kernel
theorem dX2_change_21 : decode cX2_change 21 = .ok (.istore_n 3, 1) := by decide +kernel
theorem dX2_change_22 : decode cX2_change 22 = .ok (.aload_n 0, 1) := by decide +kernel
theorem dX2_change_23 : decode cX2_change 23 = .ok (.getfield 9, 3) := by decide +kernel
theorem dX2_change_26 : decode cX2_change 26 = .ok (.iload_n 1, 1) := by decide +kernel
theorem dX2_change_27 : decode cX2_change 27 = .ok (.iload_n 2, 1) := by decide +kernel
theorem dX2_change_28 : decode cX2_change 28 = .ok (.iastore, 1) := by decide +kernel
theorem dX2_change_29 : decode cX2_change 29 = .ok (.iload_n 3, 1) := by decide +kernel
theorem dX2_change_30 : decode cX2_change 30 = .ok (.ireturn, 1) := by decide +kernel
theorem dX2_isEmpty_0 : decode cX2_isEmpty 0 = .ok (.aload_n 0, 1) := by decide +kernel
theorem dX2_isEmpty_1 : decode cX2_isEmpty 1 = .ok (.invokevirtual 64, 3) := by decide +kernel
theorem dX2_isEmpty_4 : decode cX2_isEmpty 4 = .ok (.ifCond .eq 19, 3) := by decide +kernel
theorem dX2_isEmpty_7 : decode cX2_isEmpty 7 = .ok (.aload_n 0, 1) := by decide +kernel
theorem dX2_isEmpty_8 : decode cX2_isEmpty 8 = .ok (.getfield 20, 3) := by decide +kernel
theorem dX2_isEmpty_11 : decode cX2_isEmpty 11 = .ok (.invokevirtual 83, 3) := by decide +kernel
theorem dX2_isEmpty_14 : decode cX2_isEmpty 14 = .ok (.ifCond .ne 7, 3) := by decide +kernel
theorem dX2_isEmpty_17 : decode cX2_isEmpty 17 = .ok (.iconst 1, 1) := by decide +kernel
theorem dX2_isEmpty_18 : decode cX2_isEmpty 18 = .ok (.goto 4, 3) := by decide +kernel
theorem dX2_isEmpty_21 : decode cX2_isEmpty 21 = .ok (.iconst 0, 1) := by decide +kernel
theorem dX2_isEmpty_22 : decode cX2_isEmpty 22 = .ok (.ireturn, 1) := by decide +kernel
theorem dX2_isEmpty_23 : decode cX2_isEmpty 23 = .ok (.aload_n 0, 1) := by decide +kernel
theorem dX2_isEmpty_24 : decode cX2_isEmpty 24 = .ok (.getfield 61, 3) := by decide +kernel
theorem dX2_isEmpty_27 : decode cX2_isEmpty 27 = .ok (.aload_n 0, 1) := by decide +kernel
theorem dX2_isEmpty_28 : decode cX2_isEmpty 28 = .ok (.getfield 48, 3) := by decide +kernel
theorem dX2_isEmpty_31 : decode cX2_isEmpty 31 = .ok (.iconst 2, 1) := by decide +kernel
theorem dX2_isEmpty_32 : decode cX2_isEmpty 32 = .ok (.if_icmp .ne 7, 3) := by decide +kernel
theorem dX2_isEmpty_35 : decode cX2_isEmpty 35 = .ok (.iconst 0, 1) := by decide +kernel
theorem dX2_isEmpty_36 : decode cX2_isEmpty 36 = .ok (.goto 4, 3) := by decide +kernel
theorem dX2_isEmpty_39 : decode cX2_isEmpty 39 = .ok (.iconst (-1), 1) := by decide +kernel
theorem dX2_isEmpty_40 : decode cX2_isEmpty 40 = .ok (.if_icmp .ne 7, 3) := by decide +kernel
theorem dX2_isEmpty_43 : decode cX2_isEmpty 43 = .ok (.iconst 1, 1) := by decide +kernel
theorem dX2_isEmpty_44 : decode cX2_isEmpty 44 = .ok (.goto 4, 3) := by decide +kernel
theorem dX2_isEmpty_47 : decode cX2_isEmpty 47 = .ok (.iconst 0, 1) := by decide +kernel
theorem dX2_isEmpty_48 : decode cX2_isEmpty 48 = .ok (.ireturn, 1) := by decide +kernel
theorem dX2_amount_0 : decode cX2_amount 0 = .ok (.aload_n 0, 1) := by decide +kernel
theorem dX2_amount_1 : decode cX2_amount 1 = .ok (.getfield 48, 3) := by decide +kernel
theorem dX2_amount_4 : decode cX2_amount 4 = .ok (.iconst 2, 1) := by decide +kernel
theorem dX2_amount_5 : decode cX2_amount 5 = .ok (.if_icmp .ne 13, 3) := by decide +kernel
theorem dX2_amount_8 : decode cX2_amount 8 = .ok (.ldc2_w 97, 3) := by decide +kernel
theorem dX2_amount_11 : decode cX2_amount 11 = .ok (.aload_n 0, 1) := by decide +kernel
theorem dX2_amount_12 : decode cX2_amount 12 = .ok (.getfield 61, 3) := by decide +kernel
theorem dX2_amount_15 : decode cX2_amount 15 = .ok (.i2l, 1) := by decide +kernel
theorem dX2_amount_16 : decode cX2_amount 16 = .ok (.lmul, 1) := by decide +kernel
theorem dX2_amount_17 : decode cX2_amount 17 = .ok (.lreturn, 1) := by decide +kernel
theorem dX2_amount_18 : decode cX2_amount 18 = .ok (.aload_n 0, 1) := by decide +kernel
theorem dX2_amount_19 : decode cX2_amount 19 = .ok (.getfield 48, 3) := by decide +kernel
theorem dX2_amount_22 : decode cX2_amount 22 = .ok (.iconst 5, 1) := by decide +kernel
theorem dX2_amount_23 : decode cX2_amount 23 = .ok (.if_icmp .ne 13, 3) := by decide +kernel
theorem dX2_amount_26 : decode cX2_amount 26 = .ok (.aload_n 0, 1) := by decide +kernel
theorem dX2_amount_27 : decode cX2_amount 27 = .ok (.getfield 20, 3) := by decide +kernel
theorem dX2_amount_30 : decode cX2_amount 30 = .ok (.invokestatic 99, 3) := by decide +kernel
theorem dX2_amount_33 : decode cX2_amount 33 = .ok (.goto 6, 3) := by decide +kernel
theorem dX2_amount_36 : decode cX2_amount 36 = .ok (.ldc2_w 105, 3) := by decide +kernel
theorem dX2_amount_39 : decode cX2_amount 39 = .ok (.lreturn, 1) := by decide +kernel
theorem dX2_verdict_0 : decode cX2_verdict 0 = .ok (.aload_n 0, 1) := by decide +kernel
theorem dX2_verdict_1 : decode cX2_verdict 1 = .ok (.getfield 9, 3) := by decide +kernel
theorem dX2_verdict_4 : decode cX2_verdict 4 = .ok (.iconst 0, 1) := by decide +kernel
theorem dX2_verdict_5 : decode cX2_verdict 5 = .ok (.iaload, 1) := by decide +kernel
theorem dX2_verdict_6 : decode cX2_verdict 6 = .ok (.iconst 1, 1) := by decide +kernel
theorem dX2_verdict_7 : decode cX2_verdict 7 = .ok (.if_icmp .ne 12, 3) := by decide +kernel
theorem dX2_verdict_10 : decode cX2_verdict 10 = .ok (.aload_n 0, 1) := by decide +kernel
theorem dX2_verdict_11 : decode cX2_verdict 11 = .ok (.invokevirtual 107, 3) := by decide +kernel
theorem dX2_verdict_14 : decode cX2_verdict 14 = .ok (.ifCond .eq 5, 3) := by decide +kernel
theorem dX2_verdict_17 : decode cX2_verdict 17 = .ok (.iconst 2, 1) := by decide +kernel
theorem dX2_verdict_18 : decode cX2_verdict 18 = .ok (.ireturn, 1) := by decide +kernel
theorem dX2_verdict_19 : decode cX2_verdict 19 = .ok (.aload_n 0, 1) := by decide +kernel
theorem dX2_verdict_20 : decode cX2_verdict 20 = .ok (.getfield 48, 3) := by decide +kernel
theorem dX2_verdict_23 : decode cX2_verdict 23 = .ok (.iconst 5, 1) := by decide +kernel
theorem dX2_verdict_24 : decode cX2_verdict 24 = .ok (.if_icmp .ne 13, 3) := by decide +kernel
theorem dX2_verdict_27 : decode cX2_verdict 27 = .ok (.aload_n 0, 1) := by decide +kernel
theorem dX2_verdict_28 : decode cX2_verdict 28 = .ok (.getfield 20, 3) := by decide +kernel
theorem dX2_verdict_31 : decode cX2_verdict 31 = .ok (.invokevirtual 83, 3) := by decide +kernel
theorem dX2_verdict_34 : decode cX2_verdict 34 = .ok (.ifCond .ne 5, 3) := by decide +kernel
theorem dX2_verdict_37 : decode cX2_verdict 37 = .ok (.iconst 1, 1) := by decide +kernel
theorem dX2_verdict_38 : decode cX2_verdict 38 = .ok (.ireturn, 1) := by decide +kernel
theorem dX2_verdict_39 : decode cX2_verdict 39 = .ok (.aload_n 0, 1) := by decide +kernel
theorem dX2_verdict_40 : decode cX2_verdict 40 = .ok (.invokevirtual 110, 3) := by decide +kernel
theorem dX2_verdict_43 : decode cX2_verdict 43 = .ok (.lstore_n 1, 1) := by decide +kernel
theorem dX2_verdict_44 : decode cX2_verdict 44 = .ok (.lload_n 1, 1) := by decide +kernel
theorem dX2_verdict_45 : decode cX2_verdict 45 = .ok (.ldc2_w 105, 3) := by decide +kernel
theorem dX2_verdict_48 : decode cX2_verdict 48 = .ok (.lcmp, 1) := by decide +kernel
theorem dX2_verdict_49 : decode cX2_verdict 49 = .ok (.ifCond .ne 5, 3) := by decide +kernel
theorem dX2_verdict_52 : decode cX2_verdict 52 = .ok (.iconst 3, 1) := by decide +kernel
theorem dX2_verdict_53 : decode cX2_verdict 53 = .ok (.ireturn, 1) := by decide +kernel
theorem dX2_verdict_54 : decode cX2_verdict 54 = .ok (.lload_n 1, 1) := by decide +kernel
theorem dX2_verdict_55 : decode cX2_verdict 55 = .ok (.aload_n 0, 1) := by decide +kernel
theorem dX2_verdict_56 : decode cX2_verdict 56 = .ok (.getfield 29, 3) := by decide +kernel
theorem dX2_verdict_59 : decode cX2_verdict 59 = .ok (.lcmp, 1) := by decide +kernel
theorem dX2_verdict_60 : decode cX2_verdict 60 = .ok (.ifCond .ge 5, 3) := by decide +kernel
theorem dX2_verdict_63 : decode cX2_verdict 63 = .ok (.iconst 4, 1) := by decide +kernel
theorem dX2_verdict_64 : decode cX2_verdict 64 = .ok (.ireturn, 1) := by decide +kernel
theorem dX2_verdict_65 : decode cX2_verdict 65 = .ok (.lload_n 1, 1) := by decide +kernel
theorem dX2_verdict_66 : decode cX2_verdict 66 = .ok (.aload_n 0, 1) := by decide +kernel
theorem dX2_verdict_67 : decode cX2_verdict 67 = .ok (.getfield 35, 3) := by decide +kernel
theorem dX2_verdict_70 : decode cX2_verdict 70 = .ok (.lcmp, 1) := by decide +kernel
theorem dX2_verdict_71 : decode cX2_verdict 71 = .ok (.ifCond .le 7, 3) := by decide +kernel
theorem dX2_verdict_74 : decode cX2_verdict 74 = .ok (.iconst 5, 1) := by decide +kernel
theorem dX2_verdict_75 : decode cX2_verdict 75 = .ok (.goto 4, 3) := by decide +kernel
theorem dX2_verdict_78 : decode cX2_verdict 78 = .ok (.iconst 1, 1) := by decide +kernel
theorem dX2_verdict_79 : decode cX2_verdict 79 = .ok (.ireturn, 1) := by decide +kernel
theorem dX3_init_0 : decode cX3_init 0 = .ok (.aload_n 0, 1) := by decide +kernel
theorem dX3_init_1 : decode cX3_init 1 = .ok (.invokespecial 3, 3) := by decide +kernel
theorem dX3_init_4 : decode cX3_init 4 = .ok (.aload_n 0, 1) := by decide +kernel
theorem dX3_init_5 : decode cX3_init 5 = .ok (.iload_n 1, 1) := by decide +kernel
theorem dX3_init_6 : decode cX3_init 6 = .ok (.iconst 0, 1) := by decide +kernel
theorem dX3_init_7 : decode cX3_init 7 = .ok (.invokestatic 9, 3) := by decide +kernel
theorem dX3_init_10 : decode cX3_init 10 = .ok (.putfield 15, 3) := by decide +kernel
theorem dX3_init_13 : decode cX3_init 13 = .ok (.aload_n 0, 1) := by decide +kernel
theorem dX3_init_14 : decode cX3_init 14 = .ok (.iconst 5, 1) := by decide +kernel
theorem dX3_init_15 : decode cX3_init 15 = .ok (.aload_n 0, 1) := by decide +kernel
theorem dX3_init_16 : decode cX3_init 16 = .ok (.getfield 15, 3) := by decide +kernel
theorem dX3_init_19 : decode cX3_init 19 = .ok (.multianewarray 21 2, 4) := by decide +kernel
theorem dX3_init_23 : decode cX3_init 23 = .ok (.putfield 23, 3) := by decide +kernel
theorem dX3_init_26 : decode cX3_init 26 = .ok (.return_, 1) := by decide +kernel
theorem dX3_count_0 : decode cX3_count 0 = .ok (.aload_n 0, 1) := by decide +kernel
theorem dX3_count_1 : decode cX3_count 1 = .ok (.getfield 26, 3) := by decide +kernel
theorem dX3_count_4 : decode cX3_count 4 = .ok (.ireturn, 1) := by decide +kernel
theorem dX3_clear_0 : decode cX3_clear 0 = .ok (.aload_n 0, 1) := by decide +kernel
theorem dX3_clear_1 : decode cX3_clear 1 = .ok (.iconst 0, 1) := by decide +kernel
theorem dX3_clear_2 : decode cX3_clear 2 = .ok (.putfield 26, 3) := by decide +kernel
theorem dX3_clear_5 : decode cX3_clear 5 = .ok (.return_, 1) := by decide +kernel
theorem dX3_has_0 : decode cX3_has 0 = .ok (.iload_n 1, 1) := by decide +kernel
theorem dX3_has_1 : decode cX3_has 1 = .ok (.ifCond .lt 24, 3) := by decide +kernel
theorem dX3_has_4 : decode cX3_has 4 = .ok (.iload_n 1, 1) := by decide +kernel
theorem dX3_has_5 : decode cX3_has 5 = .ok (.aload_n 0, 1) := by decide +kernel
theorem dX3_has_6 : decode cX3_has 6 = .ok (.getfield 26, 3) := by decide +kernel
theorem dX3_has_9 : decode cX3_has 9 = .ok (.if_icmp .ge 16, 3) := by decide +kernel
theorem dX3_has_12 : decode cX3_has 12 = .ok (.iload_n 2, 1) := by decide +kernel
theorem dX3_has_13 : decode cX3_has 13 = .ok (.ifCond .lt 12, 3) := by decide +kernel
theorem dX3_has_16 : decode cX3_has 16 = .ok (.iload_n 2, 1) := by decide +kernel
theorem dX3_has_17 : decode cX3_has 17 = .ok (.iconst 5, 1) := by decide +kernel
theorem dX3_has_18 : decode cX3_has 18 = .ok (.if_icmp .ge 7, 3) := by decide +kernel
theorem dX3_has_21 : decode cX3_has 21 = .ok (.iconst 1, 1) := by decide +kernel
theorem dX3_has_22 : decode cX3_has 22 = .ok (.goto 4, 3) := by decide +kernel
theorem dX3_has_25 : decode cX3_has 25 = .ok (.iconst 0, 1) := by decide +kernel
theorem dX3_has_26 : decode cX3_has 26 = .ok (.ireturn, 1) := by decide +kernel
theorem dX3_get_0 : decode cX3_get 0 = .ok (.aload_n 0, 1) := by decide +kernel
theorem dX3_get_1 : decode cX3_get 1 = .ok (.iload_n 1, 1) := by decide +kernel
theorem dX3_get_2 : decode cX3_get 2 = .ok (.iload_n 2, 1) := by decide +kernel
theorem dX3_get_3 : decode cX3_get 3 = .ok (.invokevirtual 29, 3) := by decide +kernel
theorem dX3_get_6 : decode cX3_get 6 = .ok (.ifCond .eq 14, 3) := by decide +kernel
theorem dX3_get_9 : decode cX3_get 9 = .ok (.aload_n 0, 1) := by decide +kernel
theorem dX3_get_10 : decode cX3_get 10 = .ok (.getfield 23, 3) := by decide +kernel
theorem dX3_get_13 : decode cX3_get 13 = .ok (.iload_n 2, 1) := by decide +kernel
theorem dX3_get_14 : decode cX3_get 14 = .ok (.aaload, 1) := by decide +kernel
theorem dX3_get_15 : decode cX3_get 15 = .ok (.iload_n 1, 1) := by decide +kernel
theorem dX3_get_16 : decode cX3_get 16 = .ok (.iaload, 1) := by decide +kernel
theorem dX3_get_17 : decode cX3_get 17 = .ok (.goto 4, 3) := by decide +kernel
theorem dX3_get_20 : decode cX3_get 20 = .ok (.iconst (-1), 1) := by decide +kernel
theorem dX3_get_21 : decode cX3_get 21 = .ok (.ireturn, 1) := by decide +kernel
