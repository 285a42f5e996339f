theorem dX9_set_0 : decode cX9_set 0 = .ok (.aload_n 0, 1) := by decide +kernel
theorem dX9_set_1 : decode cX9_set 1 = .ok (.getfield 12, 3) := by decide +kernel
theorem dX9_set_4 : decode cX9_set 4 = .ok (.iload_n 1, 1) := by decide +kernel
theorem dX9_set_5 : decode cX9_set 5 = .ok (.invokevirtual 60, 3) := by decide +kernel
theorem dX9_set_8 : decode cX9_set 8 = .ok (.astore 4, 2) := by decide +kernel
theorem dX9_set_10 : decode cX9_set 10 = .ok (.aload_n 0, 1) := by decide +kernel
theorem dX9_set_11 : decode cX9_set 11 = .ok (.getfield 12, 3) := by decide +kernel
theorem dX9_set_14 : decode cX9_set 14 = .ok (.iload_n 1, 1) := by decide +kernel
theorem dX9_set_15 : decode cX9_set 15 = .ok (.invokevirtual 87, 3) := by decide +kernel
theorem dX9_set_18 : decode cX9_set 18 = .ok (.astore 5, 2) := by decide +kernel
theorem dX9_set_20 : decode cX9_set 20 = .ok (.aload 5, 2) := by decide +kernel
theorem dX9_set_22 : decode cX9_set 22 = .ok (.iload_n 2, 1) := by decide +kernel
theorem dX9_set_23 : decode cX9_set 23 = .ok (.iload_n 3, 1) := by decide +kernel
theorem dX9_set_24 : decode cX9_set 24 = .ok (.invokevirtual 134, 3) := by decide +kernel
theorem dX9_set_27 : decode cX9_set 27 = .ok (.ifCond .ne 11, 3) := by decide +kernel
theorem dX9_set_30 : decode cX9_set 30 = .ok (.new 70, 3) := by decide +kernel
theorem dX9_set_33 : decode cX9_set 33 = .ok (.dup, 1) := by decide +kernel
theorem dX9_set_34 : decode cX9_set 34 = .ok (.invokespecial 72, 3) := by decide +kernel
theorem dX9_set_37 : decode cX9_set 37 = .ok (.athrow, 1) := by decide +kernel
theorem dX9_set_38 : decode cX9_set 38 = .ok (.iload_n 2, 1) := by decide +kernel
theorem dX9_set_39 : decode cX9_set 39 = .ok (.iconst 5, 1) := by decide +kernel
theorem dX9_set_40 : decode cX9_set 40 = .ok (.if_icmp .lt 13, 3) := by decide +kernel
theorem dX9_set_43 : decode cX9_set 43 = .ok (.aload 4, 2) := by decide +kernel
theorem dX9_set_45 : decode cX9_set 45 = .ok (.iload_n 2, 1) := by decide +kernel
theorem dX9_set_46 : decode cX9_set 46 = .ok (.iload_n 3, 1) := by decide +kernel
theorem dX9_set_47 : decode cX9_set 47 = .ok (.invokevirtual 138, 3) := by decide +kernel
theorem dX9_set_50 : decode cX9_set 50 = .ok (.goto 10, 3) := by decide +kernel
theorem dX9_set_53 : decode cX9_set 53 = .ok (.aload 5, 2) := by decide +kernel
theorem dX9_set_55 : decode cX9_set 55 = .ok (.iload_n 2, 1) := by decide +kernel
theorem dX9_set_56 : decode cX9_set 56 = .ok (.iload_n 3, 1) := by decide +kernel
theorem dX9_set_57 : decode cX9_set 57 = .ok (.invokevirtual 138, 3) := by decide +kernel
theorem dX9_set_60 : decode cX9_set 60 = .ok (.ireturn, 1) := by decide +kernel
theorem dX9_bounds_0 : decode cX9_bounds 0 = .ok (.aload_n 0, 1) := by decide +kernel
theorem dX9_bounds_1 : decode cX9_bounds 1 = .ok (.getfield 12, 3) := by decide +kernel
theorem dX9_bounds_4 : decode cX9_bounds 4 = .ok (.iload_n 1, 1) := by decide +kernel
theorem dX9_bounds_5 : decode cX9_bounds 5 = .ok (.invokevirtual 87, 3) := by decide +kernel
theorem dX9_bounds_8 : decode cX9_bounds 8 = .ok (.astore 6, 2) := by decide +kernel
theorem dX9_bounds_10 : decode cX9_bounds 10 = .ok (.aload 6, 2) := by decide +kernel
theorem dX9_bounds_12 : decode cX9_bounds 12 = .ok (.getfield 73, 3) := by decide +kernel
theorem dX9_bounds_15 : decode cX9_bounds 15 = .ok (.iconst 5, 1) := by decide +kernel
theorem dX9_bounds_16 : decode cX9_bounds 16 = .ok (.if_icmp .ne 25, 3) := by decide +kernel
theorem dX9_bounds_19 : decode cX9_bounds 19 = .ok (.lload_n 2, 1) := by decide +kernel
theorem dX9_bounds_20 : decode cX9_bounds 20 = .ok (.invokestatic 141, 3) := by decide +kernel
theorem dX9_bounds_23 : decode cX9_bounds 23 = .ok (.ifCond .ne 18, 3) := by decide +kernel
theorem dX9_bounds_26 : decode cX9_bounds 26 = .ok (.lload 4, 2) := by decide +kernel
theorem dX9_bounds_28 : decode cX9_bounds 28 = .ok (.invokestatic 141, 3) := by decide +kernel
theorem dX9_bounds_31 : decode cX9_bounds 31 = .ok (.ifCond .ne 10, 3) := by decide +kernel
theorem dX9_bounds_34 : decode cX9_bounds 34 = .ok (.lload_n 2, 1) := by decide +kernel
theorem dX9_bounds_35 : decode cX9_bounds 35 = .ok (.lload 4, 2) := by decide +kernel
theorem dX9_bounds_37 : decode cX9_bounds 37 = .ok (.lcmp, 1) := by decide +kernel
theorem dX9_bounds_38 : decode cX9_bounds 38 = .ok (.ifCond .le 11, 3) := by decide +kernel
theorem dX9_bounds_41 : decode cX9_bounds 41 = .ok (.new 70, 3) := by decide +kernel
theorem dX9_bounds_44 : decode cX9_bounds 44 = .ok (.dup, 1) := by decide +kernel
theorem dX9_bounds_45 : decode cX9_bounds 45 = .ok (.invokespecial 72, 3) := by decide +kernel
theorem dX9_bounds_48 : decode cX9_bounds 48 = .ok (.athrow, 1) := by decide +kernel
theorem dX9_bounds_49 : decode cX9_bounds 49 = .ok (.aload 6, 2) := by decide +kernel
theorem dX9_bounds_51 : decode cX9_bounds 51 = .ok (.lload_n 2, 1) := by decide +kernel
theorem dX9_bounds_52 : decode cX9_bounds 52 = .ok (.putfield 147, 3) := by decide +kernel
theorem dX9_bounds_55 : decode cX9_bounds 55 = .ok (.aload 6, 2) := by decide +kernel
theorem dX9_bounds_57 : decode cX9_bounds 57 = .ok (.lload 4, 2) := by decide +kernel
theorem dX9_bounds_59 : decode cX9_bounds 59 = .ok (.putfield 151, 3) := by decide +kernel
theorem dX9_bounds_62 : decode cX9_bounds 62 = .ok (.return_, 1) := by decide +kernel
theorem dX9_formula_0 : decode cX9_formula 0 = .ok (.aload_n 0, 1) := by decide +kernel
theorem dX9_formula_1 : decode cX9_formula 1 = .ok (.getfield 12, 3) := by decide +kernel
theorem dX9_formula_4 : decode cX9_formula 4 = .ok (.iload_n 1, 1) := by decide +kernel
theorem dX9_formula_5 : decode cX9_formula 5 = .ok (.invokevirtual 87, 3) := by decide +kernel
theorem dX9_formula_8 : decode cX9_formula 8 = .ok (.astore 5, 2) := by decide +kernel
theorem dX9_formula_10 : decode cX9_formula 10 = .ok (.aload_n 0, 1) := by decide +kernel
theorem dX9_formula_11 : decode cX9_formula 11 = .ok (.getfield 30, 3) := by decide +kernel
theorem dX9_formula_14 : decode cX9_formula 14 = .ok (.iload_n 2, 1) := by decide +kernel
theorem dX9_formula_15 : decode cX9_formula 15 = .ok (.iload_n 3, 1) := by decide +kernel
theorem dX9_formula_16 : decode cX9_formula 16 = .ok (.iload 4, 2) := by decide +kernel
theorem dX9_formula_18 : decode cX9_formula 18 = .ok (.invokevirtual 154, 3) := by decide +kernel
theorem dX9_formula_21 : decode cX9_formula 21 = .ok (.ifCond .eq 12, 3) := by decide +kernel
theorem dX9_formula_24 : decode cX9_formula 24 = .ok (.aload 5, 2) := by decide +kernel
theorem dX9_formula_26 : decode cX9_formula 26 = .ok (.getfield 73, 3) := by decide +kernel
theorem dX9_formula_29 : decode cX9_formula 29 = .ok (.iconst 5, 1) := by decide +kernel
theorem dX9_formula_30 : decode cX9_formula 30 = .ok (.if_icmp .eq 11, 3) := by decide +kernel
theorem dX9_formula_33 : decode cX9_formula 33 = .ok (.new 70, 3) := by decide +kernel
theorem dX9_formula_36 : decode cX9_formula 36 = .ok (.dup, 1) := by decide +kernel
theorem dX9_formula_37 : decode cX9_formula 37 = .ok (.invokespecial 72, 3) := by decide +kernel
theorem dX9_formula_40 : decode cX9_formula 40 = .ok (.athrow, 1) := by decide +kernel
theorem dX9_formula_41 : decode cX9_formula 41 = .ok (.aload 5, 2) := by decide +kernel
theorem dX9_formula_43 : decode cX9_formula 43 = .ok (.getfield 158, 3) := by decide +kernel
theorem dX9_formula_46 : decode cX9_formula 46 = .ok (.iconst (-1), 1) := by decide +kernel
theorem dX9_formula_47 : decode cX9_formula 47 = .ok (.if_icmp .ne 7, 3) := by decide +kernel
theorem dX9_formula_50 : decode cX9_formula 50 = .ok (.iconst 0, 1) := by decide +kernel
theorem dX9_formula_51 : decode cX9_formula 51 = .ok (.goto 4, 3) := by decide +kernel
theorem dX9_formula_54 : decode cX9_formula 54 = .ok (.iconst 1, 1) := by decide +kernel
theorem dX9_formula_55 : decode cX9_formula 55 = .ok (.istore 6, 2) := by decide +kernel
theorem dX9_formula_57 : decode cX9_formula 57 = .ok (.aload 5, 2) := by decide +kernel
theorem dX9_formula_59 : decode cX9_formula 59 = .ok (.iload_n 2, 1) := by decide +kernel
theorem dX9_formula_60 : decode cX9_formula 60 = .ok (.putfield 158, 3) := by decide +kernel
theorem dX9_formula_63 : decode cX9_formula 63 = .ok (.aload 5, 2) := by decide +kernel
theorem dX9_formula_65 : decode cX9_formula 65 = .ok (.iload_n 3, 1) := by decide +kernel
theorem dX9_formula_66 : decode cX9_formula 66 = .ok (.putfield 161, 3) := by decide +kernel
theorem dX9_formula_69 : decode cX9_formula 69 = .ok (.aload 5, 2) := by decide +kernel
theorem dX9_formula_71 : decode cX9_formula 71 = .ok (.iload 4, 2) := by decide +kernel
theorem dX9_formula_73 : decode cX9_formula 73 = .ok (.putfield 164, 3) := by decide +kernel
theorem dX9_formula_76 : decode cX9_formula 76 = .ok (.iload 6, 2) := by decide +kernel
theorem dX9_formula_78 : decode cX9_formula 78 = .ok (.ireturn, 1) := by decide +kernel
theorem dX9_calculate_0 : decode cX9_calculate 0 = .ok (.aload_n 0, 1) := by decide +kernel
theorem dX9_calculate_1 : decode cX9_calculate 1 = .ok (.getfield 30, 3) := by decide +kernel
theorem dX9_calculate_4 : decode cX9_calculate 4 = .ok (.invokevirtual 167, 3) := by decide +kernel
theorem dX9_calculate_7 : decode cX9_calculate 7 = .ok (.ireturn, 1) := by decide +kernel
theorem dX9_failed_0 : decode cX9_failed 0 = .ok (.iload_n 1, 1) := by decide +kernel
theorem dX9_failed_1 : decode cX9_failed 1 = .ok (.iconst (-1), 1) := by decide +kernel
theorem dX9_failed_2 : decode cX9_failed 2 = .ok (.if_icmp .ne 14, 3) := by decide +kernel
theorem dX9_failed_5 : decode cX9_failed 5 = .ok (.aload_n 0, 1) := by decide +kernel
theorem dX9_failed_6 : decode cX9_failed 6 = .ok (.getfield 30, 3) := by decide +kernel
theorem dX9_failed_9 : decode cX9_failed 9 = .ok (.getfield 170, 3) := by decide +kernel
theorem dX9_failed_12 : decode cX9_failed 12 = .ok (.invokevirtual 130, 3) := by decide +kernel
theorem dX9_failed_15 : decode cX9_failed 15 = .ok (.ireturn, 1) := by decide +kernel
theorem dX9_failed_16 : decode cX9_failed 16 = .ok (.aload_n 0, 1) := by decide +kernel
theorem dX9_failed_17 : decode cX9_failed 17 = .ok (.getfield 30, 3) := by decide +kernel
theorem dX9_failed_20 : decode cX9_failed 20 = .ok (.getfield 170, 3) := by decide +kernel
theorem dX9_failed_23 : decode cX9_failed 23 = .ok (.iload_n 1, 1) := by decide +kernel
theorem dX9_failed_24 : decode cX9_failed 24 = .ok (.invokevirtual 173, 3) := by decide +kernel
theorem dX9_failed_27 : decode cX9_failed 27 = .ok (.ifCond .ne 11, 3) := by decide +kernel
theorem dX9_failed_30 : decode cX9_failed 30 = .ok (.new 176, 3) := by decide +kernel
theorem dX9_failed_33 : decode cX9_failed 33 = .ok (.dup, 1) := by decide +kernel
theorem dX9_failed_34 : decode cX9_failed 34 = .ok (.invokespecial 178, 3) := by decide +kernel
theorem dX9_failed_37 : decode cX9_failed 37 = .ok (.athrow, 1) := by decide +kernel
theorem dX9_failed_38 : decode cX9_failed 38 = .ok (.aload_n 0, 1) := by decide +kernel
theorem dX9_failed_39 : decode cX9_failed 39 = .ok (.getfield 30, 3) := by decide +kernel
theorem dX9_failed_42 : decode cX9_failed 42 = .ok (.getfield 170, 3) := by decide +kernel
theorem dX9_failed_45 : decode cX9_failed 45 = .ok (.iload_n 1, 1) := by decide +kernel
theorem dX9_failed_46 : decode cX9_failed 46 = .ok (.invokevirtual 179, 3) := by decide +kernel
theorem dX9_failed_49 : decode cX9_failed 49 = .ok (.ireturn, 1) := by decide +kernel
theorem dX9_fails_0 : decode cX9_fails 0 = .ok (.aload_n 0, 1) := by decide +kernel
theorem dX9_fails_1 : decode cX9_fails 1 = .ok (.getfield 12, 3) := by decide +kernel
theorem dX9_fails_4 : decode cX9_fails 4 = .ok (.iload_n 1, 1) := by decide +kernel
theorem dX9_fails_5 : decode cX9_fails 5 = .ok (.invokevirtual 87, 3) := by decide +kernel
theorem dX9_fails_8 : decode cX9_fails 8 = .ok (.astore_n 3, 1) := by decide +kernel
theorem dX9_fails_9 : decode cX9_fails 9 = .ok (.aload_n 3, 1) := by decide +kernel
theorem dX9_fails_10 : decode cX9_fails 10 = .ok (.getfield 73, 3) := by decide +kernel
theorem dX9_fails_13 : decode cX9_fails 13 = .ok (.iconst 5, 1) := by decide +kernel
theorem dX9_fails_14 : decode cX9_fails 14 = .ok (.if_icmp .eq 11, 3) := by decide +kernel
theorem dX9_fails_17 : decode cX9_fails 17 = .ok (.new 70, 3) := by decide +kernel
theorem dX9_fails_20 : decode cX9_fails 20 = .ok (.dup, 1) := by decide +kernel
theorem dX9_fails_21 : decode cX9_fails 21 = .ok (.invokespecial 72, 3) := by decide +kernel
theorem dX9_fails_24 : decode cX9_fails 24 = .ok (.athrow, 1) := by decide +kernel
theorem dX9_fails_25 : decode cX9_fails 25 = .ok (.aload_n 3, 1) := by decide +kernel
theorem dX9_fails_26 : decode cX9_fails 26 = .ok (.getfield 181, 3) := by decide +kernel
theorem dX9_fails_29 : decode cX9_fails 29 = .ok (.ifCond .eq 7, 3) := by decide +kernel
theorem dX9_fails_32 : decode cX9_fails 32 = .ok (.iconst 1, 1) := by decide +kernel
theorem dX9_fails_33 : decode cX9_fails 33 = .ok (.goto 4, 3) := by decide +kernel
theorem dX9_fails_36 : decode cX9_fails 36 = .ok (.iconst 0, 1) := by decide +kernel
theorem dX9_fails_37 : decode cX9_fails 37 = .ok (.istore 4, 2) := by decide +kernel
theorem dX9_fails_39 : decode cX9_fails 39 = .ok (.aload_n 3, 1) := by decide +kernel
theorem dX9_fails_40 : decode cX9_fails 40 = .ok (.iload_n 2, 1) := by decide +kernel
theorem dX9_fails_41 : decode cX9_fails 41 = .ok (.putfield 181, 3) := by decide +kernel
theorem dX9_fails_44 : decode cX9_fails 44 = .ok (.iload 4, 2) := by decide +kernel
theorem dX9_fails_46 : decode cX9_fails 46 = .ok (.ireturn, 1) := by decide +kernel
theorem dX9_shown_0 : decode cX9_shown 0 = .ok (.aload_n 0, 1) := by decide +kernel
theorem dX9_shown_1 : decode cX9_shown 1 = .ok (.getfield 21, 3) := by decide +kernel
theorem dX9_shown_4 : decode cX9_shown 4 = .ok (.aload_n 0, 1) := by decide +kernel
theorem dX9_shown_5 : decode cX9_shown 5 = .ok (.getfield 12, 3) := by decide +kernel
theorem dX9_shown_8 : decode cX9_shown 8 = .ok (.iload_n 1, 1) := by decide +kernel
theorem dX9_shown_9 : decode cX9_shown 9 = .ok (.invokevirtual 87, 3) := by decide +kernel
theorem dX9_shown_12 : decode cX9_shown 12 = .ok (.invokevirtual 184, 3) := by decide +kernel
theorem dX9_shown_15 : decode cX9_shown 15 = .ok (.iload_n 2, 1) := by decide +kernel
theorem dX9_shown_16 : decode cX9_shown 16 = .ok (.invokevirtual 179, 3) := by decide +kernel
theorem dX9_shown_19 : decode cX9_shown 19 = .ok (.ireturn, 1) := by decide +kernel
theorem dX9_size_0 : decode cX9_size 0 = .ok (.aload_n 0, 1) := by decide +kernel
theorem dX9_size_1 : decode cX9_size 1 = .ok (.getfield 21, 3) := by decide +kernel
theorem dX9_size_4 : decode cX9_size 4 = .ok (.aload_n 0, 1) := by decide +kernel
theorem dX9_size_5 : decode cX9_size 5 = .ok (.getfield 12, 3) := by decide +kernel
theorem dX9_size_8 : decode cX9_size 8 = .ok (.iload_n 1, 1) := by decide +kernel
theorem dX9_size_9 : decode cX9_size 9 = .ok (.invokevirtual 60, 3) := by decide +kernel
theorem dX9_size_12 : decode cX9_size 12 = .ok (.aload_n 0, 1) := by decide +kernel
theorem dX9_size_13 : decode cX9_size 13 = .ok (.iload_n 1, 1) := by decide +kernel
theorem dX9_size_14 : decode cX9_size 14 = .ok (.invokevirtual 188, 3) := by decide +kernel
theorem dX9_size_17 : decode cX9_size 17 = .ok (.invokevirtual 191, 3) := by decide +kernel
theorem dX9_size_20 : decode cX9_size 20 = .ok (.ireturn, 1) := by decide +kernel
theorem dX9_validate_0 : decode cX9_validate 0 = .ok (.aload_n 0, 1) := by decide +kernel
theorem dX9_validate_1 : decode cX9_validate 1 = .ok (.iload_n 1, 1) := by decide +kernel
theorem dX9_validate_2 : decode cX9_validate 2 = .ok (.invokevirtual 188, 3) := by decide +kernel
theorem dX9_validate_5 : decode cX9_validate 5 = .ok (.invokevirtual 195, 3) := by decide +kernel
theorem dX9_validate_8 : decode cX9_validate 8 = .ok (.ireturn, 1) := by decide +kernel
theorem dX9_appearance_0 : decode cX9_appearance 0 = .ok (.aload_n 0, 1) := by decide +kernel
theorem dX9_appearance_1 : decode cX9_appearance 1 = .ok (.iload_n 1, 1) := by decide +kernel
theorem dX9_appearance_2 : decode cX9_appearance 2 = .ok (.invokevirtual 188, 3) := by decide +kernel
theorem dX9_appearance_5 : decode cX9_appearance 5 = .ok (.astore_n 2, 1) := by decide +kernel
theorem dX9_appearance_6 : decode cX9_appearance 6 = .ok (.aload_n 0, 1) := by decide +kernel
theorem dX9_appearance_7 : decode cX9_appearance 7 = .ok (.getfield 53, 3) := by decide +kernel
theorem dX9_appearance_10 : decode cX9_appearance 10 = .ok (.invokevirtual 198, 3) := by decide +kernel
theorem dX9_appearance_13 : decode cX9_appearance 13 = .ok (.aload_n 0, 1) := by decide +kernel
theorem dX9_appearance_14 : decode cX9_appearance 14 = .ok (.getfield 21, 3) := by decide +kernel
theorem dX9_appearance_17 : decode cX9_appearance 17 = .ok (.aload_n 0, 1) := by decide +kernel
theorem dX9_appearance_18 : decode cX9_appearance 18 = .ok (.getfield 12, 3) := by decide +kernel
theorem dX9_appearance_21 : decode cX9_appearance 21 = .ok (.iload_n 1, 1) := by decide +kernel
theorem dX9_appearance_22 : decode cX9_appearance 22 = .ok (.invokevirtual 60, 3) := by decide +kernel
theorem dX9_appearance_25 : decode cX9_appearance 25 = .ok (.aload_n 2, 1) := by decide +kernel
theorem dX9_appearance_26 : decode cX9_appearance 26 = .ok (.aload_n 0, 1) := by decide +kernel
theorem dX9_appearance_27 : decode cX9_appearance 27 = .ok (.getfield 53, 3) := by decide +kernel
theorem dX9_appearance_30 : decode cX9_appearance 30 = .ok (.invokevirtual 201, 3) := by decide +kernel
theorem dX9_appearance_33 : decode cX9_appearance 33 = .ok (.aload_n 0, 1) := by decide +kernel
theorem dX9_appearance_34 : decode cX9_appearance 34 = .ok (.getfield 53, 3) := by decide +kernel
theorem dX9_appearance_37 : decode cX9_appearance 37 = .ok (.invokevirtual 205, 3) := by decide +kernel
theorem dX9_appearance_40 : decode cX9_appearance 40 = .ok (.ireturn, 1) := by decide +kernel
theorem dX9_mark_0 : decode cX9_mark 0 = .ok (.aload_n 0, 1) := by decide +kernel
theorem dX9_mark_1 : decode cX9_mark 1 = .ok (.getfield 53, 3) := by decide +kernel
theorem dX9_mark_4 : decode cX9_mark 4 = .ok (.iload_n 1, 1) := by decide +kernel
theorem dX9_mark_5 : decode cX9_mark 5 = .ok (.iload_n 2, 1) := by decide +kernel
theorem dX9_mark_6 : decode cX9_mark 6 = .ok (.invokevirtual 206, 3) := by decide +kernel
theorem dX9_mark_9 : decode cX9_mark 9 = .ok (.ifCond .eq 8, 3) := by decide +kernel
theorem dX9_mark_12 : decode cX9_mark 12 = .ok (.iload_n 2, 1) := by decide +kernel
theorem dX9_mark_13 : decode cX9_mark 13 = .ok (.iconst 4, 1) := by decide +kernel
theorem dX9_mark_14 : decode cX9_mark 14 = .ok (.if_icmp .ne 11, 3) := by decide +kernel
theorem dX9_mark_17 : decode cX9_mark 17 = .ok (.new 176, 3) := by decide +kernel
theorem dX9_mark_20 : decode cX9_mark 20 = .ok (.dup, 1) := by decide +kernel
theorem dX9_mark_21 : decode cX9_mark 21 = .ok (.invokespecial 178, 3) := by decide +kernel
theorem dX9_mark_24 : decode cX9_mark 24 = .ok (.athrow, 1) := by decide +kernel
theorem dX9_mark_25 : decode cX9_mark 25 = .ok (.aload_n 0, 1) := by decide +kernel
theorem dX9_mark_26 : decode cX9_mark 26 = .ok (.getfield 53, 3) := by decide +kernel
theorem dX9_mark_29 : decode cX9_mark 29 = .ok (.iload_n 1, 1) := by decide +kernel
theorem dX9_mark_30 : decode cX9_mark 30 = .ok (.iload_n 2, 1) := by decide +kernel
theorem dX9_mark_31 : decode cX9_mark 31 = .ok (.invokevirtual 208, 3) := by decide +kernel
theorem dX9_mark_34 : decode cX9_mark 34 = .ok (.ireturn, 1) := by decide +kernel
theorem dX9_flatten_0 : decode cX9_flatten 0 = .ok (.aload_n 0, 1) := by decide +kernel
theorem dX9_flatten_1 : decode cX9_flatten 1 = .ok (.getfield 12, 3) := by decide +kernel
theorem dX9_flatten_4 : decode cX9_flatten 4 = .ok (.iload_n 1, 1) := by decide +kernel
theorem dX9_flatten_5 : decode cX9_flatten 5 = .ok (.invokevirtual 60, 3) := by decide +kernel
theorem dX9_flatten_8 : decode cX9_flatten 8 = .ok (.astore_n 2, 1) := by decide +kernel
theorem dX9_flatten_9 : decode cX9_flatten 9 = .ok (.aload_n 0, 1) := by decide +kernel
theorem dX9_flatten_10 : decode cX9_flatten 10 = .ok (.iload_n 1, 1) := by decide +kernel
theorem dX9_flatten_11 : decode cX9_flatten 11 = .ok (.invokevirtual 188, 3) := by decide +kernel
theorem dX9_flatten_14 : decode cX9_flatten 14 = .ok (.astore_n 3, 1) := by decide +kernel
theorem dX9_flatten_15 : decode cX9_flatten 15 = .ok (.aload_n 2, 1) := by decide +kernel
theorem dX9_flatten_16 : decode cX9_flatten 16 = .ok (.getfield 98, 3) := by decide +kernel
theorem dX9_flatten_19 : decode cX9_flatten 19 = .ok (.ifCond .eq 11, 3) := by decide +kernel
theorem dX9_flatten_22 : decode cX9_flatten 22 = .ok (.new 80, 3) := by decide +kernel
theorem dX9_flatten_25 : decode cX9_flatten 25 = .ok (.dup, 1) := by decide +kernel
theorem dX9_flatten_26 : decode cX9_flatten 26 = .ok (.invokespecial 82, 3) := by decide +kernel
theorem dX9_flatten_29 : decode cX9_flatten 29 = .ok (.athrow, 1) := by decide +kernel
theorem dX9_flatten_30 : decode cX9_flatten 30 = .ok (.aload_n 0, 1) := by decide +kernel
theorem dX9_flatten_31 : decode cX9_flatten 31 = .ok (.getfield 57, 3) := by decide +kernel
theorem dX9_flatten_34 : decode cX9_flatten 34 = .ok (.invokevirtual 205, 3) := by decide +kernel
theorem dX9_flatten_37 : decode cX9_flatten 37 = .ok (.iconst 1, 1) := by decide +kernel
theorem dX9_flatten_38 : decode cX9_flatten 38 = .ok (.iadd, 1) := by decide +kernel
theorem dX9_flatten_39 : decode cX9_flatten 39 = .ok (.aload_n 0, 1) := by decide +kernel
theorem dX9_flatten_40 : decode cX9_flatten 40 = .ok (.getfield 21, 3) := by decide +kernel
theorem dX9_flatten_43 : decode cX9_flatten 43 = .ok (.aload_n 3, 1) := by decide +kernel
theorem dX9_flatten_44 : decode cX9_flatten 44 = .ok (.invokevirtual 184, 3) := by decide +kernel
theorem dX9_flatten_47 : decode cX9_flatten 47 = .ok (.invokevirtual 130, 3) := by decide +kernel
theorem dX9_flatten_50 : decode cX9_flatten 50 = .ok (.iadd, 1) := by decide +kernel
theorem dX9_flatten_51 : decode cX9_flatten 51 = .ok (.sipush 400, 3) := by decide +kernel
theorem dX9_flatten_54 : decode cX9_flatten 54 = .ok (.if_icmp .le 11, 3) := by decide +kernel
theorem dX9_flatten_57 : decode cX9_flatten 57 = .ok (.new 127, 3) := by decide +kernel
theorem dX9_flatten_60 : decode cX9_flatten 60 = .ok (.dup, 1) := by decide +kernel
theorem dX9_flatten_61 : decode cX9_flatten 61 = .ok (.invokespecial 129, 3) := by decide +kernel
theorem dX9_flatten_64 : decode cX9_flatten 64 = .ok (.athrow, 1) := by decide +kernel
theorem dX9_flatten_65 : decode cX9_flatten 65 = .ok (.aload_n 0, 1) := by decide +kernel
theorem dX9_flatten_66 : decode cX9_flatten 66 = .ok (.getfield 21, 3) := by decide +kernel
theorem dX9_flatten_69 : decode cX9_flatten 69 = .ok (.aload_n 2, 1) := by decide +kernel
theorem dX9_flatten_70 : decode cX9_flatten 70 = .ok (.aload_n 3, 1) := by decide +kernel
theorem dX9_flatten_71 : decode cX9_flatten 71 = .ok (.aload_n 0, 1) := by decide +kernel
theorem dX9_flatten_72 : decode cX9_flatten 72 = .ok (.getfield 57, 3) := by decide +kernel
theorem dX9_flatten_75 : decode cX9_flatten 75 = .ok (.invokevirtual 201, 3) := by decide +kernel
theorem dX9_flatten_78 : decode cX9_flatten 78 = .ok (.aload_n 2, 1) := by decide +kernel
theorem dX9_flatten_79 : decode cX9_flatten 79 = .ok (.iconst 1, 1) := by decide +kernel
theorem dX9_flatten_80 : decode cX9_flatten 80 = .ok (.putfield 98, 3) := by decide +kernel
theorem dX9_flatten_83 : decode cX9_flatten 83 = .ok (.aload_n 0, 1) := by decide +kernel
theorem dX9_flatten_84 : decode cX9_flatten 84 = .ok (.getfield 57, 3) := by decide +kernel
theorem dX9_flatten_87 : decode cX9_flatten 87 = .ok (.invokevirtual 205, 3) := by decide +kernel
theorem dX9_flatten_90 : decode cX9_flatten 90 = .ok (.ireturn, 1) := by decide +kernel
theorem dX9_page_0 : decode cX9_page 0 = .ok (.aload_n 0, 1) := by decide +kernel
theorem dX9_page_1 : decode cX9_page 1 = .ok (.getfield 57, 3) := by decide +kernel
theorem dX9_page_4 : decode cX9_page 4 = .ok (.iload_n 1, 1) := by decide +kernel
theorem dX9_page_5 : decode cX9_page 5 = .ok (.iload_n 2, 1) := by decide +kernel
theorem dX9_page_6 : decode cX9_page 6 = .ok (.invokevirtual 206, 3) := by decide +kernel
theorem dX9_page_9 : decode cX9_page 9 = .ok (.ifCond .ne 11, 3) := by decide +kernel
theorem dX9_page_12 : decode cX9_page 12 = .ok (.new 176, 3) := by decide +kernel
theorem dX9_page_15 : decode cX9_page 15 = .ok (.dup, 1) := by decide +kernel
theorem dX9_page_16 : decode cX9_page 16 = .ok (.invokespecial 178, 3) := by decide +kernel
theorem dX9_page_19 : decode cX9_page 19 = .ok (.athrow, 1) := by decide +kernel
theorem dX9_page_20 : decode cX9_page 20 = .ok (.aload_n 0, 1) := by decide +kernel
theorem dX9_page_21 : decode cX9_page 21 = .ok (.getfield 57, 3) := by decide +kernel
theorem dX9_page_24 : decode cX9_page 24 = .ok (.iload_n 1, 1) := by decide +kernel
theorem dX9_page_25 : decode cX9_page 25 = .ok (.iload_n 2, 1) := by decide +kernel
theorem dX9_page_26 : decode cX9_page 26 = .ok (.invokevirtual 208, 3) := by decide +kernel
theorem dX9_page_29 : decode cX9_page 29 = .ok (.ireturn, 1) := by decide +kernel
theorem dX9_write_0 : decode cX9_write 0 = .ok (.aload_n 0, 1) := by decide +kernel
theorem dX9_write_1 : decode cX9_write 1 = .ok (.getfield 37, 3) := by decide +kernel
theorem dX9_write_4 : decode cX9_write 4 = .ok (.invokevirtual 210, 3) := by decide +kernel
theorem dX9_write_7 : decode cX9_write 7 = .ok (.ireturn, 1) := by decide +kernel
theorem dX9_at_0 : decode cX9_at 0 = .ok (.aload_n 0, 1) := by decide +kernel
theorem dX9_at_1 : decode cX9_at 1 = .ok (.getfield 37, 3) := by decide +kernel
theorem dX9_at_4 : decode cX9_at 4 = .ok (.getfield 213, 3) := by decide +kernel
theorem dX9_at_7 : decode cX9_at 7 = .ok (.iload_n 1, 1) := by decide +kernel
theorem dX9_at_8 : decode cX9_at 8 = .ok (.invokevirtual 173, 3) := by decide +kernel
theorem dX9_at_11 : decode cX9_at 11 = .ok (.ifCond .ne 11, 3) := by decide +kernel
theorem dX9_at_14 : decode cX9_at 14 = .ok (.new 216, 3) := by decide +kernel
theorem dX9_at_17 : decode cX9_at 17 = .ok (.dup, 1) := by decide +kernel
theorem dX9_at_18 : decode cX9_at 18 = .ok (.invokespecial 218, 3) := by decide +kernel
theorem dX9_at_21 : decode cX9_at 21 = .ok (.athrow, 1) := by decide +kernel
theorem dX9_at_22 : decode cX9_at 22 = .ok (.aload_n 0, 1) := by decide +kernel
theorem dX9_at_23 : decode cX9_at 23 = .ok (.getfield 37, 3) := by decide +kernel
theorem dX9_at_26 : decode cX9_at 26 = .ok (.getfield 213, 3) := by decide +kernel
theorem dX9_at_29 : decode cX9_at 29 = .ok (.iload_n 1, 1) := by decide +kernel
theorem dX9_at_30 : decode cX9_at 30 = .ok (.invokevirtual 179, 3) := by decide +kernel
theorem dX9_at_33 : decode cX9_at 33 = .ok (.ireturn, 1) := by decide +kernel
theorem dX9_read_0 : decode cX9_read 0 = .ok (.iload_n 1, 1) := by decide +kernel
theorem dX9_read_1 : decode cX9_read 1 = .ok (.iconst (-1), 1) := by decide +kernel
theorem dX9_read_2 : decode cX9_read 2 = .ok (.if_icmp .lt 10, 3) := by decide +kernel
theorem dX9_read_5 : decode cX9_read 5 = .ok (.iload_n 1, 1) := by decide +kernel
theorem dX9_read_6 : decode cX9_read 6 = .ok (.sipush 255, 3) := by decide +kernel
theorem dX9_read_9 : decode cX9_read 9 = .ok (.if_icmp .le 11, 3) := by decide +kernel
theorem dX9_read_12 : decode cX9_read 12 = .ok (.new 70, 3) := by decide +kernel
theorem dX9_read_15 : decode cX9_read 15 = .ok (.dup, 1) := by decide +kernel
theorem dX9_read_16 : decode cX9_read 16 = .ok (.invokespecial 72, 3) := by decide +kernel
theorem dX9_read_19 : decode cX9_read 19 = .ok (.athrow, 1) := by decide +kernel
theorem dX9_read_20 : decode cX9_read 20 = .ok (.iload_n 1, 1) := by decide +kernel
theorem dX9_read_21 : decode cX9_read 21 = .ok (.iconst (-1), 1) := by decide +kernel
theorem dX9_read_22 : decode cX9_read 22 = .ok (.if_icmp .ne 11, 3) := by decide +kernel
theorem dX9_read_25 : decode cX9_read 25 = .ok (.aload_n 0, 1) := by decide +kernel
theorem dX9_read_26 : decode cX9_read 26 = .ok (.getfield 44, 3) := by decide +kernel
theorem dX9_read_29 : decode cX9_read 29 = .ok (.invokevirtual 219, 3) := by decide +kernel
theorem dX9_read_32 : decode cX9_read 32 = .ok (.ireturn, 1) := by decide +kernel
theorem dX9_read_33 : decode cX9_read 33 = .ok (.aload_n 0, 1) := by decide +kernel
theorem dX9_read_34 : decode cX9_read 34 = .ok (.getfield 44, 3) := by decide +kernel
theorem dX9_read_37 : decode cX9_read 37 = .ok (.getfield 222, 3) := by decide +kernel
theorem dX9_read_40 : decode cX9_read 40 = .ok (.iload_n 1, 1) := by decide +kernel
theorem dX9_read_41 : decode cX9_read 41 = .ok (.invokevirtual 125, 3) := by decide +kernel
theorem dX9_read_44 : decode cX9_read 44 = .ok (.ifCond .ne 11, 3) := by decide +kernel
theorem dX9_read_47 : decode cX9_read 47 = .ok (.new 127, 3) := by decide +kernel
theorem dX9_read_50 : decode cX9_read 50 = .ok (.dup, 1) := by decide +kernel
theorem dX9_read_51 : decode cX9_read 51 = .ok (.invokespecial 129, 3) := by decide +kernel
theorem dX9_read_54 : decode cX9_read 54 = .ok (.athrow, 1) := by decide +kernel
theorem dX9_read_55 : decode cX9_read 55 = .ok (.aload_n 0, 1) := by decide +kernel
theorem dX9_read_56 : decode cX9_read 56 = .ok (.getfield 44, 3) := by decide +kernel
theorem dX9_read_59 : decode cX9_read 59 = .ok (.getfield 222, 3) := by decide +kernel
theorem dX9_read_62 : decode cX9_read 62 = .ok (.invokevirtual 130, 3) := by decide +kernel
theorem dX9_read_65 : decode cX9_read 65 = .ok (.ireturn, 1) := by decide +kernel
theorem dX9_lock_0 : decode cX9_lock 0 = .ok (.aload_n 0, 1) := by decide +kernel
theorem dX9_lock_1 : decode cX9_lock 1 = .ok (.iload_n 1, 1) := by decide +kernel
theorem dX9_lock_2 : decode cX9_lock 2 = .ok (.invokevirtual 188, 3) := by decide +kernel
theorem dX9_lock_5 : decode cX9_lock 5 = .ok (.astore_n 3, 1) := by decide +kernel
theorem dX9_lock_6 : decode cX9_lock 6 = .ok (.aload_n 3, 1) := by decide +kernel
theorem dX9_lock_7 : decode cX9_lock 7 = .ok (.getfield 94, 3) := by decide +kernel
theorem dX9_lock_10 : decode cX9_lock 10 = .ok (.ifCond .eq 7, 3) := by decide +kernel
theorem dX9_lock_13 : decode cX9_lock 13 = .ok (.iconst 1, 1) := by decide +kernel
theorem dX9_lock_14 : decode cX9_lock 14 = .ok (.goto 4, 3) := by decide +kernel
theorem dX9_lock_17 : decode cX9_lock 17 = .ok (.iconst 0, 1) := by decide +kernel
theorem dX9_lock_18 : decode cX9_lock 18 = .ok (.istore 4, 2) := by decide +kernel
theorem dX9_lock_20 : decode cX9_lock 20 = .ok (.aload_n 3, 1) := by decide +kernel
theorem dX9_lock_21 : decode cX9_lock 21 = .ok (.iload_n 2, 1) := by decide +kernel
theorem dX9_lock_22 : decode cX9_lock 22 = .ok (.putfield 94, 3) := by decide +kernel
theorem dX9_lock_25 : decode cX9_lock 25 = .ok (.iload 4, 2) := by decide +kernel
theorem dX9_lock_27 : decode cX9_lock 27 = .ok (.ireturn, 1) := by decide +kernel
theorem dX9_masterWithValue_0 : decode cX9_masterWithValue 0 = .ok (.aload_n 0, 1) := by decide +kernel
theorem dX9_masterWithValue_1 : decode cX9_masterWithValue 1 = .ok (.getfield 12, 3) := by decide +kernel
theorem dX9_masterWithValue_4 : decode cX9_masterWithValue 4 = .ok (.iload_n 1, 1) := by decide +kernel
theorem dX9_masterWithValue_5 : decode cX9_masterWithValue 5 = .ok (.invokevirtual 87, 3) := by decide +kernel
theorem dX9_masterWithValue_8 : decode cX9_masterWithValue 8 = .ok (.astore_n 2, 1) := by decide +kernel
theorem dX9_masterWithValue_9 : decode cX9_masterWithValue 9 = .ok (.aload_n 2, 1) := by decide +kernel
theorem dX9_masterWithValue_10 : decode cX9_masterWithValue 10 = .ok (.getfield 73, 3) := by decide +kernel
theorem dX9_masterWithValue_13 : decode cX9_masterWithValue 13 = .ok (.ifCond .ne 11, 3) := by decide +kernel
theorem dX9_masterWithValue_16 : decode cX9_masterWithValue 16 = .ok (.new 70, 3) := by decide +kernel
theorem dX9_masterWithValue_19 : decode cX9_masterWithValue 19 = .ok (.dup, 1) := by decide +kernel
theorem dX9_masterWithValue_20 : decode cX9_masterWithValue 20 = .ok (.invokespecial 72, 3) := by decide +kernel
theorem dX9_masterWithValue_23 : decode cX9_masterWithValue 23 = .ok (.athrow, 1) := by decide +kernel
theorem dX9_masterWithValue_24 : decode cX9_masterWithValue 24 = .ok (.aload_n 2, 1) := by decide +kernel
theorem dX9_masterWithValue_25 : decode cX9_masterWithValue 25 = .ok (.areturn, 1) := by decide +kernel
theorem dX10_init_0 : decode cX10_init 0 = .ok (.aload_n 0, 1) := by decide +kernel
theorem dX10_init_1 : decode cX10_init 1 = .ok (.invokespecial 1, 3) := by decide +kernel
theorem dX10_init_4 : decode cX10_init 4 = .ok (.aload_n 0, 1) := by decide +kernel
theorem dX10_init_5 : decode cX10_init 5 = .ok (.bipush 40, 2) := by decide +kernel
theorem dX10_init_7 : decode cX10_init 7 = .ok (.newarray .int, 2) := by decide +kernel
theorem dX10_init_9 : decode cX10_init 9 = .ok (.putfield 7, 3) := by decide +kernel
theorem dX10_init_12 : decode cX10_init 12 = .ok (.aload_n 0, 1) := by decide +kernel
theorem dX10_init_13 : decode cX10_init 13 = .ok (.bipush 40, 2) := by decide +kernel
theorem dX10_init_15 : decode cX10_init 15 = .ok (.newarray .int, 2) := by decide +kernel
theorem dX10_init_17 : decode cX10_init 17 = .ok (.putfield 13, 3) := by decide +kernel
theorem dX10_init_20 : decode cX10_init 20 = .ok (.aload_n 0, 1) := by decide +kernel
theorem dX10_init_21 : decode cX10_init 21 = .ok (.bipush 40, 2) := by decide +kernel
theorem dX10_init_23 : decode cX10_init 23 = .ok (.newarray .int, 2) := by decide +kernel
theorem dX10_init_25 : decode cX10_init 25 = .ok (.putfield 16, 3) := by decide +kernel
theorem dX10_init_28 : decode cX10_init 28 = .ok (.aload_n 0, 1) := by decide +kernel
theorem dX10_init_29 : decode cX10_init 29 = .ok (.bipush 40, 2) := by decide +kernel
theorem dX10_init_31 : decode cX10_init 31 = .ok (.newarray .int, 2) := by decide +kernel
theorem dX10_init_33 : decode cX10_init 33 = .ok (.putfield 19, 3) := by decide +kernel
theorem dX10_init_36 : decode cX10_init 36 = .ok (.aload_n 0, 1) := by decide +kernel
theorem dX10_init_37 : decode cX10_init 37 = .ok (.bipush 40, 2) := by decide +kernel
theorem dX10_init_39 : decode cX10_init 39 = .ok (.newarray .int, 2) := by decide +kernel
theorem dX10_init_41 : decode cX10_init 41 = .ok (.putfield 22, 3) := by decide +kernel
theorem dX10_init_44 : decode cX10_init 44 = .ok (.aload_n 0, 1) := by decide +kernel
theorem dX10_init_45 : decode cX10_init 45 = .ok (.bipush 40, 2) := by decide +kernel
theorem dX10_init_47 : decode cX10_init 47 = .ok (.newarray .int, 2) := by decide +kernel
theorem dX10_init_49 : decode cX10_init 49 = .ok (.putfield 25, 3) := by decide +kernel
theorem dX10_init_52 : decode cX10_init 52 = .ok (.aload_n 0, 1) := by decide +kernel
theorem dX10_init_53 : decode cX10_init 53 = .ok (.bipush 40, 2) := by decide +kernel
theorem dX10_init_55 : decode cX10_init 55 = .ok (.newarray .int, 2) := by decide +kernel
theorem dX10_init_57 : decode cX10_init 57 = .ok (.putfield 28, 3) := by decide +kernel
theorem dX10_init_60 : decode cX10_init 60 = .ok (.aload_n 0, 1) := by decide +kernel
theorem dX10_init_61 : decode cX10_init 61 = .ok (.bipush 40, 2) := by decide +kernel
theorem dX10_init_63 : decode cX10_init 63 = .ok (.newarray .boolean, 2) := by decide +kernel
theorem dX10_init_65 : decode cX10_init 65 = .ok (.putfield 31, 3) := by decide +kernel
theorem dX10_init_68 : decode cX10_init 68 = .ok (.aload_n 0, 1) := by decide +kernel
theorem dX10_init_69 : decode cX10_init 69 = .ok (.sipush 1200, 3) := by decide +kernel
theorem dX10_init_72 : decode cX10_init 72 = .ok (.newarray .int, 2) := by decide +kernel
theorem dX10_init_74 : decode cX10_init 74 = .ok (.putfield 35, 3) := by decide +kernel
theorem dX10_init_77 : decode cX10_init 77 = .ok (.aload_n 0, 1) := by decide +kernel
theorem dX10_init_78 : decode cX10_init 78 = .ok (.bipush 40, 2) := by decide +kernel
theorem dX10_init_80 : decode cX10_init 80 = .ok (.newarray .int, 2) := by decide +kernel
theorem dX10_init_82 : decode cX10_init 82 = .ok (.putfield 38, 3) := by decide +kernel
theorem dX10_init_85 : decode cX10_init 85 = .ok (.aload_n 0, 1) := by decide +kernel
theorem dX10_init_86 : decode cX10_init 86 = .ok (.bipush 40, 2) := by decide +kernel
theorem dX10_init_88 : decode cX10_init 88 = .ok (.newarray .int, 2) := by decide +kernel
theorem dX10_init_90 : decode cX10_init 90 = .ok (.putfield 41, 3) := by decide +kernel
theorem dX10_init_93 : decode cX10_init 93 = .ok (.aload_n 0, 1) := by decide +kernel
theorem dX10_init_94 : decode cX10_init 94 = .ok (.sipush 480, 3) := by decide +kernel
theorem dX10_init_97 : decode cX10_init 97 = .ok (.newarray .int, 2) := by decide +kernel
theorem dX10_init_99 : decode cX10_init 99 = .ok (.putfield 44, 3) := by decide +kernel
theorem dX10_init_102 : decode cX10_init 102 = .ok (.aload_n 0, 1) := by decide +kernel
theorem dX10_init_103 : decode cX10_init 103 = .ok (.bipush 40, 2) := by decide +kernel
theorem dX10_init_105 : decode cX10_init 105 = .ok (.newarray .int, 2) := by decide +kernel
theorem dX10_init_107 : decode cX10_init 107 = .ok (.putfield 47, 3) := by decide +kernel
theorem dX10_init_110 : decode cX10_init 110 = .ok (.aload_n 0, 1) := by decide +kernel
theorem dX10_init_111 : decode cX10_init 111 = .ok (.sipush 200, 3) := by decide +kernel
theorem dX10_init_114 : decode cX10_init 114 = .ok (.newarray .int, 2) := by decide +kernel
theorem dX10_init_116 : decode cX10_init 116 = .ok (.putfield 50, 3) := by decide +kernel
theorem dX10_init_119 : decode cX10_init 119 = .ok (.aload_n 0, 1) := by decide +kernel
theorem dX10_init_120 : decode cX10_init 120 = .ok (.bipush 40, 2) := by decide +kernel
theorem dX10_init_122 : decode cX10_init 122 = .ok (.newarray .long, 2) := by decide +kernel
theorem dX10_init_124 : decode cX10_init 124 = .ok (.putfield 53, 3) := by decide +kernel
theorem dX10_init_127 : decode cX10_init 127 = .ok (.aload_n 0, 1) := by decide +kernel
theorem dX10_init_128 : decode cX10_init 128 = .ok (.bipush 40, 2) := by decide +kernel
theorem dX10_init_130 : decode cX10_init 130 = .ok (.newarray .long, 2) := by decide +kernel
theorem dX10_init_132 : decode cX10_init 132 = .ok (.putfield 57, 3) := by decide +kernel
theorem dX10_init_135 : decode cX10_init 135 = .ok (.aload_n 0, 1) := by decide +kernel
theorem dX10_init_136 : decode cX10_init 136 = .ok (.bipush 40, 2) := by decide +kernel
theorem dX10_init_138 : decode cX10_init 138 = .ok (.newarray .int, 2) := by decide +kernel
theorem dX10_init_140 : decode cX10_init 140 = .ok (.putfield 60, 3) := by decide +kernel
theorem dX10_init_143 : decode cX10_init 143 = .ok (.aload_n 0, 1) := by decide +kernel
theorem dX10_init_144 : decode cX10_init 144 = .ok (.bipush 40, 2) := by decide +kernel
theorem dX10_init_146 : decode cX10_init 146 = .ok (.newarray .int, 2) := by decide +kernel
theorem dX10_init_148 : decode cX10_init 148 = .ok (.putfield 63, 3) := by decide +kernel
theorem dX10_init_151 : decode cX10_init 151 = .ok (.aload_n 0, 1) := by decide +kernel
theorem dX10_init_152 : decode cX10_init 152 = .ok (.bipush 40, 2) := by decide +kernel
theorem dX10_init_154 : decode cX10_init 154 = .ok (.newarray .int, 2) := by decide +kernel
theorem dX10_init_156 : decode cX10_init 156 = .ok (.putfield 66, 3) := by decide +kernel
theorem dX10_init_159 : decode cX10_init 159 = .ok (.aload_n 0, 1) := by decide +kernel
theorem dX10_init_160 : decode cX10_init 160 = .ok (.bipush 40, 2) := by decide +kernel
theorem dX10_init_162 : decode cX10_init 162 = .ok (.newarray .boolean, 2) := by decide +kernel
theorem dX10_init_164 : decode cX10_init 164 = .ok (.putfield 69, 3) := by decide +kernel
theorem dX10_init_167 : decode cX10_init 167 = .ok (.aload_n 0, 1) := by decide +kernel
theorem dX10_init_168 : decode cX10_init 168 = .ok (.bipush 40, 2) := by decide +kernel
theorem dX10_init_170 : decode cX10_init 170 = .ok (.newarray .boolean, 2) := by decide +kernel
theorem dX10_init_172 : decode cX10_init 172 = .ok (.putfield 72, 3) := by decide +kernel
theorem dX10_init_175 : decode cX10_init 175 = .ok (.aload_n 0, 1) := by decide +kernel
theorem dX10_init_176 : decode cX10_init 176 = .ok (.sipush 1600, 3) := by decide +kernel
theorem dX10_init_179 : decode cX10_init 179 = .ok (.newarray .boolean, 2) := by decide +kernel
theorem dX10_init_181 : decode cX10_init 181 = .ok (.putfield 75, 3) := by decide +kernel
theorem dX10_init_184 : decode cX10_init 184 = .ok (.aload_n 0, 1) := by decide +kernel
theorem dX10_init_185 : decode cX10_init 185 = .ok (.bipush 40, 2) := by decide +kernel
theorem dX10_init_187 : decode cX10_init 187 = .ok (.newarray .boolean, 2) := by decide +kernel
theorem dX10_init_189 : decode cX10_init 189 = .ok (.putfield 78, 3) := by decide +kernel
theorem dX10_init_192 : decode cX10_init 192 = .ok (.aload_n 0, 1) := by decide +kernel
theorem dX10_init_193 : decode cX10_init 193 = .ok (.bipush 40, 2) := by decide +kernel
theorem dX10_init_195 : decode cX10_init 195 = .ok (.newarray .int, 2) := by decide +kernel
theorem dX10_init_197 : decode cX10_init 197 = .ok (.putfield 81, 3) := by decide +kernel
theorem dX10_init_200 : decode cX10_init 200 = .ok (.aload_n 0, 1) := by decide +kernel
theorem dX10_init_201 : decode cX10_init 201 = .ok (.bipush 64, 2) := by decide +kernel
theorem dX10_init_203 : decode cX10_init 203 = .ok (.newarray .int, 2) := by decide +kernel
theorem dX10_init_205 : decode cX10_init 205 = .ok (.putfield 84, 3) := by decide +kernel
theorem dX10_init_208 : decode cX10_init 208 = .ok (.aload_n 0, 1) := by decide +kernel
theorem dX10_init_209 : decode cX10_init 209 = .ok (.sipush 160, 3) := by decide +kernel
theorem dX10_init_212 : decode cX10_init 212 = .ok (.newarray .int, 2) := by decide +kernel
theorem dX10_init_214 : decode cX10_init 214 = .ok (.putfield 87, 3) := by decide +kernel
theorem dX10_init_217 : decode cX10_init 217 = .ok (.aload_n 0, 1) := by decide +kernel
theorem dX10_init_218 : decode cX10_init 218 = .ok (.sipush 160, 3) := by decide +kernel
theorem dX10_init_221 : decode cX10_init 221 = .ok (.newarray .int, 2) := by decide +kernel
theorem dX10_init_223 : decode cX10_init 223 = .ok (.putfield 90, 3) := by decide +kernel
theorem dX10_init_226 : decode cX10_init 226 = .ok (.aload_n 0, 1) := by decide +kernel
theorem dX10_init_227 : decode cX10_init 227 = .ok (.sipush 2000, 3) := by decide +kernel
theorem dX10_init_230 : decode cX10_init 230 = .ok (.newarray .int, 2) := by decide +kernel
theorem dX10_init_232 : decode cX10_init 232 = .ok (.putfield 93, 3) := by decide +kernel
theorem dX10_init_235 : decode cX10_init 235 = .ok (.aload_n 0, 1) := by decide +kernel
theorem dX10_init_236 : decode cX10_init 236 = .ok (.sipush 8000, 3) := by decide +kernel
theorem dX10_init_239 : decode cX10_init 239 = .ok (.newarray .int, 2) := by decide +kernel
theorem dX10_init_241 : decode cX10_init 241 = .ok (.putfield 96, 3) := by decide +kernel
theorem dX10_init_244 : decode cX10_init 244 = .ok (.aload_n 0, 1) := by decide +kernel
theorem dX10_init_245 : decode cX10_init 245 = .ok (.sipush 3000, 3) := by decide +kernel
theorem dX10_init_248 : decode cX10_init 248 = .ok (.newarray .int, 2) := by decide +kernel
theorem dX10_init_250 : decode cX10_init 250 = .ok (.putfield 99, 3) := by decide +kernel
theorem dX10_init_253 : decode cX10_init 253 = .ok (.return_, 1) := by decide +kernel
theorem dX10_thrown_0 : decode cX10_thrown 0 = .ok (.aload_n 0, 1) := by decide +kernel
theorem dX10_thrown_1 : decode cX10_thrown 1 = .ok (.getfield 102, 3) := by decide +kernel
theorem dX10_thrown_4 : decode cX10_thrown 4 = .ok (.ireturn, 1) := by decide +kernel
theorem dX10_isIn_0 : decode cX10_isIn 0 = .ok (.lload_n 0, 1) := by decide +kernel
theorem dX10_isIn_1 : decode cX10_isIn 1 = .ok (.lload_n 2, 1) := by decide +kernel
theorem dX10_isIn_2 : decode cX10_isIn 2 = .ok (.lcmp, 1) := by decide +kernel
theorem dX10_isIn_3 : decode cX10_isIn 3 = .ok (.ifCond .lt 14, 3) := by decide +kernel
theorem dX10_isIn_6 : decode cX10_isIn 6 = .ok (.lload_n 0, 1) := by decide +kernel
theorem dX10_isIn_7 : decode cX10_isIn 7 = .ok (.lload 4, 2) := by decide +kernel
theorem dX10_isIn_9 : decode cX10_isIn 9 = .ok (.lcmp, 1) := by decide +kernel
theorem dX10_isIn_10 : decode cX10_isIn 10 = .ok (.ifCond .gt 7, 3) := by decide +kernel
theorem dX10_isIn_13 : decode cX10_isIn 13 = .ok (.iconst 1, 1) := by decide +kernel
theorem dX10_isIn_14 : decode cX10_isIn 14 = .ok (.goto 4, 3) := by decide +kernel
theorem dX10_isIn_17 : decode cX10_isIn 17 = .ok (.iconst 0, 1) := by decide +kernel
theorem dX10_isIn_18 : decode cX10_isIn 18 = .ok (.ireturn, 1) := by decide +kernel
theorem dX10_no_0 : decode cX10_no 0 = .ok (.iload_n 1, 1) := by decide +kernel
theorem dX10_no_1 : decode cX10_no 1 = .ok (.ifCond .lt 11, 3) := by decide +kernel
theorem dX10_no_4 : decode cX10_no 4 = .ok (.iload_n 1, 1) := by decide +kernel
theorem dX10_no_5 : decode cX10_no 5 = .ok (.aload_n 0, 1) := by decide +kernel
theorem dX10_no_6 : decode cX10_no 6 = .ok (.getfield 106, 3) := by decide +kernel
theorem dX10_no_9 : decode cX10_no 9 = .ok (.if_icmp .lt 7, 3) := by decide +kernel
theorem dX10_no_12 : decode cX10_no 12 = .ok (.iconst 1, 1) := by decide +kernel
theorem dX10_no_13 : decode cX10_no 13 = .ok (.goto 4, 3) := by decide +kernel
theorem dX10_no_16 : decode cX10_no 16 = .ok (.iconst 0, 1) := by decide +kernel
theorem dX10_no_17 : decode cX10_no 17 = .ok (.ireturn, 1) := by decide +kernel
theorem dX10_isSameName_0 : decode cX10_isSameName 0 = .ok (.iload_n 1, 1) := by decide +kernel
theorem dX10_isSameName_1 : decode cX10_isSameName 1 = .ok (.istore_n 3, 1) := by decide +kernel
theorem dX10_isSameName_2 : decode cX10_isSameName 2 = .ok (.iload_n 2, 1) := by decide +kernel
theorem dX10_isSameName_3 : decode cX10_isSameName 3 = .ok (.istore 4, 2) := by decide +kernel
theorem dX10_isSameName_5 : decode cX10_isSameName 5 = .ok (.iload_n 3, 1) := by decide +kernel
theorem dX10_isSameName_6 : decode cX10_isSameName 6 = .ok (.ifCond .lt 43, 3) := by decide +kernel
theorem dX10_isSameName_9 : decode cX10_isSameName 9 = .ok (.iload 4, 2) := by decide +kernel
theorem dX10_isSameName_11 : decode cX10_isSameName 11 = .ok (.ifCond .lt 38, 3) := by decide +kernel
theorem dX10_isSameName_14 : decode cX10_isSameName 14 = .ok (.aload_n 0, 1) := by decide +kernel
theorem dX10_isSameName_15 : decode cX10_isSameName 15 = .ok (.getfield 16, 3) := by decide +kernel
theorem dX10_isSameName_18 : decode cX10_isSameName 18 = .ok (.iload_n 3, 1) := by decide +kernel
theorem dX10_isSameName_19 : decode cX10_isSameName 19 = .ok (.iaload, 1) := by decide +kernel
theorem dX10_isSameName_20 : decode cX10_isSameName 20 = .ok (.aload_n 0, 1) := by decide +kernel
theorem dX10_isSameName_21 : decode cX10_isSameName 21 = .ok (.getfield 16, 3) := by decide +kernel
theorem dX10_isSameName_24 : decode cX10_isSameName 24 = .ok (.iload 4, 2) := by decide +kernel
theorem dX10_isSameName_26 : decode cX10_isSameName 26 = .ok (.iaload, 1) := by decide +kernel
theorem dX10_isSameName_27 : decode cX10_isSameName 27 = .ok (.if_icmp .ne 22, 3) := by decide +kernel
theorem dX10_isSameName_30 : decode cX10_isSameName 30 = .ok (.aload_n 0, 1) := by decide +kernel
theorem dX10_isSameName_31 : decode cX10_isSameName 31 = .ok (.getfield 13, 3) := by decide +kernel
theorem dX10_isSameName_34 : decode cX10_isSameName 34 = .ok (.iload_n 3, 1) := by decide +kernel
theorem dX10_isSameName_35 : decode cX10_isSameName 35 = .ok (.iaload, 1) := by decide +kernel
theorem dX10_isSameName_36 : decode cX10_isSameName 36 = .ok (.istore_n 3, 1) := by decide +kernel
theorem dX10_isSameName_37 : decode cX10_isSameName 37 = .ok (.aload_n 0, 1) := by decide +kernel
theorem dX10_isSameName_38 : decode cX10_isSameName 38 = .ok (.getfield 13, 3) := by decide +kernel
theorem dX10_isSameName_41 : decode cX10_isSameName 41 = .ok (.iload 4, 2) := by decide +kernel
theorem dX10_isSameName_43 : decode cX10_isSameName 43 = .ok (.iaload, 1) := by decide +kernel
theorem dX10_isSameName_44 : decode cX10_isSameName 44 = .ok (.istore 4, 2) := by decide +kernel
theorem dX10_isSameName_46 : decode cX10_isSameName 46 = .ok (.goto (-41), 3) := by decide +kernel
theorem dX10_isSameName_49 : decode cX10_isSameName 49 = .ok (.iload_n 3, 1) := by decide +kernel
theorem dX10_isSameName_50 : decode cX10_isSameName 50 = .ok (.ifCond .ge 12, 3) := by decide +kernel
theorem dX10_isSameName_53 : decode cX10_isSameName 53 = .ok (.iload 4, 2) := by decide +kernel
theorem dX10_isSameName_55 : decode cX10_isSameName 55 = .ok (.ifCond .ge 7, 3) := by decide +kernel
theorem dX10_isSameName_58 : decode cX10_isSameName 58 = .ok (.iconst 1, 1) := by decide +kernel
theorem dX10_isSameName_59 : decode cX10_isSameName 59 = .ok (.goto 4, 3) := by decide +kernel
theorem dX10_isSameName_62 : decode cX10_isSameName 62 = .ok (.iconst 0, 1) := by decide +kernel
theorem dX10_isSameName_63 : decode cX10_isSameName 63 = .ok (.ireturn, 1) := by decide +kernel
theorem dX10_field_0 : decode cX10_field 0 = .ok (.aload_n 0, 1) := by decide +kernel
theorem dX10_field_1 : decode cX10_field 1 = .ok (.iload_n 1, 1) := by decide +kernel
theorem dX10_field_2 : decode cX10_field 2 = .ok (.iconst (-1), 1) := by decide +kernel
theorem dX10_field_3 : decode cX10_field 3 = .ok (.if_icmp .eq 15, 3) := by decide +kernel
theorem dX10_field_6 : decode cX10_field 6 = .ok (.aload_n 0, 1) := by decide +kernel
theorem dX10_field_7 : decode cX10_field 7 = .ok (.iload_n 1, 1) := by decide +kernel
theorem dX10_field_8 : decode cX10_field 8 = .ok (.invokevirtual 109, 3) := by decide +kernel
theorem dX10_field_11 : decode cX10_field 11 = .ok (.ifCond .eq 7, 3) := by decide +kernel
theorem dX10_field_14 : decode cX10_field 14 = .ok (.iconst 1, 1) := by decide +kernel
theorem dX10_field_15 : decode cX10_field 15 = .ok (.goto 45, 3) := by decide +kernel
theorem dX10_field_18 : decode cX10_field 18 = .ok (.iload_n 2, 1) := by decide +kernel
theorem dX10_field_19 : decode cX10_field 19 = .ok (.i2l, 1) := by decide +kernel
theorem dX10_field_20 : decode cX10_field 20 = .ok (.lconst 0, 1) := by decide +kernel
theorem dX10_field_21 : decode cX10_field 21 = .ok (.ldc2_w 113, 3) := by decide +kernel
theorem dX10_field_24 : decode cX10_field 24 = .ok (.invokestatic 115, 3) := by decide +kernel
theorem dX10_field_27 : decode cX10_field 27 = .ok (.ifCond .eq 28, 3) := by decide +kernel
theorem dX10_field_30 : decode cX10_field 30 = .ok (.iload_n 3, 1) := by decide +kernel
theorem dX10_field_31 : decode cX10_field 31 = .ok (.i2l, 1) := by decide +kernel
theorem dX10_field_32 : decode cX10_field 32 = .ok (.lconst 0, 1) := by decide +kernel
theorem dX10_field_33 : decode cX10_field 33 = .ok (.ldc2_w 119, 3) := by decide +kernel
theorem dX10_field_36 : decode cX10_field 36 = .ok (.invokestatic 115, 3) := by decide +kernel
theorem dX10_field_39 : decode cX10_field 39 = .ok (.ifCond .eq 16, 3) := by decide +kernel
theorem dX10_field_42 : decode cX10_field 42 = .ok (.iload_n 1, 1) := by decide +kernel
theorem dX10_field_43 : decode cX10_field 43 = .ok (.ifCond .lt 16, 3) := by decide +kernel
theorem dX10_field_46 : decode cX10_field 46 = .ok (.aload_n 0, 1) := by decide +kernel
theorem dX10_field_47 : decode cX10_field 47 = .ok (.getfield 7, 3) := by decide +kernel
theorem dX10_field_50 : decode cX10_field 50 = .ok (.iload_n 1, 1) := by decide +kernel
theorem dX10_field_51 : decode cX10_field 51 = .ok (.iaload, 1) := by decide +kernel
theorem dX10_field_52 : decode cX10_field 52 = .ok (.ifCond .eq 7, 3) := by decide +kernel
theorem dX10_field_55 : decode cX10_field 55 = .ok (.iconst 2, 1) := by decide +kernel
theorem dX10_field_56 : decode cX10_field 56 = .ok (.goto 4, 3) := by decide +kernel
theorem dX10_field_59 : decode cX10_field 59 = .ok (.iconst 0, 1) := by decide +kernel
theorem dX10_field_60 : decode cX10_field 60 = .ok (.putfield 102, 3) := by decide +kernel
theorem dX10_field_63 : decode cX10_field 63 = .ok (.aload_n 0, 1) := by decide +kernel
theorem dX10_field_64 : decode cX10_field 64 = .ok (.getfield 102, 3) := by decide +kernel
theorem dX10_field_67 : decode cX10_field 67 = .ok (.ifCond .le 5, 3) := by decide +kernel
theorem dX10_field_70 : decode cX10_field 70 = .ok (.iconst 0, 1) := by decide +kernel
theorem dX10_field_71 : decode cX10_field 71 = .ok (.ireturn, 1) := by decide +kernel
theorem dX10_field_72 : decode cX10_field 72 = .ok (.aload_n 0, 1) := by decide +kernel
theorem dX10_field_73 : decode cX10_field 73 = .ok (.iload_n 1, 1) := by decide +kernel
theorem dX10_field_74 : decode cX10_field 74 = .ok (.iload_n 3, 1) := by decide +kernel
theorem dX10_field_75 : decode cX10_field 75 = .ok (.invokevirtual 121, 3) := by decide +kernel
theorem dX10_field_78 : decode cX10_field 78 = .ok (.istore 4, 2) := by decide +kernel
theorem dX10_field_80 : decode cX10_field 80 = .ok (.aload_n 0, 1) := by decide +kernel
theorem dX10_field_81 : decode cX10_field 81 = .ok (.iload 4, 2) := by decide +kernel
theorem dX10_field_83 : decode cX10_field 83 = .ok (.ifCond .lt 18, 3) := by decide +kernel
theorem dX10_field_86 : decode cX10_field 86 = .ok (.aload_n 0, 1) := by decide +kernel
theorem dX10_field_87 : decode cX10_field 87 = .ok (.getfield 7, 3) := by decide +kernel
theorem dX10_field_90 : decode cX10_field 90 = .ok (.iload 4, 2) := by decide +kernel
theorem dX10_field_92 : decode cX10_field 92 = .ok (.iaload, 1) := by decide +kernel
theorem dX10_field_93 : decode cX10_field 93 = .ok (.iload_n 2, 1) := by decide +kernel
theorem dX10_field_94 : decode cX10_field 94 = .ok (.if_icmp .eq 7, 3) := by decide +kernel
theorem dX10_field_97 : decode cX10_field 97 = .ok (.iconst 3, 1) := by decide +kernel
theorem dX10_field_98 : decode cX10_field 98 = .ok (.goto 17, 3) := by decide +kernel
theorem dX10_field_101 : decode cX10_field 101 = .ok (.aload_n 0, 1) := by decide +kernel
theorem dX10_field_102 : decode cX10_field 102 = .ok (.getfield 106, 3) := by decide +kernel
theorem dX10_field_105 : decode cX10_field 105 = .ok (.bipush 40, 2) := by decide +kernel
theorem dX10_field_107 : decode cX10_field 107 = .ok (.if_icmp .ne 7, 3) := by decide +kernel
theorem dX10_field_110 : decode cX10_field 110 = .ok (.iconst 4, 1) := by decide +kernel
theorem dX10_field_111 : decode cX10_field 111 = .ok (.goto 4, 3) := by decide +kernel
theorem dX10_field_114 : decode cX10_field 114 = .ok (.iconst 0, 1) := by decide +kernel
theorem dX10_field_115 : decode cX10_field 115 = .ok (.putfield 102, 3) := by decide +kernel
theorem dX10_field_118 : decode cX10_field 118 = .ok (.aload_n 0, 1) := by decide +kernel
theorem dX10_field_119 : decode cX10_field 119 = .ok (.getfield 102, 3) := by decide +kernel
theorem dX10_field_122 : decode cX10_field 122 = .ok (.ifCond .le 5, 3) := by decide +kernel
theorem dX10_field_125 : decode cX10_field 125 = .ok (.iconst 0, 1) := by decide +kernel
theorem dX10_field_126 : decode cX10_field 126 = .ok (.ireturn, 1) := by decide +kernel
theorem dX10_field_127 : decode cX10_field 127 = .ok (.aload_n 0, 1) := by decide +kernel
theorem dX10_field_128 : decode cX10_field 128 = .ok (.getfield 106, 3) := by decide +kernel
theorem dX10_field_131 : decode cX10_field 131 = .ok (.istore 5, 2) := by decide +kernel
theorem dX10_field_133 : decode cX10_field 133 = .ok (.aload_n 0, 1) := by decide +kernel
theorem dX10_field_134 : decode cX10_field 134 = .ok (.getfield 7, 3) := by decide +kernel
theorem dX10_field_137 : decode cX10_field 137 = .ok (.iload 5, 2) := by decide +kernel
theorem dX10_field_139 : decode cX10_field 139 = .ok (.iload_n 2, 1) := by decide +kernel
theorem dX10_field_140 : decode cX10_field 140 = .ok (.iastore, 1) := by decide +kernel
theorem dX10_field_141 : decode cX10_field 141 = .ok (.aload_n 0, 1) := by decide +kernel
theorem dX10_field_142 : decode cX10_field 142 = .ok (.getfield 13, 3) := by decide +kernel
theorem dX10_field_145 : decode cX10_field 145 = .ok (.iload 5, 2) := by decide +kernel
theorem dX10_field_147 : decode cX10_field 147 = .ok (.iload_n 1, 1) := by decide +kernel
theorem dX10_field_148 : decode cX10_field 148 = .ok (.iastore, 1) := by decide +kernel
theorem dX10_field_149 : decode cX10_field 149 = .ok (.aload_n 0, 1) := by decide +kernel
theorem dX10_field_150 : decode cX10_field 150 = .ok (.getfield 16, 3) := by decide +kernel
theorem dX10_field_153 : decode cX10_field 153 = .ok (.iload 5, 2) := by decide +kernel
theorem dX10_field_155 : decode cX10_field 155 = .ok (.iload_n 3, 1) := by decide +kernel
theorem dX10_field_156 : decode cX10_field 156 = .ok (.iastore, 1) := by decide +kernel
theorem dX10_field_157 : decode cX10_field 157 = .ok (.aload_n 0, 1) := by decide +kernel
theorem dX10_field_158 : decode cX10_field 158 = .ok (.getfield 19, 3) := by decide +kernel
theorem dX10_field_161 : decode cX10_field 161 = .ok (.iload 5, 2) := by decide +kernel
theorem dX10_field_163 : decode cX10_field 163 = .ok (.iload 4, 2) := by decide +kernel
theorem dX10_field_165 : decode cX10_field 165 = .ok (.ifCond .lt 8, 3) := by decide +kernel
theorem dX10_field_168 : decode cX10_field 168 = .ok (.iload 4, 2) := by decide +kernel
theorem dX10_field_170 : decode cX10_field 170 = .ok (.goto 5, 3) := by decide +kernel
theorem dX10_field_173 : decode cX10_field 173 = .ok (.iload 5, 2) := by decide +kernel
theorem dX10_field_175 : decode cX10_field 175 = .ok (.iastore, 1) := by decide +kernel
theorem dX10_field_176 : decode cX10_field 176 = .ok (.aload_n 0, 1) := by decide +kernel
theorem dX10_field_177 : decode cX10_field 177 = .ok (.getfield 22, 3) := by decide +kernel
theorem dX10_field_180 : decode cX10_field 180 = .ok (.iload 5, 2) := by decide +kernel
theorem dX10_field_182 : decode cX10_field 182 = .ok (.sipush 800, 3) := by decide +kernel
theorem dX10_field_185 : decode cX10_field 185 = .ok (.iastore, 1) := by decide +kernel
theorem dX10_field_186 : decode cX10_field 186 = .ok (.aload_n 0, 1) := by decide +kernel
theorem dX10_field_187 : decode cX10_field 187 = .ok (.getfield 25, 3) := by decide +kernel
theorem dX10_field_190 : decode cX10_field 190 = .ok (.iload 5, 2) := by decide +kernel
theorem dX10_field_192 : decode cX10_field 192 = .ok (.sipush 160, 3) := by decide +kernel
theorem dX10_field_195 : decode cX10_field 195 = .ok (.iastore, 1) := by decide +kernel
theorem dX10_field_196 : decode cX10_field 196 = .ok (.aload_n 0, 1) := by decide +kernel
theorem dX10_field_197 : decode cX10_field 197 = .ok (.getfield 41, 3) := by decide +kernel
theorem dX10_field_200 : decode cX10_field 200 = .ok (.iload 5, 2) := by decide +kernel
theorem dX10_field_202 : decode cX10_field 202 = .ok (.iload_n 2, 1) := by decide +kernel
theorem dX10_field_203 : decode cX10_field 203 = .ok (.iconst 2, 1) := by decide +kernel
theorem dX10_field_204 : decode cX10_field 204 = .ok (.if_icmp .ne 7, 3) := by decide +kernel
theorem dX10_field_207 : decode cX10_field 207 = .ok (.iconst 0, 1) := by decide +kernel
theorem dX10_field_208 : decode cX10_field 208 = .ok (.goto 4, 3) := by decide +kernel
theorem dX10_field_211 : decode cX10_field 211 = .ok (.iconst (-1), 1) := by decide +kernel
theorem dX10_field_212 : decode cX10_field 212 = .ok (.iastore, 1) := by decide +kernel
theorem dX10_field_213 : decode cX10_field 213 = .ok (.aload_n 0, 1) := by decide +kernel
theorem dX10_field_214 : decode cX10_field 214 = .ok (.getfield 50, 3) := by decide +kernel
theorem dX10_field_217 : decode cX10_field 217 = .ok (.iconst 5, 1) := by decide +kernel
theorem dX10_field_218 : decode cX10_field 218 = .ok (.iload 5, 2) := by decide +kernel
theorem dX10_field_220 : decode cX10_field 220 = .ok (.imul, 1) := by decide +kernel
theorem dX10_field_221 : decode cX10_field 221 = .ok (.iconst 3, 1) := by decide +kernel
theorem dX10_field_222 : decode cX10_field 222 = .ok (.iadd, 1) := by decide +kernel
theorem dX10_field_223 : decode cX10_field 223 = .ok (.iconst 3, 1) := by decide +kernel
theorem dX10_field_224 : decode cX10_field 224 = .ok (.iastore, 1) := by decide +kernel
theorem dX10_field_225 : decode cX10_field 225 = .ok (.aload_n 0, 1) := by decide +kernel
theorem dX10_field_226 : decode cX10_field 226 = .ok (.getfield 53, 3) := by decide +kernel
theorem dX10_field_229 : decode cX10_field 229 = .ok (.iload 5, 2) := by decide +kernel
theorem dX10_field_231 : decode cX10_field 231 = .ok (.ldc2_w 125, 3) := by decide +kernel
theorem dX10_field_234 : decode cX10_field 234 = .ok (.lastore, 1) := by decide +kernel
theorem dX10_field_235 : decode cX10_field 235 = .ok (.aload_n 0, 1) := by decide +kernel
theorem dX10_field_236 : decode cX10_field 236 = .ok (.getfield 57, 3) := by decide +kernel
theorem dX10_field_239 : decode cX10_field 239 = .ok (.iload 5, 2) := by decide +kernel
theorem dX10_field_241 : decode cX10_field 241 = .ok (.ldc2_w 127, 3) := by decide +kernel
theorem dX10_field_244 : decode cX10_field 244 = .ok (.lastore, 1) := by decide +kernel
theorem dX10_field_245 : decode cX10_field 245 = .ok (.aload_n 0, 1) := by decide +kernel
theorem dX10_field_246 : decode cX10_field 246 = .ok (.getfield 60, 3) := by decide +kernel
theorem dX10_field_249 : decode cX10_field 249 = .ok (.iload 5, 2) := by decide +kernel
theorem dX10_field_251 : decode cX10_field 251 = .ok (.iconst (-1), 1) := by decide +kernel
theorem dX10_field_252 : decode cX10_field 252 = .ok (.iastore, 1) := by decide +kernel
theorem dX10_field_253 : decode cX10_field 253 = .ok (.aload_n 0, 1) := by decide +kernel
theorem dX10_field_254 : decode cX10_field 254 = .ok (.dup, 1) := by decide +kernel
theorem dX10_field_255 : decode cX10_field 255 = .ok (.getfield 106, 3) := by decide +kernel
theorem dX10_field_258 : decode cX10_field 258 = .ok (.iconst 1, 1) := by decide +kernel
theorem dX10_field_259 : decode cX10_field 259 = .ok (.iadd, 1) := by decide +kernel
theorem dX10_field_260 : decode cX10_field 260 = .ok (.putfield 106, 3) := by decide +kernel
theorem dX10_field_263 : decode cX10_field 263 = .ok (.iload 5, 2) := by decide +kernel
theorem dX10_field_265 : decode cX10_field 265 = .ok (.ireturn, 1) := by decide +kernel
theorem dX10_lookUp_0 : decode cX10_lookUp 0 = .ok (.iconst 0, 1) := by decide +kernel
theorem dX10_lookUp_1 : decode cX10_lookUp 1 = .ok (.istore_n 3, 1) := by decide +kernel
theorem dX10_lookUp_2 : decode cX10_lookUp 2 = .ok (.iload_n 3, 1) := by decide +kernel
theorem dX10_lookUp_3 : decode cX10_lookUp 3 = .ok (.aload_n 0, 1) := by decide +kernel
theorem dX10_lookUp_4 : decode cX10_lookUp 4 = .ok (.getfield 106, 3) := by decide +kernel
theorem dX10_lookUp_7 : decode cX10_lookUp 7 = .ok (.if_icmp .ge 67, 3) := by decide +kernel
theorem dX10_lookUp_10 : decode cX10_lookUp 10 = .ok (.aload_n 0, 1) := by decide +kernel
theorem dX10_lookUp_11 : decode cX10_lookUp 11 = .ok (.getfield 16, 3) := by decide +kernel
theorem dX10_lookUp_14 : decode cX10_lookUp 14 = .ok (.iload_n 3, 1) := by decide +kernel
theorem dX10_lookUp_15 : decode cX10_lookUp 15 = .ok (.iaload, 1) := by decide +kernel
theorem dX10_lookUp_16 : decode cX10_lookUp 16 = .ok (.iload_n 2, 1) := by decide +kernel
theorem dX10_lookUp_17 : decode cX10_lookUp 17 = .ok (.if_icmp .ne 41, 3) := by decide +kernel
theorem dX10_lookUp_20 : decode cX10_lookUp 20 = .ok (.aload_n 0, 1) := by decide +kernel
theorem dX10_lookUp_21 : decode cX10_lookUp 21 = .ok (.getfield 13, 3) := by decide +kernel
theorem dX10_lookUp_24 : decode cX10_lookUp 24 = .ok (.iload_n 3, 1) := by decide +kernel
theorem dX10_lookUp_25 : decode cX10_lookUp 25 = .ok (.iaload, 1) := by decide +kernel
theorem dX10_lookUp_26 : decode cX10_lookUp 26 = .ok (.ifCond .ge 10, 3) := by decide +kernel
theorem dX10_lookUp_29 : decode cX10_lookUp 29 = .ok (.iload_n 1, 1) := by decide +kernel
theorem dX10_lookUp_30 : decode cX10_lookUp 30 = .ok (.ifCond .ge 28, 3) := by decide +kernel
theorem dX10_lookUp_33 : decode cX10_lookUp 33 = .ok (.goto 21, 3) := by decide +kernel
theorem dX10_lookUp_36 : decode cX10_lookUp 36 = .ok (.iload_n 1, 1) := by decide +kernel
theorem dX10_lookUp_37 : decode cX10_lookUp 37 = .ok (.ifCond .lt 21, 3) := by decide +kernel
theorem dX10_lookUp_40 : decode cX10_lookUp 40 = .ok (.aload_n 0, 1) := by decide +kernel
theorem dX10_lookUp_41 : decode cX10_lookUp 41 = .ok (.aload_n 0, 1) := by decide +kernel
theorem dX10_lookUp_42 : decode cX10_lookUp 42 = .ok (.getfield 13, 3) := by decide +kernel
theorem dX10_lookUp_45 : decode cX10_lookUp 45 = .ok (.iload_n 3, 1) := by decide +kernel
theorem dX10_lookUp_46 : decode cX10_lookUp 46 = .ok (.iaload, 1) := by decide +kernel
theorem dX10_lookUp_47 : decode cX10_lookUp 47 = .ok (.iload_n 1, 1) := by decide +kernel
theorem dX10_lookUp_48 : decode cX10_lookUp 48 = .ok (.invokevirtual 129, 3) := by decide +kernel
theorem dX10_lookUp_51 : decode cX10_lookUp 51 = .ok (.ifCond .eq 7, 3) := by decide +kernel
theorem dX10_lookUp_54 : decode cX10_lookUp 54 = .ok (.iconst 1, 1) := by decide +kernel
theorem dX10_lookUp_55 : decode cX10_lookUp 55 = .ok (.goto 4, 3) := by decide +kernel
theorem dX10_lookUp_58 : decode cX10_lookUp 58 = .ok (.iconst 0, 1) := by decide +kernel
theorem dX10_lookUp_59 : decode cX10_lookUp 59 = .ok (.istore 4, 2) := by decide +kernel
theorem dX10_lookUp_61 : decode cX10_lookUp 61 = .ok (.iload 4, 2) := by decide +kernel
theorem dX10_lookUp_63 : decode cX10_lookUp 63 = .ok (.ifCond .eq 5, 3) := by decide +kernel
theorem dX10_lookUp_66 : decode cX10_lookUp 66 = .ok (.iload_n 3, 1) := by decide +kernel
theorem dX10_lookUp_67 : decode cX10_lookUp 67 = .ok (.ireturn, 1) := by decide +kernel
theorem dX10_lookUp_68 : decode cX10_lookUp 68 = .ok (.iinc 3 1, 3) := by decide +kernel
theorem dX10_lookUp_71 : decode cX10_lookUp 71 = .ok (.goto (-69), 3) := by decide +kernel
theorem dX10_lookUp_74 : decode cX10_lookUp 74 = .ok (.iconst (-1), 1) := by decide +kernel
theorem dX10_lookUp_75 : decode cX10_lookUp 75 = .ok (.ireturn, 1) := by decide +kernel
theorem dX10_isSigned_0 : decode cX10_isSigned 0 = .ok (.aload_n 0, 1) := by decide +kernel
theorem dX10_isSigned_1 : decode cX10_isSigned 1 = .ok (.getfield 7, 3) := by decide +kernel
theorem dX10_isSigned_4 : decode cX10_isSigned 4 = .ok (.iload_n 1, 1) := by decide +kernel
theorem dX10_isSigned_5 : decode cX10_isSigned 5 = .ok (.iaload, 1) := by decide +kernel
theorem dX10_isSigned_6 : decode cX10_isSigned 6 = .ok (.iconst 1, 1) := by decide +kernel
theorem dX10_isSigned_7 : decode cX10_isSigned 7 = .ok (.if_icmp .eq 13, 3) := by decide +kernel
theorem dX10_isSigned_10 : decode cX10_isSigned 10 = .ok (.aload_n 0, 1) := by decide +kernel
theorem dX10_isSigned_11 : decode cX10_isSigned 11 = .ok (.getfield 7, 3) := by decide +kernel
theorem dX10_isSigned_14 : decode cX10_isSigned 14 = .ok (.iload_n 1, 1) := by decide +kernel
theorem dX10_isSigned_15 : decode cX10_isSigned 15 = .ok (.iaload, 1) := by decide +kernel
theorem dX10_isSigned_16 : decode cX10_isSigned 16 = .ok (.iconst 5, 1) := by decide +kernel
theorem dX10_isSigned_17 : decode cX10_isSigned 17 = .ok (.if_icmp .ne 7, 3) := by decide +kernel
theorem dX10_isSigned_20 : decode cX10_isSigned 20 = .ok (.iconst 1, 1) := by decide +kernel
theorem dX10_isSigned_21 : decode cX10_isSigned 21 = .ok (.goto 4, 3) := by decide +kernel
theorem dX10_isSigned_24 : decode cX10_isSigned 24 = .ok (.iconst 0, 1) := by decide +kernel
theorem dX10_isSigned_25 : decode cX10_isSigned 25 = .ok (.ireturn, 1) := by decide +kernel
theorem dX10_isPicked_0 : decode cX10_isPicked 0 = .ok (.aload_n 0, 1) := by decide +kernel
theorem dX10_isPicked_1 : decode cX10_isPicked 1 = .ok (.getfield 7, 3) := by decide +kernel
theorem dX10_isPicked_4 : decode cX10_isPicked 4 = .ok (.iload_n 1, 1) := by decide +kernel
theorem dX10_isPicked_5 : decode cX10_isPicked 5 = .ok (.iaload, 1) := by decide +kernel
theorem dX10_isPicked_6 : decode cX10_isPicked 6 = .ok (.iconst 3, 1) := by decide +kernel
theorem dX10_isPicked_7 : decode cX10_isPicked 7 = .ok (.if_icmp .eq 13, 3) := by decide +kernel
theorem dX10_isPicked_10 : decode cX10_isPicked 10 = .ok (.aload_n 0, 1) := by decide +kernel
theorem dX10_isPicked_11 : decode cX10_isPicked 11 = .ok (.getfield 7, 3) := by decide +kernel
theorem dX10_isPicked_14 : decode cX10_isPicked 14 = .ok (.iload_n 1, 1) := by decide +kernel
theorem dX10_isPicked_15 : decode cX10_isPicked 15 = .ok (.iaload, 1) := by decide +kernel
theorem dX10_isPicked_16 : decode cX10_isPicked 16 = .ok (.iconst 4, 1) := by decide +kernel
theorem dX10_isPicked_17 : decode cX10_isPicked 17 = .ok (.if_icmp .ne 7, 3) := by decide +kernel
theorem dX10_isPicked_20 : decode cX10_isPicked 20 = .ok (.iconst 1, 1) := by decide +kernel
theorem dX10_isPicked_21 : decode cX10_isPicked 21 = .ok (.goto 4, 3) := by decide +kernel
theorem dX10_isPicked_24 : decode cX10_isPicked 24 = .ok (.iconst 0, 1) := by decide +kernel
theorem dX10_isPicked_25 : decode cX10_isPicked 25 = .ok (.ireturn, 1) := by decide +kernel
theorem dX10_isNumberSign_0 : decode cX10_isNumberSign 0 = .ok (.iload_n 0, 1) := by decide +kernel
theorem dX10_isNumberSign_1 : decode cX10_isNumberSign 1 = .ok (.bipush 48, 2) := by decide +kernel
theorem dX10_isNumberSign_3 : decode cX10_isNumberSign 3 = .ok (.if_icmp .lt 9, 3) := by decide +kernel
theorem dX10_isNumberSign_6 : decode cX10_isNumberSign 6 = .ok (.iload_n 0, 1) := by decide +kernel
theorem dX10_isNumberSign_7 : decode cX10_isNumberSign 7 = .ok (.bipush 57, 2) := by decide +kernel
theorem dX10_isNumberSign_9 : decode cX10_isNumberSign 9 = .ok (.if_icmp .le 15, 3) := by decide +kernel
theorem dX10_isNumberSign_12 : decode cX10_isNumberSign 12 = .ok (.iload_n 0, 1) := by decide +kernel
theorem dX10_isNumberSign_13 : decode cX10_isNumberSign 13 = .ok (.bipush 45, 2) := by decide +kernel
theorem dX10_isNumberSign_15 : decode cX10_isNumberSign 15 = .ok (.if_icmp .eq 9, 3) := by decide +kernel
theorem dX10_isNumberSign_18 : decode cX10_isNumberSign 18 = .ok (.iload_n 0, 1) := by decide +kernel
theorem dX10_isNumberSign_19 : decode cX10_isNumberSign 19 = .ok (.bipush 46, 2) := by decide +kernel
theorem dX10_isNumberSign_21 : decode cX10_isNumberSign 21 = .ok (.if_icmp .ne 7, 3) := by decide +kernel
theorem dX10_isNumberSign_24 : decode cX10_isNumberSign 24 = .ok (.iconst 1, 1) := by decide +kernel
theorem dX10_isNumberSign_25 : decode cX10_isNumberSign 25 = .ok (.goto 4, 3) := by decide +kernel
theorem dX10_isNumberSign_28 : decode cX10_isNumberSign 28 = .ok (.iconst 0, 1) := by decide +kernel
theorem dX10_isNumberSign_29 : decode cX10_isNumberSign 29 = .ok (.ireturn, 1) := by decide +kernel
theorem dX10_isSign_0 : decode cX10_isSign 0 = .ok (.aload_n 0, 1) := by decide +kernel
theorem dX10_isSign_1 : decode cX10_isSign 1 = .ok (.getfield 7, 3) := by decide +kernel
theorem dX10_isSign_4 : decode cX10_isSign 4 = .ok (.iload_n 1, 1) := by decide +kernel
theorem dX10_isSign_5 : decode cX10_isSign 5 = .ok (.iaload, 1) := by decide +kernel
theorem dX10_isSign_6 : decode cX10_isSign 6 = .ok (.iconst 1, 1) := by decide +kernel
theorem dX10_isSign_7 : decode cX10_isSign 7 = .ok (.if_icmp .ne 17, 3) := by decide +kernel
theorem dX10_isSign_10 : decode cX10_isSign 10 = .ok (.iload_n 2, 1) := by decide +kernel
theorem dX10_isSign_11 : decode cX10_isSign 11 = .ok (.i2l, 1) := by decide +kernel
theorem dX10_isSign_12 : decode cX10_isSign 12 = .ok (.ldc2_w 133, 3) := by decide +kernel
theorem dX10_isSign_15 : decode cX10_isSign 15 = .ok (.ldc2_w 135, 3) := by decide +kernel
theorem dX10_isSign_18 : decode cX10_isSign 18 = .ok (.invokestatic 115, 3) := by decide +kernel
theorem dX10_isSign_21 : decode cX10_isSign 21 = .ok (.goto 7, 3) := by decide +kernel
theorem dX10_isSign_24 : decode cX10_isSign 24 = .ok (.iload_n 2, 1) := by decide +kernel
theorem dX10_isSign_25 : decode cX10_isSign 25 = .ok (.invokestatic 137, 3) := by decide +kernel
theorem dX10_isSign_28 : decode cX10_isSign 28 = .ok (.ireturn, 1) := by decide +kernel
theorem dX10_most_0 : decode cX10_most 0 = .ok (.aload_n 0, 1) := by decide +kernel
theorem dX10_most_1 : decode cX10_most 1 = .ok (.getfield 50, 3) := by decide +kernel
theorem dX10_most_4 : decode cX10_most 4 = .ok (.iconst 5, 1) := by decide +kernel
theorem dX10_most_5 : decode cX10_most 5 = .ok (.iload_n 1, 1) := by decide +kernel
theorem dX10_most_6 : decode cX10_most 6 = .ok (.imul, 1) := by decide +kernel
theorem dX10_most_7 : decode cX10_most 7 = .ok (.iconst 1, 1) := by decide +kernel
theorem dX10_most_8 : decode cX10_most 8 = .ok (.iadd, 1) := by decide +kernel
theorem dX10_most_9 : decode cX10_most 9 = .ok (.iaload, 1) := by decide +kernel
theorem dX10_most_10 : decode cX10_most 10 = .ok (.istore_n 2, 1) := by decide +kernel
theorem dX10_most_11 : decode cX10_most 11 = .ok (.aload_n 0, 1) := by decide +kernel
theorem dX10_most_12 : decode cX10_most 12 = .ok (.getfield 7, 3) := by decide +kernel
theorem dX10_most_15 : decode cX10_most 15 = .ok (.iload_n 1, 1) := by decide +kernel
theorem dX10_most_16 : decode cX10_most 16 = .ok (.iaload, 1) := by decide +kernel
theorem dX10_most_17 : decode cX10_most 17 = .ok (.iconst 5, 1) := by decide +kernel
theorem dX10_most_18 : decode cX10_most 18 = .ok (.if_icmp .ne 8, 3) := by decide +kernel
theorem dX10_most_21 : decode cX10_most 21 = .ok (.bipush 14, 2) := by decide +kernel
theorem dX10_most_23 : decode cX10_most 23 = .ok (.goto 13, 3) := by decide +kernel
theorem dX10_most_26 : decode cX10_most 26 = .ok (.iload_n 2, 1) := by decide +kernel
theorem dX10_most_27 : decode cX10_most 27 = .ok (.ifCond .le 7, 3) := by decide +kernel
theorem dX10_most_30 : decode cX10_most 30 = .ok (.iload_n 2, 1) := by decide +kernel
theorem dX10_most_31 : decode cX10_most 31 = .ok (.goto 5, 3) := by decide +kernel
theorem dX10_most_34 : decode cX10_most 34 = .ok (.bipush 30, 2) := by decide +kernel
theorem dX10_most_36 : decode cX10_most 36 = .ok (.ireturn, 1) := by decide +kernel
theorem dX10_mayPick_0 : decode cX10_mayPick 0 = .ok (.iload_n 2, 1) := by decide +kernel
theorem dX10_mayPick_1 : decode cX10_mayPick 1 = .ok (.iconst (-1), 1) := by decide +kernel
theorem dX10_mayPick_2 : decode cX10_mayPick 2 = .ok (.if_icmp .ne 45, 3) := by decide +kernel
theorem dX10_mayPick_5 : decode cX10_mayPick 5 = .ok (.aload_n 0, 1) := by decide +kernel
theorem dX10_mayPick_6 : decode cX10_mayPick 6 = .ok (.getfield 7, 3) := by decide +kernel
theorem dX10_mayPick_9 : decode cX10_mayPick 9 = .ok (.iload_n 1, 1) := by decide +kernel
theorem dX10_mayPick_10 : decode cX10_mayPick 10 = .ok (.iaload, 1) := by decide +kernel
theorem dX10_mayPick_11 : decode cX10_mayPick 11 = .ok (.iconst 4, 1) := by decide +kernel
theorem dX10_mayPick_12 : decode cX10_mayPick 12 = .ok (.if_icmp .eq 27, 3) := by decide +kernel
theorem dX10_mayPick_15 : decode cX10_mayPick 15 = .ok (.aload_n 0, 1) := by decide +kernel
theorem dX10_mayPick_16 : decode cX10_mayPick 16 = .ok (.getfield 50, 3) := by decide +kernel
theorem dX10_mayPick_19 : decode cX10_mayPick 19 = .ok (.iconst 5, 1) := by decide +kernel
theorem dX10_mayPick_20 : decode cX10_mayPick 20 = .ok (.iload_n 1, 1) := by decide +kernel
theorem dX10_mayPick_21 : decode cX10_mayPick 21 = .ok (.imul, 1) := by decide +kernel
theorem dX10_mayPick_22 : decode cX10_mayPick 22 = .ok (.iconst 2, 1) := by decide +kernel
theorem dX10_mayPick_23 : decode cX10_mayPick 23 = .ok (.iadd, 1) := by decide +kernel
theorem dX10_mayPick_24 : decode cX10_mayPick 24 = .ok (.iaload, 1) := by decide +kernel
theorem dX10_mayPick_25 : decode cX10_mayPick 25 = .ok (.iconst 1, 1) := by decide +kernel
theorem dX10_mayPick_26 : decode cX10_mayPick 26 = .ok (.if_icmp .eq 13, 3) := by decide +kernel
theorem dX10_mayPick_29 : decode cX10_mayPick 29 = .ok (.aload_n 0, 1) := by decide +kernel
theorem dX10_mayPick_30 : decode cX10_mayPick 30 = .ok (.getfield 41, 3) := by decide +kernel
theorem dX10_mayPick_33 : decode cX10_mayPick 33 = .ok (.iload_n 1, 1) := by decide +kernel
theorem dX10_mayPick_34 : decode cX10_mayPick 34 = .ok (.iaload, 1) := by decide +kernel
theorem dX10_mayPick_35 : decode cX10_mayPick 35 = .ok (.iconst (-1), 1) := by decide +kernel
theorem dX10_mayPick_36 : decode cX10_mayPick 36 = .ok (.if_icmp .ne 7, 3) := by decide +kernel
theorem dX10_mayPick_39 : decode cX10_mayPick 39 = .ok (.iconst 1, 1) := by decide +kernel
theorem dX10_mayPick_40 : decode cX10_mayPick 40 = .ok (.goto 22, 3) := by decide +kernel
theorem dX10_mayPick_43 : decode cX10_mayPick 43 = .ok (.iconst 0, 1) := by decide +kernel
theorem dX10_mayPick_44 : decode cX10_mayPick 44 = .ok (.goto 18, 3) := by decide +kernel
theorem dX10_mayPick_47 : decode cX10_mayPick 47 = .ok (.iload_n 2, 1) := by decide +kernel
theorem dX10_mayPick_48 : decode cX10_mayPick 48 = .ok (.i2l, 1) := by decide +kernel
theorem dX10_mayPick_49 : decode cX10_mayPick 49 = .ok (.lconst 0, 1) := by decide +kernel
theorem dX10_mayPick_50 : decode cX10_mayPick 50 = .ok (.aload_n 0, 1) := by decide +kernel
theorem dX10_mayPick_51 : decode cX10_mayPick 51 = .ok (.getfield 47, 3) := by decide +kernel
theorem dX10_mayPick_54 : decode cX10_mayPick 54 = .ok (.iload_n 1, 1) := by decide +kernel
theorem dX10_mayPick_55 : decode cX10_mayPick 55 = .ok (.iaload, 1) := by decide +kernel
theorem dX10_mayPick_56 : decode cX10_mayPick 56 = .ok (.i2l, 1) := by decide +kernel
theorem dX10_mayPick_57 : decode cX10_mayPick 57 = .ok (.lconst 1, 1) := by decide +kernel
theorem dX10_mayPick_58 : decode cX10_mayPick 58 = .ok (.lsub, 1) := by decide +kernel
theorem dX10_mayPick_59 : decode cX10_mayPick 59 = .ok (.invokestatic 115, 3) := by decide +kernel
theorem dX10_mayPick_62 : decode cX10_mayPick 62 = .ok (.ireturn, 1) := by decide +kernel
theorem dX10_value_0 : decode cX10_value 0 = .ok (.aload_n 0, 1) := by decide +kernel
theorem dX10_value_1 : decode cX10_value 1 = .ok (.aload_n 0, 1) := by decide +kernel
theorem dX10_value_2 : decode cX10_value 2 = .ok (.iload_n 1, 1) := by decide +kernel
theorem dX10_value_3 : decode cX10_value 3 = .ok (.invokevirtual 109, 3) := by decide +kernel
theorem dX10_value_6 : decode cX10_value 6 = .ok (.ifCond .eq 7, 3) := by decide +kernel
theorem dX10_value_9 : decode cX10_value 9 = .ok (.iconst 1, 1) := by decide +kernel
theorem dX10_value_10 : decode cX10_value 10 = .ok (.goto 4, 3) := by decide +kernel
theorem dX10_value_13 : decode cX10_value 13 = .ok (.iconst 0, 1) := by decide +kernel
theorem dX10_value_14 : decode cX10_value 14 = .ok (.putfield 102, 3) := by decide +kernel
theorem dX10_value_17 : decode cX10_value 17 = .ok (.aload_n 0, 1) := by decide +kernel
theorem dX10_value_18 : decode cX10_value 18 = .ok (.getfield 102, 3) := by decide +kernel
theorem dX10_value_21 : decode cX10_value 21 = .ok (.ifCond .le 5, 3) := by decide +kernel
theorem dX10_value_24 : decode cX10_value 24 = .ok (.iconst 0, 1) := by decide +kernel
theorem dX10_value_25 : decode cX10_value 25 = .ok (.ireturn, 1) := by decide +kernel
theorem dX10_value_26 : decode cX10_value 26 = .ok (.aload_n 0, 1) := by decide +kernel
theorem dX10_value_27 : decode cX10_value 27 = .ok (.getfield 19, 3) := by decide +kernel
theorem dX10_value_30 : decode cX10_value 30 = .ok (.iload_n 1, 1) := by decide +kernel
theorem dX10_value_31 : decode cX10_value 31 = .ok (.iaload, 1) := by decide +kernel
theorem dX10_value_32 : decode cX10_value 32 = .ok (.istore_n 3, 1) := by decide +kernel
theorem dX10_value_33 : decode cX10_value 33 = .ok (.aload_n 0, 1) := by decide +kernel
theorem dX10_value_34 : decode cX10_value 34 = .ok (.iload_n 3, 1) := by decide +kernel
theorem dX10_value_35 : decode cX10_value 35 = .ok (.invokevirtual 140, 3) := by decide +kernel
theorem dX10_value_38 : decode cX10_value 38 = .ok (.ifCond .eq 25, 3) := by decide +kernel
theorem dX10_value_41 : decode cX10_value 41 = .ok (.iload_n 2, 1) := by decide +kernel
theorem dX10_value_42 : decode cX10_value 42 = .ok (.iconst (-1), 1) := by decide +kernel
theorem dX10_value_43 : decode cX10_value 43 = .ok (.if_icmp .eq 12, 3) := by decide +kernel
theorem dX10_value_46 : decode cX10_value 46 = .ok (.aload_n 0, 1) := by decide +kernel
theorem dX10_value_47 : decode cX10_value 47 = .ok (.iload_n 3, 1) := by decide +kernel
theorem dX10_value_48 : decode cX10_value 48 = .ok (.iload_n 2, 1) := by decide +kernel
theorem dX10_value_49 : decode cX10_value 49 = .ok (.invokevirtual 143, 3) := by decide +kernel
theorem dX10_value_52 : decode cX10_value 52 = .ok (.ifCond .eq 7, 3) := by decide +kernel
theorem dX10_value_55 : decode cX10_value 55 = .ok (.iconst 1, 1) := by decide +kernel
theorem dX10_value_56 : decode cX10_value 56 = .ok (.goto 56, 3) := by decide +kernel
theorem dX10_value_59 : decode cX10_value 59 = .ok (.iconst 0, 1) := by decide +kernel
theorem dX10_value_60 : decode cX10_value 60 = .ok (.goto 52, 3) := by decide +kernel
theorem dX10_value_63 : decode cX10_value 63 = .ok (.aload_n 0, 1) := by decide +kernel
theorem dX10_value_64 : decode cX10_value 64 = .ok (.getfield 7, 3) := by decide +kernel
theorem dX10_value_67 : decode cX10_value 67 = .ok (.iload_n 3, 1) := by decide +kernel
theorem dX10_value_68 : decode cX10_value 68 = .ok (.iaload, 1) := by decide +kernel
theorem dX10_value_69 : decode cX10_value 69 = .ok (.iconst 2, 1) := by decide +kernel
theorem dX10_value_70 : decode cX10_value 70 = .ok (.if_icmp .ne 20, 3) := by decide +kernel
theorem dX10_value_73 : decode cX10_value 73 = .ok (.iload_n 2, 1) := by decide +kernel
theorem dX10_value_74 : decode cX10_value 74 = .ok (.ifCond .eq 8, 3) := by decide +kernel
theorem dX10_value_77 : decode cX10_value 77 = .ok (.iload_n 2, 1) := by decide +kernel
theorem dX10_value_78 : decode cX10_value 78 = .ok (.iconst 1, 1) := by decide +kernel
theorem dX10_value_79 : decode cX10_value 79 = .ok (.if_icmp .ne 7, 3) := by decide +kernel
theorem dX10_value_82 : decode cX10_value 82 = .ok (.iconst 1, 1) := by decide +kernel
theorem dX10_value_83 : decode cX10_value 83 = .ok (.goto 29, 3) := by decide +kernel
theorem dX10_value_86 : decode cX10_value 86 = .ok (.iconst 0, 1) := by decide +kernel
theorem dX10_value_87 : decode cX10_value 87 = .ok (.goto 25, 3) := by decide +kernel
theorem dX10_value_90 : decode cX10_value 90 = .ok (.aload_n 0, 1) := by decide +kernel
theorem dX10_value_91 : decode cX10_value 91 = .ok (.iload_n 3, 1) := by decide +kernel
theorem dX10_value_92 : decode cX10_value 92 = .ok (.invokevirtual 146, 3) := by decide +kernel
theorem dX10_value_95 : decode cX10_value 95 = .ok (.ifCond .eq 16, 3) := by decide +kernel
theorem dX10_value_98 : decode cX10_value 98 = .ok (.aload_n 0, 1) := by decide +kernel
theorem dX10_value_99 : decode cX10_value 99 = .ok (.iload_n 3, 1) := by decide +kernel
theorem dX10_value_100 : decode cX10_value 100 = .ok (.iload_n 2, 1) := by decide +kernel
theorem dX10_value_101 : decode cX10_value 101 = .ok (.invokevirtual 149, 3) := by decide +kernel
theorem dX10_value_104 : decode cX10_value 104 = .ok (.ifCond .eq 7, 3) := by decide +kernel
theorem dX10_value_107 : decode cX10_value 107 = .ok (.iconst 1, 1) := by decide +kernel
theorem dX10_value_108 : decode cX10_value 108 = .ok (.goto 4, 3) := by decide +kernel
theorem dX10_value_111 : decode cX10_value 111 = .ok (.iconst 0, 1) := by decide +kernel
theorem dX10_value_112 : decode cX10_value 112 = .ok (.istore 4, 2) := by decide +kernel
theorem dX10_value_114 : decode cX10_value 114 = .ok (.aload_n 0, 1) := by decide +kernel
theorem dX10_value_115 : decode cX10_value 115 = .ok (.iload 4, 2) := by decide +kernel
theorem dX10_value_117 : decode cX10_value 117 = .ok (.ifCond .ne 7, 3) := by decide +kernel
theorem dX10_value_120 : decode cX10_value 120 = .ok (.iconst 2, 1) := by decide +kernel
theorem dX10_value_121 : decode cX10_value 121 = .ok (.goto 56, 3) := by decide +kernel
theorem dX10_value_124 : decode cX10_value 124 = .ok (.aload_n 0, 1) := by decide +kernel
theorem dX10_value_125 : decode cX10_value 125 = .ok (.getfield 72, 3) := by decide +kernel
theorem dX10_value_128 : decode cX10_value 128 = .ok (.iload_n 3, 1) := by decide +kernel
theorem dX10_value_129 : decode cX10_value 129 = .ok (.baload, 1) := by decide +kernel
theorem dX10_value_130 : decode cX10_value 130 = .ok (.ifCond .ne 12, 3) := by decide +kernel
theorem dX10_value_133 : decode cX10_value 133 = .ok (.aload_n 0, 1) := by decide +kernel
theorem dX10_value_134 : decode cX10_value 134 = .ok (.getfield 31, 3) := by decide +kernel
theorem dX10_value_137 : decode cX10_value 137 = .ok (.iload_n 1, 1) := by decide +kernel
theorem dX10_value_138 : decode cX10_value 138 = .ok (.baload, 1) := by decide +kernel
theorem dX10_value_139 : decode cX10_value 139 = .ok (.ifCond .eq 7, 3) := by decide +kernel
theorem dX10_value_142 : decode cX10_value 142 = .ok (.iconst 3, 1) := by decide +kernel
theorem dX10_value_143 : decode cX10_value 143 = .ok (.goto 34, 3) := by decide +kernel
theorem dX10_value_146 : decode cX10_value 146 = .ok (.aload_n 0, 1) := by decide +kernel
theorem dX10_value_147 : decode cX10_value 147 = .ok (.iload_n 3, 1) := by decide +kernel
theorem dX10_value_148 : decode cX10_value 148 = .ok (.invokevirtual 140, 3) := by decide +kernel
theorem dX10_value_151 : decode cX10_value 151 = .ok (.ifCond .eq 25, 3) := by decide +kernel
theorem dX10_value_154 : decode cX10_value 154 = .ok (.iload_n 2, 1) := by decide +kernel
theorem dX10_value_155 : decode cX10_value 155 = .ok (.ifCond .lt 21, 3) := by decide +kernel
theorem dX10_value_158 : decode cX10_value 158 = .ok (.aload_n 0, 1) := by decide +kernel
theorem dX10_value_159 : decode cX10_value 159 = .ok (.getfield 38, 3) := by decide +kernel
theorem dX10_value_162 : decode cX10_value 162 = .ok (.iload_n 3, 1) := by decide +kernel
theorem dX10_value_163 : decode cX10_value 163 = .ok (.iaload, 1) := by decide +kernel
theorem dX10_value_164 : decode cX10_value 164 = .ok (.aload_n 0, 1) := by decide +kernel
theorem dX10_value_165 : decode cX10_value 165 = .ok (.iload_n 3, 1) := by decide +kernel
theorem dX10_value_166 : decode cX10_value 166 = .ok (.invokevirtual 152, 3) := by decide +kernel
theorem dX10_value_169 : decode cX10_value 169 = .ok (.if_icmp .lt 7, 3) := by decide +kernel
theorem dX10_value_172 : decode cX10_value 172 = .ok (.iconst 4, 1) := by decide +kernel
theorem dX10_value_173 : decode cX10_value 173 = .ok (.goto 4, 3) := by decide +kernel
theorem dX10_value_176 : decode cX10_value 176 = .ok (.iconst 0, 1) := by decide +kernel
theorem dX10_value_177 : decode cX10_value 177 = .ok (.putfield 102, 3) := by decide +kernel
theorem dX10_value_180 : decode cX10_value 180 = .ok (.aload_n 0, 1) := by decide +kernel
theorem dX10_value_181 : decode cX10_value 181 = .ok (.getfield 102, 3) := by decide +kernel
theorem dX10_value_184 : decode cX10_value 184 = .ok (.ifCond .le 5, 3) := by decide +kernel
theorem dX10_value_187 : decode cX10_value 187 = .ok (.iconst 0, 1) := by decide +kernel
theorem dX10_value_188 : decode cX10_value 188 = .ok (.ireturn, 1) := by decide +kernel
theorem dX10_value_189 : decode cX10_value 189 = .ok (.aload_n 0, 1) := by decide +kernel
theorem dX10_value_190 : decode cX10_value 190 = .ok (.iload_n 3, 1) := by decide +kernel
theorem dX10_value_191 : decode cX10_value 191 = .ok (.invokevirtual 140, 3) := by decide +kernel
theorem dX10_value_194 : decode cX10_value 194 = .ok (.ifCond .ne 12, 3) := by decide +kernel
theorem dX10_value_197 : decode cX10_value 197 = .ok (.aload_n 0, 1) := by decide +kernel
theorem dX10_value_198 : decode cX10_value 198 = .ok (.getfield 41, 3) := by decide +kernel
theorem dX10_value_201 : decode cX10_value 201 = .ok (.iload_n 3, 1) := by decide +kernel
theorem dX10_value_202 : decode cX10_value 202 = .ok (.iload_n 2, 1) := by decide +kernel
theorem dX10_value_203 : decode cX10_value 203 = .ok (.iastore, 1) := by decide +kernel
theorem dX10_value_204 : decode cX10_value 204 = .ok (.iload_n 2, 1) := by decide +kernel
theorem dX10_value_205 : decode cX10_value 205 = .ok (.ireturn, 1) := by decide +kernel
theorem dX10_value_206 : decode cX10_value 206 = .ok (.iload_n 2, 1) := by decide +kernel
theorem dX10_value_207 : decode cX10_value 207 = .ok (.ifCond .ge 13, 3) := by decide +kernel
theorem dX10_value_210 : decode cX10_value 210 = .ok (.aload_n 0, 1) := by decide +kernel
theorem dX10_value_211 : decode cX10_value 211 = .ok (.getfield 38, 3) := by decide +kernel
theorem dX10_value_214 : decode cX10_value 214 = .ok (.iload_n 3, 1) := by decide +kernel
theorem dX10_value_215 : decode cX10_value 215 = .ok (.iconst 0, 1) := by decide +kernel
theorem dX10_value_216 : decode cX10_value 216 = .ok (.iastore, 1) := by decide +kernel
theorem dX10_value_217 : decode cX10_value 217 = .ok (.goto 30, 3) := by decide +kernel
theorem dX10_value_220 : decode cX10_value 220 = .ok (.aload_n 0, 1) := by decide +kernel
theorem dX10_value_221 : decode cX10_value 221 = .ok (.getfield 35, 3) := by decide +kernel
theorem dX10_value_224 : decode cX10_value 224 = .ok (.bipush 30, 2) := by decide +kernel
theorem dX10_value_226 : decode cX10_value 226 = .ok (.iload_n 3, 1) := by decide +kernel
theorem dX10_value_227 : decode cX10_value 227 = .ok (.imul, 1) := by decide +kernel
theorem dX10_value_228 : decode cX10_value 228 = .ok (.aload_n 0, 1) := by decide +kernel
theorem dX10_value_229 : decode cX10_value 229 = .ok (.getfield 38, 3) := by decide +kernel
theorem dX10_value_232 : decode cX10_value 232 = .ok (.iload_n 3, 1) := by decide +kernel
theorem dX10_value_233 : decode cX10_value 233 = .ok (.iaload, 1) := by decide +kernel
theorem dX10_value_234 : decode cX10_value 234 = .ok (.iadd, 1) := by decide +kernel
theorem dX10_value_235 : decode cX10_value 235 = .ok (.iload_n 2, 1) := by decide +kernel
theorem dX10_value_236 : decode cX10_value 236 = .ok (.iastore, 1) := by decide +kernel
theorem dX10_value_237 : decode cX10_value 237 = .ok (.aload_n 0, 1) := by decide +kernel
theorem dX10_value_238 : decode cX10_value 238 = .ok (.getfield 38, 3) := by decide +kernel
theorem dX10_value_241 : decode cX10_value 241 = .ok (.iload_n 3, 1) := by decide +kernel
theorem dX10_value_242 : decode cX10_value 242 = .ok (.dup2, 1) := by decide +kernel
theorem dX10_value_243 : decode cX10_value 243 = .ok (.iaload, 1) := by decide +kernel
theorem dX10_value_244 : decode cX10_value 244 = .ok (.iconst 1, 1) := by decide +kernel
theorem dX10_value_245 : decode cX10_value 245 = .ok (.iadd, 1) := by decide +kernel
theorem dX10_value_246 : decode cX10_value 246 = .ok (.iastore, 1) := by decide +kernel
theorem dX10_value_247 : decode cX10_value 247 = .ok (.aload_n 0, 1) := by decide +kernel
theorem dX10_value_248 : decode cX10_value 248 = .ok (.getfield 38, 3) := by decide +kernel
theorem dX10_value_251 : decode cX10_value 251 = .ok (.iload_n 3, 1) := by decide +kernel
theorem dX10_value_252 : decode cX10_value 252 = .ok (.iaload, 1) := by decide +kernel
theorem dX10_value_253 : decode cX10_value 253 = .ok (.ireturn, 1) := by decide +kernel
theorem dX10_option_0 : decode cX10_option 0 = .ok (.aload_n 0, 1) := by decide +kernel
theorem dX10_option_1 : decode cX10_option 1 = .ok (.aload_n 0, 1) := by decide +kernel
theorem dX10_option_2 : decode cX10_option 2 = .ok (.iload_n 1, 1) := by decide +kernel
theorem dX10_option_3 : decode cX10_option 3 = .ok (.invokevirtual 109, 3) := by decide +kernel
theorem dX10_option_6 : decode cX10_option 6 = .ok (.ifCond .eq 7, 3) := by decide +kernel
theorem dX10_option_9 : decode cX10_option 9 = .ok (.iconst 1, 1) := by decide +kernel
theorem dX10_option_10 : decode cX10_option 10 = .ok (.goto 4, 3) := by decide +kernel
theorem dX10_option_13 : decode cX10_option 13 = .ok (.iconst 0, 1) := by decide +kernel
theorem dX10_option_14 : decode cX10_option 14 = .ok (.putfield 102, 3) := by decide +kernel
theorem dX10_option_17 : decode cX10_option 17 = .ok (.aload_n 0, 1) := by decide +kernel
theorem dX10_option_18 : decode cX10_option 18 = .ok (.getfield 102, 3) := by decide +kernel
theorem dX10_option_21 : decode cX10_option 21 = .ok (.ifCond .le 5, 3) := by decide +kernel
theorem dX10_option_24 : decode cX10_option 24 = .ok (.iconst 0, 1) := by decide +kernel
theorem dX10_option_25 : decode cX10_option 25 = .ok (.ireturn, 1) := by decide +kernel
theorem dX10_option_26 : decode cX10_option 26 = .ok (.aload_n 0, 1) := by decide +kernel
theorem dX10_option_27 : decode cX10_option 27 = .ok (.getfield 19, 3) := by decide +kernel
theorem dX10_option_30 : decode cX10_option 30 = .ok (.iload_n 1, 1) := by decide +kernel
theorem dX10_option_31 : decode cX10_option 31 = .ok (.iaload, 1) := by decide +kernel
theorem dX10_option_32 : decode cX10_option 32 = .ok (.istore_n 3, 1) := by decide +kernel
theorem dX10_option_33 : decode cX10_option 33 = .ok (.aload_n 0, 1) := by decide +kernel
theorem dX10_option_34 : decode cX10_option 34 = .ok (.iload_n 3, 1) := by decide +kernel
theorem dX10_option_35 : decode cX10_option 35 = .ok (.invokevirtual 146, 3) := by decide +kernel
theorem dX10_option_38 : decode cX10_option 38 = .ok (.ifCond .eq 19, 3) := by decide +kernel
theorem dX10_option_41 : decode cX10_option 41 = .ok (.iload_n 2, 1) := by decide +kernel
theorem dX10_option_42 : decode cX10_option 42 = .ok (.i2l, 1) := by decide +kernel
theorem dX10_option_43 : decode cX10_option 43 = .ok (.lconst 0, 1) := by decide +kernel
theorem dX10_option_44 : decode cX10_option 44 = .ok (.ldc2_w 156, 3) := by decide +kernel
theorem dX10_option_47 : decode cX10_option 47 = .ok (.invokestatic 115, 3) := by decide +kernel
theorem dX10_option_50 : decode cX10_option 50 = .ok (.ifCond .eq 7, 3) := by decide +kernel
theorem dX10_option_53 : decode cX10_option 53 = .ok (.iconst 1, 1) := by decide +kernel
theorem dX10_option_54 : decode cX10_option 54 = .ok (.goto 4, 3) := by decide +kernel
theorem dX10_option_57 : decode cX10_option 57 = .ok (.iconst 0, 1) := by decide +kernel
theorem dX10_option_58 : decode cX10_option 58 = .ok (.istore 4, 2) := by decide +kernel
theorem dX10_option_60 : decode cX10_option 60 = .ok (.iconst 0, 1) := by decide +kernel
theorem dX10_option_61 : decode cX10_option 61 = .ok (.istore 5, 2) := by decide +kernel
theorem dX10_option_63 : decode cX10_option 63 = .ok (.iload 5, 2) := by decide +kernel
theorem dX10_option_65 : decode cX10_option 65 = .ok (.aload_n 0, 1) := by decide +kernel
theorem dX10_option_66 : decode cX10_option 66 = .ok (.getfield 47, 3) := by decide +kernel
theorem dX10_option_69 : decode cX10_option 69 = .ok (.iload_n 3, 1) := by decide +kernel
theorem dX10_option_70 : decode cX10_option 70 = .ok (.iaload, 1) := by decide +kernel
theorem dX10_option_71 : decode cX10_option 71 = .ok (.if_icmp .ge 37, 3) := by decide +kernel
theorem dX10_option_74 : decode cX10_option 74 = .ok (.iload 4, 2) := by decide +kernel
theorem dX10_option_76 : decode cX10_option 76 = .ok (.ifCond .eq 23, 3) := by decide +kernel
theorem dX10_option_79 : decode cX10_option 79 = .ok (.aload_n 0, 1) := by decide +kernel
theorem dX10_option_80 : decode cX10_option 80 = .ok (.getfield 44, 3) := by decide +kernel
theorem dX10_option_83 : decode cX10_option 83 = .ok (.bipush 12, 2) := by decide +kernel
theorem dX10_option_85 : decode cX10_option 85 = .ok (.iload_n 3, 1) := by decide +kernel
theorem dX10_option_86 : decode cX10_option 86 = .ok (.imul, 1) := by decide +kernel
theorem dX10_option_87 : decode cX10_option 87 = .ok (.iload 5, 2) := by decide +kernel
theorem dX10_option_89 : decode cX10_option 89 = .ok (.iadd, 1) := by decide +kernel
theorem dX10_option_90 : decode cX10_option 90 = .ok (.iaload, 1) := by decide +kernel
theorem dX10_option_91 : decode cX10_option 91 = .ok (.iload_n 2, 1) := by decide +kernel
theorem dX10_option_92 : decode cX10_option 92 = .ok (.if_icmp .eq 7, 3) := by decide +kernel
theorem dX10_option_95 : decode cX10_option 95 = .ok (.iconst 1, 1) := by decide +kernel
theorem dX10_option_96 : decode cX10_option 96 = .ok (.goto 4, 3) := by decide +kernel
theorem dX10_option_99 : decode cX10_option 99 = .ok (.iconst 0, 1) := by decide +kernel
theorem dX10_option_100 : decode cX10_option 100 = .ok (.istore 4, 2) := by decide +kernel
theorem dX10_option_102 : decode cX10_option 102 = .ok (.iinc 5 1, 3) := by decide +kernel
theorem dX10_option_105 : decode cX10_option 105 = .ok (.goto (-42), 3) := by decide +kernel
theorem dX10_option_108 : decode cX10_option 108 = .ok (.aload_n 0, 1) := by decide +kernel
theorem dX10_option_109 : decode cX10_option 109 = .ok (.iload 4, 2) := by decide +kernel
theorem dX10_option_111 : decode cX10_option 111 = .ok (.ifCond .ne 7, 3) := by decide +kernel
theorem dX10_option_114 : decode cX10_option 114 = .ok (.iconst 2, 1) := by decide +kernel
theorem dX10_option_115 : decode cX10_option 115 = .ok (.goto 19, 3) := by decide +kernel
theorem dX10_option_118 : decode cX10_option 118 = .ok (.aload_n 0, 1) := by decide +kernel
theorem dX10_option_119 : decode cX10_option 119 = .ok (.getfield 47, 3) := by decide +kernel
theorem dX10_option_122 : decode cX10_option 122 = .ok (.iload_n 3, 1) := by decide +kernel
theorem dX10_option_123 : decode cX10_option 123 = .ok (.iaload, 1) := by decide +kernel
theorem dX10_option_124 : decode cX10_option 124 = .ok (.bipush 12, 2) := by decide +kernel
theorem dX10_option_126 : decode cX10_option 126 = .ok (.if_icmp .ne 7, 3) := by decide +kernel
theorem dX10_option_129 : decode cX10_option 129 = .ok (.iconst 3, 1) := by decide +kernel
theorem dX10_option_130 : decode cX10_option 130 = .ok (.goto 4, 3) := by decide +kernel
theorem dX10_option_133 : decode cX10_option 133 = .ok (.iconst 0, 1) := by decide +kernel
theorem dX10_option_134 : decode cX10_option 134 = .ok (.putfield 102, 3) := by decide +kernel
theorem dX10_option_137 : decode cX10_option 137 = .ok (.aload_n 0, 1) := by decide +kernel
theorem dX10_option_138 : decode cX10_option 138 = .ok (.getfield 102, 3) := by decide +kernel
theorem dX10_option_141 : decode cX10_option 141 = .ok (.ifCond .le 5, 3) := by decide +kernel
theorem dX10_option_144 : decode cX10_option 144 = .ok (.iconst 0, 1) := by decide +kernel
theorem dX10_option_145 : decode cX10_option 145 = .ok (.ireturn, 1) := by decide +kernel
theorem dX10_option_146 : decode cX10_option 146 = .ok (.aload_n 0, 1) := by decide +kernel
theorem dX10_option_147 : decode cX10_option 147 = .ok (.getfield 44, 3) := by decide +kernel
theorem dX10_option_150 : decode cX10_option 150 = .ok (.bipush 12, 2) := by decide +kernel
theorem dX10_option_152 : decode cX10_option 152 = .ok (.iload_n 3, 1) := by decide +kernel
theorem dX10_option_153 : decode cX10_option 153 = .ok (.imul, 1) := by decide +kernel
theorem dX10_option_154 : decode cX10_option 154 = .ok (.aload_n 0, 1) := by decide +kernel
theorem dX10_option_155 : decode cX10_option 155 = .ok (.getfield 47, 3) := by decide +kernel
theorem dX10_option_158 : decode cX10_option 158 = .ok (.iload_n 3, 1) := by decide +kernel
theorem dX10_option_159 : decode cX10_option 159 = .ok (.iaload, 1) := by decide +kernel
theorem dX10_option_160 : decode cX10_option 160 = .ok (.iadd, 1) := by decide +kernel
theorem dX10_option_161 : decode cX10_option 161 = .ok (.iload_n 2, 1) := by decide +kernel
theorem dX10_option_162 : decode cX10_option 162 = .ok (.iastore, 1) := by decide +kernel
theorem dX10_option_163 : decode cX10_option 163 = .ok (.aload_n 0, 1) := by decide +kernel
theorem dX10_option_164 : decode cX10_option 164 = .ok (.getfield 47, 3) := by decide +kernel
theorem dX10_option_167 : decode cX10_option 167 = .ok (.iload_n 3, 1) := by decide +kernel
theorem dX10_option_168 : decode cX10_option 168 = .ok (.dup2, 1) := by decide +kernel
theorem dX10_option_169 : decode cX10_option 169 = .ok (.iaload, 1) := by decide +kernel
theorem dX10_option_170 : decode cX10_option 170 = .ok (.iconst 1, 1) := by decide +kernel
theorem dX10_option_171 : decode cX10_option 171 = .ok (.iadd, 1) := by decide +kernel
theorem dX10_option_172 : decode cX10_option 172 = .ok (.iastore, 1) := by decide +kernel
theorem dX10_option_173 : decode cX10_option 173 = .ok (.aload_n 0, 1) := by decide +kernel
theorem dX10_option_174 : decode cX10_option 174 = .ok (.getfield 47, 3) := by decide +kernel
theorem dX10_option_177 : decode cX10_option 177 = .ok (.iload_n 3, 1) := by decide +kernel
theorem dX10_option_178 : decode cX10_option 178 = .ok (.iaload, 1) := by decide +kernel
theorem dX10_option_179 : decode cX10_option 179 = .ok (.iconst 1, 1) := by decide +kernel
theorem dX10_option_180 : decode cX10_option 180 = .ok (.isub, 1) := by decide +kernel
theorem dX10_option_181 : decode cX10_option 181 = .ok (.ireturn, 1) := by decide +kernel
theorem dX10_maySet_0 : decode cX10_maySet 0 = .ok (.iload_n 2, 1) := by decide +kernel
theorem dX10_maySet_1 : decode cX10_maySet 1 = .ok (.tableswitch 197 0 7 #[47, 55, 97, 123, 151, 177, 177, 187], 47) := by decide +kernel
theorem dX10_maySet_48 : decode cX10_maySet 48 = .ok (.iload_n 3, 1) := by decide +kernel
theorem dX10_maySet_49 : decode cX10_maySet 49 = .ok (.i2l, 1) := by decide +kernel
theorem dX10_maySet_50 : decode cX10_maySet 50 = .ok (.lconst 0, 1) := by decide +kernel
theorem dX10_maySet_51 : decode cX10_maySet 51 = .ok (.lconst 1, 1) := by decide +kernel
theorem dX10_maySet_52 : decode cX10_maySet 52 = .ok (.invokestatic 115, 3) := by decide +kernel
theorem dX10_maySet_55 : decode cX10_maySet 55 = .ok (.ireturn, 1) := by decide +kernel
theorem dX10_maySet_56 : decode cX10_maySet 56 = .ok (.aload_n 0, 1) := by decide +kernel
theorem dX10_maySet_57 : decode cX10_maySet 57 = .ok (.getfield 7, 3) := by decide +kernel
theorem dX10_maySet_60 : decode cX10_maySet 60 = .ok (.iload_n 1, 1) := by decide +kernel
theorem dX10_maySet_61 : decode cX10_maySet 61 = .ok (.iaload, 1) := by decide +kernel
theorem dX10_maySet_62 : decode cX10_maySet 62 = .ok (.iconst 1, 1) := by decide +kernel
theorem dX10_maySet_63 : decode cX10_maySet 63 = .ok (.if_icmp .ne 33, 3) := by decide +kernel
theorem dX10_maySet_66 : decode cX10_maySet 66 = .ok (.iload_n 3, 1) := by decide +kernel
theorem dX10_maySet_67 : decode cX10_maySet 67 = .ok (.ifCond .eq 25, 3) := by decide +kernel
theorem dX10_maySet_70 : decode cX10_maySet 70 = .ok (.iload_n 3, 1) := by decide +kernel
theorem dX10_maySet_71 : decode cX10_maySet 71 = .ok (.i2l, 1) := by decide +kernel
theorem dX10_maySet_72 : decode cX10_maySet 72 = .ok (.lconst 1, 1) := by decide +kernel
theorem dX10_maySet_73 : decode cX10_maySet 73 = .ok (.ldc2_w 158, 3) := by decide +kernel
theorem dX10_maySet_76 : decode cX10_maySet 76 = .ok (.invokestatic 115, 3) := by decide +kernel
theorem dX10_maySet_79 : decode cX10_maySet 79 = .ok (.ifCond .eq 17, 3) := by decide +kernel
theorem dX10_maySet_82 : decode cX10_maySet 82 = .ok (.iload_n 3, 1) := by decide +kernel
theorem dX10_maySet_83 : decode cX10_maySet 83 = .ok (.aload_n 0, 1) := by decide +kernel
theorem dX10_maySet_84 : decode cX10_maySet 84 = .ok (.getfield 38, 3) := by decide +kernel
theorem dX10_maySet_87 : decode cX10_maySet 87 = .ok (.iload_n 1, 1) := by decide +kernel
theorem dX10_maySet_88 : decode cX10_maySet 88 = .ok (.iaload, 1) := by decide +kernel
theorem dX10_maySet_89 : decode cX10_maySet 89 = .ok (.if_icmp .lt 7, 3) := by decide +kernel
theorem dX10_maySet_92 : decode cX10_maySet 92 = .ok (.iconst 1, 1) := by decide +kernel
theorem dX10_maySet_93 : decode cX10_maySet 93 = .ok (.goto 4, 3) := by decide +kernel
theorem dX10_maySet_96 : decode cX10_maySet 96 = .ok (.iconst 0, 1) := by decide +kernel
theorem dX10_maySet_97 : decode cX10_maySet 97 = .ok (.ireturn, 1) := by decide +kernel
theorem dX10_maySet_98 : decode cX10_maySet 98 = .ok (.aload_n 0, 1) := by decide +kernel
theorem dX10_maySet_99 : decode cX10_maySet 99 = .ok (.getfield 7, 3) := by decide +kernel
theorem dX10_maySet_102 : decode cX10_maySet 102 = .ok (.iload_n 1, 1) := by decide +kernel
theorem dX10_maySet_103 : decode cX10_maySet 103 = .ok (.iaload, 1) := by decide +kernel
theorem dX10_maySet_104 : decode cX10_maySet 104 = .ok (.iconst 3, 1) := by decide +kernel
theorem dX10_maySet_105 : decode cX10_maySet 105 = .ok (.if_icmp .ne 17, 3) := by decide +kernel
theorem dX10_maySet_108 : decode cX10_maySet 108 = .ok (.iload_n 3, 1) := by decide +kernel
theorem dX10_maySet_109 : decode cX10_maySet 109 = .ok (.i2l, 1) := by decide +kernel
theorem dX10_maySet_110 : decode cX10_maySet 110 = .ok (.lconst 0, 1) := by decide +kernel
theorem dX10_maySet_111 : decode cX10_maySet 111 = .ok (.lconst 1, 1) := by decide +kernel
theorem dX10_maySet_112 : decode cX10_maySet 112 = .ok (.invokestatic 115, 3) := by decide +kernel
theorem dX10_maySet_115 : decode cX10_maySet 115 = .ok (.ifCond .eq 7, 3) := by decide +kernel
theorem dX10_maySet_118 : decode cX10_maySet 118 = .ok (.iconst 1, 1) := by decide +kernel
theorem dX10_maySet_119 : decode cX10_maySet 119 = .ok (.goto 4, 3) := by decide +kernel
theorem dX10_maySet_122 : decode cX10_maySet 122 = .ok (.iconst 0, 1) := by decide +kernel
theorem dX10_maySet_123 : decode cX10_maySet 123 = .ok (.ireturn, 1) := by decide +kernel
theorem dX10_maySet_124 : decode cX10_maySet 124 = .ok (.aload_n 0, 1) := by decide +kernel
theorem dX10_maySet_125 : decode cX10_maySet 125 = .ok (.getfield 7, 3) := by decide +kernel
theorem dX10_maySet_128 : decode cX10_maySet 128 = .ok (.iload_n 1, 1) := by decide +kernel
theorem dX10_maySet_129 : decode cX10_maySet 129 = .ok (.iaload, 1) := by decide +kernel
theorem dX10_maySet_130 : decode cX10_maySet 130 = .ok (.iconst 5, 1) := by decide +kernel
theorem dX10_maySet_131 : decode cX10_maySet 131 = .ok (.if_icmp .ne 19, 3) := by decide +kernel
theorem dX10_maySet_134 : decode cX10_maySet 134 = .ok (.iload_n 3, 1) := by decide +kernel
theorem dX10_maySet_135 : decode cX10_maySet 135 = .ok (.i2l, 1) := by decide +kernel
theorem dX10_maySet_136 : decode cX10_maySet 136 = .ok (.lconst 0, 1) := by decide +kernel
theorem dX10_maySet_137 : decode cX10_maySet 137 = .ok (.ldc2_w 160, 3) := by decide +kernel
theorem dX10_maySet_140 : decode cX10_maySet 140 = .ok (.invokestatic 115, 3) := by decide +kernel
theorem dX10_maySet_143 : decode cX10_maySet 143 = .ok (.ifCond .eq 7, 3) := by decide +kernel
theorem dX10_maySet_146 : decode cX10_maySet 146 = .ok (.iconst 1, 1) := by decide +kernel
theorem dX10_maySet_147 : decode cX10_maySet 147 = .ok (.goto 4, 3) := by decide +kernel
theorem dX10_maySet_150 : decode cX10_maySet 150 = .ok (.iconst 0, 1) := by decide +kernel
theorem dX10_maySet_151 : decode cX10_maySet 151 = .ok (.ireturn, 1) := by decide +kernel
theorem dX10_maySet_152 : decode cX10_maySet 152 = .ok (.aload_n 0, 1) := by decide +kernel
theorem dX10_maySet_153 : decode cX10_maySet 153 = .ok (.getfield 7, 3) := by decide +kernel
theorem dX10_maySet_156 : decode cX10_maySet 156 = .ok (.iload_n 1, 1) := by decide +kernel
theorem dX10_maySet_157 : decode cX10_maySet 157 = .ok (.iaload, 1) := by decide +kernel
theorem dX10_maySet_158 : decode cX10_maySet 158 = .ok (.iconst 5, 1) := by decide +kernel
theorem dX10_maySet_159 : decode cX10_maySet 159 = .ok (.if_icmp .ne 17, 3) := by decide +kernel
theorem dX10_maySet_162 : decode cX10_maySet 162 = .ok (.iload_n 3, 1) := by decide +kernel
theorem dX10_maySet_163 : decode cX10_maySet 163 = .ok (.i2l, 1) := by decide +kernel
theorem dX10_maySet_164 : decode cX10_maySet 164 = .ok (.lconst 0, 1) := by decide +kernel
theorem dX10_maySet_165 : decode cX10_maySet 165 = .ok (.lconst 1, 1) := by decide +kernel
theorem dX10_maySet_166 : decode cX10_maySet 166 = .ok (.invokestatic 115, 3) := by decide +kernel
theorem dX10_maySet_169 : decode cX10_maySet 169 = .ok (.ifCond .eq 7, 3) := by decide +kernel
theorem dX10_maySet_172 : decode cX10_maySet 172 = .ok (.iconst 1, 1) := by decide +kernel
theorem dX10_maySet_173 : decode cX10_maySet 173 = .ok (.goto 4, 3) := by decide +kernel
theorem dX10_maySet_176 : decode cX10_maySet 176 = .ok (.iconst 0, 1) := by decide +kernel
theorem dX10_maySet_177 : decode cX10_maySet 177 = .ok (.ireturn, 1) := by decide +kernel
theorem dX10_maySet_178 : decode cX10_maySet 178 = .ok (.iload_n 3, 1) := by decide +kernel
theorem dX10_maySet_179 : decode cX10_maySet 179 = .ok (.i2l, 1) := by decide +kernel
theorem dX10_maySet_180 : decode cX10_maySet 180 = .ok (.lconst 0, 1) := by decide +kernel
theorem dX10_maySet_181 : decode cX10_maySet 181 = .ok (.ldc2_w 162, 3) := by decide +kernel
theorem dX10_maySet_184 : decode cX10_maySet 184 = .ok (.invokestatic 115, 3) := by decide +kernel
theorem dX10_maySet_187 : decode cX10_maySet 187 = .ok (.ireturn, 1) := by decide +kernel
theorem dX10_maySet_188 : decode cX10_maySet 188 = .ok (.iload_n 3, 1) := by decide +kernel
theorem dX10_maySet_189 : decode cX10_maySet 189 = .ok (.i2l, 1) := by decide +kernel
theorem dX10_maySet_190 : decode cX10_maySet 190 = .ok (.lconst 0, 1) := by decide +kernel
theorem dX10_maySet_191 : decode cX10_maySet 191 = .ok (.ldc2_w 164, 3) := by decide +kernel
theorem dX10_maySet_194 : decode cX10_maySet 194 = .ok (.invokestatic 115, 3) := by decide +kernel
theorem dX10_maySet_197 : decode cX10_maySet 197 = .ok (.ireturn, 1) := by decide +kernel
theorem dX10_maySet_198 : decode cX10_maySet 198 = .ok (.iconst 0, 1) := by decide +kernel
theorem dX10_maySet_199 : decode cX10_maySet 199 = .ok (.ireturn, 1) := by decide +kernel
theorem dX10_set_0 : decode cX10_set 0 = .ok (.aload_n 0, 1) := by decide +kernel
theorem dX10_set_1 : decode cX10_set 1 = .ok (.aload_n 0, 1) := by decide +kernel
theorem dX10_set_2 : decode cX10_set 2 = .ok (.iload_n 1, 1) := by decide +kernel
theorem dX10_set_3 : decode cX10_set 3 = .ok (.invokevirtual 109, 3) := by decide +kernel
theorem dX10_set_6 : decode cX10_set 6 = .ok (.ifCond .eq 7, 3) := by decide +kernel
theorem dX10_set_9 : decode cX10_set 9 = .ok (.iconst 1, 1) := by decide +kernel
theorem dX10_set_10 : decode cX10_set 10 = .ok (.goto 4, 3) := by decide +kernel
theorem dX10_set_13 : decode cX10_set 13 = .ok (.iconst 0, 1) := by decide +kernel
theorem dX10_set_14 : decode cX10_set 14 = .ok (.putfield 102, 3) := by decide +kernel
theorem dX10_set_17 : decode cX10_set 17 = .ok (.aload_n 0, 1) := by decide +kernel
theorem dX10_set_18 : decode cX10_set 18 = .ok (.getfield 102, 3) := by decide +kernel
theorem dX10_set_21 : decode cX10_set 21 = .ok (.ifCond .le 5, 3) := by decide +kernel
theorem dX10_set_24 : decode cX10_set 24 = .ok (.iconst 0, 1) := by decide +kernel
theorem dX10_set_25 : decode cX10_set 25 = .ok (.ireturn, 1) := by decide +kernel
theorem dX10_set_26 : decode cX10_set 26 = .ok (.aload_n 0, 1) := by decide +kernel
theorem dX10_set_27 : decode cX10_set 27 = .ok (.getfield 19, 3) := by decide +kernel
theorem dX10_set_30 : decode cX10_set 30 = .ok (.iload_n 1, 1) := by decide +kernel
theorem dX10_set_31 : decode cX10_set 31 = .ok (.iaload, 1) := by decide +kernel
theorem dX10_set_32 : decode cX10_set 32 = .ok (.istore 4, 2) := by decide +kernel
theorem dX10_set_34 : decode cX10_set 34 = .ok (.aload_n 0, 1) := by decide +kernel
theorem dX10_set_35 : decode cX10_set 35 = .ok (.aload_n 0, 1) := by decide +kernel
theorem dX10_set_36 : decode cX10_set 36 = .ok (.getfield 7, 3) := by decide +kernel
theorem dX10_set_39 : decode cX10_set 39 = .ok (.iload 4, 2) := by decide +kernel
theorem dX10_set_41 : decode cX10_set 41 = .ok (.iaload, 1) := by decide +kernel
theorem dX10_set_42 : decode cX10_set 42 = .ok (.ifCond .eq 14, 3) := by decide +kernel
theorem dX10_set_45 : decode cX10_set 45 = .ok (.aload_n 0, 1) := by decide +kernel
theorem dX10_set_46 : decode cX10_set 46 = .ok (.iload 4, 2) := by decide +kernel
theorem dX10_set_48 : decode cX10_set 48 = .ok (.iload_n 2, 1) := by decide +kernel
theorem dX10_set_49 : decode cX10_set 49 = .ok (.iload_n 3, 1) := by decide +kernel
theorem dX10_set_50 : decode cX10_set 50 = .ok (.invokevirtual 166, 3) := by decide +kernel
theorem dX10_set_53 : decode cX10_set 53 = .ok (.ifCond .ne 7, 3) := by decide +kernel
theorem dX10_set_56 : decode cX10_set 56 = .ok (.iconst 2, 1) := by decide +kernel
theorem dX10_set_57 : decode cX10_set 57 = .ok (.goto 4, 3) := by decide +kernel
theorem dX10_set_60 : decode cX10_set 60 = .ok (.iconst 0, 1) := by decide +kernel
theorem dX10_set_61 : decode cX10_set 61 = .ok (.putfield 102, 3) := by decide +kernel
theorem dX10_set_64 : decode cX10_set 64 = .ok (.aload_n 0, 1) := by decide +kernel
theorem dX10_set_65 : decode cX10_set 65 = .ok (.getfield 102, 3) := by decide +kernel
theorem dX10_set_68 : decode cX10_set 68 = .ok (.ifCond .le 5, 3) := by decide +kernel
theorem dX10_set_71 : decode cX10_set 71 = .ok (.iconst 0, 1) := by decide +kernel
theorem dX10_set_72 : decode cX10_set 72 = .ok (.ireturn, 1) := by decide +kernel
theorem dX10_set_73 : decode cX10_set 73 = .ok (.iload_n 2, 1) := by decide +kernel
theorem dX10_set_74 : decode cX10_set 74 = .ok (.iconst 5, 1) := by decide +kernel
theorem dX10_set_75 : decode cX10_set 75 = .ok (.if_icmp .ne 12, 3) := by decide +kernel
theorem dX10_set_78 : decode cX10_set 78 = .ok (.aload_n 0, 1) := by decide +kernel
theorem dX10_set_79 : decode cX10_set 79 = .ok (.getfield 22, 3) := by decide +kernel
theorem dX10_set_82 : decode cX10_set 82 = .ok (.iload_n 1, 1) := by decide +kernel
theorem dX10_set_83 : decode cX10_set 83 = .ok (.iaload, 1) := by decide +kernel
theorem dX10_set_84 : decode cX10_set 84 = .ok (.goto 44, 3) := by decide +kernel
theorem dX10_set_87 : decode cX10_set 87 = .ok (.iload_n 2, 1) := by decide +kernel
theorem dX10_set_88 : decode cX10_set 88 = .ok (.bipush 6, 2) := by decide +kernel
theorem dX10_set_90 : decode cX10_set 90 = .ok (.if_icmp .ne 12, 3) := by decide +kernel
theorem dX10_set_93 : decode cX10_set 93 = .ok (.aload_n 0, 1) := by decide +kernel
theorem dX10_set_94 : decode cX10_set 94 = .ok (.getfield 25, 3) := by decide +kernel
theorem dX10_set_97 : decode cX10_set 97 = .ok (.iload_n 1, 1) := by decide +kernel
theorem dX10_set_98 : decode cX10_set 98 = .ok (.iaload, 1) := by decide +kernel
theorem dX10_set_99 : decode cX10_set 99 = .ok (.goto 29, 3) := by decide +kernel
theorem dX10_set_102 : decode cX10_set 102 = .ok (.iload_n 2, 1) := by decide +kernel
theorem dX10_set_103 : decode cX10_set 103 = .ok (.bipush 7, 2) := by decide +kernel
theorem dX10_set_105 : decode cX10_set 105 = .ok (.if_icmp .ne 12, 3) := by decide +kernel
theorem dX10_set_108 : decode cX10_set 108 = .ok (.aload_n 0, 1) := by decide +kernel
theorem dX10_set_109 : decode cX10_set 109 = .ok (.getfield 28, 3) := by decide +kernel
theorem dX10_set_112 : decode cX10_set 112 = .ok (.iload_n 1, 1) := by decide +kernel
theorem dX10_set_113 : decode cX10_set 113 = .ok (.iaload, 1) := by decide +kernel
theorem dX10_set_114 : decode cX10_set 114 = .ok (.goto 14, 3) := by decide +kernel
theorem dX10_set_117 : decode cX10_set 117 = .ok (.aload_n 0, 1) := by decide +kernel
theorem dX10_set_118 : decode cX10_set 118 = .ok (.getfield 50, 3) := by decide +kernel
theorem dX10_set_121 : decode cX10_set 121 = .ok (.iconst 5, 1) := by decide +kernel
theorem dX10_set_122 : decode cX10_set 122 = .ok (.iload 4, 2) := by decide +kernel
theorem dX10_set_124 : decode cX10_set 124 = .ok (.imul, 1) := by decide +kernel
theorem dX10_set_125 : decode cX10_set 125 = .ok (.iload_n 2, 1) := by decide +kernel
theorem dX10_set_126 : decode cX10_set 126 = .ok (.iadd, 1) := by decide +kernel
theorem dX10_set_127 : decode cX10_set 127 = .ok (.iaload, 1) := by decide +kernel
theorem dX10_set_128 : decode cX10_set 128 = .ok (.istore 5, 2) := by decide +kernel
theorem dX10_set_130 : decode cX10_set 130 = .ok (.iload_n 2, 1) := by decide +kernel
theorem dX10_set_131 : decode cX10_set 131 = .ok (.iconst 5, 1) := by decide +kernel
theorem dX10_set_132 : decode cX10_set 132 = .ok (.if_icmp .ne 13, 3) := by decide +kernel
theorem dX10_set_135 : decode cX10_set 135 = .ok (.aload_n 0, 1) := by decide +kernel
theorem dX10_set_136 : decode cX10_set 136 = .ok (.getfield 22, 3) := by decide +kernel
theorem dX10_set_139 : decode cX10_set 139 = .ok (.iload_n 1, 1) := by decide +kernel
theorem dX10_set_140 : decode cX10_set 140 = .ok (.iload_n 3, 1) := by decide +kernel
theorem dX10_set_141 : decode cX10_set 141 = .ok (.iastore, 1) := by decide +kernel
theorem dX10_set_142 : decode cX10_set 142 = .ok (.goto 47, 3) := by decide +kernel
theorem dX10_set_145 : decode cX10_set 145 = .ok (.iload_n 2, 1) := by decide +kernel
theorem dX10_set_146 : decode cX10_set 146 = .ok (.bipush 6, 2) := by decide +kernel
theorem dX10_set_148 : decode cX10_set 148 = .ok (.if_icmp .ne 13, 3) := by decide +kernel
theorem dX10_set_151 : decode cX10_set 151 = .ok (.aload_n 0, 1) := by decide +kernel
theorem dX10_set_152 : decode cX10_set 152 = .ok (.getfield 25, 3) := by decide +kernel
theorem dX10_set_155 : decode cX10_set 155 = .ok (.iload_n 1, 1) := by decide +kernel
theorem dX10_set_156 : decode cX10_set 156 = .ok (.iload_n 3, 1) := by decide +kernel
theorem dX10_set_157 : decode cX10_set 157 = .ok (.iastore, 1) := by decide +kernel
theorem dX10_set_158 : decode cX10_set 158 = .ok (.goto 31, 3) := by decide +kernel
theorem dX10_set_161 : decode cX10_set 161 = .ok (.iload_n 2, 1) := by decide +kernel
theorem dX10_set_162 : decode cX10_set 162 = .ok (.bipush 7, 2) := by decide +kernel
theorem dX10_set_164 : decode cX10_set 164 = .ok (.if_icmp .ne 13, 3) := by decide +kernel
theorem dX10_set_167 : decode cX10_set 167 = .ok (.aload_n 0, 1) := by decide +kernel
theorem dX10_set_168 : decode cX10_set 168 = .ok (.getfield 28, 3) := by decide +kernel
theorem dX10_set_171 : decode cX10_set 171 = .ok (.iload_n 1, 1) := by decide +kernel
theorem dX10_set_172 : decode cX10_set 172 = .ok (.iload_n 3, 1) := by decide +kernel
theorem dX10_set_173 : decode cX10_set 173 = .ok (.iastore, 1) := by decide +kernel
theorem dX10_set_174 : decode cX10_set 174 = .ok (.goto 15, 3) := by decide +kernel
theorem dX10_set_177 : decode cX10_set 177 = .ok (.aload_n 0, 1) := by decide +kernel
theorem dX10_set_178 : decode cX10_set 178 = .ok (.getfield 50, 3) := by decide +kernel
theorem dX10_set_181 : decode cX10_set 181 = .ok (.iconst 5, 1) := by decide +kernel
theorem dX10_set_182 : decode cX10_set 182 = .ok (.iload 4, 2) := by decide +kernel
theorem dX10_set_184 : decode cX10_set 184 = .ok (.imul, 1) := by decide +kernel
theorem dX10_set_185 : decode cX10_set 185 = .ok (.iload_n 2, 1) := by decide +kernel
theorem dX10_set_186 : decode cX10_set 186 = .ok (.iadd, 1) := by decide +kernel
theorem dX10_set_187 : decode cX10_set 187 = .ok (.iload_n 3, 1) := by decide +kernel
theorem dX10_set_188 : decode cX10_set 188 = .ok (.iastore, 1) := by decide +kernel
theorem dX10_set_189 : decode cX10_set 189 = .ok (.iload 5, 2) := by decide +kernel
theorem dX10_set_191 : decode cX10_set 191 = .ok (.ireturn, 1) := by decide +kernel
theorem dX10_bounds_0 : decode cX10_bounds 0 = .ok (.aload_n 0, 1) := by decide +kernel
theorem dX10_bounds_1 : decode cX10_bounds 1 = .ok (.aload_n 0, 1) := by decide +kernel
theorem dX10_bounds_2 : decode cX10_bounds 2 = .ok (.iload_n 1, 1) := by decide +kernel
theorem dX10_bounds_3 : decode cX10_bounds 3 = .ok (.invokevirtual 109, 3) := by decide +kernel
theorem dX10_bounds_6 : decode cX10_bounds 6 = .ok (.ifCond .eq 7, 3) := by decide +kernel
theorem dX10_bounds_9 : decode cX10_bounds 9 = .ok (.iconst 1, 1) := by decide +kernel
theorem dX10_bounds_10 : decode cX10_bounds 10 = .ok (.goto 42, 3) := by decide +kernel
theorem dX10_bounds_13 : decode cX10_bounds 13 = .ok (.aload_n 0, 1) := by decide +kernel
theorem dX10_bounds_14 : decode cX10_bounds 14 = .ok (.getfield 7, 3) := by decide +kernel
theorem dX10_bounds_17 : decode cX10_bounds 17 = .ok (.iload_n 1, 1) := by decide +kernel
theorem dX10_bounds_18 : decode cX10_bounds 18 = .ok (.iaload, 1) := by decide +kernel
theorem dX10_bounds_19 : decode cX10_bounds 19 = .ok (.iconst 5, 1) := by decide +kernel
theorem dX10_bounds_20 : decode cX10_bounds 20 = .ok (.if_icmp .ne 27, 3) := by decide +kernel
theorem dX10_bounds_23 : decode cX10_bounds 23 = .ok (.lload_n 2, 1) := by decide +kernel
theorem dX10_bounds_24 : decode cX10_bounds 24 = .ok (.ldc2_w 125, 3) := by decide +kernel
theorem dX10_bounds_27 : decode cX10_bounds 27 = .ok (.lcmp, 1) := by decide +kernel
theorem dX10_bounds_28 : decode cX10_bounds 28 = .ok (.ifCond .lt 19, 3) := by decide +kernel
theorem dX10_bounds_31 : decode cX10_bounds 31 = .ok (.lload 4, 2) := by decide +kernel
theorem dX10_bounds_33 : decode cX10_bounds 33 = .ok (.ldc2_w 127, 3) := by decide +kernel
theorem dX10_bounds_36 : decode cX10_bounds 36 = .ok (.lcmp, 1) := by decide +kernel
theorem dX10_bounds_37 : decode cX10_bounds 37 = .ok (.ifCond .gt 10, 3) := by decide +kernel
theorem dX10_bounds_40 : decode cX10_bounds 40 = .ok (.lload_n 2, 1) := by decide +kernel
theorem dX10_bounds_41 : decode cX10_bounds 41 = .ok (.lload 4, 2) := by decide +kernel
theorem dX10_bounds_43 : decode cX10_bounds 43 = .ok (.lcmp, 1) := by decide +kernel
theorem dX10_bounds_44 : decode cX10_bounds 44 = .ok (.ifCond .le 7, 3) := by decide +kernel
theorem dX10_bounds_47 : decode cX10_bounds 47 = .ok (.iconst 2, 1) := by decide +kernel
theorem dX10_bounds_48 : decode cX10_bounds 48 = .ok (.goto 4, 3) := by decide +kernel
theorem dX10_bounds_51 : decode cX10_bounds 51 = .ok (.iconst 0, 1) := by decide +kernel
theorem dX10_bounds_52 : decode cX10_bounds 52 = .ok (.putfield 102, 3) := by decide +kernel
theorem dX10_bounds_55 : decode cX10_bounds 55 = .ok (.aload_n 0, 1) := by decide +kernel
theorem dX10_bounds_56 : decode cX10_bounds 56 = .ok (.getfield 102, 3) := by decide +kernel
theorem dX10_bounds_59 : decode cX10_bounds 59 = .ok (.ifCond .ne 28, 3) := by decide +kernel
theorem dX10_bounds_62 : decode cX10_bounds 62 = .ok (.aload_n 0, 1) := by decide +kernel
theorem dX10_bounds_63 : decode cX10_bounds 63 = .ok (.getfield 53, 3) := by decide +kernel
theorem dX10_bounds_66 : decode cX10_bounds 66 = .ok (.aload_n 0, 1) := by decide +kernel
theorem dX10_bounds_67 : decode cX10_bounds 67 = .ok (.getfield 19, 3) := by decide +kernel
theorem dX10_bounds_70 : decode cX10_bounds 70 = .ok (.iload_n 1, 1) := by decide +kernel
theorem dX10_bounds_71 : decode cX10_bounds 71 = .ok (.iaload, 1) := by decide +kernel
theorem dX10_bounds_72 : decode cX10_bounds 72 = .ok (.lload_n 2, 1) := by decide +kernel
theorem dX10_bounds_73 : decode cX10_bounds 73 = .ok (.lastore, 1) := by decide +kernel
theorem dX10_bounds_74 : decode cX10_bounds 74 = .ok (.aload_n 0, 1) := by decide +kernel
theorem dX10_bounds_75 : decode cX10_bounds 75 = .ok (.getfield 57, 3) := by decide +kernel
theorem dX10_bounds_78 : decode cX10_bounds 78 = .ok (.aload_n 0, 1) := by decide +kernel
theorem dX10_bounds_79 : decode cX10_bounds 79 = .ok (.getfield 19, 3) := by decide +kernel
theorem dX10_bounds_82 : decode cX10_bounds 82 = .ok (.iload_n 1, 1) := by decide +kernel
theorem dX10_bounds_83 : decode cX10_bounds 83 = .ok (.iaload, 1) := by decide +kernel
theorem dX10_bounds_84 : decode cX10_bounds 84 = .ok (.lload 4, 2) := by decide +kernel
theorem dX10_bounds_86 : decode cX10_bounds 86 = .ok (.lastore, 1) := by decide +kernel
theorem dX10_bounds_87 : decode cX10_bounds 87 = .ok (.return_, 1) := by decide +kernel
