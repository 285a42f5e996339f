theorem dX3_add_0 : decode cX3_add 0 = .ok (.aload_n 0, 1) := by decide +kernel
theorem dX3_add_1 : decode cX3_add 1 = .ok (.getfield 26, 3) := by decide +kernel
theorem dX3_add_4 : decode cX3_add 4 = .ok (.ifCond .lt 14, 3) := by decide +kernel
theorem dX3_add_7 : decode cX3_add 7 = .ok (.aload_n 0, 1) := by decide +kernel
theorem dX3_add_8 : decode cX3_add 8 = .ok (.getfield 26, 3) := by decide +kernel
theorem dX3_add_11 : decode cX3_add 11 = .ok (.aload_n 0, 1) := by decide +kernel
theorem dX3_add_12 : decode cX3_add 12 = .ok (.getfield 15, 3) := by decide +kernel
theorem dX3_add_15 : decode cX3_add 15 = .ok (.if_icmp .lt 4, 3) := by decide +kernel
theorem dX3_add_18 : decode cX3_add 18 = .ok (.return_, 1) := by decide +kernel
theorem dX3_add_19 : decode cX3_add 19 = .ok (.aload_n 0, 1) := by decide +kernel
theorem dX3_add_20 : decode cX3_add 20 = .ok (.getfield 23, 3) := by decide +kernel
theorem dX3_add_23 : decode cX3_add 23 = .ok (.iconst 0, 1) := by decide +kernel
theorem dX3_add_24 : decode cX3_add 24 = .ok (.aaload, 1) := by decide +kernel
theorem dX3_add_25 : decode cX3_add 25 = .ok (.aload_n 0, 1) := by decide +kernel
theorem dX3_add_26 : decode cX3_add 26 = .ok (.getfield 26, 3) := by decide +kernel
theorem dX3_add_29 : decode cX3_add 29 = .ok (.iload_n 1, 1) := by decide +kernel
theorem dX3_add_30 : decode cX3_add 30 = .ok (.iastore, 1) := by decide +kernel
theorem dX3_add_31 : decode cX3_add 31 = .ok (.aload_n 0, 1) := by decide +kernel
theorem dX3_add_32 : decode cX3_add 32 = .ok (.getfield 23, 3) := by decide +kernel
theorem dX3_add_35 : decode cX3_add 35 = .ok (.iconst 1, 1) := by decide +kernel
theorem dX3_add_36 : decode cX3_add 36 = .ok (.aaload, 1) := by decide +kernel
theorem dX3_add_37 : decode cX3_add 37 = .ok (.aload_n 0, 1) := by decide +kernel
theorem dX3_add_38 : decode cX3_add 38 = .ok (.getfield 26, 3) := by decide +kernel
theorem dX3_add_41 : decode cX3_add 41 = .ok (.iload_n 2, 1) := by decide +kernel
theorem dX3_add_42 : decode cX3_add 42 = .ok (.iastore, 1) := by decide +kernel
theorem dX3_add_43 : decode cX3_add 43 = .ok (.aload_n 0, 1) := by decide +kernel
theorem dX3_add_44 : decode cX3_add 44 = .ok (.getfield 23, 3) := by decide +kernel
theorem dX3_add_47 : decode cX3_add 47 = .ok (.iconst 2, 1) := by decide +kernel
theorem dX3_add_48 : decode cX3_add 48 = .ok (.aaload, 1) := by decide +kernel
theorem dX3_add_49 : decode cX3_add 49 = .ok (.aload_n 0, 1) := by decide +kernel
theorem dX3_add_50 : decode cX3_add 50 = .ok (.getfield 26, 3) := by decide +kernel
theorem dX3_add_53 : decode cX3_add 53 = .ok (.iload_n 3, 1) := by decide +kernel
theorem dX3_add_54 : decode cX3_add 54 = .ok (.iastore, 1) := by decide +kernel
theorem dX3_add_55 : decode cX3_add 55 = .ok (.aload_n 0, 1) := by decide +kernel
theorem dX3_add_56 : decode cX3_add 56 = .ok (.getfield 23, 3) := by decide +kernel
theorem dX3_add_59 : decode cX3_add 59 = .ok (.iconst 3, 1) := by decide +kernel
theorem dX3_add_60 : decode cX3_add 60 = .ok (.aaload, 1) := by decide +kernel
theorem dX3_add_61 : decode cX3_add 61 = .ok (.aload_n 0, 1) := by decide +kernel
theorem dX3_add_62 : decode cX3_add 62 = .ok (.getfield 26, 3) := by decide +kernel
theorem dX3_add_65 : decode cX3_add 65 = .ok (.iload 4, 2) := by decide +kernel
theorem dX3_add_67 : decode cX3_add 67 = .ok (.iastore, 1) := by decide +kernel
theorem dX3_add_68 : decode cX3_add 68 = .ok (.aload_n 0, 1) := by decide +kernel
theorem dX3_add_69 : decode cX3_add 69 = .ok (.getfield 23, 3) := by decide +kernel
theorem dX3_add_72 : decode cX3_add 72 = .ok (.iconst 4, 1) := by decide +kernel
theorem dX3_add_73 : decode cX3_add 73 = .ok (.aaload, 1) := by decide +kernel
theorem dX3_add_74 : decode cX3_add 74 = .ok (.aload_n 0, 1) := by decide +kernel
theorem dX3_add_75 : decode cX3_add 75 = .ok (.getfield 26, 3) := by decide +kernel
theorem dX3_add_78 : decode cX3_add 78 = .ok (.iload 5, 2) := by decide +kernel
theorem dX3_add_80 : decode cX3_add 80 = .ok (.iastore, 1) := by decide +kernel
theorem dX3_add_81 : decode cX3_add 81 = .ok (.aload_n 0, 1) := by decide +kernel
theorem dX3_add_82 : decode cX3_add 82 = .ok (.dup, 1) := by decide +kernel
theorem dX3_add_83 : decode cX3_add 83 = .ok (.getfield 26, 3) := by decide +kernel
theorem dX3_add_86 : decode cX3_add 86 = .ok (.iconst 1, 1) := by decide +kernel
theorem dX3_add_87 : decode cX3_add 87 = .ok (.iadd, 1) := by decide +kernel
theorem dX3_add_88 : decode cX3_add 88 = .ok (.putfield 26, 3) := by decide +kernel
theorem dX3_add_91 : decode cX3_add 91 = .ok (.return_, 1) := by decide +kernel
theorem dX4_init_0 : decode cX4_init 0 = .ok (.aload_n 0, 1) := by decide +kernel
theorem dX4_init_1 : decode cX4_init 1 = .ok (.invokespecial 3, 3) := by decide +kernel
theorem dX4_init_4 : decode cX4_init 4 = .ok (.aload_n 0, 1) := by decide +kernel
theorem dX4_init_5 : decode cX4_init 5 = .ok (.new 9, 3) := by decide +kernel
theorem dX4_init_8 : decode cX4_init 8 = .ok (.dup, 1) := by decide +kernel
theorem dX4_init_9 : decode cX4_init 9 = .ok (.sipush 3000, 3) := by decide +kernel
theorem dX4_init_12 : decode cX4_init 12 = .ok (.invokespecial 11, 3) := by decide +kernel
theorem dX4_init_15 : decode cX4_init 15 = .ok (.putfield 14, 3) := by decide +kernel
theorem dX4_init_18 : decode cX4_init 18 = .ok (.aload_n 0, 1) := by decide +kernel
theorem dX4_init_19 : decode cX4_init 19 = .ok (.aload_n 1, 1) := by decide +kernel
theorem dX4_init_20 : decode cX4_init 20 = .ok (.putfield 20, 3) := by decide +kernel
theorem dX4_init_23 : decode cX4_init 23 = .ok (.return_, 1) := by decide +kernel
theorem dX4_readAll_0 : decode cX4_readAll 0 = .ok (.aload_n 0, 1) := by decide +kernel
theorem dX4_readAll_1 : decode cX4_readAll 1 = .ok (.invokevirtual 24, 3) := by decide +kernel
theorem dX4_readAll_4 : decode cX4_readAll 4 = .ok (.istore_n 1, 1) := by decide +kernel
theorem dX4_readAll_5 : decode cX4_readAll 5 = .ok (.aload_n 0, 1) := by decide +kernel
theorem dX4_readAll_6 : decode cX4_readAll 6 = .ok (.iload_n 1, 1) := by decide +kernel
theorem dX4_readAll_7 : decode cX4_readAll 7 = .ok (.invokevirtual 28, 3) := by decide +kernel
theorem dX4_readAll_10 : decode cX4_readAll 10 = .ok (.aload_n 0, 1) := by decide +kernel
theorem dX4_readAll_11 : decode cX4_readAll 11 = .ok (.getfield 14, 3) := by decide +kernel
theorem dX4_readAll_14 : decode cX4_readAll 14 = .ok (.invokevirtual 31, 3) := by decide +kernel
theorem dX4_readAll_17 : decode cX4_readAll 17 = .ok (.iload_n 1, 1) := by decide +kernel
theorem dX4_readAll_18 : decode cX4_readAll 18 = .ok (.ireturn, 1) := by decide +kernel
theorem dX4_checkAll_0 : decode cX4_checkAll 0 = .ok (.iconst 0, 1) := by decide +kernel
theorem dX4_checkAll_1 : decode cX4_checkAll 1 = .ok (.istore_n 1, 1) := by decide +kernel
theorem dX4_checkAll_2 : decode cX4_checkAll 2 = .ok (.iconst 0, 1) := by decide +kernel
theorem dX4_checkAll_3 : decode cX4_checkAll 3 = .ok (.istore_n 2, 1) := by decide +kernel
theorem dX4_checkAll_4 : decode cX4_checkAll 4 = .ok (.iconst 0, 1) := by decide +kernel
theorem dX4_checkAll_5 : decode cX4_checkAll 5 = .ok (.istore_n 3, 1) := by decide +kernel
theorem dX4_checkAll_6 : decode cX4_checkAll 6 = .ok (.iload_n 3, 1) := by decide +kernel
theorem dX4_checkAll_7 : decode cX4_checkAll 7 = .ok (.sipush 3000, 3) := by decide +kernel
theorem dX4_checkAll_10 : decode cX4_checkAll 10 = .ok (.if_icmp .ge 49, 3) := by decide +kernel
theorem dX4_checkAll_13 : decode cX4_checkAll 13 = .ok (.iload_n 2, 1) := by decide +kernel
theorem dX4_checkAll_14 : decode cX4_checkAll 14 = .ok (.aload_n 0, 1) := by decide +kernel
theorem dX4_checkAll_15 : decode cX4_checkAll 15 = .ok (.getfield 14, 3) := by decide +kernel
theorem dX4_checkAll_18 : decode cX4_checkAll 18 = .ok (.invokevirtual 34, 3) := by decide +kernel
theorem dX4_checkAll_21 : decode cX4_checkAll 21 = .ok (.if_icmp .ge 38, 3) := by decide +kernel
theorem dX4_checkAll_24 : decode cX4_checkAll 24 = .ok (.aload_n 0, 1) := by decide +kernel
theorem dX4_checkAll_25 : decode cX4_checkAll 25 = .ok (.iload_n 2, 1) := by decide +kernel
theorem dX4_checkAll_26 : decode cX4_checkAll 26 = .ok (.invokevirtual 37, 3) := by decide +kernel
theorem dX4_checkAll_29 : decode cX4_checkAll 29 = .ok (.istore 4, 2) := by decide +kernel
theorem dX4_checkAll_31 : decode cX4_checkAll 31 = .ok (.aload_n 0, 1) := by decide +kernel
theorem dX4_checkAll_32 : decode cX4_checkAll 32 = .ok (.iload_n 2, 1) := by decide +kernel
theorem dX4_checkAll_33 : decode cX4_checkAll 33 = .ok (.iload 4, 2) := by decide +kernel
theorem dX4_checkAll_35 : decode cX4_checkAll 35 = .ok (.invokevirtual 41, 3) := by decide +kernel
theorem dX4_checkAll_38 : decode cX4_checkAll 38 = .ok (.ifCond .ne 7, 3) := by decide +kernel
theorem dX4_checkAll_41 : decode cX4_checkAll 41 = .ok (.iconst (-1), 1) := by decide +kernel
theorem dX4_checkAll_42 : decode cX4_checkAll 42 = .ok (.iload_n 1, 1) := by decide +kernel
theorem dX4_checkAll_43 : decode cX4_checkAll 43 = .ok (.isub, 1) := by decide +kernel
theorem dX4_checkAll_44 : decode cX4_checkAll 44 = .ok (.ireturn, 1) := by decide +kernel
theorem dX4_checkAll_45 : decode cX4_checkAll 45 = .ok (.iinc 1 1, 3) := by decide +kernel
theorem dX4_checkAll_48 : decode cX4_checkAll 48 = .ok (.iload 4, 2) := by decide +kernel
theorem dX4_checkAll_50 : decode cX4_checkAll 50 = .ok (.iconst 1, 1) := by decide +kernel
theorem dX4_checkAll_51 : decode cX4_checkAll 51 = .ok (.iadd, 1) := by decide +kernel
theorem dX4_checkAll_52 : decode cX4_checkAll 52 = .ok (.istore_n 2, 1) := by decide +kernel
theorem dX4_checkAll_53 : decode cX4_checkAll 53 = .ok (.iinc 3 1, 3) := by decide +kernel
theorem dX4_checkAll_56 : decode cX4_checkAll 56 = .ok (.goto (-50), 3) := by decide +kernel
theorem dX4_checkAll_59 : decode cX4_checkAll 59 = .ok (.iload_n 1, 1) := by decide +kernel
theorem dX4_checkAll_60 : decode cX4_checkAll 60 = .ok (.ireturn, 1) := by decide +kernel
theorem dX4_takeAll_0 : decode cX4_takeAll 0 = .ok (.iconst 0, 1) := by decide +kernel
theorem dX4_takeAll_1 : decode cX4_takeAll 1 = .ok (.istore_n 2, 1) := by decide +kernel
theorem dX4_takeAll_2 : decode cX4_takeAll 2 = .ok (.iconst 0, 1) := by decide +kernel
theorem dX4_takeAll_3 : decode cX4_takeAll 3 = .ok (.istore_n 3, 1) := by decide +kernel
theorem dX4_takeAll_4 : decode cX4_takeAll 4 = .ok (.iload_n 3, 1) := by decide +kernel
theorem dX4_takeAll_5 : decode cX4_takeAll 5 = .ok (.iload_n 1, 1) := by decide +kernel
theorem dX4_takeAll_6 : decode cX4_takeAll 6 = .ok (.if_icmp .ge 28, 3) := by decide +kernel
theorem dX4_takeAll_9 : decode cX4_takeAll 9 = .ok (.aload_n 0, 1) := by decide +kernel
theorem dX4_takeAll_10 : decode cX4_takeAll 10 = .ok (.iload_n 2, 1) := by decide +kernel
theorem dX4_takeAll_11 : decode cX4_takeAll 11 = .ok (.invokevirtual 37, 3) := by decide +kernel
theorem dX4_takeAll_14 : decode cX4_takeAll 14 = .ok (.istore 4, 2) := by decide +kernel
theorem dX4_takeAll_16 : decode cX4_takeAll 16 = .ok (.aload_n 0, 1) := by decide +kernel
theorem dX4_takeAll_17 : decode cX4_takeAll 17 = .ok (.iload_n 2, 1) := by decide +kernel
theorem dX4_takeAll_18 : decode cX4_takeAll 18 = .ok (.iload 4, 2) := by decide +kernel
theorem dX4_takeAll_20 : decode cX4_takeAll 20 = .ok (.invokevirtual 45, 3) := by decide +kernel
theorem dX4_takeAll_23 : decode cX4_takeAll 23 = .ok (.iload 4, 2) := by decide +kernel
theorem dX4_takeAll_25 : decode cX4_takeAll 25 = .ok (.iconst 1, 1) := by decide +kernel
theorem dX4_takeAll_26 : decode cX4_takeAll 26 = .ok (.iadd, 1) := by decide +kernel
theorem dX4_takeAll_27 : decode cX4_takeAll 27 = .ok (.istore_n 2, 1) := by decide +kernel
theorem dX4_takeAll_28 : decode cX4_takeAll 28 = .ok (.iinc 3 1, 3) := by decide +kernel
theorem dX4_takeAll_31 : decode cX4_takeAll 31 = .ok (.goto (-27), 3) := by decide +kernel
theorem dX4_takeAll_34 : decode cX4_takeAll 34 = .ok (.return_, 1) := by decide +kernel
theorem dX4_endOf_0 : decode cX4_endOf 0 = .ok (.aload_n 0, 1) := by decide +kernel
theorem dX4_endOf_1 : decode cX4_endOf 1 = .ok (.bipush 10, 2) := by decide +kernel
theorem dX4_endOf_3 : decode cX4_endOf 3 = .ok (.iload_n 1, 1) := by decide +kernel
theorem dX4_endOf_4 : decode cX4_endOf 4 = .ok (.aload_n 0, 1) := by decide +kernel
theorem dX4_endOf_5 : decode cX4_endOf 5 = .ok (.getfield 14, 3) := by decide +kernel
theorem dX4_endOf_8 : decode cX4_endOf 8 = .ok (.invokevirtual 34, 3) := by decide +kernel
theorem dX4_endOf_11 : decode cX4_endOf 11 = .ok (.invokevirtual 49, 3) := by decide +kernel
theorem dX4_endOf_14 : decode cX4_endOf 14 = .ok (.ireturn, 1) := by decide +kernel
theorem dX4_next_0 : decode cX4_next 0 = .ok (.iload_n 2, 1) := by decide +kernel
theorem dX4_next_1 : decode cX4_next 1 = .ok (.istore 4, 2) := by decide +kernel
theorem dX4_next_3 : decode cX4_next 3 = .ok (.iload 4, 2) := by decide +kernel
theorem dX4_next_5 : decode cX4_next 5 = .ok (.iload_n 3, 1) := by decide +kernel
theorem dX4_next_6 : decode cX4_next 6 = .ok (.if_icmp .ge 25, 3) := by decide +kernel
theorem dX4_next_9 : decode cX4_next 9 = .ok (.aload_n 0, 1) := by decide +kernel
theorem dX4_next_10 : decode cX4_next 10 = .ok (.getfield 14, 3) := by decide +kernel
theorem dX4_next_13 : decode cX4_next 13 = .ok (.iload 4, 2) := by decide +kernel
theorem dX4_next_15 : decode cX4_next 15 = .ok (.invokevirtual 53, 3) := by decide +kernel
theorem dX4_next_18 : decode cX4_next 18 = .ok (.iload_n 1, 1) := by decide +kernel
theorem dX4_next_19 : decode cX4_next 19 = .ok (.if_icmp .ne 6, 3) := by decide +kernel
theorem dX4_next_22 : decode cX4_next 22 = .ok (.iload 4, 2) := by decide +kernel
theorem dX4_next_24 : decode cX4_next 24 = .ok (.ireturn, 1) := by decide +kernel
theorem dX4_next_25 : decode cX4_next 25 = .ok (.iinc 4 1, 3) := by decide +kernel
theorem dX4_next_28 : decode cX4_next 28 = .ok (.goto (-25), 3) := by decide +kernel
theorem dX4_next_31 : decode cX4_next 31 = .ok (.iload_n 3, 1) := by decide +kernel
theorem dX4_next_32 : decode cX4_next 32 = .ok (.ireturn, 1) := by decide +kernel
theorem dX4_isGood_0 : decode cX4_isGood 0 = .ok (.aload_n 0, 1) := by decide +kernel
theorem dX4_isGood_1 : decode cX4_isGood 1 = .ok (.bipush 61, 2) := by decide +kernel
theorem dX4_isGood_3 : decode cX4_isGood 3 = .ok (.iload_n 1, 1) := by decide +kernel
theorem dX4_isGood_4 : decode cX4_isGood 4 = .ok (.iload_n 2, 1) := by decide +kernel
theorem dX4_isGood_5 : decode cX4_isGood 5 = .ok (.invokevirtual 49, 3) := by decide +kernel
theorem dX4_isGood_8 : decode cX4_isGood 8 = .ok (.istore_n 3, 1) := by decide +kernel
theorem dX4_isGood_9 : decode cX4_isGood 9 = .ok (.aload_n 0, 1) := by decide +kernel
theorem dX4_isGood_10 : decode cX4_isGood 10 = .ok (.iload_n 1, 1) := by decide +kernel
theorem dX4_isGood_11 : decode cX4_isGood 11 = .ok (.iload_n 3, 1) := by decide +kernel
theorem dX4_isGood_12 : decode cX4_isGood 12 = .ok (.invokevirtual 56, 3) := by decide +kernel
theorem dX4_isGood_15 : decode cX4_isGood 15 = .ok (.istore 4, 2) := by decide +kernel
theorem dX4_isGood_17 : decode cX4_isGood 17 = .ok (.iload_n 2, 1) := by decide +kernel
theorem dX4_isGood_18 : decode cX4_isGood 18 = .ok (.aload_n 0, 1) := by decide +kernel
theorem dX4_isGood_19 : decode cX4_isGood 19 = .ok (.getfield 14, 3) := by decide +kernel
theorem dX4_isGood_22 : decode cX4_isGood 22 = .ok (.invokevirtual 34, 3) := by decide +kernel
theorem dX4_isGood_25 : decode cX4_isGood 25 = .ok (.if_icmp .eq 14, 3) := by decide +kernel
theorem dX4_isGood_28 : decode cX4_isGood 28 = .ok (.iload_n 3, 1) := by decide +kernel
theorem dX4_isGood_29 : decode cX4_isGood 29 = .ok (.iload_n 2, 1) := by decide +kernel
theorem dX4_isGood_30 : decode cX4_isGood 30 = .ok (.if_icmp .eq 9, 3) := by decide +kernel
theorem dX4_isGood_33 : decode cX4_isGood 33 = .ok (.iload 4, 2) := by decide +kernel
theorem dX4_isGood_35 : decode cX4_isGood 35 = .ok (.iconst (-1), 1) := by decide +kernel
theorem dX4_isGood_36 : decode cX4_isGood 36 = .ok (.if_icmp .ne 5, 3) := by decide +kernel
theorem dX4_isGood_39 : decode cX4_isGood 39 = .ok (.iconst 0, 1) := by decide +kernel
theorem dX4_isGood_40 : decode cX4_isGood 40 = .ok (.ireturn, 1) := by decide +kernel
theorem dX4_isGood_41 : decode cX4_isGood 41 = .ok (.aload_n 0, 1) := by decide +kernel
theorem dX4_isGood_42 : decode cX4_isGood 42 = .ok (.getfield 20, 3) := by decide +kernel
theorem dX4_isGood_45 : decode cX4_isGood 45 = .ok (.iload 4, 2) := by decide +kernel
theorem dX4_isGood_47 : decode cX4_isGood 47 = .ok (.invokevirtual 60, 3) := by decide +kernel
theorem dX4_isGood_50 : decode cX4_isGood 50 = .ok (.astore 5, 2) := by decide +kernel
theorem dX4_isGood_52 : decode cX4_isGood 52 = .ok (.aload 5, 2) := by decide +kernel
theorem dX4_isGood_54 : decode cX4_isGood 54 = .ok (.getfield 65, 3) := by decide +kernel
theorem dX4_isGood_57 : decode cX4_isGood 57 = .ok (.ifCond .ne 20, 3) := by decide +kernel
theorem dX4_isGood_60 : decode cX4_isGood 60 = .ok (.aload_n 0, 1) := by decide +kernel
theorem dX4_isGood_61 : decode cX4_isGood 61 = .ok (.aload 5, 2) := by decide +kernel
theorem dX4_isGood_63 : decode cX4_isGood 63 = .ok (.iload_n 3, 1) := by decide +kernel
theorem dX4_isGood_64 : decode cX4_isGood 64 = .ok (.iconst 1, 1) := by decide +kernel
theorem dX4_isGood_65 : decode cX4_isGood 65 = .ok (.iadd, 1) := by decide +kernel
theorem dX4_isGood_66 : decode cX4_isGood 66 = .ok (.iload_n 2, 1) := by decide +kernel
theorem dX4_isGood_67 : decode cX4_isGood 67 = .ok (.invokevirtual 71, 3) := by decide +kernel
theorem dX4_isGood_70 : decode cX4_isGood 70 = .ok (.ifCond .eq 7, 3) := by decide +kernel
theorem dX4_isGood_73 : decode cX4_isGood 73 = .ok (.iconst 1, 1) := by decide +kernel
theorem dX4_isGood_74 : decode cX4_isGood 74 = .ok (.goto 4, 3) := by decide +kernel
theorem dX4_isGood_77 : decode cX4_isGood 77 = .ok (.iconst 0, 1) := by decide +kernel
theorem dX4_isGood_78 : decode cX4_isGood 78 = .ok (.ireturn, 1) := by decide +kernel
theorem dX4_take_0 : decode cX4_take 0 = .ok (.aload_n 0, 1) := by decide +kernel
theorem dX4_take_1 : decode cX4_take 1 = .ok (.bipush 61, 2) := by decide +kernel
theorem dX4_take_3 : decode cX4_take 3 = .ok (.iload_n 1, 1) := by decide +kernel
theorem dX4_take_4 : decode cX4_take 4 = .ok (.iload_n 2, 1) := by decide +kernel
theorem dX4_take_5 : decode cX4_take 5 = .ok (.invokevirtual 49, 3) := by decide +kernel
theorem dX4_take_8 : decode cX4_take 8 = .ok (.istore_n 3, 1) := by decide +kernel
theorem dX4_take_9 : decode cX4_take 9 = .ok (.aload_n 0, 1) := by decide +kernel
theorem dX4_take_10 : decode cX4_take 10 = .ok (.iload_n 1, 1) := by decide +kernel
theorem dX4_take_11 : decode cX4_take 11 = .ok (.iload_n 3, 1) := by decide +kernel
theorem dX4_take_12 : decode cX4_take 12 = .ok (.invokevirtual 56, 3) := by decide +kernel
theorem dX4_take_15 : decode cX4_take 15 = .ok (.istore 4, 2) := by decide +kernel
theorem dX4_take_17 : decode cX4_take 17 = .ok (.iload 4, 2) := by decide +kernel
theorem dX4_take_19 : decode cX4_take 19 = .ok (.iconst (-1), 1) := by decide +kernel
theorem dX4_take_20 : decode cX4_take 20 = .ok (.if_icmp .ne 4, 3) := by decide +kernel
theorem dX4_take_23 : decode cX4_take 23 = .ok (.return_, 1) := by decide +kernel
theorem dX4_take_24 : decode cX4_take 24 = .ok (.aload_n 0, 1) := by decide +kernel
theorem dX4_take_25 : decode cX4_take 25 = .ok (.getfield 20, 3) := by decide +kernel
theorem dX4_take_28 : decode cX4_take 28 = .ok (.iload 4, 2) := by decide +kernel
theorem dX4_take_30 : decode cX4_take 30 = .ok (.invokevirtual 60, 3) := by decide +kernel
theorem dX4_take_33 : decode cX4_take 33 = .ok (.astore 5, 2) := by decide +kernel
theorem dX4_take_35 : decode cX4_take 35 = .ok (.aload 5, 2) := by decide +kernel
theorem dX4_take_37 : decode cX4_take 37 = .ok (.invokevirtual 75, 3) := by decide +kernel
theorem dX4_take_40 : decode cX4_take 40 = .ok (.ifCond .eq 30, 3) := by decide +kernel
theorem dX4_take_43 : decode cX4_take 43 = .ok (.aload 5, 2) := by decide +kernel
theorem dX4_take_45 : decode cX4_take 45 = .ok (.getfield 79, 3) := by decide +kernel
theorem dX4_take_48 : decode cX4_take 48 = .ok (.invokevirtual 31, 3) := by decide +kernel
theorem dX4_take_51 : decode cX4_take 51 = .ok (.aload 5, 2) := by decide +kernel
theorem dX4_take_53 : decode cX4_take 53 = .ok (.getfield 79, 3) := by decide +kernel
theorem dX4_take_56 : decode cX4_take 56 = .ok (.aload_n 0, 1) := by decide +kernel
theorem dX4_take_57 : decode cX4_take 57 = .ok (.getfield 14, 3) := by decide +kernel
theorem dX4_take_60 : decode cX4_take 60 = .ok (.iload_n 3, 1) := by decide +kernel
theorem dX4_take_61 : decode cX4_take 61 = .ok (.iconst 1, 1) := by decide +kernel
theorem dX4_take_62 : decode cX4_take 62 = .ok (.iadd, 1) := by decide +kernel
theorem dX4_take_63 : decode cX4_take 63 = .ok (.iload_n 2, 1) := by decide +kernel
theorem dX4_take_64 : decode cX4_take 64 = .ok (.invokevirtual 82, 3) := by decide +kernel
theorem dX4_take_67 : decode cX4_take 67 = .ok (.goto 54, 3) := by decide +kernel
theorem dX4_take_70 : decode cX4_take 70 = .ok (.aload 5, 2) := by decide +kernel
theorem dX4_take_72 : decode cX4_take 72 = .ok (.getfield 86, 3) := by decide +kernel
theorem dX4_take_75 : decode cX4_take 75 = .ok (.iconst 2, 1) := by decide +kernel
theorem dX4_take_76 : decode cX4_take 76 = .ok (.if_icmp .ne 24, 3) := by decide +kernel
theorem dX4_take_79 : decode cX4_take 79 = .ok (.aload 5, 2) := by decide +kernel
theorem dX4_take_81 : decode cX4_take 81 = .ok (.aload_n 0, 1) := by decide +kernel
theorem dX4_take_82 : decode cX4_take 82 = .ok (.getfield 14, 3) := by decide +kernel
theorem dX4_take_85 : decode cX4_take 85 = .ok (.iload_n 3, 1) := by decide +kernel
theorem dX4_take_86 : decode cX4_take 86 = .ok (.iconst 1, 1) := by decide +kernel
theorem dX4_take_87 : decode cX4_take 87 = .ok (.iadd, 1) := by decide +kernel
theorem dX4_take_88 : decode cX4_take 88 = .ok (.invokevirtual 53, 3) := by decide +kernel
theorem dX4_take_91 : decode cX4_take 91 = .ok (.bipush 48, 2) := by decide +kernel
theorem dX4_take_93 : decode cX4_take 93 = .ok (.isub, 1) := by decide +kernel
theorem dX4_take_94 : decode cX4_take 94 = .ok (.putfield 90, 3) := by decide +kernel
theorem dX4_take_97 : decode cX4_take 97 = .ok (.goto 24, 3) := by decide +kernel
theorem dX4_take_100 : decode cX4_take 100 = .ok (.aload 5, 2) := by decide +kernel
theorem dX4_take_102 : decode cX4_take 102 = .ok (.aload 5, 2) := by decide +kernel
theorem dX4_take_104 : decode cX4_take 104 = .ok (.getfield 93, 3) := by decide +kernel
theorem dX4_take_107 : decode cX4_take 107 = .ok (.aload_n 0, 1) := by decide +kernel
theorem dX4_take_108 : decode cX4_take 108 = .ok (.iload_n 3, 1) := by decide +kernel
theorem dX4_take_109 : decode cX4_take 109 = .ok (.iconst 1, 1) := by decide +kernel
theorem dX4_take_110 : decode cX4_take 110 = .ok (.iadd, 1) := by decide +kernel
theorem dX4_take_111 : decode cX4_take 111 = .ok (.iload_n 2, 1) := by decide +kernel
theorem dX4_take_112 : decode cX4_take 112 = .ok (.invokevirtual 96, 3) := by decide +kernel
theorem dX4_take_115 : decode cX4_take 115 = .ok (.invokevirtual 99, 3) := by decide +kernel
theorem dX4_take_118 : decode cX4_take 118 = .ok (.putfield 90, 3) := by decide +kernel
theorem dX4_take_121 : decode cX4_take 121 = .ok (.return_, 1) := by decide +kernel
theorem dX4_masterNamed_0 : decode cX4_masterNamed 0 = .ok (.iconst (-1), 1) := by decide +kernel
theorem dX4_masterNamed_1 : decode cX4_masterNamed 1 = .ok (.istore_n 3, 1) := by decide +kernel
theorem dX4_masterNamed_2 : decode cX4_masterNamed 2 = .ok (.iload_n 1, 1) := by decide +kernel
theorem dX4_masterNamed_3 : decode cX4_masterNamed 3 = .ok (.istore 4, 2) := by decide +kernel
theorem dX4_masterNamed_5 : decode cX4_masterNamed 5 = .ok (.iconst 0, 1) := by decide +kernel
theorem dX4_masterNamed_6 : decode cX4_masterNamed 6 = .ok (.istore 5, 2) := by decide +kernel
theorem dX4_masterNamed_8 : decode cX4_masterNamed 8 = .ok (.iload 5, 2) := by decide +kernel
theorem dX4_masterNamed_10 : decode cX4_masterNamed 10 = .ok (.bipush 40, 2) := by decide +kernel
theorem dX4_masterNamed_12 : decode cX4_masterNamed 12 = .ok (.if_icmp .ge 70, 3) := by decide +kernel
theorem dX4_masterNamed_15 : decode cX4_masterNamed 15 = .ok (.iload 4, 2) := by decide +kernel
theorem dX4_masterNamed_17 : decode cX4_masterNamed 17 = .ok (.iload_n 2, 1) := by decide +kernel
theorem dX4_masterNamed_18 : decode cX4_masterNamed 18 = .ok (.if_icmp .gt 64, 3) := by decide +kernel
theorem dX4_masterNamed_21 : decode cX4_masterNamed 21 = .ok (.aload_n 0, 1) := by decide +kernel
theorem dX4_masterNamed_22 : decode cX4_masterNamed 22 = .ok (.bipush 46, 2) := by decide +kernel
theorem dX4_masterNamed_24 : decode cX4_masterNamed 24 = .ok (.iload 4, 2) := by decide +kernel
theorem dX4_masterNamed_26 : decode cX4_masterNamed 26 = .ok (.iload_n 2, 1) := by decide +kernel
theorem dX4_masterNamed_27 : decode cX4_masterNamed 27 = .ok (.invokevirtual 49, 3) := by decide +kernel
theorem dX4_masterNamed_30 : decode cX4_masterNamed 30 = .ok (.istore 6, 2) := by decide +kernel
theorem dX4_masterNamed_32 : decode cX4_masterNamed 32 = .ok (.aload_n 0, 1) := by decide +kernel
theorem dX4_masterNamed_33 : decode cX4_masterNamed 33 = .ok (.iload 4, 2) := by decide +kernel
theorem dX4_masterNamed_35 : decode cX4_masterNamed 35 = .ok (.iload 6, 2) := by decide +kernel
theorem dX4_masterNamed_37 : decode cX4_masterNamed 37 = .ok (.invokevirtual 96, 3) := by decide +kernel
theorem dX4_masterNamed_40 : decode cX4_masterNamed 40 = .ok (.istore 7, 2) := by decide +kernel
theorem dX4_masterNamed_42 : decode cX4_masterNamed 42 = .ok (.iload 7, 2) := by decide +kernel
theorem dX4_masterNamed_44 : decode cX4_masterNamed 44 = .ok (.iconst (-1), 1) := by decide +kernel
theorem dX4_masterNamed_45 : decode cX4_masterNamed 45 = .ok (.if_icmp .ne 7, 3) := by decide +kernel
theorem dX4_masterNamed_48 : decode cX4_masterNamed 48 = .ok (.iconst (-1), 1) := by decide +kernel
theorem dX4_masterNamed_49 : decode cX4_masterNamed 49 = .ok (.goto 13, 3) := by decide +kernel
theorem dX4_masterNamed_52 : decode cX4_masterNamed 52 = .ok (.aload_n 0, 1) := by decide +kernel
theorem dX4_masterNamed_53 : decode cX4_masterNamed 53 = .ok (.getfield 20, 3) := by decide +kernel
theorem dX4_masterNamed_56 : decode cX4_masterNamed 56 = .ok (.iload_n 3, 1) := by decide +kernel
theorem dX4_masterNamed_57 : decode cX4_masterNamed 57 = .ok (.iload 7, 2) := by decide +kernel
theorem dX4_masterNamed_59 : decode cX4_masterNamed 59 = .ok (.invokevirtual 102, 3) := by decide +kernel
theorem dX4_masterNamed_62 : decode cX4_masterNamed 62 = .ok (.istore_n 3, 1) := by decide +kernel
theorem dX4_masterNamed_63 : decode cX4_masterNamed 63 = .ok (.iload_n 3, 1) := by decide +kernel
theorem dX4_masterNamed_64 : decode cX4_masterNamed 64 = .ok (.iconst (-1), 1) := by decide +kernel
theorem dX4_masterNamed_65 : decode cX4_masterNamed 65 = .ok (.if_icmp .ne 5, 3) := by decide +kernel
theorem dX4_masterNamed_68 : decode cX4_masterNamed 68 = .ok (.iconst (-1), 1) := by decide +kernel
theorem dX4_masterNamed_69 : decode cX4_masterNamed 69 = .ok (.ireturn, 1) := by decide +kernel
theorem dX4_masterNamed_70 : decode cX4_masterNamed 70 = .ok (.iload 6, 2) := by decide +kernel
theorem dX4_masterNamed_72 : decode cX4_masterNamed 72 = .ok (.iconst 1, 1) := by decide +kernel
theorem dX4_masterNamed_73 : decode cX4_masterNamed 73 = .ok (.iadd, 1) := by decide +kernel
theorem dX4_masterNamed_74 : decode cX4_masterNamed 74 = .ok (.istore 4, 2) := by decide +kernel
theorem dX4_masterNamed_76 : decode cX4_masterNamed 76 = .ok (.iinc 5 1, 3) := by decide +kernel
theorem dX4_masterNamed_79 : decode cX4_masterNamed 79 = .ok (.goto (-71), 3) := by decide +kernel
theorem dX4_masterNamed_82 : decode cX4_masterNamed 82 = .ok (.iload 4, 2) := by decide +kernel
theorem dX4_masterNamed_84 : decode cX4_masterNamed 84 = .ok (.iload_n 2, 1) := by decide +kernel
theorem dX4_masterNamed_85 : decode cX4_masterNamed 85 = .ok (.if_icmp .le 23, 3) := by decide +kernel
theorem dX4_masterNamed_88 : decode cX4_masterNamed 88 = .ok (.iload_n 3, 1) := by decide +kernel
theorem dX4_masterNamed_89 : decode cX4_masterNamed 89 = .ok (.iconst (-1), 1) := by decide +kernel
theorem dX4_masterNamed_90 : decode cX4_masterNamed 90 = .ok (.if_icmp .eq 18, 3) := by decide +kernel
theorem dX4_masterNamed_93 : decode cX4_masterNamed 93 = .ok (.aload_n 0, 1) := by decide +kernel
theorem dX4_masterNamed_94 : decode cX4_masterNamed 94 = .ok (.getfield 20, 3) := by decide +kernel
theorem dX4_masterNamed_97 : decode cX4_masterNamed 97 = .ok (.iload_n 3, 1) := by decide +kernel
theorem dX4_masterNamed_98 : decode cX4_masterNamed 98 = .ok (.invokevirtual 105, 3) := by decide +kernel
theorem dX4_masterNamed_101 : decode cX4_masterNamed 101 = .ok (.ifCond .eq 7, 3) := by decide +kernel
theorem dX4_masterNamed_104 : decode cX4_masterNamed 104 = .ok (.iload_n 3, 1) := by decide +kernel
theorem dX4_masterNamed_105 : decode cX4_masterNamed 105 = .ok (.goto 4, 3) := by decide +kernel
theorem dX4_masterNamed_108 : decode cX4_masterNamed 108 = .ok (.iconst (-1), 1) := by decide +kernel
theorem dX4_masterNamed_109 : decode cX4_masterNamed 109 = .ok (.ireturn, 1) := by decide +kernel
theorem dX4_plainNumber_0 : decode cX4_plainNumber 0 = .ok (.iload_n 2, 1) := by decide +kernel
theorem dX4_plainNumber_1 : decode cX4_plainNumber 1 = .ok (.iload_n 1, 1) := by decide +kernel
theorem dX4_plainNumber_2 : decode cX4_plainNumber 2 = .ok (.isub, 1) := by decide +kernel
theorem dX4_plainNumber_3 : decode cX4_plainNumber 3 = .ok (.istore_n 3, 1) := by decide +kernel
theorem dX4_plainNumber_4 : decode cX4_plainNumber 4 = .ok (.iload_n 3, 1) := by decide +kernel
theorem dX4_plainNumber_5 : decode cX4_plainNumber 5 = .ok (.iconst 1, 1) := by decide +kernel
theorem dX4_plainNumber_6 : decode cX4_plainNumber 6 = .ok (.if_icmp .lt 26, 3) := by decide +kernel
theorem dX4_plainNumber_9 : decode cX4_plainNumber 9 = .ok (.iload_n 3, 1) := by decide +kernel
theorem dX4_plainNumber_10 : decode cX4_plainNumber 10 = .ok (.iconst 5, 1) := by decide +kernel
theorem dX4_plainNumber_11 : decode cX4_plainNumber 11 = .ok (.if_icmp .gt 21, 3) := by decide +kernel
theorem dX4_plainNumber_14 : decode cX4_plainNumber 14 = .ok (.iload_n 3, 1) := by decide +kernel
theorem dX4_plainNumber_15 : decode cX4_plainNumber 15 = .ok (.iconst 1, 1) := by decide +kernel
theorem dX4_plainNumber_16 : decode cX4_plainNumber 16 = .ok (.if_icmp .le 18, 3) := by decide +kernel
theorem dX4_plainNumber_19 : decode cX4_plainNumber 19 = .ok (.aload_n 0, 1) := by decide +kernel
theorem dX4_plainNumber_20 : decode cX4_plainNumber 20 = .ok (.getfield 14, 3) := by decide +kernel
theorem dX4_plainNumber_23 : decode cX4_plainNumber 23 = .ok (.iload_n 1, 1) := by decide +kernel
theorem dX4_plainNumber_24 : decode cX4_plainNumber 24 = .ok (.invokevirtual 53, 3) := by decide +kernel
theorem dX4_plainNumber_27 : decode cX4_plainNumber 27 = .ok (.bipush 48, 2) := by decide +kernel
theorem dX4_plainNumber_29 : decode cX4_plainNumber 29 = .ok (.if_icmp .ne 5, 3) := by decide +kernel
theorem dX4_plainNumber_32 : decode cX4_plainNumber 32 = .ok (.iconst (-1), 1) := by decide +kernel
theorem dX4_plainNumber_33 : decode cX4_plainNumber 33 = .ok (.ireturn, 1) := by decide +kernel
theorem dX4_plainNumber_34 : decode cX4_plainNumber 34 = .ok (.iconst 0, 1) := by decide +kernel
theorem dX4_plainNumber_35 : decode cX4_plainNumber 35 = .ok (.istore 4, 2) := by decide +kernel
theorem dX4_plainNumber_37 : decode cX4_plainNumber 37 = .ok (.iload_n 1, 1) := by decide +kernel
theorem dX4_plainNumber_38 : decode cX4_plainNumber 38 = .ok (.istore 5, 2) := by decide +kernel
theorem dX4_plainNumber_40 : decode cX4_plainNumber 40 = .ok (.iload 5, 2) := by decide +kernel
theorem dX4_plainNumber_42 : decode cX4_plainNumber 42 = .ok (.iload_n 2, 1) := by decide +kernel
theorem dX4_plainNumber_43 : decode cX4_plainNumber 43 = .ok (.if_icmp .ge 46, 3) := by decide +kernel
theorem dX4_plainNumber_46 : decode cX4_plainNumber 46 = .ok (.aload_n 0, 1) := by decide +kernel
theorem dX4_plainNumber_47 : decode cX4_plainNumber 47 = .ok (.getfield 14, 3) := by decide +kernel
theorem dX4_plainNumber_50 : decode cX4_plainNumber 50 = .ok (.iload 5, 2) := by decide +kernel
theorem dX4_plainNumber_52 : decode cX4_plainNumber 52 = .ok (.invokevirtual 53, 3) := by decide +kernel
theorem dX4_plainNumber_55 : decode cX4_plainNumber 55 = .ok (.invokestatic 109, 3) := by decide +kernel
theorem dX4_plainNumber_58 : decode cX4_plainNumber 58 = .ok (.ifCond .ne 5, 3) := by decide +kernel
theorem dX4_plainNumber_61 : decode cX4_plainNumber 61 = .ok (.iconst (-1), 1) := by decide +kernel
theorem dX4_plainNumber_62 : decode cX4_plainNumber 62 = .ok (.ireturn, 1) := by decide +kernel
theorem dX4_plainNumber_63 : decode cX4_plainNumber 63 = .ok (.iload 4, 2) := by decide +kernel
theorem dX4_plainNumber_65 : decode cX4_plainNumber 65 = .ok (.bipush 10, 2) := by decide +kernel
theorem dX4_plainNumber_67 : decode cX4_plainNumber 67 = .ok (.imul, 1) := by decide +kernel
theorem dX4_plainNumber_68 : decode cX4_plainNumber 68 = .ok (.aload_n 0, 1) := by decide +kernel
theorem dX4_plainNumber_69 : decode cX4_plainNumber 69 = .ok (.getfield 14, 3) := by decide +kernel
theorem dX4_plainNumber_72 : decode cX4_plainNumber 72 = .ok (.iload 5, 2) := by decide +kernel
theorem dX4_plainNumber_74 : decode cX4_plainNumber 74 = .ok (.invokevirtual 53, 3) := by decide +kernel
theorem dX4_plainNumber_77 : decode cX4_plainNumber 77 = .ok (.iadd, 1) := by decide +kernel
theorem dX4_plainNumber_78 : decode cX4_plainNumber 78 = .ok (.bipush 48, 2) := by decide +kernel
theorem dX4_plainNumber_80 : decode cX4_plainNumber 80 = .ok (.isub, 1) := by decide +kernel
theorem dX4_plainNumber_81 : decode cX4_plainNumber 81 = .ok (.istore 4, 2) := by decide +kernel
theorem dX4_plainNumber_83 : decode cX4_plainNumber 83 = .ok (.iinc 5 1, 3) := by decide +kernel
theorem dX4_plainNumber_86 : decode cX4_plainNumber 86 = .ok (.goto (-46), 3) := by decide +kernel
theorem dX4_plainNumber_89 : decode cX4_plainNumber 89 = .ok (.iload 4, 2) := by decide +kernel
theorem dX4_plainNumber_91 : decode cX4_plainNumber 91 = .ok (.ireturn, 1) := by decide +kernel
theorem dX4_couldTake_0 : decode cX4_couldTake 0 = .ok (.aload_n 1, 1) := by decide +kernel
theorem dX4_couldTake_1 : decode cX4_couldTake 1 = .ok (.invokevirtual 75, 3) := by decide +kernel
theorem dX4_couldTake_4 : decode cX4_couldTake 4 = .ok (.ifCond .eq 11, 3) := by decide +kernel
theorem dX4_couldTake_7 : decode cX4_couldTake 7 = .ok (.aload_n 0, 1) := by decide +kernel
theorem dX4_couldTake_8 : decode cX4_couldTake 8 = .ok (.aload_n 1, 1) := by decide +kernel
theorem dX4_couldTake_9 : decode cX4_couldTake 9 = .ok (.iload_n 2, 1) := by decide +kernel
theorem dX4_couldTake_10 : decode cX4_couldTake 10 = .ok (.iload_n 3, 1) := by decide +kernel
theorem dX4_couldTake_11 : decode cX4_couldTake 11 = .ok (.invokevirtual 114, 3) := by decide +kernel
theorem dX4_couldTake_14 : decode cX4_couldTake 14 = .ok (.ireturn, 1) := by decide +kernel
theorem dX4_couldTake_15 : decode cX4_couldTake 15 = .ok (.aload_n 1, 1) := by decide +kernel
theorem dX4_couldTake_16 : decode cX4_couldTake 16 = .ok (.getfield 86, 3) := by decide +kernel
theorem dX4_couldTake_19 : decode cX4_couldTake 19 = .ok (.iconst 2, 1) := by decide +kernel
theorem dX4_couldTake_20 : decode cX4_couldTake 20 = .ok (.if_icmp .ne 33, 3) := by decide +kernel
theorem dX4_couldTake_23 : decode cX4_couldTake 23 = .ok (.iload_n 3, 1) := by decide +kernel
theorem dX4_couldTake_24 : decode cX4_couldTake 24 = .ok (.iload_n 2, 1) := by decide +kernel
theorem dX4_couldTake_25 : decode cX4_couldTake 25 = .ok (.isub, 1) := by decide +kernel
theorem dX4_couldTake_26 : decode cX4_couldTake 26 = .ok (.iconst 1, 1) := by decide +kernel
theorem dX4_couldTake_27 : decode cX4_couldTake 27 = .ok (.if_icmp .ne 24, 3) := by decide +kernel
theorem dX4_couldTake_30 : decode cX4_couldTake 30 = .ok (.aload_n 0, 1) := by decide +kernel
theorem dX4_couldTake_31 : decode cX4_couldTake 31 = .ok (.getfield 14, 3) := by decide +kernel
theorem dX4_couldTake_34 : decode cX4_couldTake 34 = .ok (.iload_n 2, 1) := by decide +kernel
theorem dX4_couldTake_35 : decode cX4_couldTake 35 = .ok (.invokevirtual 53, 3) := by decide +kernel
theorem dX4_couldTake_38 : decode cX4_couldTake 38 = .ok (.bipush 48, 2) := by decide +kernel
theorem dX4_couldTake_40 : decode cX4_couldTake 40 = .ok (.isub, 1) := by decide +kernel
theorem dX4_couldTake_41 : decode cX4_couldTake 41 = .ok (.invokestatic 117, 3) := by decide +kernel
theorem dX4_couldTake_44 : decode cX4_couldTake 44 = .ok (.ifCond .eq 7, 3) := by decide +kernel
theorem dX4_couldTake_47 : decode cX4_couldTake 47 = .ok (.iconst 1, 1) := by decide +kernel
theorem dX4_couldTake_48 : decode cX4_couldTake 48 = .ok (.goto 4, 3) := by decide +kernel
theorem dX4_couldTake_51 : decode cX4_couldTake 51 = .ok (.iconst 0, 1) := by decide +kernel
theorem dX4_couldTake_52 : decode cX4_couldTake 52 = .ok (.ireturn, 1) := by decide +kernel
theorem dX4_couldTake_53 : decode cX4_couldTake 53 = .ok (.iload_n 2, 1) := by decide +kernel
theorem dX4_couldTake_54 : decode cX4_couldTake 54 = .ok (.iload_n 3, 1) := by decide +kernel
theorem dX4_couldTake_55 : decode cX4_couldTake 55 = .ok (.if_icmp .ne 8, 3) := by decide +kernel
theorem dX4_couldTake_58 : decode cX4_couldTake 58 = .ok (.aload_n 1, 1) := by decide +kernel
theorem dX4_couldTake_59 : decode cX4_couldTake 59 = .ok (.invokevirtual 120, 3) := by decide +kernel
theorem dX4_couldTake_62 : decode cX4_couldTake 62 = .ok (.ireturn, 1) := by decide +kernel
theorem dX4_couldTake_63 : decode cX4_couldTake 63 = .ok (.aload_n 0, 1) := by decide +kernel
theorem dX4_couldTake_64 : decode cX4_couldTake 64 = .ok (.iload_n 2, 1) := by decide +kernel
theorem dX4_couldTake_65 : decode cX4_couldTake 65 = .ok (.iload_n 3, 1) := by decide +kernel
theorem dX4_couldTake_66 : decode cX4_couldTake 66 = .ok (.invokevirtual 96, 3) := by decide +kernel
theorem dX4_couldTake_69 : decode cX4_couldTake 69 = .ok (.istore 4, 2) := by decide +kernel
theorem dX4_couldTake_71 : decode cX4_couldTake 71 = .ok (.iload 4, 2) := by decide +kernel
theorem dX4_couldTake_73 : decode cX4_couldTake 73 = .ok (.iconst (-1), 1) := by decide +kernel
theorem dX4_couldTake_74 : decode cX4_couldTake 74 = .ok (.if_icmp .eq 20, 3) := by decide +kernel
theorem dX4_couldTake_77 : decode cX4_couldTake 77 = .ok (.aload_n 1, 1) := by decide +kernel
theorem dX4_couldTake_78 : decode cX4_couldTake 78 = .ok (.getfield 93, 3) := by decide +kernel
theorem dX4_couldTake_81 : decode cX4_couldTake 81 = .ok (.iload 4, 2) := by decide +kernel
theorem dX4_couldTake_83 : decode cX4_couldTake 83 = .ok (.invokevirtual 99, 3) := by decide +kernel
theorem dX4_couldTake_86 : decode cX4_couldTake 86 = .ok (.iconst (-1), 1) := by decide +kernel
theorem dX4_couldTake_87 : decode cX4_couldTake 87 = .ok (.if_icmp .eq 7, 3) := by decide +kernel
theorem dX4_couldTake_90 : decode cX4_couldTake 90 = .ok (.iconst 1, 1) := by decide +kernel
theorem dX4_couldTake_91 : decode cX4_couldTake 91 = .ok (.goto 4, 3) := by decide +kernel
theorem dX4_couldTake_94 : decode cX4_couldTake 94 = .ok (.iconst 0, 1) := by decide +kernel
theorem dX4_couldTake_95 : decode cX4_couldTake 95 = .ok (.ireturn, 1) := by decide +kernel
theorem dX4_couldTakeSigns_0 : decode cX4_couldTakeSigns 0 = .ok (.iload_n 3, 1) := by decide +kernel
theorem dX4_couldTakeSigns_1 : decode cX4_couldTakeSigns 1 = .ok (.iload_n 2, 1) := by decide +kernel
theorem dX4_couldTakeSigns_2 : decode cX4_couldTakeSigns 2 = .ok (.isub, 1) := by decide +kernel
theorem dX4_couldTakeSigns_3 : decode cX4_couldTakeSigns 3 = .ok (.aload_n 1, 1) := by decide +kernel
theorem dX4_couldTakeSigns_4 : decode cX4_couldTakeSigns 4 = .ok (.invokevirtual 123, 3) := by decide +kernel
theorem dX4_couldTakeSigns_7 : decode cX4_couldTakeSigns 7 = .ok (.if_icmp .le 5, 3) := by decide +kernel
theorem dX4_couldTakeSigns_10 : decode cX4_couldTakeSigns 10 = .ok (.iconst 0, 1) := by decide +kernel
theorem dX4_couldTakeSigns_11 : decode cX4_couldTakeSigns 11 = .ok (.ireturn, 1) := by decide +kernel
theorem dX4_couldTakeSigns_12 : decode cX4_couldTakeSigns 12 = .ok (.iload_n 2, 1) := by decide +kernel
theorem dX4_couldTakeSigns_13 : decode cX4_couldTakeSigns 13 = .ok (.istore 4, 2) := by decide +kernel
theorem dX4_couldTakeSigns_15 : decode cX4_couldTakeSigns 15 = .ok (.iload 4, 2) := by decide +kernel
theorem dX4_couldTakeSigns_17 : decode cX4_couldTakeSigns 17 = .ok (.iload_n 3, 1) := by decide +kernel
theorem dX4_couldTakeSigns_18 : decode cX4_couldTakeSigns 18 = .ok (.if_icmp .ge 27, 3) := by decide +kernel
theorem dX4_couldTakeSigns_21 : decode cX4_couldTakeSigns 21 = .ok (.aload_n 1, 1) := by decide +kernel
theorem dX4_couldTakeSigns_22 : decode cX4_couldTakeSigns 22 = .ok (.aload_n 0, 1) := by decide +kernel
theorem dX4_couldTakeSigns_23 : decode cX4_couldTakeSigns 23 = .ok (.getfield 14, 3) := by decide +kernel
theorem dX4_couldTakeSigns_26 : decode cX4_couldTakeSigns 26 = .ok (.iload 4, 2) := by decide +kernel
theorem dX4_couldTakeSigns_28 : decode cX4_couldTakeSigns 28 = .ok (.invokevirtual 53, 3) := by decide +kernel
theorem dX4_couldTakeSigns_31 : decode cX4_couldTakeSigns 31 = .ok (.invokevirtual 126, 3) := by decide +kernel
theorem dX4_couldTakeSigns_34 : decode cX4_couldTakeSigns 34 = .ok (.ifCond .ne 5, 3) := by decide +kernel
theorem dX4_couldTakeSigns_37 : decode cX4_couldTakeSigns 37 = .ok (.iconst 0, 1) := by decide +kernel
theorem dX4_couldTakeSigns_38 : decode cX4_couldTakeSigns 38 = .ok (.ireturn, 1) := by decide +kernel
theorem dX4_couldTakeSigns_39 : decode cX4_couldTakeSigns 39 = .ok (.iinc 4 1, 3) := by decide +kernel
theorem dX4_couldTakeSigns_42 : decode cX4_couldTakeSigns 42 = .ok (.goto (-27), 3) := by decide +kernel
theorem dX4_couldTakeSigns_45 : decode cX4_couldTakeSigns 45 = .ok (.iconst 1, 1) := by decide +kernel
theorem dX4_couldTakeSigns_46 : decode cX4_couldTakeSigns 46 = .ok (.ireturn, 1) := by decide +kernel
theorem dX5_init_0 : decode cX5_init 0 = .ok (.aload_n 0, 1) := by decide +kernel
theorem dX5_init_1 : decode cX5_init 1 = .ok (.invokespecial 3, 3) := by decide +kernel
theorem dX5_init_4 : decode cX5_init 4 = .ok (.aload_n 0, 1) := by decide +kernel
theorem dX5_init_5 : decode cX5_init 5 = .ok (.iload_n 1, 1) := by decide +kernel
theorem dX5_init_6 : decode cX5_init 6 = .ok (.iconst 0, 1) := by decide +kernel
theorem dX5_init_7 : decode cX5_init 7 = .ok (.invokestatic 9, 3) := by decide +kernel
theorem dX5_init_10 : decode cX5_init 10 = .ok (.newarray .int, 2) := by decide +kernel
theorem dX5_init_12 : decode cX5_init 12 = .ok (.putfield 15, 3) := by decide +kernel
theorem dX5_init_15 : decode cX5_init 15 = .ok (.return_, 1) := by decide +kernel
theorem dX5_count_0 : decode cX5_count 0 = .ok (.aload_n 0, 1) := by decide +kernel
theorem dX5_count_1 : decode cX5_count 1 = .ok (.getfield 21, 3) := by decide +kernel
theorem dX5_count_4 : decode cX5_count 4 = .ok (.ireturn, 1) := by decide +kernel
theorem dX5_has_0 : decode cX5_has 0 = .ok (.iload_n 1, 1) := by decide +kernel
theorem dX5_has_1 : decode cX5_has 1 = .ok (.ifCond .lt 15, 3) := by decide +kernel
theorem dX5_has_4 : decode cX5_has 4 = .ok (.iload_n 1, 1) := by decide +kernel
theorem dX5_has_5 : decode cX5_has 5 = .ok (.aload_n 0, 1) := by decide +kernel
theorem dX5_has_6 : decode cX5_has 6 = .ok (.getfield 21, 3) := by decide +kernel
theorem dX5_has_9 : decode cX5_has 9 = .ok (.if_icmp .ge 7, 3) := by decide +kernel
theorem dX5_has_12 : decode cX5_has 12 = .ok (.iconst 1, 1) := by decide +kernel
theorem dX5_has_13 : decode cX5_has 13 = .ok (.goto 4, 3) := by decide +kernel
theorem dX5_has_16 : decode cX5_has 16 = .ok (.iconst 0, 1) := by decide +kernel
theorem dX5_has_17 : decode cX5_has 17 = .ok (.ireturn, 1) := by decide +kernel
theorem dX5_get_0 : decode cX5_get 0 = .ok (.iload_n 1, 1) := by decide +kernel
theorem dX5_get_1 : decode cX5_get 1 = .ok (.ifCond .lt 29, 3) := by decide +kernel
theorem dX5_get_4 : decode cX5_get 4 = .ok (.iload_n 1, 1) := by decide +kernel
theorem dX5_get_5 : decode cX5_get 5 = .ok (.aload_n 0, 1) := by decide +kernel
theorem dX5_get_6 : decode cX5_get 6 = .ok (.getfield 21, 3) := by decide +kernel
theorem dX5_get_9 : decode cX5_get 9 = .ok (.if_icmp .ge 21, 3) := by decide +kernel
theorem dX5_get_12 : decode cX5_get 12 = .ok (.iload_n 1, 1) := by decide +kernel
theorem dX5_get_13 : decode cX5_get 13 = .ok (.aload_n 0, 1) := by decide +kernel
theorem dX5_get_14 : decode cX5_get 14 = .ok (.getfield 15, 3) := by decide +kernel
theorem dX5_get_17 : decode cX5_get 17 = .ok (.arraylength, 1) := by decide +kernel
theorem dX5_get_18 : decode cX5_get 18 = .ok (.if_icmp .ge 12, 3) := by decide +kernel
theorem dX5_get_21 : decode cX5_get 21 = .ok (.aload_n 0, 1) := by decide +kernel
theorem dX5_get_22 : decode cX5_get 22 = .ok (.getfield 15, 3) := by decide +kernel
theorem dX5_get_25 : decode cX5_get 25 = .ok (.iload_n 1, 1) := by decide +kernel
theorem dX5_get_26 : decode cX5_get 26 = .ok (.iaload, 1) := by decide +kernel
theorem dX5_get_27 : decode cX5_get 27 = .ok (.goto 4, 3) := by decide +kernel
theorem dX5_get_30 : decode cX5_get 30 = .ok (.iconst (-1), 1) := by decide +kernel
theorem dX5_get_31 : decode cX5_get 31 = .ok (.ireturn, 1) := by decide +kernel
theorem dX5_find_0 : decode cX5_find 0 = .ok (.iconst 0, 1) := by decide +kernel
theorem dX5_find_1 : decode cX5_find 1 = .ok (.istore_n 2, 1) := by decide +kernel
theorem dX5_find_2 : decode cX5_find 2 = .ok (.iload_n 2, 1) := by decide +kernel
theorem dX5_find_3 : decode cX5_find 3 = .ok (.aload_n 0, 1) := by decide +kernel
theorem dX5_find_4 : decode cX5_find 4 = .ok (.getfield 21, 3) := by decide +kernel
theorem dX5_find_7 : decode cX5_find 7 = .ok (.if_icmp .ge 20, 3) := by decide +kernel
theorem dX5_find_10 : decode cX5_find 10 = .ok (.aload_n 0, 1) := by decide +kernel
theorem dX5_find_11 : decode cX5_find 11 = .ok (.iload_n 2, 1) := by decide +kernel
theorem dX5_find_12 : decode cX5_find 12 = .ok (.invokevirtual 25, 3) := by decide +kernel
theorem dX5_find_15 : decode cX5_find 15 = .ok (.iload_n 1, 1) := by decide +kernel
theorem dX5_find_16 : decode cX5_find 16 = .ok (.if_icmp .ne 5, 3) := by decide +kernel
theorem dX5_find_19 : decode cX5_find 19 = .ok (.iload_n 2, 1) := by decide +kernel
theorem dX5_find_20 : decode cX5_find 20 = .ok (.ireturn, 1) := by decide +kernel
theorem dX5_find_21 : decode cX5_find 21 = .ok (.iinc 2 1, 3) := by decide +kernel
theorem dX5_find_24 : decode cX5_find 24 = .ok (.goto (-22), 3) := by decide +kernel
theorem dX5_find_27 : decode cX5_find 27 = .ok (.iconst (-1), 1) := by decide +kernel
theorem dX5_find_28 : decode cX5_find 28 = .ok (.ireturn, 1) := by decide +kernel
theorem dX5_add_0 : decode cX5_add 0 = .ok (.aload_n 0, 1) := by decide +kernel
theorem dX5_add_1 : decode cX5_add 1 = .ok (.getfield 21, 3) := by decide +kernel
theorem dX5_add_4 : decode cX5_add 4 = .ok (.ifCond .lt 15, 3) := by decide +kernel
theorem dX5_add_7 : decode cX5_add 7 = .ok (.aload_n 0, 1) := by decide +kernel
theorem dX5_add_8 : decode cX5_add 8 = .ok (.getfield 21, 3) := by decide +kernel
theorem dX5_add_11 : decode cX5_add 11 = .ok (.aload_n 0, 1) := by decide +kernel
theorem dX5_add_12 : decode cX5_add 12 = .ok (.getfield 15, 3) := by decide +kernel
theorem dX5_add_15 : decode cX5_add 15 = .ok (.arraylength, 1) := by decide +kernel
theorem dX5_add_16 : decode cX5_add 16 = .ok (.if_icmp .lt 5, 3) := by decide +kernel
theorem dX5_add_19 : decode cX5_add 19 = .ok (.iconst 0, 1) := by decide +kernel
theorem dX5_add_20 : decode cX5_add 20 = .ok (.ireturn, 1) := by decide +kernel
theorem dX5_add_21 : decode cX5_add 21 = .ok (.aload_n 0, 1) := by decide +kernel
theorem dX5_add_22 : decode cX5_add 22 = .ok (.getfield 15, 3) := by decide +kernel
theorem dX5_add_25 : decode cX5_add 25 = .ok (.aload_n 0, 1) := by decide +kernel
theorem dX5_add_26 : decode cX5_add 26 = .ok (.getfield 21, 3) := by decide +kernel
theorem dX5_add_29 : decode cX5_add 29 = .ok (.iload_n 1, 1) := by decide +kernel
theorem dX5_add_30 : decode cX5_add 30 = .ok (.iastore, 1) := by decide +kernel
theorem dX5_add_31 : decode cX5_add 31 = .ok (.aload_n 0, 1) := by decide +kernel
theorem dX5_add_32 : decode cX5_add 32 = .ok (.dup, 1) := by decide +kernel
theorem dX5_add_33 : decode cX5_add 33 = .ok (.getfield 21, 3) := by decide +kernel
theorem dX5_add_36 : decode cX5_add 36 = .ok (.iconst 1, 1) := by decide +kernel
theorem dX5_add_37 : decode cX5_add 37 = .ok (.iadd, 1) := by decide +kernel
theorem dX5_add_38 : decode cX5_add 38 = .ok (.putfield 21, 3) := by decide +kernel
theorem dX5_add_41 : decode cX5_add 41 = .ok (.iconst 1, 1) := by decide +kernel
theorem dX5_add_42 : decode cX5_add 42 = .ok (.ireturn, 1) := by decide +kernel
theorem dX5_clear_0 : decode cX5_clear 0 = .ok (.aload_n 0, 1) := by decide +kernel
theorem dX5_clear_1 : decode cX5_clear 1 = .ok (.iconst 0, 1) := by decide +kernel
theorem dX5_clear_2 : decode cX5_clear 2 = .ok (.putfield 21, 3) := by decide +kernel
theorem dX5_clear_5 : decode cX5_clear 5 = .ok (.return_, 1) := by decide +kernel
theorem dX5_addAll_0 : decode cX5_addAll 0 = .ok (.iload_n 2, 1) := by decide +kernel
theorem dX5_addAll_1 : decode cX5_addAll 1 = .ok (.istore 4, 2) := by decide +kernel
theorem dX5_addAll_3 : decode cX5_addAll 3 = .ok (.iload 4, 2) := by decide +kernel
theorem dX5_addAll_5 : decode cX5_addAll 5 = .ok (.iload_n 3, 1) := by decide +kernel
theorem dX5_addAll_6 : decode cX5_addAll 6 = .ok (.if_icmp .ge 20, 3) := by decide +kernel
theorem dX5_addAll_9 : decode cX5_addAll 9 = .ok (.aload_n 0, 1) := by decide +kernel
theorem dX5_addAll_10 : decode cX5_addAll 10 = .ok (.aload_n 1, 1) := by decide +kernel
theorem dX5_addAll_11 : decode cX5_addAll 11 = .ok (.iload 4, 2) := by decide +kernel
theorem dX5_addAll_13 : decode cX5_addAll 13 = .ok (.invokevirtual 25, 3) := by decide +kernel
theorem dX5_addAll_16 : decode cX5_addAll 16 = .ok (.invokevirtual 29, 3) := by decide +kernel
theorem dX5_addAll_19 : decode cX5_addAll 19 = .ok (.pop, 1) := by decide +kernel
theorem dX5_addAll_20 : decode cX5_addAll 20 = .ok (.iinc 4 1, 3) := by decide +kernel
theorem dX5_addAll_23 : decode cX5_addAll 23 = .ok (.goto (-20), 3) := by decide +kernel
theorem dX5_addAll_26 : decode cX5_addAll 26 = .ok (.return_, 1) := by decide +kernel
theorem dX5_become_0 : decode cX5_become 0 = .ok (.aload_n 0, 1) := by decide +kernel
theorem dX5_become_1 : decode cX5_become 1 = .ok (.invokevirtual 33, 3) := by decide +kernel
theorem dX5_become_4 : decode cX5_become 4 = .ok (.aload_n 0, 1) := by decide +kernel
theorem dX5_become_5 : decode cX5_become 5 = .ok (.aload_n 1, 1) := by decide +kernel
theorem dX5_become_6 : decode cX5_become 6 = .ok (.iconst 0, 1) := by decide +kernel
theorem dX5_become_7 : decode cX5_become 7 = .ok (.aload_n 1, 1) := by decide +kernel
theorem dX5_become_8 : decode cX5_become 8 = .ok (.invokevirtual 36, 3) := by decide +kernel
theorem dX5_become_11 : decode cX5_become 11 = .ok (.invokevirtual 39, 3) := by decide +kernel
theorem dX5_become_14 : decode cX5_become 14 = .ok (.return_, 1) := by decide +kernel
theorem dX5_isSameAs_0 : decode cX5_isSameAs 0 = .ok (.aload_n 0, 1) := by decide +kernel
theorem dX5_isSameAs_1 : decode cX5_isSameAs 1 = .ok (.getfield 21, 3) := by decide +kernel
theorem dX5_isSameAs_4 : decode cX5_isSameAs 4 = .ok (.aload_n 1, 1) := by decide +kernel
theorem dX5_isSameAs_5 : decode cX5_isSameAs 5 = .ok (.invokevirtual 36, 3) := by decide +kernel
theorem dX5_isSameAs_8 : decode cX5_isSameAs 8 = .ok (.if_icmp .eq 5, 3) := by decide +kernel
theorem dX5_isSameAs_11 : decode cX5_isSameAs 11 = .ok (.iconst 0, 1) := by decide +kernel
theorem dX5_isSameAs_12 : decode cX5_isSameAs 12 = .ok (.ireturn, 1) := by decide +kernel
theorem dX5_isSameAs_13 : decode cX5_isSameAs 13 = .ok (.iconst 0, 1) := by decide +kernel
theorem dX5_isSameAs_14 : decode cX5_isSameAs 14 = .ok (.istore_n 2, 1) := by decide +kernel
theorem dX5_isSameAs_15 : decode cX5_isSameAs 15 = .ok (.iload_n 2, 1) := by decide +kernel
theorem dX5_isSameAs_16 : decode cX5_isSameAs 16 = .ok (.aload_n 0, 1) := by decide +kernel
theorem dX5_isSameAs_17 : decode cX5_isSameAs 17 = .ok (.getfield 21, 3) := by decide +kernel
theorem dX5_isSameAs_20 : decode cX5_isSameAs 20 = .ok (.if_icmp .ge 24, 3) := by decide +kernel
theorem dX5_isSameAs_23 : decode cX5_isSameAs 23 = .ok (.aload_n 0, 1) := by decide +kernel
theorem dX5_isSameAs_24 : decode cX5_isSameAs 24 = .ok (.iload_n 2, 1) := by decide +kernel
theorem dX5_isSameAs_25 : decode cX5_isSameAs 25 = .ok (.invokevirtual 25, 3) := by decide +kernel
theorem dX5_isSameAs_28 : decode cX5_isSameAs 28 = .ok (.aload_n 1, 1) := by decide +kernel
theorem dX5_isSameAs_29 : decode cX5_isSameAs 29 = .ok (.iload_n 2, 1) := by decide +kernel
theorem dX5_isSameAs_30 : decode cX5_isSameAs 30 = .ok (.invokevirtual 25, 3) := by decide +kernel
theorem dX5_isSameAs_33 : decode cX5_isSameAs 33 = .ok (.if_icmp .eq 5, 3) := by decide +kernel
theorem dX5_isSameAs_36 : decode cX5_isSameAs 36 = .ok (.iconst 0, 1) := by decide +kernel
theorem dX5_isSameAs_37 : decode cX5_isSameAs 37 = .ok (.ireturn, 1) := by decide +kernel
theorem dX5_isSameAs_38 : decode cX5_isSameAs 38 = .ok (.iinc 2 1, 3) := by decide +kernel
theorem dX5_isSameAs_41 : decode cX5_isSameAs 41 = .ok (.goto (-26), 3) := by decide +kernel
theorem dX5_isSameAs_44 : decode cX5_isSameAs 44 = .ok (.iconst 1, 1) := by decide +kernel
theorem dX5_isSameAs_45 : decode cX5_isSameAs 45 = .ok (.ireturn, 1) := by decide +kernel
theorem dX6_init_0 : decode cX6_init 0 = .ok (.aload_n 0, 1) := by decide +kernel
theorem dX6_init_1 : decode cX6_init 1 = .ok (.invokespecial 3, 3) := by decide +kernel
theorem dX6_init_4 : decode cX6_init 4 = .ok (.aload_n 0, 1) := by decide +kernel
theorem dX6_init_5 : decode cX6_init 5 = .ok (.bipush 40, 2) := by decide +kernel
theorem dX6_init_7 : decode cX6_init 7 = .ok (.anewarray 9, 3) := by decide +kernel
theorem dX6_init_10 : decode cX6_init 10 = .ok (.putfield 11, 3) := by decide +kernel
theorem dX6_init_13 : decode cX6_init 13 = .ok (.iconst 0, 1) := by decide +kernel
theorem dX6_init_14 : decode cX6_init 14 = .ok (.istore_n 1, 1) := by decide +kernel
theorem dX6_init_15 : decode cX6_init 15 = .ok (.iload_n 1, 1) := by decide +kernel
theorem dX6_init_16 : decode cX6_init 16 = .ok (.aload_n 0, 1) := by decide +kernel
theorem dX6_init_17 : decode cX6_init 17 = .ok (.getfield 11, 3) := by decide +kernel
theorem dX6_init_20 : decode cX6_init 20 = .ok (.arraylength, 1) := by decide +kernel
theorem dX6_init_21 : decode cX6_init 21 = .ok (.if_icmp .ge 22, 3) := by decide +kernel
theorem dX6_init_24 : decode cX6_init 24 = .ok (.aload_n 0, 1) := by decide +kernel
theorem dX6_init_25 : decode cX6_init 25 = .ok (.getfield 11, 3) := by decide +kernel
theorem dX6_init_28 : decode cX6_init 28 = .ok (.iload_n 1, 1) := by decide +kernel
theorem dX6_init_29 : decode cX6_init 29 = .ok (.new 9, 3) := by decide +kernel
theorem dX6_init_32 : decode cX6_init 32 = .ok (.dup, 1) := by decide +kernel
theorem dX6_init_33 : decode cX6_init 33 = .ok (.invokespecial 17, 3) := by decide +kernel
theorem dX6_init_36 : decode cX6_init 36 = .ok (.aastore, 1) := by decide +kernel
theorem dX6_init_37 : decode cX6_init 37 = .ok (.iinc 1 1, 3) := by decide +kernel
theorem dX6_init_40 : decode cX6_init 40 = .ok (.goto (-25), 3) := by decide +kernel
theorem dX6_init_43 : decode cX6_init 43 = .ok (.return_, 1) := by decide +kernel
theorem dX6_count_0 : decode cX6_count 0 = .ok (.aload_n 0, 1) := by decide +kernel
theorem dX6_count_1 : decode cX6_count 1 = .ok (.getfield 18, 3) := by decide +kernel
theorem dX6_count_4 : decode cX6_count 4 = .ok (.ireturn, 1) := by decide +kernel
theorem dX6_get_0 : decode cX6_get 0 = .ok (.iload_n 1, 1) := by decide +kernel
theorem dX6_get_1 : decode cX6_get 1 = .ok (.ifCond .lt 20, 3) := by decide +kernel
theorem dX6_get_4 : decode cX6_get 4 = .ok (.iload_n 1, 1) := by decide +kernel
theorem dX6_get_5 : decode cX6_get 5 = .ok (.aload_n 0, 1) := by decide +kernel
theorem dX6_get_6 : decode cX6_get 6 = .ok (.getfield 18, 3) := by decide +kernel
theorem dX6_get_9 : decode cX6_get 9 = .ok (.if_icmp .ge 12, 3) := by decide +kernel
theorem dX6_get_12 : decode cX6_get 12 = .ok (.iload_n 1, 1) := by decide +kernel
theorem dX6_get_13 : decode cX6_get 13 = .ok (.aload_n 0, 1) := by decide +kernel
theorem dX6_get_14 : decode cX6_get 14 = .ok (.getfield 11, 3) := by decide +kernel
theorem dX6_get_17 : decode cX6_get 17 = .ok (.arraylength, 1) := by decide +kernel
theorem dX6_get_18 : decode cX6_get 18 = .ok (.if_icmp .lt 11, 3) := by decide +kernel
theorem dX6_get_21 : decode cX6_get 21 = .ok (.new 22, 3) := by decide +kernel
theorem dX6_get_24 : decode cX6_get 24 = .ok (.dup, 1) := by decide +kernel
theorem dX6_get_25 : decode cX6_get 25 = .ok (.invokespecial 24, 3) := by decide +kernel
theorem dX6_get_28 : decode cX6_get 28 = .ok (.athrow, 1) := by decide +kernel
theorem dX6_get_29 : decode cX6_get 29 = .ok (.aload_n 0, 1) := by decide +kernel
theorem dX6_get_30 : decode cX6_get 30 = .ok (.getfield 11, 3) := by decide +kernel
theorem dX6_get_33 : decode cX6_get 33 = .ok (.iload_n 1, 1) := by decide +kernel
theorem dX6_get_34 : decode cX6_get 34 = .ok (.aaload, 1) := by decide +kernel
theorem dX6_get_35 : decode cX6_get 35 = .ok (.areturn, 1) := by decide +kernel
theorem dX6_masterOf_0 : decode cX6_masterOf 0 = .ok (.aload_n 0, 1) := by decide +kernel
theorem dX6_masterOf_1 : decode cX6_masterOf 1 = .ok (.aload_n 0, 1) := by decide +kernel
theorem dX6_masterOf_2 : decode cX6_masterOf 2 = .ok (.iload_n 1, 1) := by decide +kernel
theorem dX6_masterOf_3 : decode cX6_masterOf 3 = .ok (.invokevirtual 25, 3) := by decide +kernel
theorem dX6_masterOf_6 : decode cX6_masterOf 6 = .ok (.getfield 29, 3) := by decide +kernel
theorem dX6_masterOf_9 : decode cX6_masterOf 9 = .ok (.invokevirtual 25, 3) := by decide +kernel
theorem dX6_masterOf_12 : decode cX6_masterOf 12 = .ok (.areturn, 1) := by decide +kernel
theorem dX6_add_0 : decode cX6_add 0 = .ok (.aload_n 0, 1) := by decide +kernel
theorem dX6_add_1 : decode cX6_add 1 = .ok (.getfield 18, 3) := by decide +kernel
theorem dX6_add_4 : decode cX6_add 4 = .ok (.istore 5, 2) := by decide +kernel
theorem dX6_add_6 : decode cX6_add 6 = .ok (.iload 5, 2) := by decide +kernel
theorem dX6_add_8 : decode cX6_add 8 = .ok (.ifCond .lt 13, 3) := by decide +kernel
theorem dX6_add_11 : decode cX6_add 11 = .ok (.iload 5, 2) := by decide +kernel
theorem dX6_add_13 : decode cX6_add 13 = .ok (.aload_n 0, 1) := by decide +kernel
theorem dX6_add_14 : decode cX6_add 14 = .ok (.getfield 11, 3) := by decide +kernel
theorem dX6_add_17 : decode cX6_add 17 = .ok (.arraylength, 1) := by decide +kernel
theorem dX6_add_18 : decode cX6_add 18 = .ok (.if_icmp .lt 11, 3) := by decide +kernel
theorem dX6_add_21 : decode cX6_add 21 = .ok (.new 32, 3) := by decide +kernel
theorem dX6_add_24 : decode cX6_add 24 = .ok (.dup, 1) := by decide +kernel
theorem dX6_add_25 : decode cX6_add 25 = .ok (.invokespecial 34, 3) := by decide +kernel
theorem dX6_add_28 : decode cX6_add 28 = .ok (.athrow, 1) := by decide +kernel
theorem dX6_add_29 : decode cX6_add 29 = .ok (.aload_n 0, 1) := by decide +kernel
theorem dX6_add_30 : decode cX6_add 30 = .ok (.getfield 11, 3) := by decide +kernel
theorem dX6_add_33 : decode cX6_add 33 = .ok (.iload 5, 2) := by decide +kernel
theorem dX6_add_35 : decode cX6_add 35 = .ok (.aaload, 1) := by decide +kernel
theorem dX6_add_36 : decode cX6_add 36 = .ok (.iload 5, 2) := by decide +kernel
theorem dX6_add_38 : decode cX6_add 38 = .ok (.iload_n 1, 1) := by decide +kernel
theorem dX6_add_39 : decode cX6_add 39 = .ok (.iload_n 2, 1) := by decide +kernel
theorem dX6_add_40 : decode cX6_add 40 = .ok (.iload_n 3, 1) := by decide +kernel
theorem dX6_add_41 : decode cX6_add 41 = .ok (.iload 4, 2) := by decide +kernel
theorem dX6_add_43 : decode cX6_add 43 = .ok (.iconst (-1), 1) := by decide +kernel
theorem dX6_add_44 : decode cX6_add 44 = .ok (.if_icmp .ne 8, 3) := by decide +kernel
theorem dX6_add_47 : decode cX6_add 47 = .ok (.iload 5, 2) := by decide +kernel
theorem dX6_add_49 : decode cX6_add 49 = .ok (.goto 5, 3) := by decide +kernel
theorem dX6_add_52 : decode cX6_add 52 = .ok (.iload 4, 2) := by decide +kernel
theorem dX6_add_54 : decode cX6_add 54 = .ok (.invokevirtual 35, 3) := by decide +kernel
theorem dX6_add_57 : decode cX6_add 57 = .ok (.aload_n 0, 1) := by decide +kernel
theorem dX6_add_58 : decode cX6_add 58 = .ok (.dup, 1) := by decide +kernel
theorem dX6_add_59 : decode cX6_add 59 = .ok (.getfield 18, 3) := by decide +kernel
theorem dX6_add_62 : decode cX6_add 62 = .ok (.iconst 1, 1) := by decide +kernel
theorem dX6_add_63 : decode cX6_add 63 = .ok (.iadd, 1) := by decide +kernel
theorem dX6_add_64 : decode cX6_add 64 = .ok (.putfield 18, 3) := by decide +kernel
theorem dX6_add_67 : decode cX6_add 67 = .ok (.iload 5, 2) := by decide +kernel
theorem dX6_add_69 : decode cX6_add 69 = .ok (.ireturn, 1) := by decide +kernel
theorem dX6_firstNamed_0 : decode cX6_firstNamed 0 = .ok (.iconst 0, 1) := by decide +kernel
theorem dX6_firstNamed_1 : decode cX6_firstNamed 1 = .ok (.istore_n 3, 1) := by decide +kernel
theorem dX6_firstNamed_2 : decode cX6_firstNamed 2 = .ok (.iload_n 3, 1) := by decide +kernel
theorem dX6_firstNamed_3 : decode cX6_firstNamed 3 = .ok (.aload_n 0, 1) := by decide +kernel
theorem dX6_firstNamed_4 : decode cX6_firstNamed 4 = .ok (.getfield 18, 3) := by decide +kernel
theorem dX6_firstNamed_7 : decode cX6_firstNamed 7 = .ok (.if_icmp .ge 60, 3) := by decide +kernel
theorem dX6_firstNamed_10 : decode cX6_firstNamed 10 = .ok (.aload_n 0, 1) := by decide +kernel
theorem dX6_firstNamed_11 : decode cX6_firstNamed 11 = .ok (.iload_n 3, 1) := by decide +kernel
theorem dX6_firstNamed_12 : decode cX6_firstNamed 12 = .ok (.invokevirtual 25, 3) := by decide +kernel
theorem dX6_firstNamed_15 : decode cX6_firstNamed 15 = .ok (.astore 4, 2) := by decide +kernel
theorem dX6_firstNamed_17 : decode cX6_firstNamed 17 = .ok (.aload 4, 2) := by decide +kernel
theorem dX6_firstNamed_19 : decode cX6_firstNamed 19 = .ok (.getfield 39, 3) := by decide +kernel
theorem dX6_firstNamed_22 : decode cX6_firstNamed 22 = .ok (.iconst (-1), 1) := by decide +kernel
theorem dX6_firstNamed_23 : decode cX6_firstNamed 23 = .ok (.if_icmp .ne 7, 3) := by decide +kernel
theorem dX6_firstNamed_26 : decode cX6_firstNamed 26 = .ok (.iconst (-1), 1) := by decide +kernel
theorem dX6_firstNamed_27 : decode cX6_firstNamed 27 = .ok (.goto 15, 3) := by decide +kernel
theorem dX6_firstNamed_30 : decode cX6_firstNamed 30 = .ok (.aload_n 0, 1) := by decide +kernel
theorem dX6_firstNamed_31 : decode cX6_firstNamed 31 = .ok (.aload 4, 2) := by decide +kernel
theorem dX6_firstNamed_33 : decode cX6_firstNamed 33 = .ok (.getfield 39, 3) := by decide +kernel
theorem dX6_firstNamed_36 : decode cX6_firstNamed 36 = .ok (.invokevirtual 25, 3) := by decide +kernel
theorem dX6_firstNamed_39 : decode cX6_firstNamed 39 = .ok (.getfield 29, 3) := by decide +kernel
theorem dX6_firstNamed_42 : decode cX6_firstNamed 42 = .ok (.istore 5, 2) := by decide +kernel
theorem dX6_firstNamed_44 : decode cX6_firstNamed 44 = .ok (.aload 4, 2) := by decide +kernel
theorem dX6_firstNamed_46 : decode cX6_firstNamed 46 = .ok (.getfield 42, 3) := by decide +kernel
theorem dX6_firstNamed_49 : decode cX6_firstNamed 49 = .ok (.iload_n 2, 1) := by decide +kernel
theorem dX6_firstNamed_50 : decode cX6_firstNamed 50 = .ok (.if_icmp .ne 11, 3) := by decide +kernel
theorem dX6_firstNamed_53 : decode cX6_firstNamed 53 = .ok (.iload 5, 2) := by decide +kernel
theorem dX6_firstNamed_55 : decode cX6_firstNamed 55 = .ok (.iload_n 1, 1) := by decide +kernel
theorem dX6_firstNamed_56 : decode cX6_firstNamed 56 = .ok (.if_icmp .ne 5, 3) := by decide +kernel
theorem dX6_firstNamed_59 : decode cX6_firstNamed 59 = .ok (.iload_n 3, 1) := by decide +kernel
theorem dX6_firstNamed_60 : decode cX6_firstNamed 60 = .ok (.ireturn, 1) := by decide +kernel
theorem dX6_firstNamed_61 : decode cX6_firstNamed 61 = .ok (.iinc 3 1, 3) := by decide +kernel
theorem dX6_firstNamed_64 : decode cX6_firstNamed 64 = .ok (.goto (-62), 3) := by decide +kernel
theorem dX6_firstNamed_67 : decode cX6_firstNamed 67 = .ok (.iconst (-1), 1) := by decide +kernel
theorem dX6_firstNamed_68 : decode cX6_firstNamed 68 = .ok (.ireturn, 1) := by decide +kernel
theorem dX6_isMaster_0 : decode cX6_isMaster 0 = .ok (.aload_n 0, 1) := by decide +kernel
theorem dX6_isMaster_1 : decode cX6_isMaster 1 = .ok (.iload_n 1, 1) := by decide +kernel
theorem dX6_isMaster_2 : decode cX6_isMaster 2 = .ok (.invokevirtual 25, 3) := by decide +kernel
theorem dX6_isMaster_5 : decode cX6_isMaster 5 = .ok (.astore_n 2, 1) := by decide +kernel
theorem dX6_isMaster_6 : decode cX6_isMaster 6 = .ok (.aload_n 2, 1) := by decide +kernel
theorem dX6_isMaster_7 : decode cX6_isMaster 7 = .ok (.getfield 45, 3) := by decide +kernel
theorem dX6_isMaster_10 : decode cX6_isMaster 10 = .ok (.ifCond .eq 15, 3) := by decide +kernel
theorem dX6_isMaster_13 : decode cX6_isMaster 13 = .ok (.aload_n 2, 1) := by decide +kernel
theorem dX6_isMaster_14 : decode cX6_isMaster 14 = .ok (.getfield 29, 3) := by decide +kernel
theorem dX6_isMaster_17 : decode cX6_isMaster 17 = .ok (.iload_n 1, 1) := by decide +kernel
theorem dX6_isMaster_18 : decode cX6_isMaster 18 = .ok (.if_icmp .ne 7, 3) := by decide +kernel
theorem dX6_isMaster_21 : decode cX6_isMaster 21 = .ok (.iconst 1, 1) := by decide +kernel
theorem dX6_isMaster_22 : decode cX6_isMaster 22 = .ok (.goto 4, 3) := by decide +kernel
theorem dX6_isMaster_25 : decode cX6_isMaster 25 = .ok (.iconst 0, 1) := by decide +kernel
theorem dX6_isMaster_26 : decode cX6_isMaster 26 = .ok (.ireturn, 1) := by decide +kernel
theorem dX6_isInside_0 : decode cX6_isInside 0 = .ok (.aload_n 0, 1) := by decide +kernel
theorem dX6_isInside_1 : decode cX6_isInside 1 = .ok (.iload_n 1, 1) := by decide +kernel
theorem dX6_isInside_2 : decode cX6_isInside 2 = .ok (.invokevirtual 25, 3) := by decide +kernel
theorem dX6_isInside_5 : decode cX6_isInside 5 = .ok (.getfield 39, 3) := by decide +kernel
theorem dX6_isInside_8 : decode cX6_isInside 8 = .ok (.istore_n 3, 1) := by decide +kernel
theorem dX6_isInside_9 : decode cX6_isInside 9 = .ok (.iconst 0, 1) := by decide +kernel
theorem dX6_isInside_10 : decode cX6_isInside 10 = .ok (.istore 4, 2) := by decide +kernel
theorem dX6_isInside_12 : decode cX6_isInside 12 = .ok (.iload 4, 2) := by decide +kernel
theorem dX6_isInside_14 : decode cX6_isInside 14 = .ok (.bipush 40, 2) := by decide +kernel
theorem dX6_isInside_16 : decode cX6_isInside 16 = .ok (.if_icmp .ge 30, 3) := by decide +kernel
theorem dX6_isInside_19 : decode cX6_isInside 19 = .ok (.iload_n 3, 1) := by decide +kernel
theorem dX6_isInside_20 : decode cX6_isInside 20 = .ok (.iconst (-1), 1) := by decide +kernel
theorem dX6_isInside_21 : decode cX6_isInside 21 = .ok (.if_icmp .eq 25, 3) := by decide +kernel
theorem dX6_isInside_24 : decode cX6_isInside 24 = .ok (.iload_n 3, 1) := by decide +kernel
theorem dX6_isInside_25 : decode cX6_isInside 25 = .ok (.iload_n 2, 1) := by decide +kernel
theorem dX6_isInside_26 : decode cX6_isInside 26 = .ok (.if_icmp .ne 5, 3) := by decide +kernel
theorem dX6_isInside_29 : decode cX6_isInside 29 = .ok (.iconst 1, 1) := by decide +kernel
theorem dX6_isInside_30 : decode cX6_isInside 30 = .ok (.ireturn, 1) := by decide +kernel
theorem dX6_isInside_31 : decode cX6_isInside 31 = .ok (.aload_n 0, 1) := by decide +kernel
theorem dX6_isInside_32 : decode cX6_isInside 32 = .ok (.iload_n 3, 1) := by decide +kernel
theorem dX6_isInside_33 : decode cX6_isInside 33 = .ok (.invokevirtual 25, 3) := by decide +kernel
theorem dX6_isInside_36 : decode cX6_isInside 36 = .ok (.getfield 39, 3) := by decide +kernel
theorem dX6_isInside_39 : decode cX6_isInside 39 = .ok (.istore_n 3, 1) := by decide +kernel
theorem dX6_isInside_40 : decode cX6_isInside 40 = .ok (.iinc 4 1, 3) := by decide +kernel
theorem dX6_isInside_43 : decode cX6_isInside 43 = .ok (.goto (-31), 3) := by decide +kernel
theorem dX6_isInside_46 : decode cX6_isInside 46 = .ok (.iconst 0, 1) := by decide +kernel
theorem dX6_isInside_47 : decode cX6_isInside 47 = .ok (.ireturn, 1) := by decide +kernel
theorem dX7_init_0 : decode cX7_init 0 = .ok (.aload_n 0, 1) := by decide +kernel
theorem dX7_init_1 : decode cX7_init 1 = .ok (.invokespecial 3, 3) := by decide +kernel
theorem dX7_init_4 : decode cX7_init 4 = .ok (.aload_n 0, 1) := by decide +kernel
theorem dX7_init_5 : decode cX7_init 5 = .ok (.new 9, 3) := by decide +kernel
theorem dX7_init_8 : decode cX7_init 8 = .ok (.dup, 1) := by decide +kernel
theorem dX7_init_9 : decode cX7_init 9 = .ok (.bipush 30, 2) := by decide +kernel
theorem dX7_init_11 : decode cX7_init 11 = .ok (.invokespecial 11, 3) := by decide +kernel
theorem dX7_init_14 : decode cX7_init 14 = .ok (.putfield 14, 3) := by decide +kernel
theorem dX7_init_17 : decode cX7_init 17 = .ok (.return_, 1) := by decide +kernel
theorem dX7_show_0 : decode cX7_show 0 = .ok (.aload_n 0, 1) := by decide +kernel
theorem dX7_show_1 : decode cX7_show 1 = .ok (.getfield 14, 3) := by decide +kernel
theorem dX7_show_4 : decode cX7_show 4 = .ok (.invokevirtual 20, 3) := by decide +kernel
theorem dX7_show_7 : decode cX7_show 7 = .ok (.aload_n 1, 1) := by decide +kernel
theorem dX7_show_8 : decode cX7_show 8 = .ok (.getfield 23, 3) := by decide +kernel
theorem dX7_show_11 : decode cX7_show 11 = .ok (.tableswitch 113 1 5 #[33, 55, 76, 76, 47], 33) := by decide +kernel
theorem dX7_show_44 : decode cX7_show 44 = .ok (.aload_n 0, 1) := by decide +kernel
theorem dX7_show_45 : decode cX7_show 45 = .ok (.getfield 14, 3) := by decide +kernel
theorem dX7_show_48 : decode cX7_show 48 = .ok (.aload_n 1, 1) := by decide +kernel
theorem dX7_show_49 : decode cX7_show 49 = .ok (.getfield 29, 3) := by decide +kernel
theorem dX7_show_52 : decode cX7_show 52 = .ok (.invokevirtual 30, 3) := by decide +kernel
theorem dX7_show_55 : decode cX7_show 55 = .ok (.goto 69, 3) := by decide +kernel
theorem dX7_show_58 : decode cX7_show 58 = .ok (.aload_n 0, 1) := by decide +kernel
theorem dX7_show_59 : decode cX7_show 59 = .ok (.aload_n 1, 1) := by decide +kernel
theorem dX7_show_60 : decode cX7_show 60 = .ok (.invokevirtual 34, 3) := by decide +kernel
theorem dX7_show_63 : decode cX7_show 63 = .ok (.goto 61, 3) := by decide +kernel
theorem dX7_show_66 : decode cX7_show 66 = .ok (.aload_n 1, 1) := by decide +kernel
theorem dX7_show_67 : decode cX7_show 67 = .ok (.getfield 38, 3) := by decide +kernel
theorem dX7_show_70 : decode cX7_show 70 = .ok (.iconst 1, 1) := by decide +kernel
theorem dX7_show_71 : decode cX7_show 71 = .ok (.if_icmp .ne 53, 3) := by decide +kernel
theorem dX7_show_74 : decode cX7_show 74 = .ok (.aload_n 0, 1) := by decide +kernel
theorem dX7_show_75 : decode cX7_show 75 = .ok (.getfield 14, 3) := by decide +kernel
theorem dX7_show_78 : decode cX7_show 78 = .ok (.bipush 88, 2) := by decide +kernel
theorem dX7_show_80 : decode cX7_show 80 = .ok (.invokevirtual 41, 3) := by decide +kernel
theorem dX7_show_83 : decode cX7_show 83 = .ok (.pop, 1) := by decide +kernel
theorem dX7_show_84 : decode cX7_show 84 = .ok (.goto 40, 3) := by decide +kernel
theorem dX7_show_87 : decode cX7_show 87 = .ok (.aload_n 1, 1) := by decide +kernel
theorem dX7_show_88 : decode cX7_show 88 = .ok (.getfield 45, 3) := by decide +kernel
theorem dX7_show_91 : decode cX7_show 91 = .ok (.aload_n 1, 1) := by decide +kernel
theorem dX7_show_92 : decode cX7_show 92 = .ok (.getfield 38, 3) := by decide +kernel
theorem dX7_show_95 : decode cX7_show 95 = .ok (.invokevirtual 48, 3) := by decide +kernel
theorem dX7_show_98 : decode cX7_show 98 = .ok (.ifCond .eq 26, 3) := by decide +kernel
theorem dX7_show_101 : decode cX7_show 101 = .ok (.aload_n 1, 1) := by decide +kernel
theorem dX7_show_102 : decode cX7_show 102 = .ok (.getfield 45, 3) := by decide +kernel
theorem dX7_show_105 : decode cX7_show 105 = .ok (.aload_n 1, 1) := by decide +kernel
theorem dX7_show_106 : decode cX7_show 106 = .ok (.getfield 38, 3) := by decide +kernel
theorem dX7_show_109 : decode cX7_show 109 = .ok (.invokevirtual 51, 3) := by decide +kernel
theorem dX7_show_112 : decode cX7_show 112 = .ok (.i2l, 1) := by decide +kernel
theorem dX7_show_113 : decode cX7_show 113 = .ok (.iconst 0, 1) := by decide +kernel
theorem dX7_show_114 : decode cX7_show 114 = .ok (.aload_n 0, 1) := by decide +kernel
theorem dX7_show_115 : decode cX7_show 115 = .ok (.getfield 14, 3) := by decide +kernel
theorem dX7_show_118 : decode cX7_show 118 = .ok (.invokestatic 55, 3) := by decide +kernel
theorem dX7_show_121 : decode cX7_show 121 = .ok (.goto 3, 3) := by decide +kernel
theorem dX7_show_124 : decode cX7_show 124 = .ok (.aload_n 0, 1) := by decide +kernel
theorem dX7_show_125 : decode cX7_show 125 = .ok (.getfield 14, 3) := by decide +kernel
theorem dX7_show_128 : decode cX7_show 128 = .ok (.areturn, 1) := by decide +kernel
theorem dX7_showNumber_0 : decode cX7_showNumber 0 = .ok (.aload_n 1, 1) := by decide +kernel
theorem dX7_showNumber_1 : decode cX7_showNumber 1 = .ok (.invokevirtual 61, 3) := by decide +kernel
theorem dX7_showNumber_4 : decode cX7_showNumber 4 = .ok (.lstore_n 2, 1) := by decide +kernel
theorem dX7_showNumber_5 : decode cX7_showNumber 5 = .ok (.lload_n 2, 1) := by decide +kernel
theorem dX7_showNumber_6 : decode cX7_showNumber 6 = .ok (.ldc2_w 65, 3) := by decide +kernel
theorem dX7_showNumber_9 : decode cX7_showNumber 9 = .ok (.lcmp, 1) := by decide +kernel
theorem dX7_showNumber_10 : decode cX7_showNumber 10 = .ok (.ifCond .eq 13, 3) := by decide +kernel
theorem dX7_showNumber_13 : decode cX7_showNumber 13 = .ok (.aload_n 1, 1) := by decide +kernel
theorem dX7_showNumber_14 : decode cX7_showNumber 14 = .ok (.getfield 29, 3) := by decide +kernel
theorem dX7_showNumber_17 : decode cX7_showNumber 17 = .ok (.invokevirtual 67, 3) := by decide +kernel
theorem dX7_showNumber_20 : decode cX7_showNumber 20 = .ok (.ifCond .ne 15, 3) := by decide +kernel
theorem dX7_showNumber_23 : decode cX7_showNumber 23 = .ok (.aload_n 0, 1) := by decide +kernel
theorem dX7_showNumber_24 : decode cX7_showNumber 24 = .ok (.getfield 14, 3) := by decide +kernel
theorem dX7_showNumber_27 : decode cX7_showNumber 27 = .ok (.aload_n 1, 1) := by decide +kernel
theorem dX7_showNumber_28 : decode cX7_showNumber 28 = .ok (.getfield 29, 3) := by decide +kernel
theorem dX7_showNumber_31 : decode cX7_showNumber 31 = .ok (.invokevirtual 30, 3) := by decide +kernel
theorem dX7_showNumber_34 : decode cX7_showNumber 34 = .ok (.return_, 1) := by decide +kernel
theorem dX7_showNumber_35 : decode cX7_showNumber 35 = .ok (.lload_n 2, 1) := by decide +kernel
theorem dX7_showNumber_36 : decode cX7_showNumber 36 = .ok (.aload_n 1, 1) := by decide +kernel
theorem dX7_showNumber_37 : decode cX7_showNumber 37 = .ok (.getfield 71, 3) := by decide +kernel
theorem dX7_showNumber_40 : decode cX7_showNumber 40 = .ok (.iconst 3, 1) := by decide +kernel
theorem dX7_showNumber_41 : decode cX7_showNumber 41 = .ok (.iaload, 1) := by decide +kernel
theorem dX7_showNumber_42 : decode cX7_showNumber 42 = .ok (.aload_n 1, 1) := by decide +kernel
theorem dX7_showNumber_43 : decode cX7_showNumber 43 = .ok (.getfield 71, 3) := by decide +kernel
theorem dX7_showNumber_46 : decode cX7_showNumber 46 = .ok (.iconst 4, 1) := by decide +kernel
theorem dX7_showNumber_47 : decode cX7_showNumber 47 = .ok (.iaload, 1) := by decide +kernel
theorem dX7_showNumber_48 : decode cX7_showNumber 48 = .ok (.iconst 1, 1) := by decide +kernel
theorem dX7_showNumber_49 : decode cX7_showNumber 49 = .ok (.if_icmp .ne 7, 3) := by decide +kernel
theorem dX7_showNumber_52 : decode cX7_showNumber 52 = .ok (.iconst 1, 1) := by decide +kernel
theorem dX7_showNumber_53 : decode cX7_showNumber 53 = .ok (.goto 4, 3) := by decide +kernel
theorem dX7_showNumber_56 : decode cX7_showNumber 56 = .ok (.iconst 0, 1) := by decide +kernel
theorem dX7_showNumber_57 : decode cX7_showNumber 57 = .ok (.aload_n 0, 1) := by decide +kernel
theorem dX7_showNumber_58 : decode cX7_showNumber 58 = .ok (.getfield 14, 3) := by decide +kernel
theorem dX7_showNumber_61 : decode cX7_showNumber 61 = .ok (.invokestatic 75, 3) := by decide +kernel
theorem dX7_showNumber_64 : decode cX7_showNumber 64 = .ok (.return_, 1) := by decide +kernel
theorem dX7_fittingSize_0 : decode cX7_fittingSize 0 = .ok (.aload_n 0, 1) := by decide +kernel
theorem dX7_fittingSize_1 : decode cX7_fittingSize 1 = .ok (.aload_n 2, 1) := by decide +kernel
theorem dX7_fittingSize_2 : decode cX7_fittingSize 2 = .ok (.invokevirtual 79, 3) := by decide +kernel
theorem dX7_fittingSize_5 : decode cX7_fittingSize 5 = .ok (.invokevirtual 67, 3) := by decide +kernel
theorem dX7_fittingSize_8 : decode cX7_fittingSize 8 = .ok (.istore_n 3, 1) := by decide +kernel
theorem dX7_fittingSize_9 : decode cX7_fittingSize 9 = .ok (.aload_n 1, 1) := by decide +kernel
theorem dX7_fittingSize_10 : decode cX7_fittingSize 10 = .ok (.aload_n 2, 1) := by decide +kernel
theorem dX7_fittingSize_11 : decode cX7_fittingSize 11 = .ok (.getfield 71, 3) := by decide +kernel
theorem dX7_fittingSize_14 : decode cX7_fittingSize 14 = .ok (.iconst 1, 1) := by decide +kernel
theorem dX7_fittingSize_15 : decode cX7_fittingSize 15 = .ok (.iaload, 1) := by decide +kernel
theorem dX7_fittingSize_16 : decode cX7_fittingSize 16 = .ok (.ifCond .le 12, 3) := by decide +kernel
theorem dX7_fittingSize_19 : decode cX7_fittingSize 19 = .ok (.aload_n 2, 1) := by decide +kernel
theorem dX7_fittingSize_20 : decode cX7_fittingSize 20 = .ok (.getfield 71, 3) := by decide +kernel
theorem dX7_fittingSize_23 : decode cX7_fittingSize 23 = .ok (.iconst 1, 1) := by decide +kernel
theorem dX7_fittingSize_24 : decode cX7_fittingSize 24 = .ok (.iaload, 1) := by decide +kernel
theorem dX7_fittingSize_25 : decode cX7_fittingSize 25 = .ok (.goto 4, 3) := by decide +kernel
theorem dX7_fittingSize_28 : decode cX7_fittingSize 28 = .ok (.iload_n 3, 1) := by decide +kernel
theorem dX7_fittingSize_29 : decode cX7_fittingSize 29 = .ok (.invokestatic 83, 3) := by decide +kernel
theorem dX7_fittingSize_32 : decode cX7_fittingSize 32 = .ok (.ireturn, 1) := by decide +kernel
theorem dX7_sizeFor_0 : decode cX7_sizeFor 0 = .ok (.bipush 96, 2) := by decide +kernel
theorem dX7_sizeFor_2 : decode cX7_sizeFor 2 = .ok (.istore_n 2, 1) := by decide +kernel
theorem dX7_sizeFor_3 : decode cX7_sizeFor 3 = .ok (.iload_n 2, 1) := by decide +kernel
theorem dX7_sizeFor_4 : decode cX7_sizeFor 4 = .ok (.bipush 6, 2) := by decide +kernel
theorem dX7_sizeFor_6 : decode cX7_sizeFor 6 = .ok (.if_icmp .lt 51, 3) := by decide +kernel
theorem dX7_sizeFor_9 : decode cX7_sizeFor 9 = .ok (.iload_n 1, 1) := by decide +kernel
theorem dX7_sizeFor_10 : decode cX7_sizeFor 10 = .ok (.iload_n 2, 1) := by decide +kernel
theorem dX7_sizeFor_11 : decode cX7_sizeFor 11 = .ok (.iconst 2, 1) := by decide +kernel
theorem dX7_sizeFor_12 : decode cX7_sizeFor 12 = .ok (.idiv, 1) := by decide +kernel
theorem dX7_sizeFor_13 : decode cX7_sizeFor 13 = .ok (.imul, 1) := by decide +kernel
theorem dX7_sizeFor_14 : decode cX7_sizeFor 14 = .ok (.aload_n 0, 1) := by decide +kernel
theorem dX7_sizeFor_15 : decode cX7_sizeFor 15 = .ok (.getfield 71, 3) := by decide +kernel
theorem dX7_sizeFor_18 : decode cX7_sizeFor 18 = .ok (.iconst 5, 1) := by decide +kernel
theorem dX7_sizeFor_19 : decode cX7_sizeFor 19 = .ok (.iaload, 1) := by decide +kernel
theorem dX7_sizeFor_20 : decode cX7_sizeFor 20 = .ok (.if_icmp .gt 7, 3) := by decide +kernel
theorem dX7_sizeFor_23 : decode cX7_sizeFor 23 = .ok (.iconst 1, 1) := by decide +kernel
theorem dX7_sizeFor_24 : decode cX7_sizeFor 24 = .ok (.goto 4, 3) := by decide +kernel
theorem dX7_sizeFor_27 : decode cX7_sizeFor 27 = .ok (.iconst 0, 1) := by decide +kernel
theorem dX7_sizeFor_28 : decode cX7_sizeFor 28 = .ok (.istore_n 3, 1) := by decide +kernel
theorem dX7_sizeFor_29 : decode cX7_sizeFor 29 = .ok (.iload_n 3, 1) := by decide +kernel
theorem dX7_sizeFor_30 : decode cX7_sizeFor 30 = .ok (.ifCond .eq 20, 3) := by decide +kernel
theorem dX7_sizeFor_33 : decode cX7_sizeFor 33 = .ok (.iload_n 2, 1) := by decide +kernel
theorem dX7_sizeFor_34 : decode cX7_sizeFor 34 = .ok (.iload_n 2, 1) := by decide +kernel
theorem dX7_sizeFor_35 : decode cX7_sizeFor 35 = .ok (.iconst 4, 1) := by decide +kernel
theorem dX7_sizeFor_36 : decode cX7_sizeFor 36 = .ok (.idiv, 1) := by decide +kernel
theorem dX7_sizeFor_37 : decode cX7_sizeFor 37 = .ok (.iadd, 1) := by decide +kernel
theorem dX7_sizeFor_38 : decode cX7_sizeFor 38 = .ok (.aload_n 0, 1) := by decide +kernel
theorem dX7_sizeFor_39 : decode cX7_sizeFor 39 = .ok (.getfield 71, 3) := by decide +kernel
theorem dX7_sizeFor_42 : decode cX7_sizeFor 42 = .ok (.bipush 6, 2) := by decide +kernel
theorem dX7_sizeFor_44 : decode cX7_sizeFor 44 = .ok (.iaload, 1) := by decide +kernel
theorem dX7_sizeFor_45 : decode cX7_sizeFor 45 = .ok (.if_icmp .gt 5, 3) := by decide +kernel
theorem dX7_sizeFor_48 : decode cX7_sizeFor 48 = .ok (.iload_n 2, 1) := by decide +kernel
theorem dX7_sizeFor_49 : decode cX7_sizeFor 49 = .ok (.ireturn, 1) := by decide +kernel
theorem dX7_sizeFor_50 : decode cX7_sizeFor 50 = .ok (.iload_n 2, 1) := by decide +kernel
theorem dX7_sizeFor_51 : decode cX7_sizeFor 51 = .ok (.iconst 2, 1) := by decide +kernel
theorem dX7_sizeFor_52 : decode cX7_sizeFor 52 = .ok (.idiv, 1) := by decide +kernel
theorem dX7_sizeFor_53 : decode cX7_sizeFor 53 = .ok (.istore_n 2, 1) := by decide +kernel
theorem dX7_sizeFor_54 : decode cX7_sizeFor 54 = .ok (.goto (-51), 3) := by decide +kernel
theorem dX7_sizeFor_57 : decode cX7_sizeFor 57 = .ok (.bipush (-6), 2) := by decide +kernel
theorem dX7_sizeFor_59 : decode cX7_sizeFor 59 = .ok (.ireturn, 1) := by decide +kernel
theorem dX7_addMarks_0 : decode cX7_addMarks 0 = .ok (.aload_n 0, 1) := by decide +kernel
theorem dX7_addMarks_1 : decode cX7_addMarks 1 = .ok (.aload_n 2, 1) := by decide +kernel
theorem dX7_addMarks_2 : decode cX7_addMarks 2 = .ok (.invokevirtual 79, 3) := by decide +kernel
theorem dX7_addMarks_5 : decode cX7_addMarks 5 = .ok (.invokevirtual 67, 3) := by decide +kernel
theorem dX7_addMarks_8 : decode cX7_addMarks 8 = .ok (.istore 4, 2) := by decide +kernel
theorem dX7_addMarks_10 : decode cX7_addMarks 10 = .ok (.aload_n 2, 1) := by decide +kernel
theorem dX7_addMarks_11 : decode cX7_addMarks 11 = .ok (.getfield 71, 3) := by decide +kernel
theorem dX7_addMarks_14 : decode cX7_addMarks 14 = .ok (.iconst 1, 1) := by decide +kernel
theorem dX7_addMarks_15 : decode cX7_addMarks 15 = .ok (.iaload, 1) := by decide +kernel
theorem dX7_addMarks_16 : decode cX7_addMarks 16 = .ok (.istore 5, 2) := by decide +kernel
theorem dX7_addMarks_18 : decode cX7_addMarks 18 = .ok (.aload_n 1, 1) := by decide +kernel
theorem dX7_addMarks_19 : decode cX7_addMarks 19 = .ok (.iload 5, 2) := by decide +kernel
theorem dX7_addMarks_21 : decode cX7_addMarks 21 = .ok (.ifCond .le 8, 3) := by decide +kernel
theorem dX7_addMarks_24 : decode cX7_addMarks 24 = .ok (.iload 5, 2) := by decide +kernel
theorem dX7_addMarks_26 : decode cX7_addMarks 26 = .ok (.goto 5, 3) := by decide +kernel
theorem dX7_addMarks_29 : decode cX7_addMarks 29 = .ok (.iload 4, 2) := by decide +kernel
theorem dX7_addMarks_31 : decode cX7_addMarks 31 = .ok (.invokestatic 83, 3) := by decide +kernel
theorem dX7_addMarks_34 : decode cX7_addMarks 34 = .ok (.invokestatic 87, 3) := by decide +kernel
theorem dX7_addMarks_37 : decode cX7_addMarks 37 = .ok (.istore 6, 2) := by decide +kernel
theorem dX7_addMarks_39 : decode cX7_addMarks 39 = .ok (.aload_n 1, 1) := by decide +kernel
theorem dX7_addMarks_40 : decode cX7_addMarks 40 = .ok (.getfield 71, 3) := by decide +kernel
theorem dX7_addMarks_43 : decode cX7_addMarks 43 = .ok (.bipush 6, 2) := by decide +kernel
theorem dX7_addMarks_45 : decode cX7_addMarks 45 = .ok (.iaload, 1) := by decide +kernel
theorem dX7_addMarks_46 : decode cX7_addMarks 46 = .ok (.iload 6, 2) := by decide +kernel
theorem dX7_addMarks_48 : decode cX7_addMarks 48 = .ok (.isub, 1) := by decide +kernel
theorem dX7_addMarks_49 : decode cX7_addMarks 49 = .ok (.iconst 2, 1) := by decide +kernel
theorem dX7_addMarks_50 : decode cX7_addMarks 50 = .ok (.idiv, 1) := by decide +kernel
theorem dX7_addMarks_51 : decode cX7_addMarks 51 = .ok (.istore 7, 2) := by decide +kernel
theorem dX7_addMarks_53 : decode cX7_addMarks 53 = .ok (.aload_n 1, 1) := by decide +kernel
theorem dX7_addMarks_54 : decode cX7_addMarks 54 = .ok (.iload 4, 2) := by decide +kernel
theorem dX7_addMarks_56 : decode cX7_addMarks 56 = .ok (.iload 6, 2) := by decide +kernel
theorem dX7_addMarks_58 : decode cX7_addMarks 58 = .ok (.iconst 2, 1) := by decide +kernel
theorem dX7_addMarks_59 : decode cX7_addMarks 59 = .ok (.idiv, 1) := by decide +kernel
theorem dX7_addMarks_60 : decode cX7_addMarks 60 = .ok (.imul, 1) := by decide +kernel
theorem dX7_addMarks_61 : decode cX7_addMarks 61 = .ok (.invokestatic 92, 3) := by decide +kernel
theorem dX7_addMarks_64 : decode cX7_addMarks 64 = .ok (.istore 8, 2) := by decide +kernel
theorem dX7_addMarks_66 : decode cX7_addMarks 66 = .ok (.aload_n 3, 1) := by decide +kernel
theorem dX7_addMarks_67 : decode cX7_addMarks 67 = .ok (.iconst 0, 1) := by decide +kernel
theorem dX7_addMarks_68 : decode cX7_addMarks 68 = .ok (.iconst 0, 1) := by decide +kernel
theorem dX7_addMarks_69 : decode cX7_addMarks 69 = .ok (.iconst 0, 1) := by decide +kernel
theorem dX7_addMarks_70 : decode cX7_addMarks 70 = .ok (.iconst 0, 1) := by decide +kernel
theorem dX7_addMarks_71 : decode cX7_addMarks 71 = .ok (.aload_n 1, 1) := by decide +kernel
theorem dX7_addMarks_72 : decode cX7_addMarks 72 = .ok (.getfield 95, 3) := by decide +kernel
theorem dX7_addMarks_75 : decode cX7_addMarks 75 = .ok (.invokevirtual 98, 3) := by decide +kernel
theorem dX7_addMarks_78 : decode cX7_addMarks 78 = .ok (.iconst 0, 1) := by decide +kernel
theorem dX7_addMarks_79 : decode cX7_addMarks 79 = .ok (.istore 9, 2) := by decide +kernel
theorem dX7_addMarks_81 : decode cX7_addMarks 81 = .ok (.iload 9, 2) := by decide +kernel
theorem dX7_addMarks_83 : decode cX7_addMarks 83 = .ok (.iload 4, 2) := by decide +kernel
theorem dX7_addMarks_85 : decode cX7_addMarks 85 = .ok (.if_icmp .ge 67, 3) := by decide +kernel
theorem dX7_addMarks_88 : decode cX7_addMarks 88 = .ok (.iload 5, 2) := by decide +kernel
theorem dX7_addMarks_90 : decode cX7_addMarks 90 = .ok (.ifCond .le 21, 3) := by decide +kernel
theorem dX7_addMarks_93 : decode cX7_addMarks 93 = .ok (.iload 9, 2) := by decide +kernel
theorem dX7_addMarks_95 : decode cX7_addMarks 95 = .ok (.aload_n 1, 1) := by decide +kernel
theorem dX7_addMarks_96 : decode cX7_addMarks 96 = .ok (.getfield 71, 3) := by decide +kernel
theorem dX7_addMarks_99 : decode cX7_addMarks 99 = .ok (.iconst 5, 1) := by decide +kernel
theorem dX7_addMarks_100 : decode cX7_addMarks 100 = .ok (.iaload, 1) := by decide +kernel
theorem dX7_addMarks_101 : decode cX7_addMarks 101 = .ok (.iload 5, 2) := by decide +kernel
theorem dX7_addMarks_103 : decode cX7_addMarks 103 = .ok (.iload 6, 2) := by decide +kernel
theorem dX7_addMarks_105 : decode cX7_addMarks 105 = .ok (.invokestatic 103, 3) := by decide +kernel
theorem dX7_addMarks_108 : decode cX7_addMarks 108 = .ok (.goto 13, 3) := by decide +kernel
theorem dX7_addMarks_111 : decode cX7_addMarks 111 = .ok (.iload 8, 2) := by decide +kernel
theorem dX7_addMarks_113 : decode cX7_addMarks 113 = .ok (.iload 9, 2) := by decide +kernel
theorem dX7_addMarks_115 : decode cX7_addMarks 115 = .ok (.iload 6, 2) := by decide +kernel
theorem dX7_addMarks_117 : decode cX7_addMarks 117 = .ok (.iconst 2, 1) := by decide +kernel
theorem dX7_addMarks_118 : decode cX7_addMarks 118 = .ok (.idiv, 1) := by decide +kernel
theorem dX7_addMarks_119 : decode cX7_addMarks 119 = .ok (.imul, 1) := by decide +kernel
theorem dX7_addMarks_120 : decode cX7_addMarks 120 = .ok (.iadd, 1) := by decide +kernel
theorem dX7_addMarks_121 : decode cX7_addMarks 121 = .ok (.istore 10, 2) := by decide +kernel
theorem dX7_addMarks_123 : decode cX7_addMarks 123 = .ok (.aload_n 3, 1) := by decide +kernel
theorem dX7_addMarks_124 : decode cX7_addMarks 124 = .ok (.aload_n 0, 1) := by decide +kernel
theorem dX7_addMarks_125 : decode cX7_addMarks 125 = .ok (.getfield 14, 3) := by decide +kernel
theorem dX7_addMarks_128 : decode cX7_addMarks 128 = .ok (.iload 9, 2) := by decide +kernel
theorem dX7_addMarks_130 : decode cX7_addMarks 130 = .ok (.invokevirtual 51, 3) := by decide +kernel
theorem dX7_addMarks_133 : decode cX7_addMarks 133 = .ok (.iload 10, 2) := by decide +kernel
theorem dX7_addMarks_135 : decode cX7_addMarks 135 = .ok (.iload 7, 2) := by decide +kernel
theorem dX7_addMarks_137 : decode cX7_addMarks 137 = .ok (.iload 6, 2) := by decide +kernel
theorem dX7_addMarks_139 : decode cX7_addMarks 139 = .ok (.aload_n 1, 1) := by decide +kernel
theorem dX7_addMarks_140 : decode cX7_addMarks 140 = .ok (.getfield 95, 3) := by decide +kernel
theorem dX7_addMarks_143 : decode cX7_addMarks 143 = .ok (.invokevirtual 98, 3) := by decide +kernel
theorem dX7_addMarks_146 : decode cX7_addMarks 146 = .ok (.iinc 9 1, 3) := by decide +kernel
theorem dX7_addMarks_149 : decode cX7_addMarks 149 = .ok (.goto (-68), 3) := by decide +kernel
theorem dX7_addMarks_152 : decode cX7_addMarks 152 = .ok (.return_, 1) := by decide +kernel
theorem dX7_beginning_0 : decode cX7_beginning 0 = .ok (.aload_n 0, 1) := by decide +kernel
theorem dX7_beginning_1 : decode cX7_beginning 1 = .ok (.getfield 71, 3) := by decide +kernel
theorem dX7_beginning_4 : decode cX7_beginning 4 = .ok (.iconst 5, 1) := by decide +kernel
theorem dX7_beginning_5 : decode cX7_beginning 5 = .ok (.iaload, 1) := by decide +kernel
theorem dX7_beginning_6 : decode cX7_beginning 6 = .ok (.iload_n 1, 1) := by decide +kernel
theorem dX7_beginning_7 : decode cX7_beginning 7 = .ok (.isub, 1) := by decide +kernel
theorem dX7_beginning_8 : decode cX7_beginning 8 = .ok (.istore_n 2, 1) := by decide +kernel
theorem dX7_beginning_9 : decode cX7_beginning 9 = .ok (.aload_n 0, 1) := by decide +kernel
theorem dX7_beginning_10 : decode cX7_beginning 10 = .ok (.getfield 71, 3) := by decide +kernel
theorem dX7_beginning_13 : decode cX7_beginning 13 = .ok (.bipush 7, 2) := by decide +kernel
theorem dX7_beginning_15 : decode cX7_beginning 15 = .ok (.iaload, 1) := by decide +kernel
theorem dX7_beginning_16 : decode cX7_beginning 16 = .ok (.lookupswitch 34 #[(1, 28), (2, 32)], 28) := by decide +kernel
theorem dX7_beginning_44 : decode cX7_beginning 44 = .ok (.iload_n 2, 1) := by decide +kernel
theorem dX7_beginning_45 : decode cX7_beginning 45 = .ok (.iconst 2, 1) := by decide +kernel
theorem dX7_beginning_46 : decode cX7_beginning 46 = .ok (.idiv, 1) := by decide +kernel
theorem dX7_beginning_47 : decode cX7_beginning 47 = .ok (.ireturn, 1) := by decide +kernel
theorem dX7_beginning_48 : decode cX7_beginning 48 = .ok (.iload_n 2, 1) := by decide +kernel
theorem dX7_beginning_49 : decode cX7_beginning 49 = .ok (.ireturn, 1) := by decide +kernel
theorem dX7_beginning_50 : decode cX7_beginning 50 = .ok (.iconst 0, 1) := by decide +kernel
theorem dX7_beginning_51 : decode cX7_beginning 51 = .ok (.ireturn, 1) := by decide +kernel
theorem dX7_cellX_0 : decode cX7_cellX 0 = .ok (.iload_n 2, 1) := by decide +kernel
theorem dX7_cellX_1 : decode cX7_cellX 1 = .ok (.ifCond .gt 5, 3) := by decide +kernel
theorem dX7_cellX_4 : decode cX7_cellX 4 = .ok (.iconst 0, 1) := by decide +kernel
theorem dX7_cellX_5 : decode cX7_cellX 5 = .ok (.ireturn, 1) := by decide +kernel
theorem dX7_cellX_6 : decode cX7_cellX 6 = .ok (.iload_n 0, 1) := by decide +kernel
theorem dX7_cellX_7 : decode cX7_cellX 7 = .ok (.iload_n 1, 1) := by decide +kernel
theorem dX7_cellX_8 : decode cX7_cellX 8 = .ok (.imul, 1) := by decide +kernel
theorem dX7_cellX_9 : decode cX7_cellX 9 = .ok (.iload_n 2, 1) := by decide +kernel
theorem dX7_cellX_10 : decode cX7_cellX 10 = .ok (.idiv, 1) := by decide +kernel
theorem dX7_cellX_11 : decode cX7_cellX 11 = .ok (.iload_n 1, 1) := by decide +kernel
theorem dX7_cellX_12 : decode cX7_cellX 12 = .ok (.iload_n 2, 1) := by decide +kernel
theorem dX7_cellX_13 : decode cX7_cellX 13 = .ok (.idiv, 1) := by decide +kernel
theorem dX7_cellX_14 : decode cX7_cellX 14 = .ok (.iload_n 3, 1) := by decide +kernel
theorem dX7_cellX_15 : decode cX7_cellX 15 = .ok (.iconst 2, 1) := by decide +kernel
theorem dX7_cellX_16 : decode cX7_cellX 16 = .ok (.idiv, 1) := by decide +kernel
theorem dX7_cellX_17 : decode cX7_cellX 17 = .ok (.isub, 1) := by decide +kernel
theorem dX7_cellX_18 : decode cX7_cellX 18 = .ok (.iconst 2, 1) := by decide +kernel
theorem dX7_cellX_19 : decode cX7_cellX 19 = .ok (.idiv, 1) := by decide +kernel
theorem dX7_cellX_20 : decode cX7_cellX 20 = .ok (.iadd, 1) := by decide +kernel
theorem dX7_cellX_21 : decode cX7_cellX 21 = .ok (.ireturn, 1) := by decide +kernel
theorem dX8_init_0 : decode cX8_init 0 = .ok (.aload_n 0, 1) := by decide +kernel
theorem dX8_init_1 : decode cX8_init 1 = .ok (.invokespecial 3, 3) := by decide +kernel
theorem dX8_init_4 : decode cX8_init 4 = .ok (.aload_n 0, 1) := by decide +kernel
theorem dX8_init_5 : decode cX8_init 5 = .ok (.new 9, 3) := by decide +kernel
theorem dX8_init_8 : decode cX8_init 8 = .ok (.dup, 1) := by decide +kernel
theorem dX8_init_9 : decode cX8_init 9 = .ok (.sipush 2400, 3) := by decide +kernel
theorem dX8_init_12 : decode cX8_init 12 = .ok (.invokespecial 11, 3) := by decide +kernel
theorem dX8_init_15 : decode cX8_init 15 = .ok (.putfield 14, 3) := by decide +kernel
theorem dX8_init_18 : decode cX8_init 18 = .ok (.aload_n 0, 1) := by decide +kernel
theorem dX8_init_19 : decode cX8_init 19 = .ok (.new 9, 3) := by decide +kernel
theorem dX8_init_22 : decode cX8_init 22 = .ok (.dup, 1) := by decide +kernel
theorem dX8_init_23 : decode cX8_init 23 = .ok (.bipush 40, 2) := by decide +kernel
theorem dX8_init_25 : decode cX8_init 25 = .ok (.invokespecial 11, 3) := by decide +kernel
theorem dX8_init_28 : decode cX8_init 28 = .ok (.putfield 20, 3) := by decide +kernel
theorem dX8_init_31 : decode cX8_init 31 = .ok (.aload_n 0, 1) := by decide +kernel
theorem dX8_init_32 : decode cX8_init 32 = .ok (.aload_n 1, 1) := by decide +kernel
theorem dX8_init_33 : decode cX8_init 33 = .ok (.putfield 23, 3) := by decide +kernel
theorem dX8_init_36 : decode cX8_init 36 = .ok (.return_, 1) := by decide +kernel
theorem dX8_writeAll_0 : decode cX8_writeAll 0 = .ok (.aload_n 0, 1) := by decide +kernel
theorem dX8_writeAll_1 : decode cX8_writeAll 1 = .ok (.getfield 14, 3) := by decide +kernel
theorem dX8_writeAll_4 : decode cX8_writeAll 4 = .ok (.invokevirtual 27, 3) := by decide +kernel
theorem dX8_writeAll_7 : decode cX8_writeAll 7 = .ok (.iconst 0, 1) := by decide +kernel
theorem dX8_writeAll_8 : decode cX8_writeAll 8 = .ok (.istore_n 1, 1) := by decide +kernel
theorem dX8_writeAll_9 : decode cX8_writeAll 9 = .ok (.iload_n 1, 1) := by decide +kernel
theorem dX8_writeAll_10 : decode cX8_writeAll 10 = .ok (.aload_n 0, 1) := by decide +kernel
theorem dX8_writeAll_11 : decode cX8_writeAll 11 = .ok (.getfield 23, 3) := by decide +kernel
theorem dX8_writeAll_14 : decode cX8_writeAll 14 = .ok (.invokevirtual 30, 3) := by decide +kernel
theorem dX8_writeAll_17 : decode cX8_writeAll 17 = .ok (.if_icmp .ge 57, 3) := by decide +kernel
theorem dX8_writeAll_20 : decode cX8_writeAll 20 = .ok (.aload_n 0, 1) := by decide +kernel
theorem dX8_writeAll_21 : decode cX8_writeAll 21 = .ok (.getfield 23, 3) := by decide +kernel
theorem dX8_writeAll_24 : decode cX8_writeAll 24 = .ok (.iload_n 1, 1) := by decide +kernel
theorem dX8_writeAll_25 : decode cX8_writeAll 25 = .ok (.invokevirtual 36, 3) := by decide +kernel
theorem dX8_writeAll_28 : decode cX8_writeAll 28 = .ok (.ifCond .eq 40, 3) := by decide +kernel
theorem dX8_writeAll_31 : decode cX8_writeAll 31 = .ok (.aload_n 0, 1) := by decide +kernel
theorem dX8_writeAll_32 : decode cX8_writeAll 32 = .ok (.iload_n 1, 1) := by decide +kernel
theorem dX8_writeAll_33 : decode cX8_writeAll 33 = .ok (.invokevirtual 40, 3) := by decide +kernel
theorem dX8_writeAll_36 : decode cX8_writeAll 36 = .ok (.aload_n 0, 1) := by decide +kernel
theorem dX8_writeAll_37 : decode cX8_writeAll 37 = .ok (.getfield 14, 3) := by decide +kernel
theorem dX8_writeAll_40 : decode cX8_writeAll 40 = .ok (.bipush 61, 2) := by decide +kernel
theorem dX8_writeAll_42 : decode cX8_writeAll 42 = .ok (.invokevirtual 43, 3) := by decide +kernel
theorem dX8_writeAll_45 : decode cX8_writeAll 45 = .ok (.pop, 1) := by decide +kernel
theorem dX8_writeAll_46 : decode cX8_writeAll 46 = .ok (.aload_n 0, 1) := by decide +kernel
theorem dX8_writeAll_47 : decode cX8_writeAll 47 = .ok (.aload_n 0, 1) := by decide +kernel
theorem dX8_writeAll_48 : decode cX8_writeAll 48 = .ok (.getfield 23, 3) := by decide +kernel
theorem dX8_writeAll_51 : decode cX8_writeAll 51 = .ok (.iload_n 1, 1) := by decide +kernel
theorem dX8_writeAll_52 : decode cX8_writeAll 52 = .ok (.invokevirtual 46, 3) := by decide +kernel
theorem dX8_writeAll_55 : decode cX8_writeAll 55 = .ok (.invokevirtual 50, 3) := by decide +kernel
theorem dX8_writeAll_58 : decode cX8_writeAll 58 = .ok (.aload_n 0, 1) := by decide +kernel
theorem dX8_writeAll_59 : decode cX8_writeAll 59 = .ok (.getfield 14, 3) := by decide +kernel
theorem dX8_writeAll_62 : decode cX8_writeAll 62 = .ok (.bipush 10, 2) := by decide +kernel
theorem dX8_writeAll_64 : decode cX8_writeAll 64 = .ok (.invokevirtual 43, 3) := by decide +kernel
theorem dX8_writeAll_67 : decode cX8_writeAll 67 = .ok (.pop, 1) := by decide +kernel
theorem dX8_writeAll_68 : decode cX8_writeAll 68 = .ok (.iinc 1 1, 3) := by decide +kernel
theorem dX8_writeAll_71 : decode cX8_writeAll 71 = .ok (.goto (-62), 3) := by decide +kernel
theorem dX8_writeAll_74 : decode cX8_writeAll 74 = .ok (.aload_n 0, 1) := by decide +kernel
theorem dX8_writeAll_75 : decode cX8_writeAll 75 = .ok (.getfield 14, 3) := by decide +kernel
theorem dX8_writeAll_78 : decode cX8_writeAll 78 = .ok (.invokevirtual 54, 3) := by decide +kernel
theorem dX8_writeAll_81 : decode cX8_writeAll 81 = .ok (.ireturn, 1) := by decide +kernel
theorem dX8_addFullName_0 : decode cX8_addFullName 0 = .ok (.aload_n 0, 1) := by decide +kernel
theorem dX8_addFullName_1 : decode cX8_addFullName 1 = .ok (.getfield 20, 3) := by decide +kernel
theorem dX8_addFullName_4 : decode cX8_addFullName 4 = .ok (.invokevirtual 27, 3) := by decide +kernel
theorem dX8_addFullName_7 : decode cX8_addFullName 7 = .ok (.iload_n 1, 1) := by decide +kernel
theorem dX8_addFullName_8 : decode cX8_addFullName 8 = .ok (.istore_n 2, 1) := by decide +kernel
theorem dX8_addFullName_9 : decode cX8_addFullName 9 = .ok (.iconst 0, 1) := by decide +kernel
theorem dX8_addFullName_10 : decode cX8_addFullName 10 = .ok (.istore_n 3, 1) := by decide +kernel
theorem dX8_addFullName_11 : decode cX8_addFullName 11 = .ok (.iload_n 3, 1) := by decide +kernel
theorem dX8_addFullName_12 : decode cX8_addFullName 12 = .ok (.bipush 40, 2) := by decide +kernel
theorem dX8_addFullName_14 : decode cX8_addFullName 14 = .ok (.if_icmp .ge 45, 3) := by decide +kernel
theorem dX8_addFullName_17 : decode cX8_addFullName 17 = .ok (.iload_n 2, 1) := by decide +kernel
theorem dX8_addFullName_18 : decode cX8_addFullName 18 = .ok (.iconst (-1), 1) := by decide +kernel
theorem dX8_addFullName_19 : decode cX8_addFullName 19 = .ok (.if_icmp .eq 40, 3) := by decide +kernel
theorem dX8_addFullName_22 : decode cX8_addFullName 22 = .ok (.aload_n 0, 1) := by decide +kernel
theorem dX8_addFullName_23 : decode cX8_addFullName 23 = .ok (.getfield 20, 3) := by decide +kernel
theorem dX8_addFullName_26 : decode cX8_addFullName 26 = .ok (.aload_n 0, 1) := by decide +kernel
theorem dX8_addFullName_27 : decode cX8_addFullName 27 = .ok (.getfield 23, 3) := by decide +kernel
theorem dX8_addFullName_30 : decode cX8_addFullName 30 = .ok (.iload_n 2, 1) := by decide +kernel
theorem dX8_addFullName_31 : decode cX8_addFullName 31 = .ok (.invokevirtual 46, 3) := by decide +kernel
theorem dX8_addFullName_34 : decode cX8_addFullName 34 = .ok (.getfield 55, 3) := by decide +kernel
theorem dX8_addFullName_37 : decode cX8_addFullName 37 = .ok (.invokevirtual 43, 3) := by decide +kernel
theorem dX8_addFullName_40 : decode cX8_addFullName 40 = .ok (.pop, 1) := by decide +kernel
theorem dX8_addFullName_41 : decode cX8_addFullName 41 = .ok (.aload_n 0, 1) := by decide +kernel
theorem dX8_addFullName_42 : decode cX8_addFullName 42 = .ok (.getfield 23, 3) := by decide +kernel
theorem dX8_addFullName_45 : decode cX8_addFullName 45 = .ok (.iload_n 2, 1) := by decide +kernel
theorem dX8_addFullName_46 : decode cX8_addFullName 46 = .ok (.invokevirtual 46, 3) := by decide +kernel
theorem dX8_addFullName_49 : decode cX8_addFullName 49 = .ok (.getfield 61, 3) := by decide +kernel
theorem dX8_addFullName_52 : decode cX8_addFullName 52 = .ok (.istore_n 2, 1) := by decide +kernel
theorem dX8_addFullName_53 : decode cX8_addFullName 53 = .ok (.iinc 3 1, 3) := by decide +kernel
theorem dX8_addFullName_56 : decode cX8_addFullName 56 = .ok (.goto (-45), 3) := by decide +kernel
theorem dX8_addFullName_59 : decode cX8_addFullName 59 = .ok (.aload_n 0, 1) := by decide +kernel
theorem dX8_addFullName_60 : decode cX8_addFullName 60 = .ok (.getfield 20, 3) := by decide +kernel
theorem dX8_addFullName_63 : decode cX8_addFullName 63 = .ok (.invokevirtual 54, 3) := by decide +kernel
theorem dX8_addFullName_66 : decode cX8_addFullName 66 = .ok (.iconst 1, 1) := by decide +kernel
theorem dX8_addFullName_67 : decode cX8_addFullName 67 = .ok (.isub, 1) := by decide +kernel
theorem dX8_addFullName_68 : decode cX8_addFullName 68 = .ok (.istore_n 3, 1) := by decide +kernel
theorem dX8_addFullName_69 : decode cX8_addFullName 69 = .ok (.iload_n 3, 1) := by decide +kernel
theorem dX8_addFullName_70 : decode cX8_addFullName 70 = .ok (.ifCond .lt 40, 3) := by decide +kernel
theorem dX8_addFullName_73 : decode cX8_addFullName 73 = .ok (.aload_n 0, 1) := by decide +kernel
theorem dX8_addFullName_74 : decode cX8_addFullName 74 = .ok (.getfield 20, 3) := by decide +kernel
theorem dX8_addFullName_77 : decode cX8_addFullName 77 = .ok (.iload_n 3, 1) := by decide +kernel
theorem dX8_addFullName_78 : decode cX8_addFullName 78 = .ok (.invokevirtual 64, 3) := by decide +kernel
theorem dX8_addFullName_81 : decode cX8_addFullName 81 = .ok (.i2l, 1) := by decide +kernel
theorem dX8_addFullName_82 : decode cX8_addFullName 82 = .ok (.iconst 0, 1) := by decide +kernel
theorem dX8_addFullName_83 : decode cX8_addFullName 83 = .ok (.aload_n 0, 1) := by decide +kernel
theorem dX8_addFullName_84 : decode cX8_addFullName 84 = .ok (.getfield 14, 3) := by decide +kernel
theorem dX8_addFullName_87 : decode cX8_addFullName 87 = .ok (.invokestatic 67, 3) := by decide +kernel
theorem dX8_addFullName_90 : decode cX8_addFullName 90 = .ok (.iload_n 3, 1) := by decide +kernel
theorem dX8_addFullName_91 : decode cX8_addFullName 91 = .ok (.ifCond .le 13, 3) := by decide +kernel
theorem dX8_addFullName_94 : decode cX8_addFullName 94 = .ok (.aload_n 0, 1) := by decide +kernel
theorem dX8_addFullName_95 : decode cX8_addFullName 95 = .ok (.getfield 14, 3) := by decide +kernel
theorem dX8_addFullName_98 : decode cX8_addFullName 98 = .ok (.bipush 46, 2) := by decide +kernel
theorem dX8_addFullName_100 : decode cX8_addFullName 100 = .ok (.invokevirtual 43, 3) := by decide +kernel
theorem dX8_addFullName_103 : decode cX8_addFullName 103 = .ok (.pop, 1) := by decide +kernel
theorem dX8_addFullName_104 : decode cX8_addFullName 104 = .ok (.iinc 3 (-1), 3) := by decide +kernel
theorem dX8_addFullName_107 : decode cX8_addFullName 107 = .ok (.goto (-38), 3) := by decide +kernel
theorem dX8_addFullName_110 : decode cX8_addFullName 110 = .ok (.return_, 1) := by decide +kernel
theorem dX8_addContent_0 : decode cX8_addContent 0 = .ok (.aload_n 1, 1) := by decide +kernel
theorem dX8_addContent_1 : decode cX8_addContent 1 = .ok (.invokevirtual 73, 3) := by decide +kernel
theorem dX8_addContent_4 : decode cX8_addContent 4 = .ok (.ifCond .eq 25, 3) := by decide +kernel
theorem dX8_addContent_7 : decode cX8_addContent 7 = .ok (.aload_n 0, 1) := by decide +kernel
theorem dX8_addContent_8 : decode cX8_addContent 8 = .ok (.getfield 14, 3) := by decide +kernel
theorem dX8_addContent_11 : decode cX8_addContent 11 = .ok (.aload_n 1, 1) := by decide +kernel
theorem dX8_addContent_12 : decode cX8_addContent 12 = .ok (.getfield 77, 3) := by decide +kernel
theorem dX8_addContent_15 : decode cX8_addContent 15 = .ok (.iconst 0, 1) := by decide +kernel
theorem dX8_addContent_16 : decode cX8_addContent 16 = .ok (.aload_n 1, 1) := by decide +kernel
theorem dX8_addContent_17 : decode cX8_addContent 17 = .ok (.getfield 77, 3) := by decide +kernel
theorem dX8_addContent_20 : decode cX8_addContent 20 = .ok (.invokevirtual 54, 3) := by decide +kernel
theorem dX8_addContent_23 : decode cX8_addContent 23 = .ok (.invokevirtual 80, 3) := by decide +kernel
theorem dX8_addContent_26 : decode cX8_addContent 26 = .ok (.goto 63, 3) := by decide +kernel
theorem dX8_addContent_29 : decode cX8_addContent 29 = .ok (.aload_n 1, 1) := by decide +kernel
theorem dX8_addContent_30 : decode cX8_addContent 30 = .ok (.getfield 84, 3) := by decide +kernel
theorem dX8_addContent_33 : decode cX8_addContent 33 = .ok (.iconst 2, 1) := by decide +kernel
theorem dX8_addContent_34 : decode cX8_addContent 34 = .ok (.if_icmp .ne 21, 3) := by decide +kernel
theorem dX8_addContent_37 : decode cX8_addContent 37 = .ok (.aload_n 0, 1) := by decide +kernel
theorem dX8_addContent_38 : decode cX8_addContent 38 = .ok (.getfield 14, 3) := by decide +kernel
theorem dX8_addContent_41 : decode cX8_addContent 41 = .ok (.bipush 48, 2) := by decide +kernel
theorem dX8_addContent_43 : decode cX8_addContent 43 = .ok (.aload_n 1, 1) := by decide +kernel
theorem dX8_addContent_44 : decode cX8_addContent 44 = .ok (.getfield 87, 3) := by decide +kernel
theorem dX8_addContent_47 : decode cX8_addContent 47 = .ok (.iadd, 1) := by decide +kernel
theorem dX8_addContent_48 : decode cX8_addContent 48 = .ok (.invokevirtual 43, 3) := by decide +kernel
theorem dX8_addContent_51 : decode cX8_addContent 51 = .ok (.pop, 1) := by decide +kernel
theorem dX8_addContent_52 : decode cX8_addContent 52 = .ok (.goto 37, 3) := by decide +kernel
theorem dX8_addContent_55 : decode cX8_addContent 55 = .ok (.aload_n 1, 1) := by decide +kernel
theorem dX8_addContent_56 : decode cX8_addContent 56 = .ok (.getfield 90, 3) := by decide +kernel
theorem dX8_addContent_59 : decode cX8_addContent 59 = .ok (.aload_n 1, 1) := by decide +kernel
theorem dX8_addContent_60 : decode cX8_addContent 60 = .ok (.getfield 87, 3) := by decide +kernel
theorem dX8_addContent_63 : decode cX8_addContent 63 = .ok (.invokevirtual 93, 3) := by decide +kernel
theorem dX8_addContent_66 : decode cX8_addContent 66 = .ok (.ifCond .eq 23, 3) := by decide +kernel
theorem dX8_addContent_69 : decode cX8_addContent 69 = .ok (.aload_n 1, 1) := by decide +kernel
theorem dX8_addContent_70 : decode cX8_addContent 70 = .ok (.getfield 90, 3) := by decide +kernel
theorem dX8_addContent_73 : decode cX8_addContent 73 = .ok (.aload_n 1, 1) := by decide +kernel
theorem dX8_addContent_74 : decode cX8_addContent 74 = .ok (.getfield 87, 3) := by decide +kernel
theorem dX8_addContent_77 : decode cX8_addContent 77 = .ok (.invokevirtual 64, 3) := by decide +kernel
theorem dX8_addContent_80 : decode cX8_addContent 80 = .ok (.i2l, 1) := by decide +kernel
theorem dX8_addContent_81 : decode cX8_addContent 81 = .ok (.iconst 0, 1) := by decide +kernel
theorem dX8_addContent_82 : decode cX8_addContent 82 = .ok (.aload_n 0, 1) := by decide +kernel
theorem dX8_addContent_83 : decode cX8_addContent 83 = .ok (.getfield 14, 3) := by decide +kernel
theorem dX8_addContent_86 : decode cX8_addContent 86 = .ok (.invokestatic 67, 3) := by decide +kernel
theorem dX8_addContent_89 : decode cX8_addContent 89 = .ok (.return_, 1) := by decide +kernel
theorem dX9_init_0 : decode cX9_init 0 = .ok (.aload_n 0, 1) := by decide +kernel
theorem dX9_init_1 : decode cX9_init 1 = .ok (.invokespecial 3, 3) := by decide +kernel
theorem dX9_init_4 : decode cX9_init 4 = .ok (.aload_n 0, 1) := by decide +kernel
theorem dX9_init_5 : decode cX9_init 5 = .ok (.new 9, 3) := by decide +kernel
theorem dX9_init_8 : decode cX9_init 8 = .ok (.dup, 1) := by decide +kernel
theorem dX9_init_9 : decode cX9_init 9 = .ok (.invokespecial 11, 3) := by decide +kernel
theorem dX9_init_12 : decode cX9_init 12 = .ok (.putfield 12, 3) := by decide +kernel
theorem dX9_init_15 : decode cX9_init 15 = .ok (.aload_n 0, 1) := by decide +kernel
theorem dX9_init_16 : decode cX9_init 16 = .ok (.new 18, 3) := by decide +kernel
theorem dX9_init_19 : decode cX9_init 19 = .ok (.dup, 1) := by decide +kernel
theorem dX9_init_20 : decode cX9_init 20 = .ok (.invokespecial 20, 3) := by decide +kernel
theorem dX9_init_23 : decode cX9_init 23 = .ok (.putfield 21, 3) := by decide +kernel
theorem dX9_init_26 : decode cX9_init 26 = .ok (.aload_n 0, 1) := by decide +kernel
theorem dX9_init_27 : decode cX9_init 27 = .ok (.new 25, 3) := by decide +kernel
theorem dX9_init_30 : decode cX9_init 30 = .ok (.dup, 1) := by decide +kernel
theorem dX9_init_31 : decode cX9_init 31 = .ok (.aload_n 0, 1) := by decide +kernel
theorem dX9_init_32 : decode cX9_init 32 = .ok (.getfield 12, 3) := by decide +kernel
theorem dX9_init_35 : decode cX9_init 35 = .ok (.invokespecial 27, 3) := by decide +kernel
theorem dX9_init_38 : decode cX9_init 38 = .ok (.putfield 30, 3) := by decide +kernel
theorem dX9_init_41 : decode cX9_init 41 = .ok (.aload_n 0, 1) := by decide +kernel
theorem dX9_init_42 : decode cX9_init 42 = .ok (.new 34, 3) := by decide +kernel
theorem dX9_init_45 : decode cX9_init 45 = .ok (.dup, 1) := by decide +kernel
theorem dX9_init_46 : decode cX9_init 46 = .ok (.aload_n 0, 1) := by decide +kernel
theorem dX9_init_47 : decode cX9_init 47 = .ok (.getfield 12, 3) := by decide +kernel
theorem dX9_init_50 : decode cX9_init 50 = .ok (.invokespecial 36, 3) := by decide +kernel
theorem dX9_init_53 : decode cX9_init 53 = .ok (.putfield 37, 3) := by decide +kernel
theorem dX9_init_56 : decode cX9_init 56 = .ok (.aload_n 0, 1) := by decide +kernel
theorem dX9_init_57 : decode cX9_init 57 = .ok (.new 41, 3) := by decide +kernel
theorem dX9_init_60 : decode cX9_init 60 = .ok (.dup, 1) := by decide +kernel
theorem dX9_init_61 : decode cX9_init 61 = .ok (.aload_n 0, 1) := by decide +kernel
theorem dX9_init_62 : decode cX9_init 62 = .ok (.getfield 12, 3) := by decide +kernel
theorem dX9_init_65 : decode cX9_init 65 = .ok (.invokespecial 43, 3) := by decide +kernel
theorem dX9_init_68 : decode cX9_init 68 = .ok (.putfield 44, 3) := by decide +kernel
theorem dX9_init_71 : decode cX9_init 71 = .ok (.aload_n 0, 1) := by decide +kernel
theorem dX9_init_72 : decode cX9_init 72 = .ok (.new 48, 3) := by decide +kernel
theorem dX9_init_75 : decode cX9_init 75 = .ok (.dup, 1) := by decide +kernel
theorem dX9_init_76 : decode cX9_init 76 = .ok (.bipush 31, 2) := by decide +kernel
theorem dX9_init_78 : decode cX9_init 78 = .ok (.invokespecial 50, 3) := by decide +kernel
theorem dX9_init_81 : decode cX9_init 81 = .ok (.putfield 53, 3) := by decide +kernel
theorem dX9_init_84 : decode cX9_init 84 = .ok (.aload_n 0, 1) := by decide +kernel
theorem dX9_init_85 : decode cX9_init 85 = .ok (.new 48, 3) := by decide +kernel
theorem dX9_init_88 : decode cX9_init 88 = .ok (.dup, 1) := by decide +kernel
theorem dX9_init_89 : decode cX9_init 89 = .ok (.sipush 400, 3) := by decide +kernel
theorem dX9_init_92 : decode cX9_init 92 = .ok (.invokespecial 50, 3) := by decide +kernel
theorem dX9_init_95 : decode cX9_init 95 = .ok (.putfield 57, 3) := by decide +kernel
theorem dX9_init_98 : decode cX9_init 98 = .ok (.return_, 1) := by decide +kernel
theorem dX9_field_0 : decode cX9_field 0 = .ok (.iload_n 1, 1) := by decide +kernel
theorem dX9_field_1 : decode cX9_field 1 = .ok (.iconst (-1), 1) := by decide +kernel
theorem dX9_field_2 : decode cX9_field 2 = .ok (.if_icmp .ne 7, 3) := by decide +kernel
theorem dX9_field_5 : decode cX9_field 5 = .ok (.iconst (-1), 1) := by decide +kernel
theorem dX9_field_6 : decode cX9_field 6 = .ok (.goto 14, 3) := by decide +kernel
theorem dX9_field_9 : decode cX9_field 9 = .ok (.aload_n 0, 1) := by decide +kernel
theorem dX9_field_10 : decode cX9_field 10 = .ok (.getfield 12, 3) := by decide +kernel
theorem dX9_field_13 : decode cX9_field 13 = .ok (.iload_n 1, 1) := by decide +kernel
theorem dX9_field_14 : decode cX9_field 14 = .ok (.invokevirtual 60, 3) := by decide +kernel
theorem dX9_field_17 : decode cX9_field 17 = .ok (.getfield 64, 3) := by decide +kernel
theorem dX9_field_20 : decode cX9_field 20 = .ok (.istore 4, 2) := by decide +kernel
theorem dX9_field_22 : decode cX9_field 22 = .ok (.iload_n 2, 1) := by decide +kernel
theorem dX9_field_23 : decode cX9_field 23 = .ok (.ifCond .lt 19, 3) := by decide +kernel
theorem dX9_field_26 : decode cX9_field 26 = .ok (.iload_n 2, 1) := by decide +kernel
theorem dX9_field_27 : decode cX9_field 27 = .ok (.iconst 5, 1) := by decide +kernel
theorem dX9_field_28 : decode cX9_field 28 = .ok (.if_icmp .gt 14, 3) := by decide +kernel
theorem dX9_field_31 : decode cX9_field 31 = .ok (.iload_n 3, 1) := by decide +kernel
theorem dX9_field_32 : decode cX9_field 32 = .ok (.ifCond .lt 10, 3) := by decide +kernel
theorem dX9_field_35 : decode cX9_field 35 = .ok (.iload_n 3, 1) := by decide +kernel
theorem dX9_field_36 : decode cX9_field 36 = .ok (.sipush 999, 3) := by decide +kernel
theorem dX9_field_39 : decode cX9_field 39 = .ok (.if_icmp .le 11, 3) := by decide +kernel
theorem dX9_field_42 : decode cX9_field 42 = .ok (.new 70, 3) := by decide +kernel
theorem dX9_field_45 : decode cX9_field 45 = .ok (.dup, 1) := by decide +kernel
theorem dX9_field_46 : decode cX9_field 46 = .ok (.invokespecial 72, 3) := by decide +kernel
theorem dX9_field_49 : decode cX9_field 49 = .ok (.athrow, 1) := by decide +kernel
theorem dX9_field_50 : decode cX9_field 50 = .ok (.iload_n 1, 1) := by decide +kernel
theorem dX9_field_51 : decode cX9_field 51 = .ok (.iconst (-1), 1) := by decide +kernel
theorem dX9_field_52 : decode cX9_field 52 = .ok (.if_icmp .eq 25, 3) := by decide +kernel
theorem dX9_field_55 : decode cX9_field 55 = .ok (.aload_n 0, 1) := by decide +kernel
theorem dX9_field_56 : decode cX9_field 56 = .ok (.getfield 12, 3) := by decide +kernel
theorem dX9_field_59 : decode cX9_field 59 = .ok (.iload_n 1, 1) := by decide +kernel
theorem dX9_field_60 : decode cX9_field 60 = .ok (.invokevirtual 60, 3) := by decide +kernel
theorem dX9_field_63 : decode cX9_field 63 = .ok (.getfield 73, 3) := by decide +kernel
theorem dX9_field_66 : decode cX9_field 66 = .ok (.ifCond .eq 11, 3) := by decide +kernel
theorem dX9_field_69 : decode cX9_field 69 = .ok (.new 70, 3) := by decide +kernel
theorem dX9_field_72 : decode cX9_field 72 = .ok (.dup, 1) := by decide +kernel
theorem dX9_field_73 : decode cX9_field 73 = .ok (.invokespecial 72, 3) := by decide +kernel
theorem dX9_field_76 : decode cX9_field 76 = .ok (.athrow, 1) := by decide +kernel
theorem dX9_field_77 : decode cX9_field 77 = .ok (.aload_n 0, 1) := by decide +kernel
theorem dX9_field_78 : decode cX9_field 78 = .ok (.getfield 12, 3) := by decide +kernel
theorem dX9_field_81 : decode cX9_field 81 = .ok (.iload 4, 2) := by decide +kernel
theorem dX9_field_83 : decode cX9_field 83 = .ok (.iload_n 3, 1) := by decide +kernel
theorem dX9_field_84 : decode cX9_field 84 = .ok (.invokevirtual 76, 3) := by decide +kernel
theorem dX9_field_87 : decode cX9_field 87 = .ok (.istore 5, 2) := by decide +kernel
theorem dX9_field_89 : decode cX9_field 89 = .ok (.iload 5, 2) := by decide +kernel
theorem dX9_field_91 : decode cX9_field 91 = .ok (.iconst (-1), 1) := by decide +kernel
theorem dX9_field_92 : decode cX9_field 92 = .ok (.if_icmp .eq 27, 3) := by decide +kernel
theorem dX9_field_95 : decode cX9_field 95 = .ok (.aload_n 0, 1) := by decide +kernel
theorem dX9_field_96 : decode cX9_field 96 = .ok (.getfield 12, 3) := by decide +kernel
theorem dX9_field_99 : decode cX9_field 99 = .ok (.iload 5, 2) := by decide +kernel
theorem dX9_field_101 : decode cX9_field 101 = .ok (.invokevirtual 60, 3) := by decide +kernel
theorem dX9_field_104 : decode cX9_field 104 = .ok (.getfield 73, 3) := by decide +kernel
theorem dX9_field_107 : decode cX9_field 107 = .ok (.iload_n 2, 1) := by decide +kernel
theorem dX9_field_108 : decode cX9_field 108 = .ok (.if_icmp .eq 11, 3) := by decide +kernel
theorem dX9_field_111 : decode cX9_field 111 = .ok (.new 80, 3) := by decide +kernel
theorem dX9_field_114 : decode cX9_field 114 = .ok (.dup, 1) := by decide +kernel
theorem dX9_field_115 : decode cX9_field 115 = .ok (.invokespecial 82, 3) := by decide +kernel
theorem dX9_field_118 : decode cX9_field 118 = .ok (.athrow, 1) := by decide +kernel
theorem dX9_field_119 : decode cX9_field 119 = .ok (.aload_n 0, 1) := by decide +kernel
theorem dX9_field_120 : decode cX9_field 120 = .ok (.getfield 12, 3) := by decide +kernel
theorem dX9_field_123 : decode cX9_field 123 = .ok (.iload_n 1, 1) := by decide +kernel
theorem dX9_field_124 : decode cX9_field 124 = .ok (.iload_n 2, 1) := by decide +kernel
theorem dX9_field_125 : decode cX9_field 125 = .ok (.iload_n 3, 1) := by decide +kernel
theorem dX9_field_126 : decode cX9_field 126 = .ok (.iload 5, 2) := by decide +kernel
theorem dX9_field_128 : decode cX9_field 128 = .ok (.invokevirtual 83, 3) := by decide +kernel
theorem dX9_field_131 : decode cX9_field 131 = .ok (.ireturn, 1) := by decide +kernel
theorem dX9_value_0 : decode cX9_value 0 = .ok (.aload_n 0, 1) := by decide +kernel
theorem dX9_value_1 : decode cX9_value 1 = .ok (.getfield 12, 3) := by decide +kernel
theorem dX9_value_4 : decode cX9_value 4 = .ok (.iload_n 1, 1) := by decide +kernel
theorem dX9_value_5 : decode cX9_value 5 = .ok (.invokevirtual 60, 3) := by decide +kernel
theorem dX9_value_8 : decode cX9_value 8 = .ok (.astore_n 3, 1) := by decide +kernel
theorem dX9_value_9 : decode cX9_value 9 = .ok (.aload_n 0, 1) := by decide +kernel
theorem dX9_value_10 : decode cX9_value 10 = .ok (.getfield 12, 3) := by decide +kernel
theorem dX9_value_13 : decode cX9_value 13 = .ok (.iload_n 1, 1) := by decide +kernel
theorem dX9_value_14 : decode cX9_value 14 = .ok (.invokevirtual 87, 3) := by decide +kernel
theorem dX9_value_17 : decode cX9_value 17 = .ok (.astore 4, 2) := by decide +kernel
theorem dX9_value_19 : decode cX9_value 19 = .ok (.aload 4, 2) := by decide +kernel
theorem dX9_value_21 : decode cX9_value 21 = .ok (.iload_n 2, 1) := by decide +kernel
theorem dX9_value_22 : decode cX9_value 22 = .ok (.invokevirtual 90, 3) := by decide +kernel
theorem dX9_value_25 : decode cX9_value 25 = .ok (.ifCond .ne 11, 3) := by decide +kernel
theorem dX9_value_28 : decode cX9_value 28 = .ok (.new 70, 3) := by decide +kernel
theorem dX9_value_31 : decode cX9_value 31 = .ok (.dup, 1) := by decide +kernel
theorem dX9_value_32 : decode cX9_value 32 = .ok (.invokespecial 72, 3) := by decide +kernel
theorem dX9_value_35 : decode cX9_value 35 = .ok (.athrow, 1) := by decide +kernel
theorem dX9_value_36 : decode cX9_value 36 = .ok (.aload 4, 2) := by decide +kernel
theorem dX9_value_38 : decode cX9_value 38 = .ok (.getfield 94, 3) := by decide +kernel
theorem dX9_value_41 : decode cX9_value 41 = .ok (.ifCond .ne 10, 3) := by decide +kernel
theorem dX9_value_44 : decode cX9_value 44 = .ok (.aload_n 3, 1) := by decide +kernel
theorem dX9_value_45 : decode cX9_value 45 = .ok (.getfield 98, 3) := by decide +kernel
theorem dX9_value_48 : decode cX9_value 48 = .ok (.ifCond .eq 11, 3) := by decide +kernel
theorem dX9_value_51 : decode cX9_value 51 = .ok (.new 80, 3) := by decide +kernel
theorem dX9_value_54 : decode cX9_value 54 = .ok (.dup, 1) := by decide +kernel
theorem dX9_value_55 : decode cX9_value 55 = .ok (.invokespecial 82, 3) := by decide +kernel
theorem dX9_value_58 : decode cX9_value 58 = .ok (.athrow, 1) := by decide +kernel
theorem dX9_value_59 : decode cX9_value 59 = .ok (.aload 4, 2) := by decide +kernel
theorem dX9_value_61 : decode cX9_value 61 = .ok (.invokevirtual 101, 3) := by decide +kernel
theorem dX9_value_64 : decode cX9_value 64 = .ok (.ifCond .eq 12, 3) := by decide +kernel
theorem dX9_value_67 : decode cX9_value 67 = .ok (.aload 4, 2) := by decide +kernel
theorem dX9_value_69 : decode cX9_value 69 = .ok (.iload_n 2, 1) := by decide +kernel
theorem dX9_value_70 : decode cX9_value 70 = .ok (.invokevirtual 105, 3) := by decide +kernel
theorem dX9_value_73 : decode cX9_value 73 = .ok (.goto 9, 3) := by decide +kernel
theorem dX9_value_76 : decode cX9_value 76 = .ok (.aload 4, 2) := by decide +kernel
theorem dX9_value_78 : decode cX9_value 78 = .ok (.iload_n 2, 1) := by decide +kernel
theorem dX9_value_79 : decode cX9_value 79 = .ok (.invokevirtual 109, 3) := by decide +kernel
theorem dX9_value_82 : decode cX9_value 82 = .ok (.ireturn, 1) := by decide +kernel
theorem dX9_option_0 : decode cX9_option 0 = .ok (.aload_n 0, 1) := by decide +kernel
theorem dX9_option_1 : decode cX9_option 1 = .ok (.getfield 12, 3) := by decide +kernel
theorem dX9_option_4 : decode cX9_option 4 = .ok (.iload_n 1, 1) := by decide +kernel
theorem dX9_option_5 : decode cX9_option 5 = .ok (.invokevirtual 87, 3) := by decide +kernel
theorem dX9_option_8 : decode cX9_option 8 = .ok (.astore_n 3, 1) := by decide +kernel
theorem dX9_option_9 : decode cX9_option 9 = .ok (.aload_n 3, 1) := by decide +kernel
theorem dX9_option_10 : decode cX9_option 10 = .ok (.invokevirtual 112, 3) := by decide +kernel
theorem dX9_option_13 : decode cX9_option 13 = .ok (.ifCond .eq 25, 3) := by decide +kernel
theorem dX9_option_16 : decode cX9_option 16 = .ok (.iload_n 2, 1) := by decide +kernel
theorem dX9_option_17 : decode cX9_option 17 = .ok (.ifCond .lt 21, 3) := by decide +kernel
theorem dX9_option_20 : decode cX9_option 20 = .ok (.iload_n 2, 1) := by decide +kernel
theorem dX9_option_21 : decode cX9_option 21 = .ok (.ldc 115, 2) := by decide +kernel
theorem dX9_option_23 : decode cX9_option 23 = .ok (.if_icmp .gt 15, 3) := by decide +kernel
theorem dX9_option_26 : decode cX9_option 26 = .ok (.aload_n 3, 1) := by decide +kernel
theorem dX9_option_27 : decode cX9_option 27 = .ok (.getfield 116, 3) := by decide +kernel
theorem dX9_option_30 : decode cX9_option 30 = .ok (.iload_n 2, 1) := by decide +kernel
theorem dX9_option_31 : decode cX9_option 31 = .ok (.invokevirtual 120, 3) := by decide +kernel
theorem dX9_option_34 : decode cX9_option 34 = .ok (.iconst (-1), 1) := by decide +kernel
theorem dX9_option_35 : decode cX9_option 35 = .ok (.if_icmp .eq 11, 3) := by decide +kernel
theorem dX9_option_38 : decode cX9_option 38 = .ok (.new 70, 3) := by decide +kernel
theorem dX9_option_41 : decode cX9_option 41 = .ok (.dup, 1) := by decide +kernel
theorem dX9_option_42 : decode cX9_option 42 = .ok (.invokespecial 72, 3) := by decide +kernel
theorem dX9_option_45 : decode cX9_option 45 = .ok (.athrow, 1) := by decide +kernel
theorem dX9_option_46 : decode cX9_option 46 = .ok (.aload_n 3, 1) := by decide +kernel
theorem dX9_option_47 : decode cX9_option 47 = .ok (.getfield 116, 3) := by decide +kernel
theorem dX9_option_50 : decode cX9_option 50 = .ok (.iload_n 2, 1) := by decide +kernel
theorem dX9_option_51 : decode cX9_option 51 = .ok (.invokevirtual 125, 3) := by decide +kernel
theorem dX9_option_54 : decode cX9_option 54 = .ok (.ifCond .ne 11, 3) := by decide +kernel
theorem dX9_option_57 : decode cX9_option 57 = .ok (.new 127, 3) := by decide +kernel
theorem dX9_option_60 : decode cX9_option 60 = .ok (.dup, 1) := by decide +kernel
theorem dX9_option_61 : decode cX9_option 61 = .ok (.invokespecial 129, 3) := by decide +kernel
theorem dX9_option_64 : decode cX9_option 64 = .ok (.athrow, 1) := by decide +kernel
theorem dX9_option_65 : decode cX9_option 65 = .ok (.aload_n 3, 1) := by decide +kernel
theorem dX9_option_66 : decode cX9_option 66 = .ok (.getfield 116, 3) := by decide +kernel
theorem dX9_option_69 : decode cX9_option 69 = .ok (.invokevirtual 130, 3) := by decide +kernel
theorem dX9_option_72 : decode cX9_option 72 = .ok (.iconst 1, 1) := by decide +kernel
theorem dX9_option_73 : decode cX9_option 73 = .ok (.isub, 1) := by decide +kernel
theorem dX9_option_74 : decode cX9_option 74 = .ok (.ireturn, 1) := by decide +kernel
