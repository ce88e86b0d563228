theorem dX4_init_0 : decode cX4_init 0 = .ok (.aload_n 0, 1) := by decide +kernel
theorem dX4_init_1 : decode cX4_init 1 = .ok (.invokespecial 3, 3) := by decide +kernel
theorem dX4_init_4 : decode cX4_init 4 = .ok (.aload_n 0, 1) := by decide +kernel
theorem dX4_init_5 : decode cX4_init 5 = .ok (.bipush 120, 2) := by decide +kernel
theorem dX4_init_7 : decode cX4_init 7 = .ok (.newarray .int, 2) := by decide +kernel
theorem dX4_init_9 : decode cX4_init 9 = .ok (.putfield 11, 3) := by decide +kernel
theorem dX4_init_12 : decode cX4_init 12 = .ok (.return_, 1) := by decide +kernel
theorem dX4_add_0 : decode cX4_add 0 = .ok (.aload_n 0, 1) := by decide +kernel
theorem dX4_add_1 : decode cX4_add 1 = .ok (.getfield 11, 3) := by decide +kernel
theorem dX4_add_4 : decode cX4_add 4 = .ok (.aload_n 0, 1) := by decide +kernel
theorem dX4_add_5 : decode cX4_add 5 = .ok (.getfield 15, 3) := by decide +kernel
theorem dX4_add_8 : decode cX4_add 8 = .ok (.iload_n 1, 1) := by decide +kernel
theorem dX4_add_9 : decode cX4_add 9 = .ok (.iastore, 1) := by decide +kernel
theorem dX4_add_10 : decode cX4_add 10 = .ok (.aload_n 0, 1) := by decide +kernel
theorem dX4_add_11 : decode cX4_add 11 = .ok (.dup, 1) := by decide +kernel
theorem dX4_add_12 : decode cX4_add 12 = .ok (.getfield 15, 3) := by decide +kernel
theorem dX4_add_15 : decode cX4_add 15 = .ok (.iconst 1, 1) := by decide +kernel
theorem dX4_add_16 : decode cX4_add 16 = .ok (.iadd, 1) := by decide +kernel
theorem dX4_add_17 : decode cX4_add 17 = .ok (.putfield 15, 3) := by decide +kernel
theorem dX4_add_20 : decode cX4_add 20 = .ok (.return_, 1) := by decide +kernel
theorem dX4_parse_0 : decode cX4_parse 0 = .ok (.aload_n 0, 1) := by decide +kernel
theorem dX4_parse_1 : decode cX4_parse 1 = .ok (.iconst 0, 1) := by decide +kernel
theorem dX4_parse_2 : decode cX4_parse 2 = .ok (.putfield 19, 3) := by decide +kernel
theorem dX4_parse_5 : decode cX4_parse 5 = .ok (.aload_n 0, 1) := by decide +kernel
theorem dX4_parse_6 : decode cX4_parse 6 = .ok (.invokevirtual 22, 3) := by decide +kernel
theorem dX4_parse_9 : decode cX4_parse 9 = .ok (.iconst 1, 1) := by decide +kernel
theorem dX4_parse_10 : decode cX4_parse 10 = .ok (.istore_n 2, 1) := by decide +kernel
theorem dX4_parse_11 : decode cX4_parse 11 = .ok (.iload_n 2, 1) := by decide +kernel
theorem dX4_parse_12 : decode cX4_parse 12 = .ok (.bipush 120, 2) := by decide +kernel
theorem dX4_parse_14 : decode cX4_parse 14 = .ok (.if_icmp .gt 52, 3) := by decide +kernel
theorem dX4_parse_17 : decode cX4_parse 17 = .ok (.aload_n 0, 1) := by decide +kernel
theorem dX4_parse_18 : decode cX4_parse 18 = .ok (.aload_n 1, 1) := by decide +kernel
theorem dX4_parse_19 : decode cX4_parse 19 = .ok (.invokevirtual 25, 3) := by decide +kernel
theorem dX4_parse_22 : decode cX4_parse 22 = .ok (.ifCond .ne 10, 3) := by decide +kernel
theorem dX4_parse_25 : decode cX4_parse 25 = .ok (.iconst (-1), 1) := by decide +kernel
theorem dX4_parse_26 : decode cX4_parse 26 = .ok (.aload_n 0, 1) := by decide +kernel
theorem dX4_parse_27 : decode cX4_parse 27 = .ok (.getfield 29, 3) := by decide +kernel
theorem dX4_parse_30 : decode cX4_parse 30 = .ok (.isub, 1) := by decide +kernel
theorem dX4_parse_31 : decode cX4_parse 31 = .ok (.ireturn, 1) := by decide +kernel
theorem dX4_parse_32 : decode cX4_parse 32 = .ok (.aload_n 0, 1) := by decide +kernel
theorem dX4_parse_33 : decode cX4_parse 33 = .ok (.getfield 32, 3) := by decide +kernel
theorem dX4_parse_36 : decode cX4_parse 36 = .ok (.ifCond .ne 5, 3) := by decide +kernel
theorem dX4_parse_39 : decode cX4_parse 39 = .ok (.iload_n 2, 1) := by decide +kernel
theorem dX4_parse_40 : decode cX4_parse 40 = .ok (.ireturn, 1) := by decide +kernel
theorem dX4_parse_41 : decode cX4_parse 41 = .ok (.aload_n 0, 1) := by decide +kernel
theorem dX4_parse_42 : decode cX4_parse 42 = .ok (.getfield 32, 3) := by decide +kernel
theorem dX4_parse_45 : decode cX4_parse 45 = .ok (.iconst 3, 1) := by decide +kernel
theorem dX4_parse_46 : decode cX4_parse 46 = .ok (.if_icmp .eq 10, 3) := by decide +kernel
theorem dX4_parse_49 : decode cX4_parse 49 = .ok (.iconst (-1), 1) := by decide +kernel
theorem dX4_parse_50 : decode cX4_parse 50 = .ok (.aload_n 0, 1) := by decide +kernel
theorem dX4_parse_51 : decode cX4_parse 51 = .ok (.getfield 29, 3) := by decide +kernel
theorem dX4_parse_54 : decode cX4_parse 54 = .ok (.isub, 1) := by decide +kernel
theorem dX4_parse_55 : decode cX4_parse 55 = .ok (.ireturn, 1) := by decide +kernel
theorem dX4_parse_56 : decode cX4_parse 56 = .ok (.aload_n 0, 1) := by decide +kernel
theorem dX4_parse_57 : decode cX4_parse 57 = .ok (.invokevirtual 22, 3) := by decide +kernel
theorem dX4_parse_60 : decode cX4_parse 60 = .ok (.iinc 2 1, 3) := by decide +kernel
theorem dX4_parse_63 : decode cX4_parse 63 = .ok (.goto (-52), 3) := by decide +kernel
theorem dX4_parse_66 : decode cX4_parse 66 = .ok (.iconst (-1), 1) := by decide +kernel
theorem dX4_parse_67 : decode cX4_parse 67 = .ok (.aload_n 0, 1) := by decide +kernel
theorem dX4_parse_68 : decode cX4_parse 68 = .ok (.getfield 29, 3) := by decide +kernel
theorem dX4_parse_71 : decode cX4_parse 71 = .ok (.isub, 1) := by decide +kernel
theorem dX4_parse_72 : decode cX4_parse 72 = .ok (.ireturn, 1) := by decide +kernel
theorem dX4_takeItem_0 : decode cX4_takeItem 0 = .ok (.aload_n 0, 1) := by decide +kernel
theorem dX4_takeItem_1 : decode cX4_takeItem 1 = .ok (.invokevirtual 35, 3) := by decide +kernel
theorem dX4_takeItem_4 : decode cX4_takeItem 4 = .ok (.istore_n 2, 1) := by decide +kernel
theorem dX4_takeItem_5 : decode cX4_takeItem 5 = .ok (.iload_n 2, 1) := by decide +kernel
theorem dX4_takeItem_6 : decode cX4_takeItem 6 = .ok (.ifCond .lt 10, 3) := by decide +kernel
theorem dX4_takeItem_9 : decode cX4_takeItem 9 = .ok (.aload_n 0, 1) := by decide +kernel
theorem dX4_takeItem_10 : decode cX4_takeItem 10 = .ok (.aload_n 1, 1) := by decide +kernel
theorem dX4_takeItem_11 : decode cX4_takeItem 11 = .ok (.iload_n 2, 1) := by decide +kernel
theorem dX4_takeItem_12 : decode cX4_takeItem 12 = .ok (.invokevirtual 39, 3) := by decide +kernel
theorem dX4_takeItem_15 : decode cX4_takeItem 15 = .ok (.ireturn, 1) := by decide +kernel
theorem dX4_takeItem_16 : decode cX4_takeItem 16 = .ok (.aload_n 0, 1) := by decide +kernel
theorem dX4_takeItem_17 : decode cX4_takeItem 17 = .ok (.ldc 43, 2) := by decide +kernel
theorem dX4_takeItem_19 : decode cX4_takeItem 19 = .ok (.invokevirtual 45, 3) := by decide +kernel
theorem dX4_takeItem_22 : decode cX4_takeItem 22 = .ok (.ifCond .eq 9, 3) := by decide +kernel
theorem dX4_takeItem_25 : decode cX4_takeItem 25 = .ok (.aload_n 0, 1) := by decide +kernel
theorem dX4_takeItem_26 : decode cX4_takeItem 26 = .ok (.aload_n 1, 1) := by decide +kernel
theorem dX4_takeItem_27 : decode cX4_takeItem 27 = .ok (.invokevirtual 49, 3) := by decide +kernel
theorem dX4_takeItem_30 : decode cX4_takeItem 30 = .ok (.ireturn, 1) := by decide +kernel
theorem dX4_takeItem_31 : decode cX4_takeItem 31 = .ok (.aload_n 0, 1) := by decide +kernel
theorem dX4_takeItem_32 : decode cX4_takeItem 32 = .ok (.ldc 52, 2) := by decide +kernel
theorem dX4_takeItem_34 : decode cX4_takeItem 34 = .ok (.invokevirtual 45, 3) := by decide +kernel
theorem dX4_takeItem_37 : decode cX4_takeItem 37 = .ok (.ifCond .eq 9, 3) := by decide +kernel
theorem dX4_takeItem_40 : decode cX4_takeItem 40 = .ok (.aload_n 0, 1) := by decide +kernel
theorem dX4_takeItem_41 : decode cX4_takeItem 41 = .ok (.aload_n 1, 1) := by decide +kernel
theorem dX4_takeItem_42 : decode cX4_takeItem 42 = .ok (.invokevirtual 54, 3) := by decide +kernel
theorem dX4_takeItem_45 : decode cX4_takeItem 45 = .ok (.ireturn, 1) := by decide +kernel
theorem dX4_takeItem_46 : decode cX4_takeItem 46 = .ok (.aload_n 0, 1) := by decide +kernel
theorem dX4_takeItem_47 : decode cX4_takeItem 47 = .ok (.ldc 57, 2) := by decide +kernel
theorem dX4_takeItem_49 : decode cX4_takeItem 49 = .ok (.invokevirtual 45, 3) := by decide +kernel
theorem dX4_takeItem_52 : decode cX4_takeItem 52 = .ok (.ifCond .eq 15, 3) := by decide +kernel
theorem dX4_takeItem_55 : decode cX4_takeItem 55 = .ok (.aload_n 0, 1) := by decide +kernel
theorem dX4_takeItem_56 : decode cX4_takeItem 56 = .ok (.aload_n 1, 1) := by decide +kernel
theorem dX4_takeItem_57 : decode cX4_takeItem 57 = .ok (.invokevirtual 59, 3) := by decide +kernel
theorem dX4_takeItem_60 : decode cX4_takeItem 60 = .ok (.ifCond .eq 7, 3) := by decide +kernel
theorem dX4_takeItem_63 : decode cX4_takeItem 63 = .ok (.iconst 1, 1) := by decide +kernel
theorem dX4_takeItem_64 : decode cX4_takeItem 64 = .ok (.goto 4, 3) := by decide +kernel
theorem dX4_takeItem_67 : decode cX4_takeItem 67 = .ok (.iconst 0, 1) := by decide +kernel
theorem dX4_takeItem_68 : decode cX4_takeItem 68 = .ok (.ireturn, 1) := by decide +kernel
theorem dX4_takeSitter_0 : decode cX4_takeSitter 0 = .ok (.aload_n 1, 1) := by decide +kernel
theorem dX4_takeSitter_1 : decode cX4_takeSitter 1 = .ok (.getfield 62, 3) := by decide +kernel
theorem dX4_takeSitter_4 : decode cX4_takeSitter 4 = .ok (.bipush 6, 2) := by decide +kernel
theorem dX4_takeSitter_6 : decode cX4_takeSitter 6 = .ok (.if_icmp .lt 5, 3) := by decide +kernel
theorem dX4_takeSitter_9 : decode cX4_takeSitter 9 = .ok (.iconst 0, 1) := by decide +kernel
theorem dX4_takeSitter_10 : decode cX4_takeSitter 10 = .ok (.ireturn, 1) := by decide +kernel
theorem dX4_takeSitter_11 : decode cX4_takeSitter 11 = .ok (.aload_n 1, 1) := by decide +kernel
theorem dX4_takeSitter_12 : decode cX4_takeSitter 12 = .ok (.iload_n 2, 1) := by decide +kernel
theorem dX4_takeSitter_13 : decode cX4_takeSitter 13 = .ok (.invokevirtual 67, 3) := by decide +kernel
theorem dX4_takeSitter_16 : decode cX4_takeSitter 16 = .ok (.istore_n 3, 1) := by decide +kernel
theorem dX4_takeSitter_17 : decode cX4_takeSitter 17 = .ok (.aload_n 0, 1) := by decide +kernel
theorem dX4_takeSitter_18 : decode cX4_takeSitter 18 = .ok (.invokevirtual 22, 3) := by decide +kernel
theorem dX4_takeSitter_21 : decode cX4_takeSitter 21 = .ok (.aload_n 0, 1) := by decide +kernel
theorem dX4_takeSitter_22 : decode cX4_takeSitter 22 = .ok (.ldc 71, 2) := by decide +kernel
theorem dX4_takeSitter_24 : decode cX4_takeSitter 24 = .ok (.invokevirtual 73, 3) := by decide +kernel
theorem dX4_takeSitter_27 : decode cX4_takeSitter 27 = .ok (.ifCond .eq 25, 3) := by decide +kernel
theorem dX4_takeSitter_30 : decode cX4_takeSitter 30 = .ok (.aload_n 0, 1) := by decide +kernel
theorem dX4_takeSitter_31 : decode cX4_takeSitter 31 = .ok (.iconst 0, 1) := by decide +kernel
theorem dX4_takeSitter_32 : decode cX4_takeSitter 32 = .ok (.bipush 30, 2) := by decide +kernel
theorem dX4_takeSitter_34 : decode cX4_takeSitter 34 = .ok (.invokevirtual 76, 3) := by decide +kernel
theorem dX4_takeSitter_37 : decode cX4_takeSitter 37 = .ok (.ifCond .ne 5, 3) := by decide +kernel
theorem dX4_takeSitter_40 : decode cX4_takeSitter 40 = .ok (.iconst 0, 1) := by decide +kernel
theorem dX4_takeSitter_41 : decode cX4_takeSitter 41 = .ok (.ireturn, 1) := by decide +kernel
theorem dX4_takeSitter_42 : decode cX4_takeSitter 42 = .ok (.aload_n 1, 1) := by decide +kernel
theorem dX4_takeSitter_43 : decode cX4_takeSitter 43 = .ok (.getfield 80, 3) := by decide +kernel
theorem dX4_takeSitter_46 : decode cX4_takeSitter 46 = .ok (.iload_n 3, 1) := by decide +kernel
theorem dX4_takeSitter_47 : decode cX4_takeSitter 47 = .ok (.aload_n 0, 1) := by decide +kernel
theorem dX4_takeSitter_48 : decode cX4_takeSitter 48 = .ok (.getfield 83, 3) := by decide +kernel
theorem dX4_takeSitter_51 : decode cX4_takeSitter 51 = .ok (.iastore, 1) := by decide +kernel
theorem dX4_takeSitter_52 : decode cX4_takeSitter 52 = .ok (.aload_n 0, 1) := by decide +kernel
theorem dX4_takeSitter_53 : decode cX4_takeSitter 53 = .ok (.ldc 86, 2) := by decide +kernel
theorem dX4_takeSitter_55 : decode cX4_takeSitter 55 = .ok (.invokevirtual 73, 3) := by decide +kernel
theorem dX4_takeSitter_58 : decode cX4_takeSitter 58 = .ok (.ifCond .eq 25, 3) := by decide +kernel
theorem dX4_takeSitter_61 : decode cX4_takeSitter 61 = .ok (.aload_n 0, 1) := by decide +kernel
theorem dX4_takeSitter_62 : decode cX4_takeSitter 62 = .ok (.iconst 0, 1) := by decide +kernel
theorem dX4_takeSitter_63 : decode cX4_takeSitter 63 = .ok (.bipush 99, 2) := by decide +kernel
theorem dX4_takeSitter_65 : decode cX4_takeSitter 65 = .ok (.invokevirtual 76, 3) := by decide +kernel
theorem dX4_takeSitter_68 : decode cX4_takeSitter 68 = .ok (.ifCond .ne 5, 3) := by decide +kernel
theorem dX4_takeSitter_71 : decode cX4_takeSitter 71 = .ok (.iconst 0, 1) := by decide +kernel
theorem dX4_takeSitter_72 : decode cX4_takeSitter 72 = .ok (.ireturn, 1) := by decide +kernel
theorem dX4_takeSitter_73 : decode cX4_takeSitter 73 = .ok (.aload_n 1, 1) := by decide +kernel
theorem dX4_takeSitter_74 : decode cX4_takeSitter 74 = .ok (.getfield 88, 3) := by decide +kernel
theorem dX4_takeSitter_77 : decode cX4_takeSitter 77 = .ok (.iload_n 3, 1) := by decide +kernel
theorem dX4_takeSitter_78 : decode cX4_takeSitter 78 = .ok (.aload_n 0, 1) := by decide +kernel
theorem dX4_takeSitter_79 : decode cX4_takeSitter 79 = .ok (.getfield 83, 3) := by decide +kernel
theorem dX4_takeSitter_82 : decode cX4_takeSitter 82 = .ok (.iastore, 1) := by decide +kernel
theorem dX4_takeSitter_83 : decode cX4_takeSitter 83 = .ok (.iconst 1, 1) := by decide +kernel
theorem dX4_takeSitter_84 : decode cX4_takeSitter 84 = .ok (.ireturn, 1) := by decide +kernel
theorem dX4_takeLikeness_0 : decode cX4_takeLikeness 0 = .ok (.aload_n 1, 1) := by decide +kernel
theorem dX4_takeLikeness_1 : decode cX4_takeLikeness 1 = .ok (.getfield 91, 3) := by decide +kernel
theorem dX4_takeLikeness_4 : decode cX4_takeLikeness 4 = .ok (.bipush 8, 2) := by decide +kernel
theorem dX4_takeLikeness_6 : decode cX4_takeLikeness 6 = .ok (.if_icmp .lt 5, 3) := by decide +kernel
theorem dX4_takeLikeness_9 : decode cX4_takeLikeness 9 = .ok (.iconst 0, 1) := by decide +kernel
theorem dX4_takeLikeness_10 : decode cX4_takeLikeness 10 = .ok (.ireturn, 1) := by decide +kernel
theorem dX4_takeLikeness_11 : decode cX4_takeLikeness 11 = .ok (.aload_n 0, 1) := by decide +kernel
theorem dX4_takeLikeness_12 : decode cX4_takeLikeness 12 = .ok (.invokevirtual 22, 3) := by decide +kernel
theorem dX4_takeLikeness_15 : decode cX4_takeLikeness 15 = .ok (.aload_n 0, 1) := by decide +kernel
theorem dX4_takeLikeness_16 : decode cX4_takeLikeness 16 = .ok (.iconst 0, 1) := by decide +kernel
theorem dX4_takeLikeness_17 : decode cX4_takeLikeness 17 = .ok (.aload_n 1, 1) := by decide +kernel
theorem dX4_takeLikeness_18 : decode cX4_takeLikeness 18 = .ok (.getfield 62, 3) := by decide +kernel
theorem dX4_takeLikeness_21 : decode cX4_takeLikeness 21 = .ok (.iconst 1, 1) := by decide +kernel
theorem dX4_takeLikeness_22 : decode cX4_takeLikeness 22 = .ok (.isub, 1) := by decide +kernel
theorem dX4_takeLikeness_23 : decode cX4_takeLikeness 23 = .ok (.invokevirtual 76, 3) := by decide +kernel
theorem dX4_takeLikeness_26 : decode cX4_takeLikeness 26 = .ok (.ifCond .ne 5, 3) := by decide +kernel
theorem dX4_takeLikeness_29 : decode cX4_takeLikeness 29 = .ok (.iconst 0, 1) := by decide +kernel
theorem dX4_takeLikeness_30 : decode cX4_takeLikeness 30 = .ok (.ireturn, 1) := by decide +kernel
theorem dX4_takeLikeness_31 : decode cX4_takeLikeness 31 = .ok (.aload_n 0, 1) := by decide +kernel
theorem dX4_takeLikeness_32 : decode cX4_takeLikeness 32 = .ok (.getfield 83, 3) := by decide +kernel
theorem dX4_takeLikeness_35 : decode cX4_takeLikeness 35 = .ok (.istore_n 2, 1) := by decide +kernel
theorem dX4_takeLikeness_36 : decode cX4_takeLikeness 36 = .ok (.aload_n 0, 1) := by decide +kernel
theorem dX4_takeLikeness_37 : decode cX4_takeLikeness 37 = .ok (.ldc 94, 2) := by decide +kernel
theorem dX4_takeLikeness_39 : decode cX4_takeLikeness 39 = .ok (.invokevirtual 73, 3) := by decide +kernel
theorem dX4_takeLikeness_42 : decode cX4_takeLikeness 42 = .ok (.ifCond .eq 13, 3) := by decide +kernel
theorem dX4_takeLikeness_45 : decode cX4_takeLikeness 45 = .ok (.aload_n 0, 1) := by decide +kernel
theorem dX4_takeLikeness_46 : decode cX4_takeLikeness 46 = .ok (.iconst 0, 1) := by decide +kernel
theorem dX4_takeLikeness_47 : decode cX4_takeLikeness 47 = .ok (.bipush 47, 2) := by decide +kernel
theorem dX4_takeLikeness_49 : decode cX4_takeLikeness 49 = .ok (.invokevirtual 76, 3) := by decide +kernel
theorem dX4_takeLikeness_52 : decode cX4_takeLikeness 52 = .ok (.ifCond .ne 5, 3) := by decide +kernel
theorem dX4_takeLikeness_55 : decode cX4_takeLikeness 55 = .ok (.iconst 0, 1) := by decide +kernel
theorem dX4_takeLikeness_56 : decode cX4_takeLikeness 56 = .ok (.ireturn, 1) := by decide +kernel
theorem dX4_takeLikeness_57 : decode cX4_takeLikeness 57 = .ok (.aload_n 1, 1) := by decide +kernel
theorem dX4_takeLikeness_58 : decode cX4_takeLikeness 58 = .ok (.iload_n 2, 1) := by decide +kernel
theorem dX4_takeLikeness_59 : decode cX4_takeLikeness 59 = .ok (.aload_n 0, 1) := by decide +kernel
theorem dX4_takeLikeness_60 : decode cX4_takeLikeness 60 = .ok (.getfield 83, 3) := by decide +kernel
theorem dX4_takeLikeness_63 : decode cX4_takeLikeness 63 = .ok (.invokevirtual 96, 3) := by decide +kernel
theorem dX4_takeLikeness_66 : decode cX4_takeLikeness 66 = .ok (.pop, 1) := by decide +kernel
theorem dX4_takeLikeness_67 : decode cX4_takeLikeness 67 = .ok (.iconst 1, 1) := by decide +kernel
theorem dX4_takeLikeness_68 : decode cX4_takeLikeness 68 = .ok (.ireturn, 1) := by decide +kernel
theorem dX4_takeWheat_0 : decode cX4_takeWheat 0 = .ok (.aload_n 0, 1) := by decide +kernel
theorem dX4_takeWheat_1 : decode cX4_takeWheat 1 = .ok (.invokevirtual 22, 3) := by decide +kernel
theorem dX4_takeWheat_4 : decode cX4_takeWheat 4 = .ok (.aload_n 0, 1) := by decide +kernel
theorem dX4_takeWheat_5 : decode cX4_takeWheat 5 = .ok (.iconst 0, 1) := by decide +kernel
theorem dX4_takeWheat_6 : decode cX4_takeWheat 6 = .ok (.bipush 47, 2) := by decide +kernel
theorem dX4_takeWheat_8 : decode cX4_takeWheat 8 = .ok (.invokevirtual 76, 3) := by decide +kernel
theorem dX4_takeWheat_11 : decode cX4_takeWheat 11 = .ok (.ifCond .ne 5, 3) := by decide +kernel
theorem dX4_takeWheat_14 : decode cX4_takeWheat 14 = .ok (.iconst 0, 1) := by decide +kernel
theorem dX4_takeWheat_15 : decode cX4_takeWheat 15 = .ok (.ireturn, 1) := by decide +kernel
theorem dX4_takeWheat_16 : decode cX4_takeWheat 16 = .ok (.aload_n 0, 1) := by decide +kernel
theorem dX4_takeWheat_17 : decode cX4_takeWheat 17 = .ok (.getfield 83, 3) := by decide +kernel
theorem dX4_takeWheat_20 : decode cX4_takeWheat 20 = .ok (.istore_n 2, 1) := by decide +kernel
theorem dX4_takeWheat_21 : decode cX4_takeWheat 21 = .ok (.aload_n 0, 1) := by decide +kernel
theorem dX4_takeWheat_22 : decode cX4_takeWheat 22 = .ok (.iconst 0, 1) := by decide +kernel
theorem dX4_takeWheat_23 : decode cX4_takeWheat 23 = .ok (.bipush 99, 2) := by decide +kernel
theorem dX4_takeWheat_25 : decode cX4_takeWheat 25 = .ok (.invokevirtual 76, 3) := by decide +kernel
theorem dX4_takeWheat_28 : decode cX4_takeWheat 28 = .ok (.ifCond .ne 5, 3) := by decide +kernel
theorem dX4_takeWheat_31 : decode cX4_takeWheat 31 = .ok (.iconst 0, 1) := by decide +kernel
theorem dX4_takeWheat_32 : decode cX4_takeWheat 32 = .ok (.ireturn, 1) := by decide +kernel
theorem dX4_takeWheat_33 : decode cX4_takeWheat 33 = .ok (.aload_n 0, 1) := by decide +kernel
theorem dX4_takeWheat_34 : decode cX4_takeWheat 34 = .ok (.getfield 83, 3) := by decide +kernel
theorem dX4_takeWheat_37 : decode cX4_takeWheat 37 = .ok (.istore_n 3, 1) := by decide +kernel
theorem dX4_takeWheat_38 : decode cX4_takeWheat 38 = .ok (.iload_n 2, 1) := by decide +kernel
theorem dX4_takeWheat_39 : decode cX4_takeWheat 39 = .ok (.istore 4, 2) := by decide +kernel
theorem dX4_takeWheat_41 : decode cX4_takeWheat 41 = .ok (.aload_n 0, 1) := by decide +kernel
theorem dX4_takeWheat_42 : decode cX4_takeWheat 42 = .ok (.ldc 100, 2) := by decide +kernel
theorem dX4_takeWheat_44 : decode cX4_takeWheat 44 = .ok (.invokevirtual 73, 3) := by decide +kernel
theorem dX4_takeWheat_47 : decode cX4_takeWheat 47 = .ok (.ifCond .eq 21, 3) := by decide +kernel
theorem dX4_takeWheat_50 : decode cX4_takeWheat 50 = .ok (.aload_n 0, 1) := by decide +kernel
theorem dX4_takeWheat_51 : decode cX4_takeWheat 51 = .ok (.iload_n 2, 1) := by decide +kernel
theorem dX4_takeWheat_52 : decode cX4_takeWheat 52 = .ok (.bipush 47, 2) := by decide +kernel
theorem dX4_takeWheat_54 : decode cX4_takeWheat 54 = .ok (.invokevirtual 76, 3) := by decide +kernel
theorem dX4_takeWheat_57 : decode cX4_takeWheat 57 = .ok (.ifCond .ne 5, 3) := by decide +kernel
theorem dX4_takeWheat_60 : decode cX4_takeWheat 60 = .ok (.iconst 0, 1) := by decide +kernel
theorem dX4_takeWheat_61 : decode cX4_takeWheat 61 = .ok (.ireturn, 1) := by decide +kernel
theorem dX4_takeWheat_62 : decode cX4_takeWheat 62 = .ok (.aload_n 0, 1) := by decide +kernel
theorem dX4_takeWheat_63 : decode cX4_takeWheat 63 = .ok (.getfield 83, 3) := by decide +kernel
theorem dX4_takeWheat_66 : decode cX4_takeWheat 66 = .ok (.istore 4, 2) := by decide +kernel
theorem dX4_takeWheat_68 : decode cX4_takeWheat 68 = .ok (.iload_n 2, 1) := by decide +kernel
theorem dX4_takeWheat_69 : decode cX4_takeWheat 69 = .ok (.istore 5, 2) := by decide +kernel
theorem dX4_takeWheat_71 : decode cX4_takeWheat 71 = .ok (.iload 5, 2) := by decide +kernel
theorem dX4_takeWheat_73 : decode cX4_takeWheat 73 = .ok (.iload 4, 2) := by decide +kernel
theorem dX4_takeWheat_75 : decode cX4_takeWheat 75 = .ok (.if_icmp .gt 17, 3) := by decide +kernel
theorem dX4_takeWheat_78 : decode cX4_takeWheat 78 = .ok (.aload_n 1, 1) := by decide +kernel
theorem dX4_takeWheat_79 : decode cX4_takeWheat 79 = .ok (.getfield 102, 3) := by decide +kernel
theorem dX4_takeWheat_82 : decode cX4_takeWheat 82 = .ok (.iload 5, 2) := by decide +kernel
theorem dX4_takeWheat_84 : decode cX4_takeWheat 84 = .ok (.iload_n 3, 1) := by decide +kernel
theorem dX4_takeWheat_85 : decode cX4_takeWheat 85 = .ok (.iastore, 1) := by decide +kernel
theorem dX4_takeWheat_86 : decode cX4_takeWheat 86 = .ok (.iinc 5 1, 3) := by decide +kernel
theorem dX4_takeWheat_89 : decode cX4_takeWheat 89 = .ok (.goto (-18), 3) := by decide +kernel
theorem dX4_takeWheat_92 : decode cX4_takeWheat 92 = .ok (.iconst 1, 1) := by decide +kernel
theorem dX4_takeWheat_93 : decode cX4_takeWheat 93 = .ok (.ireturn, 1) := by decide +kernel
theorem dX4_takeCrows_0 : decode cX4_takeCrows 0 = .ok (.aload_n 0, 1) := by decide +kernel
theorem dX4_takeCrows_1 : decode cX4_takeCrows 1 = .ok (.invokevirtual 22, 3) := by decide +kernel
theorem dX4_takeCrows_4 : decode cX4_takeCrows 4 = .ok (.aload_n 0, 1) := by decide +kernel
theorem dX4_takeCrows_5 : decode cX4_takeCrows 5 = .ok (.iconst 0, 1) := by decide +kernel
theorem dX4_takeCrows_6 : decode cX4_takeCrows 6 = .ok (.bipush 20, 2) := by decide +kernel
theorem dX4_takeCrows_8 : decode cX4_takeCrows 8 = .ok (.invokevirtual 76, 3) := by decide +kernel
theorem dX4_takeCrows_11 : decode cX4_takeCrows 11 = .ok (.ifCond .ne 5, 3) := by decide +kernel
theorem dX4_takeCrows_14 : decode cX4_takeCrows 14 = .ok (.iconst 0, 1) := by decide +kernel
theorem dX4_takeCrows_15 : decode cX4_takeCrows 15 = .ok (.ireturn, 1) := by decide +kernel
theorem dX4_takeCrows_16 : decode cX4_takeCrows 16 = .ok (.aload_n 1, 1) := by decide +kernel
theorem dX4_takeCrows_17 : decode cX4_takeCrows 17 = .ok (.aload_n 0, 1) := by decide +kernel
theorem dX4_takeCrows_18 : decode cX4_takeCrows 18 = .ok (.getfield 83, 3) := by decide +kernel
theorem dX4_takeCrows_21 : decode cX4_takeCrows 21 = .ok (.putfield 105, 3) := by decide +kernel
theorem dX4_takeCrows_24 : decode cX4_takeCrows 24 = .ok (.iconst 1, 1) := by decide +kernel
theorem dX4_takeCrows_25 : decode cX4_takeCrows 25 = .ok (.ireturn, 1) := by decide +kernel
theorem dX4_takeWord_0 : decode cX4_takeWord 0 = .ok (.aload_n 0, 1) := by decide +kernel
theorem dX4_takeWord_1 : decode cX4_takeWord 1 = .ok (.aload_n 1, 1) := by decide +kernel
theorem dX4_takeWord_2 : decode cX4_takeWord 2 = .ok (.invokevirtual 45, 3) := by decide +kernel
theorem dX4_takeWord_5 : decode cX4_takeWord 5 = .ok (.ifCond .ne 5, 3) := by decide +kernel
theorem dX4_takeWord_8 : decode cX4_takeWord 8 = .ok (.iconst 0, 1) := by decide +kernel
theorem dX4_takeWord_9 : decode cX4_takeWord 9 = .ok (.ireturn, 1) := by decide +kernel
theorem dX4_takeWord_10 : decode cX4_takeWord 10 = .ok (.aload_n 0, 1) := by decide +kernel
theorem dX4_takeWord_11 : decode cX4_takeWord 11 = .ok (.invokevirtual 22, 3) := by decide +kernel
theorem dX4_takeWord_14 : decode cX4_takeWord 14 = .ok (.iconst 1, 1) := by decide +kernel
theorem dX4_takeWord_15 : decode cX4_takeWord 15 = .ok (.ireturn, 1) := by decide +kernel
theorem dX4_takeNumber_0 : decode cX4_takeNumber 0 = .ok (.aload_n 0, 1) := by decide +kernel
theorem dX4_takeNumber_1 : decode cX4_takeNumber 1 = .ok (.getfield 32, 3) := by decide +kernel
theorem dX4_takeNumber_4 : decode cX4_takeNumber 4 = .ok (.iconst 2, 1) := by decide +kernel
theorem dX4_takeNumber_5 : decode cX4_takeNumber 5 = .ok (.if_icmp .ne 15, 3) := by decide +kernel
theorem dX4_takeNumber_8 : decode cX4_takeNumber 8 = .ok (.aload_n 0, 1) := by decide +kernel
theorem dX4_takeNumber_9 : decode cX4_takeNumber 9 = .ok (.getfield 108, 3) := by decide +kernel
theorem dX4_takeNumber_12 : decode cX4_takeNumber 12 = .ok (.iload_n 1, 1) := by decide +kernel
theorem dX4_takeNumber_13 : decode cX4_takeNumber 13 = .ok (.iload_n 2, 1) := by decide +kernel
theorem dX4_takeNumber_14 : decode cX4_takeNumber 14 = .ok (.invokestatic 111, 3) := by decide +kernel
theorem dX4_takeNumber_17 : decode cX4_takeNumber 17 = .ok (.ifCond .ne 5, 3) := by decide +kernel
theorem dX4_takeNumber_20 : decode cX4_takeNumber 20 = .ok (.iconst 0, 1) := by decide +kernel
theorem dX4_takeNumber_21 : decode cX4_takeNumber 21 = .ok (.ireturn, 1) := by decide +kernel
theorem dX4_takeNumber_22 : decode cX4_takeNumber 22 = .ok (.aload_n 0, 1) := by decide +kernel
theorem dX4_takeNumber_23 : decode cX4_takeNumber 23 = .ok (.aload_n 0, 1) := by decide +kernel
theorem dX4_takeNumber_24 : decode cX4_takeNumber 24 = .ok (.getfield 108, 3) := by decide +kernel
theorem dX4_takeNumber_27 : decode cX4_takeNumber 27 = .ok (.putfield 83, 3) := by decide +kernel
theorem dX4_takeNumber_30 : decode cX4_takeNumber 30 = .ok (.aload_n 0, 1) := by decide +kernel
theorem dX4_takeNumber_31 : decode cX4_takeNumber 31 = .ok (.invokevirtual 22, 3) := by decide +kernel
theorem dX4_takeNumber_34 : decode cX4_takeNumber 34 = .ok (.iconst 1, 1) := by decide +kernel
theorem dX4_takeNumber_35 : decode cX4_takeNumber 35 = .ok (.ireturn, 1) := by decide +kernel
theorem dX4_kindNamed_0 : decode cX4_kindNamed 0 = .ok (.iconst 0, 1) := by decide +kernel
theorem dX4_kindNamed_1 : decode cX4_kindNamed 1 = .ok (.istore_n 1, 1) := by decide +kernel
theorem dX4_kindNamed_2 : decode cX4_kindNamed 2 = .ok (.iload_n 1, 1) := by decide +kernel
theorem dX4_kindNamed_3 : decode cX4_kindNamed 3 = .ok (.bipush 6, 2) := by decide +kernel
theorem dX4_kindNamed_5 : decode cX4_kindNamed 5 = .ok (.if_icmp .ge 22, 3) := by decide +kernel
theorem dX4_kindNamed_8 : decode cX4_kindNamed 8 = .ok (.aload_n 0, 1) := by decide +kernel
theorem dX4_kindNamed_9 : decode cX4_kindNamed 9 = .ok (.iload_n 1, 1) := by decide +kernel
theorem dX4_kindNamed_10 : decode cX4_kindNamed 10 = .ok (.invokestatic 115, 3) := by decide +kernel
theorem dX4_kindNamed_13 : decode cX4_kindNamed 13 = .ok (.invokevirtual 45, 3) := by decide +kernel
theorem dX4_kindNamed_16 : decode cX4_kindNamed 16 = .ok (.ifCond .eq 5, 3) := by decide +kernel
theorem dX4_kindNamed_19 : decode cX4_kindNamed 19 = .ok (.iload_n 1, 1) := by decide +kernel
theorem dX4_kindNamed_20 : decode cX4_kindNamed 20 = .ok (.ireturn, 1) := by decide +kernel
theorem dX4_kindNamed_21 : decode cX4_kindNamed 21 = .ok (.iinc 1 1, 3) := by decide +kernel
theorem dX4_kindNamed_24 : decode cX4_kindNamed 24 = .ok (.goto (-22), 3) := by decide +kernel
theorem dX4_kindNamed_27 : decode cX4_kindNamed 27 = .ok (.iconst (-1), 1) := by decide +kernel
theorem dX4_kindNamed_28 : decode cX4_kindNamed 28 = .ok (.ireturn, 1) := by decide +kernel
theorem dX4_nameOf_0 : decode cX4_nameOf 0 = .ok (.iload_n 0, 1) := by decide +kernel
theorem dX4_nameOf_1 : decode cX4_nameOf 1 = .ok (.tableswitch 50 1 5 #[35, 38, 41, 44, 47], 35) := by decide +kernel
theorem dX4_nameOf_36 : decode cX4_nameOf 36 = .ok (.ldc 119, 2) := by decide +kernel
theorem dX4_nameOf_38 : decode cX4_nameOf 38 = .ok (.areturn, 1) := by decide +kernel
theorem dX4_nameOf_39 : decode cX4_nameOf 39 = .ok (.ldc 121, 2) := by decide +kernel
theorem dX4_nameOf_41 : decode cX4_nameOf 41 = .ok (.areturn, 1) := by decide +kernel
theorem dX4_nameOf_42 : decode cX4_nameOf 42 = .ok (.ldc 123, 2) := by decide +kernel
theorem dX4_nameOf_44 : decode cX4_nameOf 44 = .ok (.areturn, 1) := by decide +kernel
theorem dX4_nameOf_45 : decode cX4_nameOf 45 = .ok (.ldc 125, 2) := by decide +kernel
theorem dX4_nameOf_47 : decode cX4_nameOf 47 = .ok (.areturn, 1) := by decide +kernel
theorem dX4_nameOf_48 : decode cX4_nameOf 48 = .ok (.ldc 127, 2) := by decide +kernel
theorem dX4_nameOf_50 : decode cX4_nameOf 50 = .ok (.areturn, 1) := by decide +kernel
theorem dX4_nameOf_51 : decode cX4_nameOf 51 = .ok (.ldc 129, 2) := by decide +kernel
theorem dX4_nameOf_53 : decode cX4_nameOf 53 = .ok (.areturn, 1) := by decide +kernel
theorem dX4_isWord_0 : decode cX4_isWord 0 = .ok (.aload_n 0, 1) := by decide +kernel
theorem dX4_isWord_1 : decode cX4_isWord 1 = .ok (.getfield 32, 3) := by decide +kernel
theorem dX4_isWord_4 : decode cX4_isWord 4 = .ok (.iconst 1, 1) := by decide +kernel
theorem dX4_isWord_5 : decode cX4_isWord 5 = .ok (.if_icmp .ne 19, 3) := by decide +kernel
theorem dX4_isWord_8 : decode cX4_isWord 8 = .ok (.aload_n 0, 1) := by decide +kernel
theorem dX4_isWord_9 : decode cX4_isWord 9 = .ok (.getfield 19, 3) := by decide +kernel
theorem dX4_isWord_12 : decode cX4_isWord 12 = .ok (.aload_n 0, 1) := by decide +kernel
theorem dX4_isWord_13 : decode cX4_isWord 13 = .ok (.getfield 29, 3) := by decide +kernel
theorem dX4_isWord_16 : decode cX4_isWord 16 = .ok (.isub, 1) := by decide +kernel
theorem dX4_isWord_17 : decode cX4_isWord 17 = .ok (.aload_n 1, 1) := by decide +kernel
theorem dX4_isWord_18 : decode cX4_isWord 18 = .ok (.invokevirtual 131, 3) := by decide +kernel
theorem dX4_isWord_21 : decode cX4_isWord 21 = .ok (.if_icmp .eq 5, 3) := by decide +kernel
theorem dX4_isWord_24 : decode cX4_isWord 24 = .ok (.iconst 0, 1) := by decide +kernel
theorem dX4_isWord_25 : decode cX4_isWord 25 = .ok (.ireturn, 1) := by decide +kernel
theorem dX4_isWord_26 : decode cX4_isWord 26 = .ok (.iconst 0, 1) := by decide +kernel
theorem dX4_isWord_27 : decode cX4_isWord 27 = .ok (.istore_n 2, 1) := by decide +kernel
theorem dX4_isWord_28 : decode cX4_isWord 28 = .ok (.iload_n 2, 1) := by decide +kernel
theorem dX4_isWord_29 : decode cX4_isWord 29 = .ok (.aload_n 1, 1) := by decide +kernel
theorem dX4_isWord_30 : decode cX4_isWord 30 = .ok (.invokevirtual 131, 3) := by decide +kernel
theorem dX4_isWord_33 : decode cX4_isWord 33 = .ok (.if_icmp .ge 30, 3) := by decide +kernel
theorem dX4_isWord_36 : decode cX4_isWord 36 = .ok (.aload_n 0, 1) := by decide +kernel
theorem dX4_isWord_37 : decode cX4_isWord 37 = .ok (.getfield 11, 3) := by decide +kernel
theorem dX4_isWord_40 : decode cX4_isWord 40 = .ok (.aload_n 0, 1) := by decide +kernel
theorem dX4_isWord_41 : decode cX4_isWord 41 = .ok (.getfield 29, 3) := by decide +kernel
theorem dX4_isWord_44 : decode cX4_isWord 44 = .ok (.iload_n 2, 1) := by decide +kernel
theorem dX4_isWord_45 : decode cX4_isWord 45 = .ok (.iadd, 1) := by decide +kernel
theorem dX4_isWord_46 : decode cX4_isWord 46 = .ok (.iaload, 1) := by decide +kernel
theorem dX4_isWord_47 : decode cX4_isWord 47 = .ok (.aload_n 1, 1) := by decide +kernel
theorem dX4_isWord_48 : decode cX4_isWord 48 = .ok (.iload_n 2, 1) := by decide +kernel
theorem dX4_isWord_49 : decode cX4_isWord 49 = .ok (.invokevirtual 135, 3) := by decide +kernel
theorem dX4_isWord_52 : decode cX4_isWord 52 = .ok (.if_icmp .eq 5, 3) := by decide +kernel
theorem dX4_isWord_55 : decode cX4_isWord 55 = .ok (.iconst 0, 1) := by decide +kernel
theorem dX4_isWord_56 : decode cX4_isWord 56 = .ok (.ireturn, 1) := by decide +kernel
theorem dX4_isWord_57 : decode cX4_isWord 57 = .ok (.iinc 2 1, 3) := by decide +kernel
theorem dX4_isWord_60 : decode cX4_isWord 60 = .ok (.goto (-32), 3) := by decide +kernel
theorem dX4_isWord_63 : decode cX4_isWord 63 = .ok (.iconst 1, 1) := by decide +kernel
theorem dX4_isWord_64 : decode cX4_isWord 64 = .ok (.ireturn, 1) := by decide +kernel
theorem dX4_advance_0 : decode cX4_advance 0 = .ok (.aload_n 0, 1) := by decide +kernel
theorem dX4_advance_1 : decode cX4_advance 1 = .ok (.getfield 19, 3) := by decide +kernel
theorem dX4_advance_4 : decode cX4_advance 4 = .ok (.aload_n 0, 1) := by decide +kernel
theorem dX4_advance_5 : decode cX4_advance 5 = .ok (.getfield 15, 3) := by decide +kernel
theorem dX4_advance_8 : decode cX4_advance 8 = .ok (.if_icmp .ge 30, 3) := by decide +kernel
theorem dX4_advance_11 : decode cX4_advance 11 = .ok (.aload_n 0, 1) := by decide +kernel
theorem dX4_advance_12 : decode cX4_advance 12 = .ok (.getfield 11, 3) := by decide +kernel
theorem dX4_advance_15 : decode cX4_advance 15 = .ok (.aload_n 0, 1) := by decide +kernel
theorem dX4_advance_16 : decode cX4_advance 16 = .ok (.getfield 19, 3) := by decide +kernel
theorem dX4_advance_19 : decode cX4_advance 19 = .ok (.iaload, 1) := by decide +kernel
theorem dX4_advance_20 : decode cX4_advance 20 = .ok (.bipush 32, 2) := by decide +kernel
theorem dX4_advance_22 : decode cX4_advance 22 = .ok (.if_icmp .ne 16, 3) := by decide +kernel
theorem dX4_advance_25 : decode cX4_advance 25 = .ok (.aload_n 0, 1) := by decide +kernel
theorem dX4_advance_26 : decode cX4_advance 26 = .ok (.dup, 1) := by decide +kernel
theorem dX4_advance_27 : decode cX4_advance 27 = .ok (.getfield 19, 3) := by decide +kernel
theorem dX4_advance_30 : decode cX4_advance 30 = .ok (.iconst 1, 1) := by decide +kernel
theorem dX4_advance_31 : decode cX4_advance 31 = .ok (.iadd, 1) := by decide +kernel
theorem dX4_advance_32 : decode cX4_advance 32 = .ok (.putfield 19, 3) := by decide +kernel
theorem dX4_advance_35 : decode cX4_advance 35 = .ok (.goto (-35), 3) := by decide +kernel
theorem dX4_advance_38 : decode cX4_advance 38 = .ok (.aload_n 0, 1) := by decide +kernel
theorem dX4_advance_39 : decode cX4_advance 39 = .ok (.aload_n 0, 1) := by decide +kernel
theorem dX4_advance_40 : decode cX4_advance 40 = .ok (.getfield 19, 3) := by decide +kernel
theorem dX4_advance_43 : decode cX4_advance 43 = .ok (.putfield 29, 3) := by decide +kernel
theorem dX4_advance_46 : decode cX4_advance 46 = .ok (.aload_n 0, 1) := by decide +kernel
theorem dX4_advance_47 : decode cX4_advance 47 = .ok (.getfield 19, 3) := by decide +kernel
theorem dX4_advance_50 : decode cX4_advance 50 = .ok (.aload_n 0, 1) := by decide +kernel
theorem dX4_advance_51 : decode cX4_advance 51 = .ok (.getfield 15, 3) := by decide +kernel
theorem dX4_advance_54 : decode cX4_advance 54 = .ok (.if_icmp .lt 11, 3) := by decide +kernel
theorem dX4_advance_57 : decode cX4_advance 57 = .ok (.aload_n 0, 1) := by decide +kernel
theorem dX4_advance_58 : decode cX4_advance 58 = .ok (.iconst 0, 1) := by decide +kernel
theorem dX4_advance_59 : decode cX4_advance 59 = .ok (.putfield 32, 3) := by decide +kernel
theorem dX4_advance_62 : decode cX4_advance 62 = .ok (.goto 90, 3) := by decide +kernel
theorem dX4_advance_65 : decode cX4_advance 65 = .ok (.aload_n 0, 1) := by decide +kernel
theorem dX4_advance_66 : decode cX4_advance 66 = .ok (.getfield 11, 3) := by decide +kernel
theorem dX4_advance_69 : decode cX4_advance 69 = .ok (.aload_n 0, 1) := by decide +kernel
theorem dX4_advance_70 : decode cX4_advance 70 = .ok (.getfield 19, 3) := by decide +kernel
theorem dX4_advance_73 : decode cX4_advance 73 = .ok (.iaload, 1) := by decide +kernel
theorem dX4_advance_74 : decode cX4_advance 74 = .ok (.invokestatic 139, 3) := by decide +kernel
theorem dX4_advance_77 : decode cX4_advance 77 = .ok (.ifCond .eq 15, 3) := by decide +kernel
theorem dX4_advance_80 : decode cX4_advance 80 = .ok (.aload_n 0, 1) := by decide +kernel
theorem dX4_advance_81 : decode cX4_advance 81 = .ok (.iconst 1, 1) := by decide +kernel
theorem dX4_advance_82 : decode cX4_advance 82 = .ok (.putfield 32, 3) := by decide +kernel
theorem dX4_advance_85 : decode cX4_advance 85 = .ok (.aload_n 0, 1) := by decide +kernel
theorem dX4_advance_86 : decode cX4_advance 86 = .ok (.invokevirtual 143, 3) := by decide +kernel
theorem dX4_advance_89 : decode cX4_advance 89 = .ok (.goto 63, 3) := by decide +kernel
theorem dX4_advance_92 : decode cX4_advance 92 = .ok (.aload_n 0, 1) := by decide +kernel
theorem dX4_advance_93 : decode cX4_advance 93 = .ok (.getfield 11, 3) := by decide +kernel
theorem dX4_advance_96 : decode cX4_advance 96 = .ok (.aload_n 0, 1) := by decide +kernel
theorem dX4_advance_97 : decode cX4_advance 97 = .ok (.getfield 19, 3) := by decide +kernel
theorem dX4_advance_100 : decode cX4_advance 100 = .ok (.iaload, 1) := by decide +kernel
theorem dX4_advance_101 : decode cX4_advance 101 = .ok (.invokestatic 146, 3) := by decide +kernel
theorem dX4_advance_104 : decode cX4_advance 104 = .ok (.ifCond .eq 15, 3) := by decide +kernel
theorem dX4_advance_107 : decode cX4_advance 107 = .ok (.aload_n 0, 1) := by decide +kernel
theorem dX4_advance_108 : decode cX4_advance 108 = .ok (.iconst 2, 1) := by decide +kernel
theorem dX4_advance_109 : decode cX4_advance 109 = .ok (.putfield 32, 3) := by decide +kernel
theorem dX4_advance_112 : decode cX4_advance 112 = .ok (.aload_n 0, 1) := by decide +kernel
theorem dX4_advance_113 : decode cX4_advance 113 = .ok (.invokevirtual 149, 3) := by decide +kernel
theorem dX4_advance_116 : decode cX4_advance 116 = .ok (.goto 36, 3) := by decide +kernel
theorem dX4_advance_119 : decode cX4_advance 119 = .ok (.aload_n 0, 1) := by decide +kernel
theorem dX4_advance_120 : decode cX4_advance 120 = .ok (.aload_n 0, 1) := by decide +kernel
theorem dX4_advance_121 : decode cX4_advance 121 = .ok (.getfield 11, 3) := by decide +kernel
theorem dX4_advance_124 : decode cX4_advance 124 = .ok (.aload_n 0, 1) := by decide +kernel
theorem dX4_advance_125 : decode cX4_advance 125 = .ok (.getfield 19, 3) := by decide +kernel
theorem dX4_advance_128 : decode cX4_advance 128 = .ok (.iaload, 1) := by decide +kernel
theorem dX4_advance_129 : decode cX4_advance 129 = .ok (.bipush 59, 2) := by decide +kernel
theorem dX4_advance_131 : decode cX4_advance 131 = .ok (.if_icmp .ne 7, 3) := by decide +kernel
theorem dX4_advance_134 : decode cX4_advance 134 = .ok (.iconst 3, 1) := by decide +kernel
theorem dX4_advance_135 : decode cX4_advance 135 = .ok (.goto 4, 3) := by decide +kernel
theorem dX4_advance_138 : decode cX4_advance 138 = .ok (.iconst 4, 1) := by decide +kernel
theorem dX4_advance_139 : decode cX4_advance 139 = .ok (.putfield 32, 3) := by decide +kernel
theorem dX4_advance_142 : decode cX4_advance 142 = .ok (.aload_n 0, 1) := by decide +kernel
theorem dX4_advance_143 : decode cX4_advance 143 = .ok (.dup, 1) := by decide +kernel
theorem dX4_advance_144 : decode cX4_advance 144 = .ok (.getfield 19, 3) := by decide +kernel
theorem dX4_advance_147 : decode cX4_advance 147 = .ok (.iconst 1, 1) := by decide +kernel
theorem dX4_advance_148 : decode cX4_advance 148 = .ok (.iadd, 1) := by decide +kernel
theorem dX4_advance_149 : decode cX4_advance 149 = .ok (.putfield 19, 3) := by decide +kernel
theorem dX4_advance_152 : decode cX4_advance 152 = .ok (.return_, 1) := by decide +kernel
theorem dX4_passLetters_0 : decode cX4_passLetters 0 = .ok (.aload_n 0, 1) := by decide +kernel
theorem dX4_passLetters_1 : decode cX4_passLetters 1 = .ok (.getfield 19, 3) := by decide +kernel
theorem dX4_passLetters_4 : decode cX4_passLetters 4 = .ok (.aload_n 0, 1) := by decide +kernel
theorem dX4_passLetters_5 : decode cX4_passLetters 5 = .ok (.getfield 15, 3) := by decide +kernel
theorem dX4_passLetters_8 : decode cX4_passLetters 8 = .ok (.if_icmp .ge 31, 3) := by decide +kernel
theorem dX4_passLetters_11 : decode cX4_passLetters 11 = .ok (.aload_n 0, 1) := by decide +kernel
theorem dX4_passLetters_12 : decode cX4_passLetters 12 = .ok (.getfield 11, 3) := by decide +kernel
theorem dX4_passLetters_15 : decode cX4_passLetters 15 = .ok (.aload_n 0, 1) := by decide +kernel
theorem dX4_passLetters_16 : decode cX4_passLetters 16 = .ok (.getfield 19, 3) := by decide +kernel
theorem dX4_passLetters_19 : decode cX4_passLetters 19 = .ok (.iaload, 1) := by decide +kernel
theorem dX4_passLetters_20 : decode cX4_passLetters 20 = .ok (.invokestatic 139, 3) := by decide +kernel
theorem dX4_passLetters_23 : decode cX4_passLetters 23 = .ok (.ifCond .eq 16, 3) := by decide +kernel
theorem dX4_passLetters_26 : decode cX4_passLetters 26 = .ok (.aload_n 0, 1) := by decide +kernel
theorem dX4_passLetters_27 : decode cX4_passLetters 27 = .ok (.dup, 1) := by decide +kernel
theorem dX4_passLetters_28 : decode cX4_passLetters 28 = .ok (.getfield 19, 3) := by decide +kernel
theorem dX4_passLetters_31 : decode cX4_passLetters 31 = .ok (.iconst 1, 1) := by decide +kernel
theorem dX4_passLetters_32 : decode cX4_passLetters 32 = .ok (.iadd, 1) := by decide +kernel
theorem dX4_passLetters_33 : decode cX4_passLetters 33 = .ok (.putfield 19, 3) := by decide +kernel
theorem dX4_passLetters_36 : decode cX4_passLetters 36 = .ok (.goto (-36), 3) := by decide +kernel
theorem dX4_passLetters_39 : decode cX4_passLetters 39 = .ok (.return_, 1) := by decide +kernel
theorem dX4_passDigits_0 : decode cX4_passDigits 0 = .ok (.aload_n 0, 1) := by decide +kernel
theorem dX4_passDigits_1 : decode cX4_passDigits 1 = .ok (.iconst 0, 1) := by decide +kernel
theorem dX4_passDigits_2 : decode cX4_passDigits 2 = .ok (.putfield 108, 3) := by decide +kernel
theorem dX4_passDigits_5 : decode cX4_passDigits 5 = .ok (.aload_n 0, 1) := by decide +kernel
theorem dX4_passDigits_6 : decode cX4_passDigits 6 = .ok (.getfield 19, 3) := by decide +kernel
theorem dX4_passDigits_9 : decode cX4_passDigits 9 = .ok (.aload_n 0, 1) := by decide +kernel
theorem dX4_passDigits_10 : decode cX4_passDigits 10 = .ok (.getfield 15, 3) := by decide +kernel
theorem dX4_passDigits_13 : decode cX4_passDigits 13 = .ok (.if_icmp .ge 61, 3) := by decide +kernel
theorem dX4_passDigits_16 : decode cX4_passDigits 16 = .ok (.aload_n 0, 1) := by decide +kernel
theorem dX4_passDigits_17 : decode cX4_passDigits 17 = .ok (.getfield 11, 3) := by decide +kernel
theorem dX4_passDigits_20 : decode cX4_passDigits 20 = .ok (.aload_n 0, 1) := by decide +kernel
theorem dX4_passDigits_21 : decode cX4_passDigits 21 = .ok (.getfield 19, 3) := by decide +kernel
theorem dX4_passDigits_24 : decode cX4_passDigits 24 = .ok (.iaload, 1) := by decide +kernel
theorem dX4_passDigits_25 : decode cX4_passDigits 25 = .ok (.invokestatic 146, 3) := by decide +kernel
theorem dX4_passDigits_28 : decode cX4_passDigits 28 = .ok (.ifCond .eq 46, 3) := by decide +kernel
theorem dX4_passDigits_31 : decode cX4_passDigits 31 = .ok (.aload_n 0, 1) := by decide +kernel
theorem dX4_passDigits_32 : decode cX4_passDigits 32 = .ok (.sipush 1000, 3) := by decide +kernel
theorem dX4_passDigits_35 : decode cX4_passDigits 35 = .ok (.aload_n 0, 1) := by decide +kernel
theorem dX4_passDigits_36 : decode cX4_passDigits 36 = .ok (.getfield 108, 3) := by decide +kernel
theorem dX4_passDigits_39 : decode cX4_passDigits 39 = .ok (.bipush 10, 2) := by decide +kernel
theorem dX4_passDigits_41 : decode cX4_passDigits 41 = .ok (.imul, 1) := by decide +kernel
theorem dX4_passDigits_42 : decode cX4_passDigits 42 = .ok (.aload_n 0, 1) := by decide +kernel
theorem dX4_passDigits_43 : decode cX4_passDigits 43 = .ok (.getfield 11, 3) := by decide +kernel
theorem dX4_passDigits_46 : decode cX4_passDigits 46 = .ok (.aload_n 0, 1) := by decide +kernel
theorem dX4_passDigits_47 : decode cX4_passDigits 47 = .ok (.getfield 19, 3) := by decide +kernel
theorem dX4_passDigits_50 : decode cX4_passDigits 50 = .ok (.iaload, 1) := by decide +kernel
theorem dX4_passDigits_51 : decode cX4_passDigits 51 = .ok (.iadd, 1) := by decide +kernel
theorem dX4_passDigits_52 : decode cX4_passDigits 52 = .ok (.bipush 48, 2) := by decide +kernel
theorem dX4_passDigits_54 : decode cX4_passDigits 54 = .ok (.isub, 1) := by decide +kernel
theorem dX4_passDigits_55 : decode cX4_passDigits 55 = .ok (.invokestatic 152, 3) := by decide +kernel
theorem dX4_passDigits_58 : decode cX4_passDigits 58 = .ok (.putfield 108, 3) := by decide +kernel
theorem dX4_passDigits_61 : decode cX4_passDigits 61 = .ok (.aload_n 0, 1) := by decide +kernel
theorem dX4_passDigits_62 : decode cX4_passDigits 62 = .ok (.dup, 1) := by decide +kernel
theorem dX4_passDigits_63 : decode cX4_passDigits 63 = .ok (.getfield 19, 3) := by decide +kernel
theorem dX4_passDigits_66 : decode cX4_passDigits 66 = .ok (.iconst 1, 1) := by decide +kernel
theorem dX4_passDigits_67 : decode cX4_passDigits 67 = .ok (.iadd, 1) := by decide +kernel
theorem dX4_passDigits_68 : decode cX4_passDigits 68 = .ok (.putfield 19, 3) := by decide +kernel
theorem dX4_passDigits_71 : decode cX4_passDigits 71 = .ok (.goto (-66), 3) := by decide +kernel
theorem dX4_passDigits_74 : decode cX4_passDigits 74 = .ok (.return_, 1) := by decide +kernel
theorem dX4_isLetter_0 : decode cX4_isLetter 0 = .ok (.iload_n 0, 1) := by decide +kernel
theorem dX4_isLetter_1 : decode cX4_isLetter 1 = .ok (.bipush 97, 2) := by decide +kernel
theorem dX4_isLetter_3 : decode cX4_isLetter 3 = .ok (.if_icmp .lt 13, 3) := by decide +kernel
theorem dX4_isLetter_6 : decode cX4_isLetter 6 = .ok (.iload_n 0, 1) := by decide +kernel
theorem dX4_isLetter_7 : decode cX4_isLetter 7 = .ok (.bipush 122, 2) := by decide +kernel
theorem dX4_isLetter_9 : decode cX4_isLetter 9 = .ok (.if_icmp .gt 7, 3) := by decide +kernel
theorem dX4_isLetter_12 : decode cX4_isLetter 12 = .ok (.iconst 1, 1) := by decide +kernel
theorem dX4_isLetter_13 : decode cX4_isLetter 13 = .ok (.goto 4, 3) := by decide +kernel
theorem dX4_isLetter_16 : decode cX4_isLetter 16 = .ok (.iconst 0, 1) := by decide +kernel
theorem dX4_isLetter_17 : decode cX4_isLetter 17 = .ok (.ireturn, 1) := by decide +kernel
theorem dX4_isDigit_0 : decode cX4_isDigit 0 = .ok (.iload_n 0, 1) := by decide +kernel
theorem dX4_isDigit_1 : decode cX4_isDigit 1 = .ok (.bipush 48, 2) := by decide +kernel
theorem dX4_isDigit_3 : decode cX4_isDigit 3 = .ok (.if_icmp .lt 13, 3) := by decide +kernel
theorem dX4_isDigit_6 : decode cX4_isDigit 6 = .ok (.iload_n 0, 1) := by decide +kernel
theorem dX4_isDigit_7 : decode cX4_isDigit 7 = .ok (.bipush 57, 2) := by decide +kernel
theorem dX4_isDigit_9 : decode cX4_isDigit 9 = .ok (.if_icmp .gt 7, 3) := by decide +kernel
theorem dX4_isDigit_12 : decode cX4_isDigit 12 = .ok (.iconst 1, 1) := by decide +kernel
theorem dX4_isDigit_13 : decode cX4_isDigit 13 = .ok (.goto 4, 3) := by decide +kernel
theorem dX4_isDigit_16 : decode cX4_isDigit 16 = .ok (.iconst 0, 1) := by decide +kernel
theorem dX4_isDigit_17 : decode cX4_isDigit 17 = .ok (.ireturn, 1) := by decide +kernel
theorem dX5_init_0 : decode cX5_init 0 = .ok (.aload_n 0, 1) := by decide +kernel
theorem dX5_init_1 : decode cX5_init 1 = .ok (.invokespecial 1, 3) := by decide +kernel
theorem dX5_init_4 : decode cX5_init 4 = .ok (.aload_n 0, 1) := by decide +kernel
theorem dX5_init_5 : decode cX5_init 5 = .ok (.new 7, 3) := by decide +kernel
theorem dX5_init_8 : decode cX5_init 8 = .ok (.dup, 1) := by decide +kernel
theorem dX5_init_9 : decode cX5_init 9 = .ok (.invokespecial 9, 3) := by decide +kernel
theorem dX5_init_12 : decode cX5_init 12 = .ok (.putfield 10, 3) := by decide +kernel
theorem dX5_init_15 : decode cX5_init 15 = .ok (.aload_n 0, 1) := by decide +kernel
theorem dX5_init_16 : decode cX5_init 16 = .ok (.new 7, 3) := by decide +kernel
theorem dX5_init_19 : decode cX5_init 19 = .ok (.dup, 1) := by decide +kernel
theorem dX5_init_20 : decode cX5_init 20 = .ok (.invokespecial 9, 3) := by decide +kernel
theorem dX5_init_23 : decode cX5_init 23 = .ok (.putfield 16, 3) := by decide +kernel
theorem dX5_init_26 : decode cX5_init 26 = .ok (.aload_n 0, 1) := by decide +kernel
theorem dX5_init_27 : decode cX5_init 27 = .ok (.new 7, 3) := by decide +kernel
theorem dX5_init_30 : decode cX5_init 30 = .ok (.dup, 1) := by decide +kernel
theorem dX5_init_31 : decode cX5_init 31 = .ok (.invokespecial 9, 3) := by decide +kernel
theorem dX5_init_34 : decode cX5_init 34 = .ok (.putfield 19, 3) := by decide +kernel
theorem dX5_init_37 : decode cX5_init 37 = .ok (.aload_n 0, 1) := by decide +kernel
theorem dX5_init_38 : decode cX5_init 38 = .ok (.new 22, 3) := by decide +kernel
theorem dX5_init_41 : decode cX5_init 41 = .ok (.dup, 1) := by decide +kernel
theorem dX5_init_42 : decode cX5_init 42 = .ok (.invokespecial 24, 3) := by decide +kernel
theorem dX5_init_45 : decode cX5_init 45 = .ok (.putfield 25, 3) := by decide +kernel
theorem dX5_init_48 : decode cX5_init 48 = .ok (.aload_n 0, 1) := by decide +kernel
theorem dX5_init_49 : decode cX5_init 49 = .ok (.new 29, 3) := by decide +kernel
theorem dX5_init_52 : decode cX5_init 52 = .ok (.dup, 1) := by decide +kernel
theorem dX5_init_53 : decode cX5_init 53 = .ok (.invokespecial 31, 3) := by decide +kernel
theorem dX5_init_56 : decode cX5_init 56 = .ok (.putfield 32, 3) := by decide +kernel
theorem dX5_init_59 : decode cX5_init 59 = .ok (.aload_n 0, 1) := by decide +kernel
theorem dX5_init_60 : decode cX5_init 60 = .ok (.iconst 4, 1) := by decide +kernel
theorem dX5_init_61 : decode cX5_init 61 = .ok (.anewarray 36, 3) := by decide +kernel
theorem dX5_init_64 : decode cX5_init 64 = .ok (.putfield 38, 3) := by decide +kernel
theorem dX5_init_67 : decode cX5_init 67 = .ok (.aload_n 0, 1) := by decide +kernel
theorem dX5_init_68 : decode cX5_init 68 = .ok (.bipush 7, 2) := by decide +kernel
theorem dX5_init_70 : decode cX5_init 70 = .ok (.newarray .int, 2) := by decide +kernel
theorem dX5_init_72 : decode cX5_init 72 = .ok (.putfield 42, 3) := by decide +kernel
theorem dX5_init_75 : decode cX5_init 75 = .ok (.iconst 0, 1) := by decide +kernel
theorem dX5_init_76 : decode cX5_init 76 = .ok (.istore_n 1, 1) := by decide +kernel
theorem dX5_init_77 : decode cX5_init 77 = .ok (.iload_n 1, 1) := by decide +kernel
theorem dX5_init_78 : decode cX5_init 78 = .ok (.iconst 4, 1) := by decide +kernel
theorem dX5_init_79 : decode cX5_init 79 = .ok (.if_icmp .ge 22, 3) := by decide +kernel
theorem dX5_init_82 : decode cX5_init 82 = .ok (.aload_n 0, 1) := by decide +kernel
theorem dX5_init_83 : decode cX5_init 83 = .ok (.getfield 38, 3) := by decide +kernel
theorem dX5_init_86 : decode cX5_init 86 = .ok (.iload_n 1, 1) := by decide +kernel
theorem dX5_init_87 : decode cX5_init 87 = .ok (.new 36, 3) := by decide +kernel
theorem dX5_init_90 : decode cX5_init 90 = .ok (.dup, 1) := by decide +kernel
theorem dX5_init_91 : decode cX5_init 91 = .ok (.invokespecial 46, 3) := by decide +kernel
theorem dX5_init_94 : decode cX5_init 94 = .ok (.aastore, 1) := by decide +kernel
theorem dX5_init_95 : decode cX5_init 95 = .ok (.iinc 1 1, 3) := by decide +kernel
theorem dX5_init_98 : decode cX5_init 98 = .ok (.goto (-21), 3) := by decide +kernel
theorem dX5_init_101 : decode cX5_init 101 = .ok (.return_, 1) := by decide +kernel
theorem dX5_wheat_0 : decode cX5_wheat 0 = .ok (.iload_n 1, 1) := by decide +kernel
theorem dX5_wheat_1 : decode cX5_wheat 1 = .ok (.invokestatic 47, 3) := by decide +kernel
theorem dX5_wheat_4 : decode cX5_wheat 4 = .ok (.ifCond .eq 13, 3) := by decide +kernel
theorem dX5_wheat_7 : decode cX5_wheat 7 = .ok (.iload_n 2, 1) := by decide +kernel
theorem dX5_wheat_8 : decode cX5_wheat 8 = .ok (.iconst 0, 1) := by decide +kernel
theorem dX5_wheat_9 : decode cX5_wheat 9 = .ok (.bipush 99, 2) := by decide +kernel
theorem dX5_wheat_11 : decode cX5_wheat 11 = .ok (.invokestatic 51, 3) := by decide +kernel
theorem dX5_wheat_14 : decode cX5_wheat 14 = .ok (.ifCond .ne 9, 3) := by decide +kernel
theorem dX5_wheat_17 : decode cX5_wheat 17 = .ok (.aload_n 0, 1) := by decide +kernel
theorem dX5_wheat_18 : decode cX5_wheat 18 = .ok (.iconst 0, 1) := by decide +kernel
theorem dX5_wheat_19 : decode cX5_wheat 19 = .ok (.invokevirtual 55, 3) := by decide +kernel
theorem dX5_wheat_22 : decode cX5_wheat 22 = .ok (.ireturn, 1) := by decide +kernel
theorem dX5_wheat_23 : decode cX5_wheat 23 = .ok (.aload_n 0, 1) := by decide +kernel
theorem dX5_wheat_24 : decode cX5_wheat 24 = .ok (.getfield 10, 3) := by decide +kernel
theorem dX5_wheat_27 : decode cX5_wheat 27 = .ok (.getfield 59, 3) := by decide +kernel
theorem dX5_wheat_30 : decode cX5_wheat 30 = .ok (.iload_n 1, 1) := by decide +kernel
theorem dX5_wheat_31 : decode cX5_wheat 31 = .ok (.iaload, 1) := by decide +kernel
theorem dX5_wheat_32 : decode cX5_wheat 32 = .ok (.istore_n 3, 1) := by decide +kernel
theorem dX5_wheat_33 : decode cX5_wheat 33 = .ok (.aload_n 0, 1) := by decide +kernel
theorem dX5_wheat_34 : decode cX5_wheat 34 = .ok (.getfield 10, 3) := by decide +kernel
theorem dX5_wheat_37 : decode cX5_wheat 37 = .ok (.getfield 59, 3) := by decide +kernel
theorem dX5_wheat_40 : decode cX5_wheat 40 = .ok (.iload_n 1, 1) := by decide +kernel
theorem dX5_wheat_41 : decode cX5_wheat 41 = .ok (.iload_n 2, 1) := by decide +kernel
theorem dX5_wheat_42 : decode cX5_wheat 42 = .ok (.iastore, 1) := by decide +kernel
theorem dX5_wheat_43 : decode cX5_wheat 43 = .ok (.iload_n 3, 1) := by decide +kernel
theorem dX5_wheat_44 : decode cX5_wheat 44 = .ok (.ireturn, 1) := by decide +kernel
theorem dX5_cell_0 : decode cX5_cell 0 = .ok (.iload_n 1, 1) := by decide +kernel
theorem dX5_cell_1 : decode cX5_cell 1 = .ok (.invokestatic 47, 3) := by decide +kernel
theorem dX5_cell_4 : decode cX5_cell 4 = .ok (.ifCond .ne 9, 3) := by decide +kernel
theorem dX5_cell_7 : decode cX5_cell 7 = .ok (.aload_n 0, 1) := by decide +kernel
theorem dX5_cell_8 : decode cX5_cell 8 = .ok (.iconst 0, 1) := by decide +kernel
theorem dX5_cell_9 : decode cX5_cell 9 = .ok (.invokevirtual 55, 3) := by decide +kernel
theorem dX5_cell_12 : decode cX5_cell 12 = .ok (.ireturn, 1) := by decide +kernel
theorem dX5_cell_13 : decode cX5_cell 13 = .ok (.iload_n 2, 1) := by decide +kernel
theorem dX5_cell_14 : decode cX5_cell 14 = .ok (.tableswitch 70 0 2 #[26, 36, 61], 26) := by decide +kernel
theorem dX5_cell_40 : decode cX5_cell 40 = .ok (.aload_n 0, 1) := by decide +kernel
theorem dX5_cell_41 : decode cX5_cell 41 = .ok (.getfield 10, 3) := by decide +kernel
theorem dX5_cell_44 : decode cX5_cell 44 = .ok (.getfield 59, 3) := by decide +kernel
theorem dX5_cell_47 : decode cX5_cell 47 = .ok (.iload_n 1, 1) := by decide +kernel
theorem dX5_cell_48 : decode cX5_cell 48 = .ok (.iaload, 1) := by decide +kernel
theorem dX5_cell_49 : decode cX5_cell 49 = .ok (.ireturn, 1) := by decide +kernel
theorem dX5_cell_50 : decode cX5_cell 50 = .ok (.aload_n 0, 1) := by decide +kernel
theorem dX5_cell_51 : decode cX5_cell 51 = .ok (.getfield 25, 3) := by decide +kernel
theorem dX5_cell_54 : decode cX5_cell 54 = .ok (.aload_n 0, 1) := by decide +kernel
theorem dX5_cell_55 : decode cX5_cell 55 = .ok (.getfield 10, 3) := by decide +kernel
theorem dX5_cell_58 : decode cX5_cell 58 = .ok (.invokevirtual 62, 3) := by decide +kernel
theorem dX5_cell_61 : decode cX5_cell 61 = .ok (.sipush 1000, 3) := by decide +kernel
theorem dX5_cell_64 : decode cX5_cell 64 = .ok (.aload_n 0, 1) := by decide +kernel
theorem dX5_cell_65 : decode cX5_cell 65 = .ok (.getfield 25, 3) := by decide +kernel
theorem dX5_cell_68 : decode cX5_cell 68 = .ok (.getfield 66, 3) := by decide +kernel
theorem dX5_cell_71 : decode cX5_cell 71 = .ok (.iload_n 1, 1) := by decide +kernel
theorem dX5_cell_72 : decode cX5_cell 72 = .ok (.iaload, 1) := by decide +kernel
theorem dX5_cell_73 : decode cX5_cell 73 = .ok (.iadd, 1) := by decide +kernel
theorem dX5_cell_74 : decode cX5_cell 74 = .ok (.ireturn, 1) := by decide +kernel
theorem dX5_cell_75 : decode cX5_cell 75 = .ok (.aload_n 0, 1) := by decide +kernel
theorem dX5_cell_76 : decode cX5_cell 76 = .ok (.getfield 10, 3) := by decide +kernel
theorem dX5_cell_79 : decode cX5_cell 79 = .ok (.iload_n 1, 1) := by decide +kernel
theorem dX5_cell_80 : decode cX5_cell 80 = .ok (.invokevirtual 69, 3) := by decide +kernel
theorem dX5_cell_83 : decode cX5_cell 83 = .ok (.ireturn, 1) := by decide +kernel
theorem dX5_cell_84 : decode cX5_cell 84 = .ok (.aload_n 0, 1) := by decide +kernel
theorem dX5_cell_85 : decode cX5_cell 85 = .ok (.iconst 0, 1) := by decide +kernel
theorem dX5_cell_86 : decode cX5_cell 86 = .ok (.invokevirtual 55, 3) := by decide +kernel
theorem dX5_cell_89 : decode cX5_cell 89 = .ok (.ireturn, 1) := by decide +kernel
theorem dX5_crows_0 : decode cX5_crows 0 = .ok (.iload_n 1, 1) := by decide +kernel
theorem dX5_crows_1 : decode cX5_crows 1 = .ok (.iconst 0, 1) := by decide +kernel
theorem dX5_crows_2 : decode cX5_crows 2 = .ok (.bipush 20, 2) := by decide +kernel
theorem dX5_crows_4 : decode cX5_crows 4 = .ok (.invokestatic 51, 3) := by decide +kernel
theorem dX5_crows_7 : decode cX5_crows 7 = .ok (.ifCond .ne 9, 3) := by decide +kernel
theorem dX5_crows_10 : decode cX5_crows 10 = .ok (.aload_n 0, 1) := by decide +kernel
theorem dX5_crows_11 : decode cX5_crows 11 = .ok (.iconst 0, 1) := by decide +kernel
theorem dX5_crows_12 : decode cX5_crows 12 = .ok (.invokevirtual 55, 3) := by decide +kernel
theorem dX5_crows_15 : decode cX5_crows 15 = .ok (.ireturn, 1) := by decide +kernel
theorem dX5_crows_16 : decode cX5_crows 16 = .ok (.aload_n 0, 1) := by decide +kernel
theorem dX5_crows_17 : decode cX5_crows 17 = .ok (.getfield 10, 3) := by decide +kernel
theorem dX5_crows_20 : decode cX5_crows 20 = .ok (.getfield 72, 3) := by decide +kernel
theorem dX5_crows_23 : decode cX5_crows 23 = .ok (.istore_n 2, 1) := by decide +kernel
theorem dX5_crows_24 : decode cX5_crows 24 = .ok (.aload_n 0, 1) := by decide +kernel
theorem dX5_crows_25 : decode cX5_crows 25 = .ok (.getfield 10, 3) := by decide +kernel
theorem dX5_crows_28 : decode cX5_crows 28 = .ok (.iload_n 1, 1) := by decide +kernel
theorem dX5_crows_29 : decode cX5_crows 29 = .ok (.putfield 72, 3) := by decide +kernel
theorem dX5_crows_32 : decode cX5_crows 32 = .ok (.iload_n 2, 1) := by decide +kernel
theorem dX5_crows_33 : decode cX5_crows 33 = .ok (.ireturn, 1) := by decide +kernel
theorem dX5_sitter_0 : decode cX5_sitter 0 = .ok (.iload_n 1, 1) := by decide +kernel
theorem dX5_sitter_1 : decode cX5_sitter 1 = .ok (.invokestatic 76, 3) := by decide +kernel
theorem dX5_sitter_4 : decode cX5_sitter 4 = .ok (.ifCond .ne 9, 3) := by decide +kernel
theorem dX5_sitter_7 : decode cX5_sitter 7 = .ok (.aload_n 0, 1) := by decide +kernel
theorem dX5_sitter_8 : decode cX5_sitter 8 = .ok (.iconst 0, 1) := by decide +kernel
theorem dX5_sitter_9 : decode cX5_sitter 9 = .ok (.invokevirtual 55, 3) := by decide +kernel
theorem dX5_sitter_12 : decode cX5_sitter 12 = .ok (.ireturn, 1) := by decide +kernel
theorem dX5_sitter_13 : decode cX5_sitter 13 = .ok (.aload_n 0, 1) := by decide +kernel
theorem dX5_sitter_14 : decode cX5_sitter 14 = .ok (.getfield 10, 3) := by decide +kernel
theorem dX5_sitter_17 : decode cX5_sitter 17 = .ok (.getfield 79, 3) := by decide +kernel
theorem dX5_sitter_20 : decode cX5_sitter 20 = .ok (.bipush 6, 2) := by decide +kernel
theorem dX5_sitter_22 : decode cX5_sitter 22 = .ok (.if_icmp .lt 9, 3) := by decide +kernel
theorem dX5_sitter_25 : decode cX5_sitter 25 = .ok (.aload_n 0, 1) := by decide +kernel
theorem dX5_sitter_26 : decode cX5_sitter 26 = .ok (.iconst 1, 1) := by decide +kernel
theorem dX5_sitter_27 : decode cX5_sitter 27 = .ok (.invokevirtual 55, 3) := by decide +kernel
theorem dX5_sitter_30 : decode cX5_sitter 30 = .ok (.ireturn, 1) := by decide +kernel
theorem dX5_sitter_31 : decode cX5_sitter 31 = .ok (.aload_n 0, 1) := by decide +kernel
theorem dX5_sitter_32 : decode cX5_sitter 32 = .ok (.getfield 10, 3) := by decide +kernel
theorem dX5_sitter_35 : decode cX5_sitter 35 = .ok (.iload_n 1, 1) := by decide +kernel
theorem dX5_sitter_36 : decode cX5_sitter 36 = .ok (.invokevirtual 82, 3) := by decide +kernel
theorem dX5_sitter_39 : decode cX5_sitter 39 = .ok (.ireturn, 1) := by decide +kernel
theorem dX5_of_0 : decode cX5_of 0 = .ok (.aload_n 0, 1) := by decide +kernel
theorem dX5_of_1 : decode cX5_of 1 = .ok (.iload_n 1, 1) := by decide +kernel
theorem dX5_of_2 : decode cX5_of 2 = .ok (.invokevirtual 85, 3) := by decide +kernel
theorem dX5_of_5 : decode cX5_of 5 = .ok (.ifCond .ne 9, 3) := by decide +kernel
theorem dX5_of_8 : decode cX5_of 8 = .ok (.aload_n 0, 1) := by decide +kernel
theorem dX5_of_9 : decode cX5_of 9 = .ok (.iconst 0, 1) := by decide +kernel
theorem dX5_of_10 : decode cX5_of 10 = .ok (.invokevirtual 55, 3) := by decide +kernel
theorem dX5_of_13 : decode cX5_of 13 = .ok (.ireturn, 1) := by decide +kernel
theorem dX5_of_14 : decode cX5_of 14 = .ok (.iload_n 2, 1) := by decide +kernel
theorem dX5_of_15 : decode cX5_of 15 = .ok (.tableswitch 98 0 5 #[37, 47, 57, 67, 77, 89], 37) := by decide +kernel
theorem dX5_of_52 : decode cX5_of 52 = .ok (.aload_n 0, 1) := by decide +kernel
theorem dX5_of_53 : decode cX5_of 53 = .ok (.getfield 10, 3) := by decide +kernel
theorem dX5_of_56 : decode cX5_of 56 = .ok (.getfield 88, 3) := by decide +kernel
theorem dX5_of_59 : decode cX5_of 59 = .ok (.iload_n 1, 1) := by decide +kernel
theorem dX5_of_60 : decode cX5_of 60 = .ok (.iaload, 1) := by decide +kernel
theorem dX5_of_61 : decode cX5_of 61 = .ok (.ireturn, 1) := by decide +kernel
theorem dX5_of_62 : decode cX5_of 62 = .ok (.aload_n 0, 1) := by decide +kernel
theorem dX5_of_63 : decode cX5_of 63 = .ok (.getfield 10, 3) := by decide +kernel
theorem dX5_of_66 : decode cX5_of 66 = .ok (.getfield 91, 3) := by decide +kernel
theorem dX5_of_69 : decode cX5_of 69 = .ok (.iload_n 1, 1) := by decide +kernel
theorem dX5_of_70 : decode cX5_of 70 = .ok (.iaload, 1) := by decide +kernel
theorem dX5_of_71 : decode cX5_of 71 = .ok (.ireturn, 1) := by decide +kernel
theorem dX5_of_72 : decode cX5_of 72 = .ok (.aload_n 0, 1) := by decide +kernel
theorem dX5_of_73 : decode cX5_of 73 = .ok (.getfield 10, 3) := by decide +kernel
theorem dX5_of_76 : decode cX5_of 76 = .ok (.getfield 94, 3) := by decide +kernel
theorem dX5_of_79 : decode cX5_of 79 = .ok (.iload_n 1, 1) := by decide +kernel
theorem dX5_of_80 : decode cX5_of 80 = .ok (.iaload, 1) := by decide +kernel
theorem dX5_of_81 : decode cX5_of 81 = .ok (.ireturn, 1) := by decide +kernel
theorem dX5_of_82 : decode cX5_of 82 = .ok (.aload_n 0, 1) := by decide +kernel
theorem dX5_of_83 : decode cX5_of 83 = .ok (.getfield 10, 3) := by decide +kernel
theorem dX5_of_86 : decode cX5_of 86 = .ok (.getfield 97, 3) := by decide +kernel
theorem dX5_of_89 : decode cX5_of 89 = .ok (.iload_n 1, 1) := by decide +kernel
theorem dX5_of_90 : decode cX5_of 90 = .ok (.iaload, 1) := by decide +kernel
theorem dX5_of_91 : decode cX5_of 91 = .ok (.ireturn, 1) := by decide +kernel
theorem dX5_of_92 : decode cX5_of 92 = .ok (.aload_n 0, 1) := by decide +kernel
theorem dX5_of_93 : decode cX5_of 93 = .ok (.getfield 10, 3) := by decide +kernel
theorem dX5_of_96 : decode cX5_of 96 = .ok (.iload_n 1, 1) := by decide +kernel
theorem dX5_of_97 : decode cX5_of 97 = .ok (.invokevirtual 100, 3) := by decide +kernel
theorem dX5_of_100 : decode cX5_of 100 = .ok (.invokestatic 103, 3) := by decide +kernel
theorem dX5_of_103 : decode cX5_of 103 = .ok (.ireturn, 1) := by decide +kernel
theorem dX5_of_104 : decode cX5_of 104 = .ok (.aload_n 0, 1) := by decide +kernel
theorem dX5_of_105 : decode cX5_of 105 = .ok (.getfield 10, 3) := by decide +kernel
theorem dX5_of_108 : decode cX5_of 108 = .ok (.iload_n 1, 1) := by decide +kernel
theorem dX5_of_109 : decode cX5_of 109 = .ok (.invokevirtual 108, 3) := by decide +kernel
theorem dX5_of_112 : decode cX5_of 112 = .ok (.ireturn, 1) := by decide +kernel
theorem dX5_of_113 : decode cX5_of 113 = .ok (.aload_n 0, 1) := by decide +kernel
theorem dX5_of_114 : decode cX5_of 114 = .ok (.iconst 0, 1) := by decide +kernel
theorem dX5_of_115 : decode cX5_of 115 = .ok (.invokevirtual 55, 3) := by decide +kernel
theorem dX5_of_118 : decode cX5_of 118 = .ok (.ireturn, 1) := by decide +kernel
theorem dX5_set_0 : decode cX5_set 0 = .ok (.aload_n 0, 1) := by decide +kernel
theorem dX5_set_1 : decode cX5_set 1 = .ok (.iload_n 1, 1) := by decide +kernel
theorem dX5_set_2 : decode cX5_set 2 = .ok (.invokevirtual 85, 3) := by decide +kernel
theorem dX5_set_5 : decode cX5_set 5 = .ok (.ifCond .ne 9, 3) := by decide +kernel
theorem dX5_set_8 : decode cX5_set 8 = .ok (.aload_n 0, 1) := by decide +kernel
theorem dX5_set_9 : decode cX5_set 9 = .ok (.iconst 0, 1) := by decide +kernel
theorem dX5_set_10 : decode cX5_set 10 = .ok (.invokevirtual 55, 3) := by decide +kernel
theorem dX5_set_13 : decode cX5_set 13 = .ok (.ireturn, 1) := by decide +kernel
theorem dX5_set_14 : decode cX5_set 14 = .ok (.iload_n 2, 1) := by decide +kernel
theorem dX5_set_15 : decode cX5_set 15 = .ok (.iconst 1, 1) := by decide +kernel
theorem dX5_set_16 : decode cX5_set 16 = .ok (.if_icmp .ne 26, 3) := by decide +kernel
theorem dX5_set_19 : decode cX5_set 19 = .ok (.iload_n 3, 1) := by decide +kernel
theorem dX5_set_20 : decode cX5_set 20 = .ok (.iconst 0, 1) := by decide +kernel
theorem dX5_set_21 : decode cX5_set 21 = .ok (.bipush 30, 2) := by decide +kernel
theorem dX5_set_23 : decode cX5_set 23 = .ok (.invokestatic 51, 3) := by decide +kernel
theorem dX5_set_26 : decode cX5_set 26 = .ok (.ifCond .eq 16, 3) := by decide +kernel
theorem dX5_set_29 : decode cX5_set 29 = .ok (.aload_n 0, 1) := by decide +kernel
theorem dX5_set_30 : decode cX5_set 30 = .ok (.getfield 10, 3) := by decide +kernel
theorem dX5_set_33 : decode cX5_set 33 = .ok (.getfield 91, 3) := by decide +kernel
theorem dX5_set_36 : decode cX5_set 36 = .ok (.iload_n 1, 1) := by decide +kernel
theorem dX5_set_37 : decode cX5_set 37 = .ok (.iload_n 3, 1) := by decide +kernel
theorem dX5_set_38 : decode cX5_set 38 = .ok (.invokestatic 111, 3) := by decide +kernel
theorem dX5_set_41 : decode cX5_set 41 = .ok (.ireturn, 1) := by decide +kernel
theorem dX5_set_42 : decode cX5_set 42 = .ok (.iload_n 2, 1) := by decide +kernel
theorem dX5_set_43 : decode cX5_set 43 = .ok (.iconst 2, 1) := by decide +kernel
theorem dX5_set_44 : decode cX5_set 44 = .ok (.if_icmp .ne 26, 3) := by decide +kernel
theorem dX5_set_47 : decode cX5_set 47 = .ok (.iload_n 3, 1) := by decide +kernel
theorem dX5_set_48 : decode cX5_set 48 = .ok (.iconst 0, 1) := by decide +kernel
theorem dX5_set_49 : decode cX5_set 49 = .ok (.bipush 99, 2) := by decide +kernel
theorem dX5_set_51 : decode cX5_set 51 = .ok (.invokestatic 51, 3) := by decide +kernel
theorem dX5_set_54 : decode cX5_set 54 = .ok (.ifCond .eq 16, 3) := by decide +kernel
theorem dX5_set_57 : decode cX5_set 57 = .ok (.aload_n 0, 1) := by decide +kernel
theorem dX5_set_58 : decode cX5_set 58 = .ok (.getfield 10, 3) := by decide +kernel
theorem dX5_set_61 : decode cX5_set 61 = .ok (.getfield 94, 3) := by decide +kernel
theorem dX5_set_64 : decode cX5_set 64 = .ok (.iload_n 1, 1) := by decide +kernel
theorem dX5_set_65 : decode cX5_set 65 = .ok (.iload_n 3, 1) := by decide +kernel
theorem dX5_set_66 : decode cX5_set 66 = .ok (.invokestatic 111, 3) := by decide +kernel
theorem dX5_set_69 : decode cX5_set 69 = .ok (.ireturn, 1) := by decide +kernel
theorem dX5_set_70 : decode cX5_set 70 = .ok (.aload_n 0, 1) := by decide +kernel
theorem dX5_set_71 : decode cX5_set 71 = .ok (.iconst 0, 1) := by decide +kernel
theorem dX5_set_72 : decode cX5_set 72 = .ok (.invokevirtual 55, 3) := by decide +kernel
theorem dX5_set_75 : decode cX5_set 75 = .ok (.ireturn, 1) := by decide +kernel
theorem dX5_turn_0 : decode cX5_turn 0 = .ok (.aload_n 0, 1) := by decide +kernel
theorem dX5_turn_1 : decode cX5_turn 1 = .ok (.iload_n 1, 1) := by decide +kernel
theorem dX5_turn_2 : decode cX5_turn 2 = .ok (.invokevirtual 85, 3) := by decide +kernel
theorem dX5_turn_5 : decode cX5_turn 5 = .ok (.ifCond .eq 10, 3) := by decide +kernel
theorem dX5_turn_8 : decode cX5_turn 8 = .ok (.iload_n 2, 1) := by decide +kernel
theorem dX5_turn_9 : decode cX5_turn 9 = .ok (.invokestatic 76, 3) := by decide +kernel
theorem dX5_turn_12 : decode cX5_turn 12 = .ok (.ifCond .ne 9, 3) := by decide +kernel
theorem dX5_turn_15 : decode cX5_turn 15 = .ok (.aload_n 0, 1) := by decide +kernel
theorem dX5_turn_16 : decode cX5_turn 16 = .ok (.iconst 0, 1) := by decide +kernel
theorem dX5_turn_17 : decode cX5_turn 17 = .ok (.invokevirtual 55, 3) := by decide +kernel
theorem dX5_turn_20 : decode cX5_turn 20 = .ok (.ireturn, 1) := by decide +kernel
theorem dX5_turn_21 : decode cX5_turn 21 = .ok (.aload_n 0, 1) := by decide +kernel
theorem dX5_turn_22 : decode cX5_turn 22 = .ok (.getfield 10, 3) := by decide +kernel
theorem dX5_turn_25 : decode cX5_turn 25 = .ok (.getfield 88, 3) := by decide +kernel
theorem dX5_turn_28 : decode cX5_turn 28 = .ok (.iload_n 1, 1) := by decide +kernel
theorem dX5_turn_29 : decode cX5_turn 29 = .ok (.iload_n 2, 1) := by decide +kernel
theorem dX5_turn_30 : decode cX5_turn 30 = .ok (.invokestatic 111, 3) := by decide +kernel
theorem dX5_turn_33 : decode cX5_turn 33 = .ok (.ireturn, 1) := by decide +kernel
theorem dX5_as_0 : decode cX5_as 0 = .ok (.aload_n 0, 1) := by decide +kernel
theorem dX5_as_1 : decode cX5_as 1 = .ok (.iload_n 1, 1) := by decide +kernel
theorem dX5_as_2 : decode cX5_as 2 = .ok (.invokevirtual 85, 3) := by decide +kernel
theorem dX5_as_5 : decode cX5_as 5 = .ok (.ifCond .eq 10, 3) := by decide +kernel
theorem dX5_as_8 : decode cX5_as 8 = .ok (.iload_n 2, 1) := by decide +kernel
theorem dX5_as_9 : decode cX5_as 9 = .ok (.invokestatic 76, 3) := by decide +kernel
theorem dX5_as_12 : decode cX5_as 12 = .ok (.ifCond .ne 9, 3) := by decide +kernel
theorem dX5_as_15 : decode cX5_as 15 = .ok (.aload_n 0, 1) := by decide +kernel
theorem dX5_as_16 : decode cX5_as 16 = .ok (.iconst 0, 1) := by decide +kernel
theorem dX5_as_17 : decode cX5_as 17 = .ok (.invokevirtual 55, 3) := by decide +kernel
theorem dX5_as_20 : decode cX5_as 20 = .ok (.ireturn, 1) := by decide +kernel
theorem dX5_as_21 : decode cX5_as 21 = .ok (.aload_n 0, 1) := by decide +kernel
theorem dX5_as_22 : decode cX5_as 22 = .ok (.getfield 10, 3) := by decide +kernel
theorem dX5_as_25 : decode cX5_as 25 = .ok (.getfield 88, 3) := by decide +kernel
theorem dX5_as_28 : decode cX5_as 28 = .ok (.iload_n 1, 1) := by decide +kernel
theorem dX5_as_29 : decode cX5_as 29 = .ok (.iaload, 1) := by decide +kernel
theorem dX5_as_30 : decode cX5_as 30 = .ok (.iload_n 2, 1) := by decide +kernel
theorem dX5_as_31 : decode cX5_as 31 = .ok (.invokestatic 115, 3) := by decide +kernel
theorem dX5_as_34 : decode cX5_as 34 = .ok (.ifCond .ne 9, 3) := by decide +kernel
theorem dX5_as_37 : decode cX5_as 37 = .ok (.aload_n 0, 1) := by decide +kernel
theorem dX5_as_38 : decode cX5_as 38 = .ok (.iconst 2, 1) := by decide +kernel
theorem dX5_as_39 : decode cX5_as 39 = .ok (.invokevirtual 55, 3) := by decide +kernel
theorem dX5_as_42 : decode cX5_as 42 = .ok (.ireturn, 1) := by decide +kernel
theorem dX5_as_43 : decode cX5_as 43 = .ok (.aload_n 0, 1) := by decide +kernel
theorem dX5_as_44 : decode cX5_as 44 = .ok (.getfield 10, 3) := by decide +kernel
theorem dX5_as_47 : decode cX5_as 47 = .ok (.getfield 91, 3) := by decide +kernel
theorem dX5_as_50 : decode cX5_as 50 = .ok (.iload_n 1, 1) := by decide +kernel
theorem dX5_as_51 : decode cX5_as 51 = .ok (.iaload, 1) := by decide +kernel
theorem dX5_as_52 : decode cX5_as 52 = .ok (.ireturn, 1) := by decide +kernel
theorem dX5_likeness_0 : decode cX5_likeness 0 = .ok (.aload_n 0, 1) := by decide +kernel
theorem dX5_likeness_1 : decode cX5_likeness 1 = .ok (.iload_n 1, 1) := by decide +kernel
theorem dX5_likeness_2 : decode cX5_likeness 2 = .ok (.invokevirtual 85, 3) := by decide +kernel
theorem dX5_likeness_5 : decode cX5_likeness 5 = .ok (.ifCond .eq 10, 3) := by decide +kernel
theorem dX5_likeness_8 : decode cX5_likeness 8 = .ok (.iload_n 2, 1) := by decide +kernel
theorem dX5_likeness_9 : decode cX5_likeness 9 = .ok (.invokestatic 47, 3) := by decide +kernel
theorem dX5_likeness_12 : decode cX5_likeness 12 = .ok (.ifCond .ne 9, 3) := by decide +kernel
theorem dX5_likeness_15 : decode cX5_likeness 15 = .ok (.aload_n 0, 1) := by decide +kernel
theorem dX5_likeness_16 : decode cX5_likeness 16 = .ok (.iconst 0, 1) := by decide +kernel
theorem dX5_likeness_17 : decode cX5_likeness 17 = .ok (.invokevirtual 55, 3) := by decide +kernel
theorem dX5_likeness_20 : decode cX5_likeness 20 = .ok (.ireturn, 1) := by decide +kernel
theorem dX5_likeness_21 : decode cX5_likeness 21 = .ok (.aload_n 0, 1) := by decide +kernel
theorem dX5_likeness_22 : decode cX5_likeness 22 = .ok (.getfield 10, 3) := by decide +kernel
theorem dX5_likeness_25 : decode cX5_likeness 25 = .ok (.getfield 121, 3) := by decide +kernel
theorem dX5_likeness_28 : decode cX5_likeness 28 = .ok (.bipush 8, 2) := by decide +kernel
theorem dX5_likeness_30 : decode cX5_likeness 30 = .ok (.if_icmp .lt 9, 3) := by decide +kernel
theorem dX5_likeness_33 : decode cX5_likeness 33 = .ok (.aload_n 0, 1) := by decide +kernel
theorem dX5_likeness_34 : decode cX5_likeness 34 = .ok (.iconst 1, 1) := by decide +kernel
theorem dX5_likeness_35 : decode cX5_likeness 35 = .ok (.invokevirtual 55, 3) := by decide +kernel
theorem dX5_likeness_38 : decode cX5_likeness 38 = .ok (.ireturn, 1) := by decide +kernel
theorem dX5_likeness_39 : decode cX5_likeness 39 = .ok (.aload_n 0, 1) := by decide +kernel
theorem dX5_likeness_40 : decode cX5_likeness 40 = .ok (.getfield 10, 3) := by decide +kernel
theorem dX5_likeness_43 : decode cX5_likeness 43 = .ok (.iload_n 1, 1) := by decide +kernel
theorem dX5_likeness_44 : decode cX5_likeness 44 = .ok (.iload_n 2, 1) := by decide +kernel
theorem dX5_likeness_45 : decode cX5_likeness 45 = .ok (.invokevirtual 124, 3) := by decide +kernel
theorem dX5_likeness_48 : decode cX5_likeness 48 = .ok (.ireturn, 1) := by decide +kernel
theorem dX5_told_0 : decode cX5_told 0 = .ok (.aload_n 0, 1) := by decide +kernel
theorem dX5_told_1 : decode cX5_told 1 = .ok (.iload_n 1, 1) := by decide +kernel
theorem dX5_told_2 : decode cX5_told 2 = .ok (.invokevirtual 128, 3) := by decide +kernel
theorem dX5_told_5 : decode cX5_told 5 = .ok (.ifCond .ne 9, 3) := by decide +kernel
theorem dX5_told_8 : decode cX5_told 8 = .ok (.aload_n 0, 1) := by decide +kernel
theorem dX5_told_9 : decode cX5_told 9 = .ok (.iconst 0, 1) := by decide +kernel
theorem dX5_told_10 : decode cX5_told 10 = .ok (.invokevirtual 55, 3) := by decide +kernel
theorem dX5_told_13 : decode cX5_told 13 = .ok (.ireturn, 1) := by decide +kernel
theorem dX5_told_14 : decode cX5_told 14 = .ok (.iload_n 2, 1) := by decide +kernel
theorem dX5_told_15 : decode cX5_told 15 = .ok (.tableswitch 90 0 4 #[33, 43, 53, 63, 76], 33) := by decide +kernel
theorem dX5_told_48 : decode cX5_told 48 = .ok (.aload_n 0, 1) := by decide +kernel
theorem dX5_told_49 : decode cX5_told 49 = .ok (.getfield 10, 3) := by decide +kernel
theorem dX5_told_52 : decode cX5_told 52 = .ok (.getfield 131, 3) := by decide +kernel
theorem dX5_told_55 : decode cX5_told 55 = .ok (.iload_n 1, 1) := by decide +kernel
theorem dX5_told_56 : decode cX5_told 56 = .ok (.iaload, 1) := by decide +kernel
theorem dX5_told_57 : decode cX5_told 57 = .ok (.ireturn, 1) := by decide +kernel
theorem dX5_told_58 : decode cX5_told 58 = .ok (.aload_n 0, 1) := by decide +kernel
theorem dX5_told_59 : decode cX5_told 59 = .ok (.getfield 10, 3) := by decide +kernel
theorem dX5_told_62 : decode cX5_told 62 = .ok (.getfield 134, 3) := by decide +kernel
theorem dX5_told_65 : decode cX5_told 65 = .ok (.iload_n 1, 1) := by decide +kernel
theorem dX5_told_66 : decode cX5_told 66 = .ok (.iaload, 1) := by decide +kernel
theorem dX5_told_67 : decode cX5_told 67 = .ok (.ireturn, 1) := by decide +kernel
theorem dX5_told_68 : decode cX5_told 68 = .ok (.aload_n 0, 1) := by decide +kernel
theorem dX5_told_69 : decode cX5_told 69 = .ok (.getfield 10, 3) := by decide +kernel
theorem dX5_told_72 : decode cX5_told 72 = .ok (.getfield 137, 3) := by decide +kernel
theorem dX5_told_75 : decode cX5_told 75 = .ok (.iload_n 1, 1) := by decide +kernel
theorem dX5_told_76 : decode cX5_told 76 = .ok (.iaload, 1) := by decide +kernel
theorem dX5_told_77 : decode cX5_told 77 = .ok (.ireturn, 1) := by decide +kernel
theorem dX5_told_78 : decode cX5_told 78 = .ok (.sipush 1000, 3) := by decide +kernel
theorem dX5_told_81 : decode cX5_told 81 = .ok (.aload_n 0, 1) := by decide +kernel
theorem dX5_told_82 : decode cX5_told 82 = .ok (.getfield 10, 3) := by decide +kernel
theorem dX5_told_85 : decode cX5_told 85 = .ok (.iload_n 1, 1) := by decide +kernel
theorem dX5_told_86 : decode cX5_told 86 = .ok (.invokevirtual 140, 3) := by decide +kernel
theorem dX5_told_89 : decode cX5_told 89 = .ok (.iadd, 1) := by decide +kernel
theorem dX5_told_90 : decode cX5_told 90 = .ok (.ireturn, 1) := by decide +kernel
theorem dX5_told_91 : decode cX5_told 91 = .ok (.sipush 1000, 3) := by decide +kernel
theorem dX5_told_94 : decode cX5_told 94 = .ok (.aload_n 0, 1) := by decide +kernel
theorem dX5_told_95 : decode cX5_told 95 = .ok (.getfield 10, 3) := by decide +kernel
theorem dX5_told_98 : decode cX5_told 98 = .ok (.iload_n 1, 1) := by decide +kernel
theorem dX5_told_99 : decode cX5_told 99 = .ok (.iconst 0, 1) := by decide +kernel
theorem dX5_told_100 : decode cX5_told 100 = .ok (.invokevirtual 143, 3) := by decide +kernel
theorem dX5_told_103 : decode cX5_told 103 = .ok (.iadd, 1) := by decide +kernel
theorem dX5_told_104 : decode cX5_told 104 = .ok (.ireturn, 1) := by decide +kernel
theorem dX5_told_105 : decode cX5_told 105 = .ok (.aload_n 0, 1) := by decide +kernel
theorem dX5_told_106 : decode cX5_told 106 = .ok (.iconst 0, 1) := by decide +kernel
theorem dX5_told_107 : decode cX5_told 107 = .ok (.invokevirtual 55, 3) := by decide +kernel
theorem dX5_told_110 : decode cX5_told 110 = .ok (.ireturn, 1) := by decide +kernel
theorem dX5_place_0 : decode cX5_place 0 = .ok (.aload_n 0, 1) := by decide +kernel
theorem dX5_place_1 : decode cX5_place 1 = .ok (.iload_n 1, 1) := by decide +kernel
theorem dX5_place_2 : decode cX5_place 2 = .ok (.invokevirtual 128, 3) := by decide +kernel
theorem dX5_place_5 : decode cX5_place 5 = .ok (.ifCond .ne 9, 3) := by decide +kernel
theorem dX5_place_8 : decode cX5_place 8 = .ok (.aload_n 0, 1) := by decide +kernel
theorem dX5_place_9 : decode cX5_place 9 = .ok (.iconst 0, 1) := by decide +kernel
theorem dX5_place_10 : decode cX5_place 10 = .ok (.invokevirtual 55, 3) := by decide +kernel
theorem dX5_place_13 : decode cX5_place 13 = .ok (.ireturn, 1) := by decide +kernel
theorem dX5_place_14 : decode cX5_place 14 = .ok (.iload_n 2, 1) := by decide +kernel
theorem dX5_place_15 : decode cX5_place 15 = .ok (.ifCond .ne 23, 3) := by decide +kernel
theorem dX5_place_18 : decode cX5_place 18 = .ok (.iload_n 3, 1) := by decide +kernel
theorem dX5_place_19 : decode cX5_place 19 = .ok (.invokestatic 47, 3) := by decide +kernel
theorem dX5_place_22 : decode cX5_place 22 = .ok (.ifCond .eq 16, 3) := by decide +kernel
theorem dX5_place_25 : decode cX5_place 25 = .ok (.aload_n 0, 1) := by decide +kernel
theorem dX5_place_26 : decode cX5_place 26 = .ok (.getfield 10, 3) := by decide +kernel
theorem dX5_place_29 : decode cX5_place 29 = .ok (.getfield 131, 3) := by decide +kernel
theorem dX5_place_32 : decode cX5_place 32 = .ok (.iload_n 1, 1) := by decide +kernel
theorem dX5_place_33 : decode cX5_place 33 = .ok (.iload_n 3, 1) := by decide +kernel
theorem dX5_place_34 : decode cX5_place 34 = .ok (.invokestatic 111, 3) := by decide +kernel
theorem dX5_place_37 : decode cX5_place 37 = .ok (.ireturn, 1) := by decide +kernel
theorem dX5_place_38 : decode cX5_place 38 = .ok (.iload_n 2, 1) := by decide +kernel
theorem dX5_place_39 : decode cX5_place 39 = .ok (.iconst 1, 1) := by decide +kernel
theorem dX5_place_40 : decode cX5_place 40 = .ok (.if_icmp .ne 24, 3) := by decide +kernel
theorem dX5_place_43 : decode cX5_place 43 = .ok (.aload_n 0, 1) := by decide +kernel
theorem dX5_place_44 : decode cX5_place 44 = .ok (.iload_n 3, 1) := by decide +kernel
theorem dX5_place_45 : decode cX5_place 45 = .ok (.invokevirtual 85, 3) := by decide +kernel
theorem dX5_place_48 : decode cX5_place 48 = .ok (.ifCond .eq 16, 3) := by decide +kernel
theorem dX5_place_51 : decode cX5_place 51 = .ok (.aload_n 0, 1) := by decide +kernel
theorem dX5_place_52 : decode cX5_place 52 = .ok (.getfield 10, 3) := by decide +kernel
theorem dX5_place_55 : decode cX5_place 55 = .ok (.getfield 134, 3) := by decide +kernel
theorem dX5_place_58 : decode cX5_place 58 = .ok (.iload_n 1, 1) := by decide +kernel
theorem dX5_place_59 : decode cX5_place 59 = .ok (.iload_n 3, 1) := by decide +kernel
theorem dX5_place_60 : decode cX5_place 60 = .ok (.invokestatic 111, 3) := by decide +kernel
theorem dX5_place_63 : decode cX5_place 63 = .ok (.ireturn, 1) := by decide +kernel
theorem dX5_place_64 : decode cX5_place 64 = .ok (.iload_n 2, 1) := by decide +kernel
theorem dX5_place_65 : decode cX5_place 65 = .ok (.iconst 2, 1) := by decide +kernel
theorem dX5_place_66 : decode cX5_place 66 = .ok (.if_icmp .ne 27, 3) := by decide +kernel
theorem dX5_place_69 : decode cX5_place 69 = .ok (.iload_n 3, 1) := by decide +kernel
theorem dX5_place_70 : decode cX5_place 70 = .ok (.iconst 0, 1) := by decide +kernel
theorem dX5_place_71 : decode cX5_place 71 = .ok (.sipush 9999, 3) := by decide +kernel
theorem dX5_place_74 : decode cX5_place 74 = .ok (.invokestatic 51, 3) := by decide +kernel
theorem dX5_place_77 : decode cX5_place 77 = .ok (.ifCond .eq 16, 3) := by decide +kernel
theorem dX5_place_80 : decode cX5_place 80 = .ok (.aload_n 0, 1) := by decide +kernel
theorem dX5_place_81 : decode cX5_place 81 = .ok (.getfield 10, 3) := by decide +kernel
theorem dX5_place_84 : decode cX5_place 84 = .ok (.getfield 137, 3) := by decide +kernel
theorem dX5_place_87 : decode cX5_place 87 = .ok (.iload_n 1, 1) := by decide +kernel
theorem dX5_place_88 : decode cX5_place 88 = .ok (.iload_n 3, 1) := by decide +kernel
theorem dX5_place_89 : decode cX5_place 89 = .ok (.invokestatic 111, 3) := by decide +kernel
theorem dX5_place_92 : decode cX5_place 92 = .ok (.ireturn, 1) := by decide +kernel
theorem dX5_place_93 : decode cX5_place 93 = .ok (.aload_n 0, 1) := by decide +kernel
theorem dX5_place_94 : decode cX5_place 94 = .ok (.iconst 0, 1) := by decide +kernel
theorem dX5_place_95 : decode cX5_place 95 = .ok (.invokevirtual 55, 3) := by decide +kernel
theorem dX5_place_98 : decode cX5_place 98 = .ok (.ireturn, 1) := by decide +kernel
theorem dX5_scares_0 : decode cX5_scares 0 = .ok (.aload_n 0, 1) := by decide +kernel
theorem dX5_scares_1 : decode cX5_scares 1 = .ok (.iload_n 1, 1) := by decide +kernel
theorem dX5_scares_2 : decode cX5_scares 2 = .ok (.invokevirtual 128, 3) := by decide +kernel
theorem dX5_scares_5 : decode cX5_scares 5 = .ok (.ifCond .eq 13, 3) := by decide +kernel
theorem dX5_scares_8 : decode cX5_scares 8 = .ok (.iload_n 2, 1) := by decide +kernel
theorem dX5_scares_9 : decode cX5_scares 9 = .ok (.iconst 0, 1) := by decide +kernel
theorem dX5_scares_10 : decode cX5_scares 10 = .ok (.bipush 12, 2) := by decide +kernel
theorem dX5_scares_12 : decode cX5_scares 12 = .ok (.invokestatic 51, 3) := by decide +kernel
theorem dX5_scares_15 : decode cX5_scares 15 = .ok (.ifCond .ne 9, 3) := by decide +kernel
theorem dX5_scares_18 : decode cX5_scares 18 = .ok (.aload_n 0, 1) := by decide +kernel
theorem dX5_scares_19 : decode cX5_scares 19 = .ok (.iconst 0, 1) := by decide +kernel
theorem dX5_scares_20 : decode cX5_scares 20 = .ok (.invokevirtual 55, 3) := by decide +kernel
theorem dX5_scares_23 : decode cX5_scares 23 = .ok (.ireturn, 1) := by decide +kernel
theorem dX5_scares_24 : decode cX5_scares 24 = .ok (.sipush 1000, 3) := by decide +kernel
theorem dX5_scares_27 : decode cX5_scares 27 = .ok (.aload_n 0, 1) := by decide +kernel
theorem dX5_scares_28 : decode cX5_scares 28 = .ok (.getfield 10, 3) := by decide +kernel
theorem dX5_scares_31 : decode cX5_scares 31 = .ok (.iload_n 1, 1) := by decide +kernel
theorem dX5_scares_32 : decode cX5_scares 32 = .ok (.iload_n 2, 1) := by decide +kernel
theorem dX5_scares_33 : decode cX5_scares 33 = .ok (.invokevirtual 143, 3) := by decide +kernel
theorem dX5_scares_36 : decode cX5_scares 36 = .ok (.iadd, 1) := by decide +kernel
theorem dX5_scares_37 : decode cX5_scares 37 = .ok (.ireturn, 1) := by decide +kernel
theorem dX5_lands_0 : decode cX5_lands 0 = .ok (.aload_n 0, 1) := by decide +kernel
theorem dX5_lands_1 : decode cX5_lands 1 = .ok (.getfield 25, 3) := by decide +kernel
theorem dX5_lands_4 : decode cX5_lands 4 = .ok (.aload_n 0, 1) := by decide +kernel
theorem dX5_lands_5 : decode cX5_lands 5 = .ok (.getfield 10, 3) := by decide +kernel
theorem dX5_lands_8 : decode cX5_lands 8 = .ok (.invokevirtual 62, 3) := by decide +kernel
theorem dX5_lands_11 : decode cX5_lands 11 = .ok (.aload_n 0, 1) := by decide +kernel
theorem dX5_lands_12 : decode cX5_lands 12 = .ok (.getfield 25, 3) := by decide +kernel
theorem dX5_lands_15 : decode cX5_lands 15 = .ok (.aload_n 0, 1) := by decide +kernel
theorem dX5_lands_16 : decode cX5_lands 16 = .ok (.getfield 10, 3) := by decide +kernel
theorem dX5_lands_19 : decode cX5_lands 19 = .ok (.invokevirtual 146, 3) := by decide +kernel
theorem dX5_lands_22 : decode cX5_lands 22 = .ok (.istore_n 1, 1) := by decide +kernel
theorem dX5_lands_23 : decode cX5_lands 23 = .ok (.iload_n 1, 1) := by decide +kernel
theorem dX5_lands_24 : decode cX5_lands 24 = .ok (.ifCond .ge 11, 3) := by decide +kernel
theorem dX5_lands_27 : decode cX5_lands 27 = .ok (.aload_n 0, 1) := by decide +kernel
theorem dX5_lands_28 : decode cX5_lands 28 = .ok (.iconst 3, 1) := by decide +kernel
theorem dX5_lands_29 : decode cX5_lands 29 = .ok (.invokevirtual 55, 3) := by decide +kernel
theorem dX5_lands_32 : decode cX5_lands 32 = .ok (.goto 4, 3) := by decide +kernel
theorem dX5_lands_35 : decode cX5_lands 35 = .ok (.iload_n 1, 1) := by decide +kernel
theorem dX5_lands_36 : decode cX5_lands 36 = .ok (.ireturn, 1) := by decide +kernel
theorem dX5_days_0 : decode cX5_days 0 = .ok (.iload_n 1, 1) := by decide +kernel
theorem dX5_days_1 : decode cX5_days 1 = .ok (.iconst 1, 1) := by decide +kernel
theorem dX5_days_2 : decode cX5_days 2 = .ok (.bipush 60, 2) := by decide +kernel
theorem dX5_days_4 : decode cX5_days 4 = .ok (.invokestatic 51, 3) := by decide +kernel
theorem dX5_days_7 : decode cX5_days 7 = .ok (.ifCond .ne 9, 3) := by decide +kernel
theorem dX5_days_10 : decode cX5_days 10 = .ok (.aload_n 0, 1) := by decide +kernel
theorem dX5_days_11 : decode cX5_days 11 = .ok (.iconst 0, 1) := by decide +kernel
theorem dX5_days_12 : decode cX5_days 12 = .ok (.invokevirtual 55, 3) := by decide +kernel
theorem dX5_days_15 : decode cX5_days 15 = .ok (.ireturn, 1) := by decide +kernel
theorem dX5_days_16 : decode cX5_days 16 = .ok (.aload_n 0, 1) := by decide +kernel
theorem dX5_days_17 : decode cX5_days 17 = .ok (.getfield 10, 3) := by decide +kernel
theorem dX5_days_20 : decode cX5_days 20 = .ok (.getfield 150, 3) := by decide +kernel
theorem dX5_days_23 : decode cX5_days 23 = .ok (.iload_n 1, 1) := by decide +kernel
theorem dX5_days_24 : decode cX5_days 24 = .ok (.iadd, 1) := by decide +kernel
theorem dX5_days_25 : decode cX5_days 25 = .ok (.sipush 9999, 3) := by decide +kernel
theorem dX5_days_28 : decode cX5_days 28 = .ok (.if_icmp .le 9, 3) := by decide +kernel
theorem dX5_days_31 : decode cX5_days 31 = .ok (.aload_n 0, 1) := by decide +kernel
theorem dX5_days_32 : decode cX5_days 32 = .ok (.iconst 4, 1) := by decide +kernel
theorem dX5_days_33 : decode cX5_days 33 = .ok (.invokevirtual 55, 3) := by decide +kernel
theorem dX5_days_36 : decode cX5_days 36 = .ok (.ireturn, 1) := by decide +kernel
theorem dX5_days_37 : decode cX5_days 37 = .ok (.aload_n 0, 1) := by decide +kernel
theorem dX5_days_38 : decode cX5_days 38 = .ok (.getfield 25, 3) := by decide +kernel
theorem dX5_days_41 : decode cX5_days 41 = .ok (.aload_n 0, 1) := by decide +kernel
theorem dX5_days_42 : decode cX5_days 42 = .ok (.getfield 10, 3) := by decide +kernel
theorem dX5_days_45 : decode cX5_days 45 = .ok (.iload_n 1, 1) := by decide +kernel
theorem dX5_days_46 : decode cX5_days 46 = .ok (.ldc 153, 2) := by decide +kernel
theorem dX5_days_48 : decode cX5_days 48 = .ok (.invokevirtual 154, 3) := by decide +kernel
theorem dX5_days_51 : decode cX5_days 51 = .ok (.ireturn, 1) := by decide +kernel
theorem dX5_now_0 : decode cX5_now 0 = .ok (.iload_n 1, 1) := by decide +kernel
theorem dX5_now_1 : decode cX5_now 1 = .ok (.tableswitch 98 0 5 #[39, 47, 55, 63, 71, 90], 39) := by decide +kernel
theorem dX5_now_40 : decode cX5_now 40 = .ok (.aload_n 0, 1) := by decide +kernel
theorem dX5_now_41 : decode cX5_now 41 = .ok (.getfield 10, 3) := by decide +kernel
theorem dX5_now_44 : decode cX5_now 44 = .ok (.getfield 150, 3) := by decide +kernel
theorem dX5_now_47 : decode cX5_now 47 = .ok (.ireturn, 1) := by decide +kernel
theorem dX5_now_48 : decode cX5_now 48 = .ok (.aload_n 0, 1) := by decide +kernel
theorem dX5_now_49 : decode cX5_now 49 = .ok (.getfield 10, 3) := by decide +kernel
theorem dX5_now_52 : decode cX5_now 52 = .ok (.getfield 72, 3) := by decide +kernel
theorem dX5_now_55 : decode cX5_now 55 = .ok (.ireturn, 1) := by decide +kernel
theorem dX5_now_56 : decode cX5_now 56 = .ok (.aload_n 0, 1) := by decide +kernel
theorem dX5_now_57 : decode cX5_now 57 = .ok (.getfield 10, 3) := by decide +kernel
theorem dX5_now_60 : decode cX5_now 60 = .ok (.invokevirtual 158, 3) := by decide +kernel
theorem dX5_now_63 : decode cX5_now 63 = .ok (.ireturn, 1) := by decide +kernel
theorem dX5_now_64 : decode cX5_now 64 = .ok (.aload_n 0, 1) := by decide +kernel
theorem dX5_now_65 : decode cX5_now 65 = .ok (.getfield 10, 3) := by decide +kernel
theorem dX5_now_68 : decode cX5_now 68 = .ok (.invokevirtual 162, 3) := by decide +kernel
theorem dX5_now_71 : decode cX5_now 71 = .ok (.ireturn, 1) := by decide +kernel
theorem dX5_now_72 : decode cX5_now 72 = .ok (.aload_n 0, 1) := by decide +kernel
theorem dX5_now_73 : decode cX5_now 73 = .ok (.getfield 25, 3) := by decide +kernel
theorem dX5_now_76 : decode cX5_now 76 = .ok (.aload_n 0, 1) := by decide +kernel
theorem dX5_now_77 : decode cX5_now 77 = .ok (.getfield 10, 3) := by decide +kernel
theorem dX5_now_80 : decode cX5_now 80 = .ok (.invokevirtual 62, 3) := by decide +kernel
theorem dX5_now_83 : decode cX5_now 83 = .ok (.aload_n 0, 1) := by decide +kernel
theorem dX5_now_84 : decode cX5_now 84 = .ok (.getfield 25, 3) := by decide +kernel
theorem dX5_now_87 : decode cX5_now 87 = .ok (.invokevirtual 165, 3) := by decide +kernel
theorem dX5_now_90 : decode cX5_now 90 = .ok (.ireturn, 1) := by decide +kernel
theorem dX5_now_91 : decode cX5_now 91 = .ok (.aload_n 0, 1) := by decide +kernel
theorem dX5_now_92 : decode cX5_now 92 = .ok (.getfield 10, 3) := by decide +kernel
theorem dX5_now_95 : decode cX5_now 95 = .ok (.invokevirtual 168, 3) := by decide +kernel
theorem dX5_now_98 : decode cX5_now 98 = .ok (.ireturn, 1) := by decide +kernel
theorem dX5_now_99 : decode cX5_now 99 = .ok (.aload_n 0, 1) := by decide +kernel
theorem dX5_now_100 : decode cX5_now 100 = .ok (.iconst 0, 1) := by decide +kernel
theorem dX5_now_101 : decode cX5_now 101 = .ok (.invokevirtual 55, 3) := by decide +kernel
theorem dX5_now_104 : decode cX5_now 104 = .ok (.ireturn, 1) := by decide +kernel
theorem dX5_on_0 : decode cX5_on 0 = .ok (.iload_n 1, 1) := by decide +kernel
theorem dX5_on_1 : decode cX5_on 1 = .ok (.invokestatic 47, 3) := by decide +kernel
theorem dX5_on_4 : decode cX5_on 4 = .ok (.ifCond .eq 13, 3) := by decide +kernel
theorem dX5_on_7 : decode cX5_on 7 = .ok (.iload_n 2, 1) := by decide +kernel
theorem dX5_on_8 : decode cX5_on 8 = .ok (.iconst 0, 1) := by decide +kernel
theorem dX5_on_9 : decode cX5_on 9 = .ok (.bipush 60, 2) := by decide +kernel
theorem dX5_on_11 : decode cX5_on 11 = .ok (.invokestatic 51, 3) := by decide +kernel
theorem dX5_on_14 : decode cX5_on 14 = .ok (.ifCond .ne 9, 3) := by decide +kernel
theorem dX5_on_17 : decode cX5_on 17 = .ok (.aload_n 0, 1) := by decide +kernel
theorem dX5_on_18 : decode cX5_on 18 = .ok (.iconst 0, 1) := by decide +kernel
theorem dX5_on_19 : decode cX5_on 19 = .ok (.invokevirtual 55, 3) := by decide +kernel
theorem dX5_on_22 : decode cX5_on 22 = .ok (.ireturn, 1) := by decide +kernel
theorem dX5_on_23 : decode cX5_on 23 = .ok (.aload_n 0, 1) := by decide +kernel
theorem dX5_on_24 : decode cX5_on 24 = .ok (.iload_n 2, 1) := by decide +kernel
theorem dX5_on_25 : decode cX5_on 25 = .ok (.invokevirtual 171, 3) := by decide +kernel
theorem dX5_on_28 : decode cX5_on 28 = .ok (.pop, 1) := by decide +kernel
theorem dX5_on_29 : decode cX5_on 29 = .ok (.aload_n 0, 1) := by decide +kernel
theorem dX5_on_30 : decode cX5_on 30 = .ok (.getfield 19, 3) := by decide +kernel
theorem dX5_on_33 : decode cX5_on 33 = .ok (.getfield 59, 3) := by decide +kernel
theorem dX5_on_36 : decode cX5_on 36 = .ok (.iload_n 1, 1) := by decide +kernel
theorem dX5_on_37 : decode cX5_on 37 = .ok (.iaload, 1) := by decide +kernel
theorem dX5_on_38 : decode cX5_on 38 = .ok (.ireturn, 1) := by decide +kernel
theorem dX5_eaten_0 : decode cX5_eaten 0 = .ok (.iload_n 1, 1) := by decide +kernel
theorem dX5_eaten_1 : decode cX5_eaten 1 = .ok (.iconst 0, 1) := by decide +kernel
theorem dX5_eaten_2 : decode cX5_eaten 2 = .ok (.bipush 60, 2) := by decide +kernel
theorem dX5_eaten_4 : decode cX5_eaten 4 = .ok (.invokestatic 51, 3) := by decide +kernel
theorem dX5_eaten_7 : decode cX5_eaten 7 = .ok (.ifCond .ne 9, 3) := by decide +kernel
theorem dX5_eaten_10 : decode cX5_eaten 10 = .ok (.aload_n 0, 1) := by decide +kernel
theorem dX5_eaten_11 : decode cX5_eaten 11 = .ok (.iconst 0, 1) := by decide +kernel
theorem dX5_eaten_12 : decode cX5_eaten 12 = .ok (.invokevirtual 55, 3) := by decide +kernel
theorem dX5_eaten_15 : decode cX5_eaten 15 = .ok (.ireturn, 1) := by decide +kernel
theorem dX5_eaten_16 : decode cX5_eaten 16 = .ok (.aload_n 0, 1) := by decide +kernel
theorem dX5_eaten_17 : decode cX5_eaten 17 = .ok (.iload_n 1, 1) := by decide +kernel
theorem dX5_eaten_18 : decode cX5_eaten 18 = .ok (.invokevirtual 171, 3) := by decide +kernel
theorem dX5_eaten_21 : decode cX5_eaten 21 = .ok (.ireturn, 1) := by decide +kernel
theorem dX5_first_0 : decode cX5_first 0 = .ok (.iload_n 1, 1) := by decide +kernel
theorem dX5_first_1 : decode cX5_first 1 = .ok (.invokestatic 47, 3) := by decide +kernel
theorem dX5_first_4 : decode cX5_first 4 = .ok (.ifCond .ne 9, 3) := by decide +kernel
theorem dX5_first_7 : decode cX5_first 7 = .ok (.aload_n 0, 1) := by decide +kernel
theorem dX5_first_8 : decode cX5_first 8 = .ok (.iconst 0, 1) := by decide +kernel
theorem dX5_first_9 : decode cX5_first 9 = .ok (.invokevirtual 55, 3) := by decide +kernel
theorem dX5_first_12 : decode cX5_first 12 = .ok (.ireturn, 1) := by decide +kernel
theorem dX5_first_13 : decode cX5_first 13 = .ok (.aload_n 0, 1) := by decide +kernel
theorem dX5_first_14 : decode cX5_first 14 = .ok (.getfield 19, 3) := by decide +kernel
theorem dX5_first_17 : decode cX5_first 17 = .ok (.aload_n 0, 1) := by decide +kernel
theorem dX5_first_18 : decode cX5_first 18 = .ok (.getfield 10, 3) := by decide +kernel
theorem dX5_first_21 : decode cX5_first 21 = .ok (.invokevirtual 174, 3) := by decide +kernel
theorem dX5_first_24 : decode cX5_first 24 = .ok (.aload_n 0, 1) := by decide +kernel
theorem dX5_first_25 : decode cX5_first 25 = .ok (.getfield 25, 3) := by decide +kernel
theorem dX5_first_28 : decode cX5_first 28 = .ok (.aload_n 0, 1) := by decide +kernel
theorem dX5_first_29 : decode cX5_first 29 = .ok (.getfield 19, 3) := by decide +kernel
theorem dX5_first_32 : decode cX5_first 32 = .ok (.invokevirtual 62, 3) := by decide +kernel
theorem dX5_first_35 : decode cX5_first 35 = .ok (.iconst 1, 1) := by decide +kernel
theorem dX5_first_36 : decode cX5_first 36 = .ok (.istore_n 2, 1) := by decide +kernel
theorem dX5_first_37 : decode cX5_first 37 = .ok (.iload_n 2, 1) := by decide +kernel
theorem dX5_first_38 : decode cX5_first 38 = .ok (.bipush 60, 2) := by decide +kernel
theorem dX5_first_40 : decode cX5_first 40 = .ok (.if_icmp .gt 44, 3) := by decide +kernel
theorem dX5_first_43 : decode cX5_first 43 = .ok (.aload_n 0, 1) := by decide +kernel
theorem dX5_first_44 : decode cX5_first 44 = .ok (.getfield 25, 3) := by decide +kernel
theorem dX5_first_47 : decode cX5_first 47 = .ok (.aload_n 0, 1) := by decide +kernel
theorem dX5_first_48 : decode cX5_first 48 = .ok (.getfield 19, 3) := by decide +kernel
theorem dX5_first_51 : decode cX5_first 51 = .ok (.invokevirtual 177, 3) := by decide +kernel
theorem dX5_first_54 : decode cX5_first 54 = .ok (.pop, 1) := by decide +kernel
theorem dX5_first_55 : decode cX5_first 55 = .ok (.aload_n 0, 1) := by decide +kernel
theorem dX5_first_56 : decode cX5_first 56 = .ok (.getfield 19, 3) := by decide +kernel
theorem dX5_first_59 : decode cX5_first 59 = .ok (.getfield 59, 3) := by decide +kernel
theorem dX5_first_62 : decode cX5_first 62 = .ok (.iload_n 1, 1) := by decide +kernel
theorem dX5_first_63 : decode cX5_first 63 = .ok (.iaload, 1) := by decide +kernel
theorem dX5_first_64 : decode cX5_first 64 = .ok (.aload_n 0, 1) := by decide +kernel
theorem dX5_first_65 : decode cX5_first 65 = .ok (.getfield 10, 3) := by decide +kernel
theorem dX5_first_68 : decode cX5_first 68 = .ok (.getfield 59, 3) := by decide +kernel
theorem dX5_first_71 : decode cX5_first 71 = .ok (.iload_n 1, 1) := by decide +kernel
theorem dX5_first_72 : decode cX5_first 72 = .ok (.iaload, 1) := by decide +kernel
theorem dX5_first_73 : decode cX5_first 73 = .ok (.if_icmp .ge 5, 3) := by decide +kernel
theorem dX5_first_76 : decode cX5_first 76 = .ok (.iload_n 2, 1) := by decide +kernel
theorem dX5_first_77 : decode cX5_first 77 = .ok (.ireturn, 1) := by decide +kernel
theorem dX5_first_78 : decode cX5_first 78 = .ok (.iinc 2 1, 3) := by decide +kernel
theorem dX5_first_81 : decode cX5_first 81 = .ok (.goto (-44), 3) := by decide +kernel
theorem dX5_first_84 : decode cX5_first 84 = .ok (.aload_n 0, 1) := by decide +kernel
theorem dX5_first_85 : decode cX5_first 85 = .ok (.iconst 3, 1) := by decide +kernel
theorem dX5_first_86 : decode cX5_first 86 = .ok (.invokevirtual 55, 3) := by decide +kernel
theorem dX5_first_89 : decode cX5_first 89 = .ok (.ireturn, 1) := by decide +kernel
theorem dX5_spot_0 : decode cX5_spot 0 = .ok (.aload_n 0, 1) := by decide +kernel
theorem dX5_spot_1 : decode cX5_spot 1 = .ok (.iload_n 1, 1) := by decide +kernel
theorem dX5_spot_2 : decode cX5_spot 2 = .ok (.invokevirtual 128, 3) := by decide +kernel
theorem dX5_spot_5 : decode cX5_spot 5 = .ok (.ifCond .eq 13, 3) := by decide +kernel
theorem dX5_spot_8 : decode cX5_spot 8 = .ok (.iload_n 2, 1) := by decide +kernel
theorem dX5_spot_9 : decode cX5_spot 9 = .ok (.iconst 1, 1) := by decide +kernel
theorem dX5_spot_10 : decode cX5_spot 10 = .ok (.bipush 20, 2) := by decide +kernel
theorem dX5_spot_12 : decode cX5_spot 12 = .ok (.invokestatic 51, 3) := by decide +kernel
theorem dX5_spot_15 : decode cX5_spot 15 = .ok (.ifCond .ne 9, 3) := by decide +kernel
theorem dX5_spot_18 : decode cX5_spot 18 = .ok (.aload_n 0, 1) := by decide +kernel
theorem dX5_spot_19 : decode cX5_spot 19 = .ok (.iconst 0, 1) := by decide +kernel
theorem dX5_spot_20 : decode cX5_spot 20 = .ok (.invokevirtual 55, 3) := by decide +kernel
theorem dX5_spot_23 : decode cX5_spot 23 = .ok (.ireturn, 1) := by decide +kernel
theorem dX5_spot_24 : decode cX5_spot 24 = .ok (.aload_n 0, 1) := by decide +kernel
theorem dX5_spot_25 : decode cX5_spot 25 = .ok (.aload_n 0, 1) := by decide +kernel
theorem dX5_spot_26 : decode cX5_spot 26 = .ok (.getfield 19, 3) := by decide +kernel
theorem dX5_spot_29 : decode cX5_spot 29 = .ok (.getfield 131, 3) := by decide +kernel
theorem dX5_spot_32 : decode cX5_spot 32 = .ok (.iload_n 1, 1) := by decide +kernel
theorem dX5_spot_33 : decode cX5_spot 33 = .ok (.bipush 48, 2) := by decide +kernel
theorem dX5_spot_35 : decode cX5_spot 35 = .ok (.iload_n 2, 1) := by decide +kernel
theorem dX5_spot_36 : decode cX5_spot 36 = .ok (.invokevirtual 180, 3) := by decide +kernel
theorem dX5_spot_39 : decode cX5_spot 39 = .ok (.ireturn, 1) := by decide +kernel
theorem dX5_whose_0 : decode cX5_whose 0 = .ok (.aload_n 0, 1) := by decide +kernel
theorem dX5_whose_1 : decode cX5_whose 1 = .ok (.iload_n 1, 1) := by decide +kernel
theorem dX5_whose_2 : decode cX5_whose 2 = .ok (.invokevirtual 128, 3) := by decide +kernel
theorem dX5_whose_5 : decode cX5_whose 5 = .ok (.ifCond .eq 13, 3) := by decide +kernel
theorem dX5_whose_8 : decode cX5_whose 8 = .ok (.iload_n 2, 1) := by decide +kernel
theorem dX5_whose_9 : decode cX5_whose 9 = .ok (.iconst 1, 1) := by decide +kernel
theorem dX5_whose_10 : decode cX5_whose 10 = .ok (.bipush 20, 2) := by decide +kernel
theorem dX5_whose_12 : decode cX5_whose 12 = .ok (.invokestatic 51, 3) := by decide +kernel
theorem dX5_whose_15 : decode cX5_whose 15 = .ok (.ifCond .ne 9, 3) := by decide +kernel
theorem dX5_whose_18 : decode cX5_whose 18 = .ok (.aload_n 0, 1) := by decide +kernel
theorem dX5_whose_19 : decode cX5_whose 19 = .ok (.iconst 0, 1) := by decide +kernel
theorem dX5_whose_20 : decode cX5_whose 20 = .ok (.invokevirtual 55, 3) := by decide +kernel
theorem dX5_whose_23 : decode cX5_whose 23 = .ok (.ireturn, 1) := by decide +kernel
theorem dX5_whose_24 : decode cX5_whose 24 = .ok (.aload_n 0, 1) := by decide +kernel
theorem dX5_whose_25 : decode cX5_whose 25 = .ok (.aload_n 0, 1) := by decide +kernel
theorem dX5_whose_26 : decode cX5_whose 26 = .ok (.getfield 19, 3) := by decide +kernel
theorem dX5_whose_29 : decode cX5_whose 29 = .ok (.getfield 134, 3) := by decide +kernel
theorem dX5_whose_32 : decode cX5_whose 32 = .ok (.iload_n 1, 1) := by decide +kernel
theorem dX5_whose_33 : decode cX5_whose 33 = .ok (.aload_n 0, 1) := by decide +kernel
theorem dX5_whose_34 : decode cX5_whose 34 = .ok (.getfield 10, 3) := by decide +kernel
theorem dX5_whose_37 : decode cX5_whose 37 = .ok (.getfield 79, 3) := by decide +kernel
theorem dX5_whose_40 : decode cX5_whose 40 = .ok (.iload_n 2, 1) := by decide +kernel
theorem dX5_whose_41 : decode cX5_whose 41 = .ok (.invokevirtual 180, 3) := by decide +kernel
theorem dX5_whose_44 : decode cX5_whose 44 = .ok (.ireturn, 1) := by decide +kernel
theorem dX5_kind_0 : decode cX5_kind 0 = .ok (.aload_n 0, 1) := by decide +kernel
theorem dX5_kind_1 : decode cX5_kind 1 = .ok (.iload_n 1, 1) := by decide +kernel
theorem dX5_kind_2 : decode cX5_kind 2 = .ok (.invokevirtual 85, 3) := by decide +kernel
theorem dX5_kind_5 : decode cX5_kind 5 = .ok (.ifCond .eq 13, 3) := by decide +kernel
theorem dX5_kind_8 : decode cX5_kind 8 = .ok (.iload_n 2, 1) := by decide +kernel
theorem dX5_kind_9 : decode cX5_kind 9 = .ok (.iconst 1, 1) := by decide +kernel
theorem dX5_kind_10 : decode cX5_kind 10 = .ok (.bipush 20, 2) := by decide +kernel
theorem dX5_kind_12 : decode cX5_kind 12 = .ok (.invokestatic 51, 3) := by decide +kernel
theorem dX5_kind_15 : decode cX5_kind 15 = .ok (.ifCond .ne 9, 3) := by decide +kernel
theorem dX5_kind_18 : decode cX5_kind 18 = .ok (.aload_n 0, 1) := by decide +kernel
theorem dX5_kind_19 : decode cX5_kind 19 = .ok (.iconst 0, 1) := by decide +kernel
theorem dX5_kind_20 : decode cX5_kind 20 = .ok (.invokevirtual 55, 3) := by decide +kernel
theorem dX5_kind_23 : decode cX5_kind 23 = .ok (.ireturn, 1) := by decide +kernel
theorem dX5_kind_24 : decode cX5_kind 24 = .ok (.aload_n 0, 1) := by decide +kernel
theorem dX5_kind_25 : decode cX5_kind 25 = .ok (.aload_n 0, 1) := by decide +kernel
theorem dX5_kind_26 : decode cX5_kind 26 = .ok (.getfield 19, 3) := by decide +kernel
theorem dX5_kind_29 : decode cX5_kind 29 = .ok (.getfield 88, 3) := by decide +kernel
theorem dX5_kind_32 : decode cX5_kind 32 = .ok (.iload_n 1, 1) := by decide +kernel
theorem dX5_kind_33 : decode cX5_kind 33 = .ok (.bipush 6, 2) := by decide +kernel
theorem dX5_kind_35 : decode cX5_kind 35 = .ok (.iload_n 2, 1) := by decide +kernel
theorem dX5_kind_36 : decode cX5_kind 36 = .ok (.invokevirtual 180, 3) := by decide +kernel
theorem dX5_kind_39 : decode cX5_kind 39 = .ok (.ireturn, 1) := by decide +kernel
theorem dX5_temper_0 : decode cX5_temper 0 = .ok (.aload_n 0, 1) := by decide +kernel
theorem dX5_temper_1 : decode cX5_temper 1 = .ok (.iload_n 1, 1) := by decide +kernel
theorem dX5_temper_2 : decode cX5_temper 2 = .ok (.invokevirtual 85, 3) := by decide +kernel
theorem dX5_temper_5 : decode cX5_temper 5 = .ok (.ifCond .eq 13, 3) := by decide +kernel
theorem dX5_temper_8 : decode cX5_temper 8 = .ok (.iload_n 2, 1) := by decide +kernel
theorem dX5_temper_9 : decode cX5_temper 9 = .ok (.iconst 1, 1) := by decide +kernel
theorem dX5_temper_10 : decode cX5_temper 10 = .ok (.bipush 20, 2) := by decide +kernel
theorem dX5_temper_12 : decode cX5_temper 12 = .ok (.invokestatic 51, 3) := by decide +kernel
theorem dX5_temper_15 : decode cX5_temper 15 = .ok (.ifCond .ne 9, 3) := by decide +kernel
theorem dX5_temper_18 : decode cX5_temper 18 = .ok (.aload_n 0, 1) := by decide +kernel
theorem dX5_temper_19 : decode cX5_temper 19 = .ok (.iconst 0, 1) := by decide +kernel
theorem dX5_temper_20 : decode cX5_temper 20 = .ok (.invokevirtual 55, 3) := by decide +kernel
theorem dX5_temper_23 : decode cX5_temper 23 = .ok (.ireturn, 1) := by decide +kernel
theorem dX5_temper_24 : decode cX5_temper 24 = .ok (.aload_n 0, 1) := by decide +kernel
theorem dX5_temper_25 : decode cX5_temper 25 = .ok (.aload_n 0, 1) := by decide +kernel
theorem dX5_temper_26 : decode cX5_temper 26 = .ok (.getfield 19, 3) := by decide +kernel
theorem dX5_temper_29 : decode cX5_temper 29 = .ok (.getfield 91, 3) := by decide +kernel
theorem dX5_temper_32 : decode cX5_temper 32 = .ok (.iload_n 1, 1) := by decide +kernel
theorem dX5_temper_33 : decode cX5_temper 33 = .ok (.bipush 31, 2) := by decide +kernel
theorem dX5_temper_35 : decode cX5_temper 35 = .ok (.iload_n 2, 1) := by decide +kernel
theorem dX5_temper_36 : decode cX5_temper 36 = .ok (.invokevirtual 180, 3) := by decide +kernel
theorem dX5_temper_39 : decode cX5_temper 39 = .ok (.ireturn, 1) := by decide +kernel
theorem dX5_keep_0 : decode cX5_keep 0 = .ok (.iload_n 1, 1) := by decide +kernel
theorem dX5_keep_1 : decode cX5_keep 1 = .ok (.iconst 1, 1) := by decide +kernel
theorem dX5_keep_2 : decode cX5_keep 2 = .ok (.bipush 10, 2) := by decide +kernel
theorem dX5_keep_4 : decode cX5_keep 4 = .ok (.invokestatic 51, 3) := by decide +kernel
theorem dX5_keep_7 : decode cX5_keep 7 = .ok (.ifCond .ne 9, 3) := by decide +kernel
theorem dX5_keep_10 : decode cX5_keep 10 = .ok (.aload_n 0, 1) := by decide +kernel
theorem dX5_keep_11 : decode cX5_keep 11 = .ok (.iconst 0, 1) := by decide +kernel
theorem dX5_keep_12 : decode cX5_keep 12 = .ok (.invokevirtual 55, 3) := by decide +kernel
theorem dX5_keep_15 : decode cX5_keep 15 = .ok (.ireturn, 1) := by decide +kernel
theorem dX5_keep_16 : decode cX5_keep 16 = .ok (.aload_n 0, 1) := by decide +kernel
theorem dX5_keep_17 : decode cX5_keep 17 = .ok (.getfield 10, 3) := by decide +kernel
theorem dX5_keep_20 : decode cX5_keep 20 = .ok (.invokevirtual 184, 3) := by decide +kernel
theorem dX5_keep_23 : decode cX5_keep 23 = .ok (.istore_n 2, 1) := by decide +kernel
theorem dX5_keep_24 : decode cX5_keep 24 = .ok (.aload_n 0, 1) := by decide +kernel
theorem dX5_keep_25 : decode cX5_keep 25 = .ok (.iload_n 1, 1) := by decide +kernel
theorem dX5_keep_26 : decode cX5_keep 26 = .ok (.invokevirtual 171, 3) := by decide +kernel
theorem dX5_keep_29 : decode cX5_keep 29 = .ok (.istore_n 3, 1) := by decide +kernel
theorem dX5_keep_30 : decode cX5_keep 30 = .ok (.iconst 0, 1) := by decide +kernel
theorem dX5_keep_31 : decode cX5_keep 31 = .ok (.istore 4, 2) := by decide +kernel
theorem dX5_keep_33 : decode cX5_keep 33 = .ok (.iload 4, 2) := by decide +kernel
theorem dX5_keep_35 : decode cX5_keep 35 = .ok (.aload_n 0, 1) := by decide +kernel
theorem dX5_keep_36 : decode cX5_keep 36 = .ok (.getfield 10, 3) := by decide +kernel
theorem dX5_keep_39 : decode cX5_keep 39 = .ok (.getfield 121, 3) := by decide +kernel
theorem dX5_keep_42 : decode cX5_keep 42 = .ok (.if_icmp .ge 51, 3) := by decide +kernel
theorem dX5_keep_45 : decode cX5_keep 45 = .ok (.iconst 0, 1) := by decide +kernel
theorem dX5_keep_46 : decode cX5_keep 46 = .ok (.istore 5, 2) := by decide +kernel
theorem dX5_keep_48 : decode cX5_keep 48 = .ok (.iload 5, 2) := by decide +kernel
theorem dX5_keep_50 : decode cX5_keep 50 = .ok (.iload_n 2, 1) := by decide +kernel
theorem dX5_keep_51 : decode cX5_keep 51 = .ok (.if_icmp .ge 36, 3) := by decide +kernel
theorem dX5_keep_54 : decode cX5_keep 54 = .ok (.iload 5, 2) := by decide +kernel
theorem dX5_keep_56 : decode cX5_keep 56 = .ok (.invokestatic 103, 3) := by decide +kernel
theorem dX5_keep_59 : decode cX5_keep 59 = .ok (.iload 4, 2) := by decide +kernel
theorem dX5_keep_61 : decode cX5_keep 61 = .ok (.if_icmp .ne 20, 3) := by decide +kernel
theorem dX5_keep_64 : decode cX5_keep 64 = .ok (.aload_n 0, 1) := by decide +kernel
theorem dX5_keep_65 : decode cX5_keep 65 = .ok (.iload 5, 2) := by decide +kernel
theorem dX5_keep_67 : decode cX5_keep 67 = .ok (.iload_n 1, 1) := by decide +kernel
theorem dX5_keep_68 : decode cX5_keep 68 = .ok (.iload_n 3, 1) := by decide +kernel
theorem dX5_keep_69 : decode cX5_keep 69 = .ok (.iconst 1, 1) := by decide +kernel
theorem dX5_keep_70 : decode cX5_keep 70 = .ok (.iadd, 1) := by decide +kernel
theorem dX5_keep_71 : decode cX5_keep 71 = .ok (.invokevirtual 187, 3) := by decide +kernel
theorem dX5_keep_74 : decode cX5_keep 74 = .ok (.iload_n 3, 1) := by decide +kernel
theorem dX5_keep_75 : decode cX5_keep 75 = .ok (.if_icmp .gt 6, 3) := by decide +kernel
theorem dX5_keep_78 : decode cX5_keep 78 = .ok (.iload 5, 2) := by decide +kernel
theorem dX5_keep_80 : decode cX5_keep 80 = .ok (.ireturn, 1) := by decide +kernel
theorem dX5_keep_81 : decode cX5_keep 81 = .ok (.iinc 5 1, 3) := by decide +kernel
theorem dX5_keep_84 : decode cX5_keep 84 = .ok (.goto (-36), 3) := by decide +kernel
theorem dX5_keep_87 : decode cX5_keep 87 = .ok (.iinc 4 1, 3) := by decide +kernel
theorem dX5_keep_90 : decode cX5_keep 90 = .ok (.goto (-57), 3) := by decide +kernel
theorem dX5_keep_93 : decode cX5_keep 93 = .ok (.iload_n 2, 1) := by decide +kernel
theorem dX5_keep_94 : decode cX5_keep 94 = .ok (.ireturn, 1) := by decide +kernel
theorem dX5_worth_0 : decode cX5_worth 0 = .ok (.iload_n 1, 1) := by decide +kernel
theorem dX5_worth_1 : decode cX5_worth 1 = .ok (.iconst 1, 1) := by decide +kernel
theorem dX5_worth_2 : decode cX5_worth 2 = .ok (.bipush 20, 2) := by decide +kernel
theorem dX5_worth_4 : decode cX5_worth 4 = .ok (.invokestatic 51, 3) := by decide +kernel
theorem dX5_worth_7 : decode cX5_worth 7 = .ok (.ifCond .ne 9, 3) := by decide +kernel
theorem dX5_worth_10 : decode cX5_worth 10 = .ok (.aload_n 0, 1) := by decide +kernel
theorem dX5_worth_11 : decode cX5_worth 11 = .ok (.iconst 0, 1) := by decide +kernel
theorem dX5_worth_12 : decode cX5_worth 12 = .ok (.invokevirtual 55, 3) := by decide +kernel
theorem dX5_worth_15 : decode cX5_worth 15 = .ok (.ireturn, 1) := by decide +kernel
theorem dX5_worth_16 : decode cX5_worth 16 = .ok (.iconst (-1), 1) := by decide +kernel
theorem dX5_worth_17 : decode cX5_worth 17 = .ok (.istore_n 2, 1) := by decide +kernel
theorem dX5_worth_18 : decode cX5_worth 18 = .ok (.aload_n 0, 1) := by decide +kernel
theorem dX5_worth_19 : decode cX5_worth 19 = .ok (.iload_n 1, 1) := by decide +kernel
theorem dX5_worth_20 : decode cX5_worth 20 = .ok (.invokevirtual 171, 3) := by decide +kernel
theorem dX5_worth_23 : decode cX5_worth 23 = .ok (.istore_n 3, 1) := by decide +kernel
theorem dX5_worth_24 : decode cX5_worth 24 = .ok (.iconst 0, 1) := by decide +kernel
theorem dX5_worth_25 : decode cX5_worth 25 = .ok (.istore 4, 2) := by decide +kernel
theorem dX5_worth_27 : decode cX5_worth 27 = .ok (.iload 4, 2) := by decide +kernel
theorem dX5_worth_29 : decode cX5_worth 29 = .ok (.aload_n 0, 1) := by decide +kernel
theorem dX5_worth_30 : decode cX5_worth 30 = .ok (.getfield 10, 3) := by decide +kernel
theorem dX5_worth_33 : decode cX5_worth 33 = .ok (.getfield 79, 3) := by decide +kernel
theorem dX5_worth_36 : decode cX5_worth 36 = .ok (.if_icmp .ge 53, 3) := by decide +kernel
theorem dX5_worth_39 : decode cX5_worth 39 = .ok (.aload_n 0, 1) := by decide +kernel
theorem dX5_worth_40 : decode cX5_worth 40 = .ok (.getfield 10, 3) := by decide +kernel
theorem dX5_worth_43 : decode cX5_worth 43 = .ok (.invokevirtual 184, 3) := by decide +kernel
theorem dX5_worth_46 : decode cX5_worth 46 = .ok (.aload_n 0, 1) := by decide +kernel
theorem dX5_worth_47 : decode cX5_worth 47 = .ok (.getfield 10, 3) := by decide +kernel
theorem dX5_worth_50 : decode cX5_worth 50 = .ok (.iload 4, 2) := by decide +kernel
theorem dX5_worth_52 : decode cX5_worth 52 = .ok (.invokevirtual 100, 3) := by decide +kernel
theorem dX5_worth_55 : decode cX5_worth 55 = .ok (.iconst (-1), 1) := by decide +kernel
theorem dX5_worth_56 : decode cX5_worth 56 = .ok (.ixor, 1) := by decide +kernel
theorem dX5_worth_57 : decode cX5_worth 57 = .ok (.iand, 1) := by decide +kernel
theorem dX5_worth_58 : decode cX5_worth 58 = .ok (.istore 5, 2) := by decide +kernel
theorem dX5_worth_60 : decode cX5_worth 60 = .ok (.aload_n 0, 1) := by decide +kernel
theorem dX5_worth_61 : decode cX5_worth 61 = .ok (.iload 5, 2) := by decide +kernel
theorem dX5_worth_63 : decode cX5_worth 63 = .ok (.iload_n 1, 1) := by decide +kernel
theorem dX5_worth_64 : decode cX5_worth 64 = .ok (.ldc 153, 2) := by decide +kernel
theorem dX5_worth_66 : decode cX5_worth 66 = .ok (.invokevirtual 187, 3) := by decide +kernel
theorem dX5_worth_69 : decode cX5_worth 69 = .ok (.istore 6, 2) := by decide +kernel
theorem dX5_worth_71 : decode cX5_worth 71 = .ok (.iload 6, 2) := by decide +kernel
theorem dX5_worth_73 : decode cX5_worth 73 = .ok (.iload_n 3, 1) := by decide +kernel
theorem dX5_worth_74 : decode cX5_worth 74 = .ok (.if_icmp .le 9, 3) := by decide +kernel
theorem dX5_worth_77 : decode cX5_worth 77 = .ok (.iload 6, 2) := by decide +kernel
theorem dX5_worth_79 : decode cX5_worth 79 = .ok (.istore_n 3, 1) := by decide +kernel
theorem dX5_worth_80 : decode cX5_worth 80 = .ok (.iload 4, 2) := by decide +kernel
theorem dX5_worth_82 : decode cX5_worth 82 = .ok (.istore_n 2, 1) := by decide +kernel
theorem dX5_worth_83 : decode cX5_worth 83 = .ok (.iinc 4 1, 3) := by decide +kernel
theorem dX5_worth_86 : decode cX5_worth 86 = .ok (.goto (-59), 3) := by decide +kernel
theorem dX5_worth_89 : decode cX5_worth 89 = .ok (.iload_n 2, 1) := by decide +kernel
theorem dX5_worth_90 : decode cX5_worth 90 = .ok (.ifCond .ge 11, 3) := by decide +kernel
theorem dX5_worth_93 : decode cX5_worth 93 = .ok (.aload_n 0, 1) := by decide +kernel
theorem dX5_worth_94 : decode cX5_worth 94 = .ok (.iconst 3, 1) := by decide +kernel
theorem dX5_worth_95 : decode cX5_worth 95 = .ok (.invokevirtual 55, 3) := by decide +kernel
theorem dX5_worth_98 : decode cX5_worth 98 = .ok (.goto 4, 3) := by decide +kernel
theorem dX5_worth_101 : decode cX5_worth 101 = .ok (.iload_n 2, 1) := by decide +kernel
theorem dX5_worth_102 : decode cX5_worth 102 = .ok (.ireturn, 1) := by decide +kernel
theorem dX5_apart_0 : decode cX5_apart 0 = .ok (.aload_n 0, 1) := by decide +kernel
theorem dX5_apart_1 : decode cX5_apart 1 = .ok (.iload_n 1, 1) := by decide +kernel
theorem dX5_apart_2 : decode cX5_apart 2 = .ok (.invokevirtual 128, 3) := by decide +kernel
theorem dX5_apart_5 : decode cX5_apart 5 = .ok (.ifCond .ne 9, 3) := by decide +kernel
theorem dX5_apart_8 : decode cX5_apart 8 = .ok (.aload_n 0, 1) := by decide +kernel
theorem dX5_apart_9 : decode cX5_apart 9 = .ok (.iconst 0, 1) := by decide +kernel
theorem dX5_apart_10 : decode cX5_apart 10 = .ok (.invokevirtual 55, 3) := by decide +kernel
theorem dX5_apart_13 : decode cX5_apart 13 = .ok (.ireturn, 1) := by decide +kernel
theorem dX5_apart_14 : decode cX5_apart 14 = .ok (.aload_n 0, 1) := by decide +kernel
theorem dX5_apart_15 : decode cX5_apart 15 = .ok (.getfield 10, 3) := by decide +kernel
theorem dX5_apart_18 : decode cX5_apart 18 = .ok (.getfield 134, 3) := by decide +kernel
theorem dX5_apart_21 : decode cX5_apart 21 = .ok (.iload_n 1, 1) := by decide +kernel
theorem dX5_apart_22 : decode cX5_apart 22 = .ok (.iaload, 1) := by decide +kernel
theorem dX5_apart_23 : decode cX5_apart 23 = .ok (.istore_n 2, 1) := by decide +kernel
theorem dX5_apart_24 : decode cX5_apart 24 = .ok (.aload_n 0, 1) := by decide +kernel
theorem dX5_apart_25 : decode cX5_apart 25 = .ok (.getfield 10, 3) := by decide +kernel
theorem dX5_apart_28 : decode cX5_apart 28 = .ok (.getfield 131, 3) := by decide +kernel
theorem dX5_apart_31 : decode cX5_apart 31 = .ok (.iload_n 1, 1) := by decide +kernel
theorem dX5_apart_32 : decode cX5_apart 32 = .ok (.iaload, 1) := by decide +kernel
theorem dX5_apart_33 : decode cX5_apart 33 = .ok (.istore_n 3, 1) := by decide +kernel
theorem dX5_apart_34 : decode cX5_apart 34 = .ok (.iload_n 3, 1) := by decide +kernel
theorem dX5_apart_35 : decode cX5_apart 35 = .ok (.istore 4, 2) := by decide +kernel
theorem dX5_apart_37 : decode cX5_apart 37 = .ok (.aload_n 0, 1) := by decide +kernel
theorem dX5_apart_38 : decode cX5_apart 38 = .ok (.getfield 10, 3) := by decide +kernel
theorem dX5_apart_41 : decode cX5_apart 41 = .ok (.iload_n 2, 1) := by decide +kernel
theorem dX5_apart_42 : decode cX5_apart 42 = .ok (.invokevirtual 108, 3) := by decide +kernel
theorem dX5_apart_45 : decode cX5_apart 45 = .ok (.istore 5, 2) := by decide +kernel
theorem dX5_apart_47 : decode cX5_apart 47 = .ok (.iconst 0, 1) := by decide +kernel
theorem dX5_apart_48 : decode cX5_apart 48 = .ok (.istore 6, 2) := by decide +kernel
theorem dX5_apart_50 : decode cX5_apart 50 = .ok (.aload_n 0, 1) := by decide +kernel
theorem dX5_apart_51 : decode cX5_apart 51 = .ok (.getfield 19, 3) := by decide +kernel
theorem dX5_apart_54 : decode cX5_apart 54 = .ok (.aload_n 0, 1) := by decide +kernel
theorem dX5_apart_55 : decode cX5_apart 55 = .ok (.getfield 10, 3) := by decide +kernel
theorem dX5_apart_58 : decode cX5_apart 58 = .ok (.invokevirtual 174, 3) := by decide +kernel
theorem dX5_apart_61 : decode cX5_apart 61 = .ok (.iconst 0, 1) := by decide +kernel
theorem dX5_apart_62 : decode cX5_apart 62 = .ok (.istore 7, 2) := by decide +kernel
theorem dX5_apart_64 : decode cX5_apart 64 = .ok (.iload 7, 2) := by decide +kernel
theorem dX5_apart_66 : decode cX5_apart 66 = .ok (.bipush 48, 2) := by decide +kernel
theorem dX5_apart_68 : decode cX5_apart 68 = .ok (.if_icmp .ge 71, 3) := by decide +kernel
theorem dX5_apart_71 : decode cX5_apart 71 = .ok (.aload_n 0, 1) := by decide +kernel
theorem dX5_apart_72 : decode cX5_apart 72 = .ok (.getfield 19, 3) := by decide +kernel
theorem dX5_apart_75 : decode cX5_apart 75 = .ok (.getfield 131, 3) := by decide +kernel
theorem dX5_apart_78 : decode cX5_apart 78 = .ok (.iload_n 1, 1) := by decide +kernel
theorem dX5_apart_79 : decode cX5_apart 79 = .ok (.iload 7, 2) := by decide +kernel
theorem dX5_apart_81 : decode cX5_apart 81 = .ok (.iastore, 1) := by decide +kernel
theorem dX5_apart_82 : decode cX5_apart 82 = .ok (.aload_n 0, 1) := by decide +kernel
theorem dX5_apart_83 : decode cX5_apart 83 = .ok (.getfield 19, 3) := by decide +kernel
theorem dX5_apart_86 : decode cX5_apart 86 = .ok (.iload_n 2, 1) := by decide +kernel
theorem dX5_apart_87 : decode cX5_apart 87 = .ok (.invokevirtual 108, 3) := by decide +kernel
theorem dX5_apart_90 : decode cX5_apart 90 = .ok (.istore 8, 2) := by decide +kernel
theorem dX5_apart_92 : decode cX5_apart 92 = .ok (.iload_n 3, 1) := by decide +kernel
theorem dX5_apart_93 : decode cX5_apart 93 = .ok (.iload 7, 2) := by decide +kernel
theorem dX5_apart_95 : decode cX5_apart 95 = .ok (.invokestatic 191, 3) := by decide +kernel
theorem dX5_apart_98 : decode cX5_apart 98 = .ok (.istore 9, 2) := by decide +kernel
theorem dX5_apart_100 : decode cX5_apart 100 = .ok (.iload 8, 2) := by decide +kernel
theorem dX5_apart_102 : decode cX5_apart 102 = .ok (.iload 5, 2) := by decide +kernel
theorem dX5_apart_104 : decode cX5_apart 104 = .ok (.if_icmp .lt 17, 3) := by decide +kernel
theorem dX5_apart_107 : decode cX5_apart 107 = .ok (.iload 8, 2) := by decide +kernel
theorem dX5_apart_109 : decode cX5_apart 109 = .ok (.iload 5, 2) := by decide +kernel
theorem dX5_apart_111 : decode cX5_apart 111 = .ok (.if_icmp .ne 22, 3) := by decide +kernel
theorem dX5_apart_114 : decode cX5_apart 114 = .ok (.iload 9, 2) := by decide +kernel
theorem dX5_apart_116 : decode cX5_apart 116 = .ok (.iload 6, 2) := by decide +kernel
theorem dX5_apart_118 : decode cX5_apart 118 = .ok (.if_icmp .ge 15, 3) := by decide +kernel
theorem dX5_apart_121 : decode cX5_apart 121 = .ok (.iload 8, 2) := by decide +kernel
theorem dX5_apart_123 : decode cX5_apart 123 = .ok (.istore 5, 2) := by decide +kernel
theorem dX5_apart_125 : decode cX5_apart 125 = .ok (.iload 9, 2) := by decide +kernel
theorem dX5_apart_127 : decode cX5_apart 127 = .ok (.istore 6, 2) := by decide +kernel
theorem dX5_apart_129 : decode cX5_apart 129 = .ok (.iload 7, 2) := by decide +kernel
theorem dX5_apart_131 : decode cX5_apart 131 = .ok (.istore 4, 2) := by decide +kernel
theorem dX5_apart_133 : decode cX5_apart 133 = .ok (.iinc 7 1, 3) := by decide +kernel
theorem dX5_apart_136 : decode cX5_apart 136 = .ok (.goto (-72), 3) := by decide +kernel
theorem dX5_apart_139 : decode cX5_apart 139 = .ok (.iload 4, 2) := by decide +kernel
theorem dX5_apart_141 : decode cX5_apart 141 = .ok (.ireturn, 1) := by decide +kernel
theorem dX5_swap_0 : decode cX5_swap 0 = .ok (.iload_n 1, 1) := by decide +kernel
theorem dX5_swap_1 : decode cX5_swap 1 = .ok (.iconst 1, 1) := by decide +kernel
theorem dX5_swap_2 : decode cX5_swap 2 = .ok (.bipush 20, 2) := by decide +kernel
theorem dX5_swap_4 : decode cX5_swap 4 = .ok (.invokestatic 51, 3) := by decide +kernel
theorem dX5_swap_7 : decode cX5_swap 7 = .ok (.ifCond .ne 9, 3) := by decide +kernel
theorem dX5_swap_10 : decode cX5_swap 10 = .ok (.aload_n 0, 1) := by decide +kernel
theorem dX5_swap_11 : decode cX5_swap 11 = .ok (.iconst 0, 1) := by decide +kernel
theorem dX5_swap_12 : decode cX5_swap 12 = .ok (.invokevirtual 55, 3) := by decide +kernel
theorem dX5_swap_15 : decode cX5_swap 15 = .ok (.ireturn, 1) := by decide +kernel
theorem dX5_swap_16 : decode cX5_swap 16 = .ok (.iconst (-1), 1) := by decide +kernel
theorem dX5_swap_17 : decode cX5_swap 17 = .ok (.istore_n 2, 1) := by decide +kernel
theorem dX5_swap_18 : decode cX5_swap 18 = .ok (.aload_n 0, 1) := by decide +kernel
theorem dX5_swap_19 : decode cX5_swap 19 = .ok (.iload_n 1, 1) := by decide +kernel
theorem dX5_swap_20 : decode cX5_swap 20 = .ok (.invokevirtual 171, 3) := by decide +kernel
theorem dX5_swap_23 : decode cX5_swap 23 = .ok (.istore_n 3, 1) := by decide +kernel
theorem dX5_swap_24 : decode cX5_swap 24 = .ok (.iconst 0, 1) := by decide +kernel
theorem dX5_swap_25 : decode cX5_swap 25 = .ok (.istore 4, 2) := by decide +kernel
theorem dX5_swap_27 : decode cX5_swap 27 = .ok (.iload 4, 2) := by decide +kernel
theorem dX5_swap_29 : decode cX5_swap 29 = .ok (.aload_n 0, 1) := by decide +kernel
theorem dX5_swap_30 : decode cX5_swap 30 = .ok (.getfield 10, 3) := by decide +kernel
theorem dX5_swap_33 : decode cX5_swap 33 = .ok (.getfield 121, 3) := by decide +kernel
theorem dX5_swap_36 : decode cX5_swap 36 = .ok (.if_icmp .ge 63, 3) := by decide +kernel
theorem dX5_swap_39 : decode cX5_swap 39 = .ok (.iload 4, 2) := by decide +kernel
theorem dX5_swap_41 : decode cX5_swap 41 = .ok (.iconst 1, 1) := by decide +kernel
theorem dX5_swap_42 : decode cX5_swap 42 = .ok (.iadd, 1) := by decide +kernel
theorem dX5_swap_43 : decode cX5_swap 43 = .ok (.istore 5, 2) := by decide +kernel
theorem dX5_swap_45 : decode cX5_swap 45 = .ok (.iload 5, 2) := by decide +kernel
theorem dX5_swap_47 : decode cX5_swap 47 = .ok (.aload_n 0, 1) := by decide +kernel
theorem dX5_swap_48 : decode cX5_swap 48 = .ok (.getfield 10, 3) := by decide +kernel
theorem dX5_swap_51 : decode cX5_swap 51 = .ok (.getfield 121, 3) := by decide +kernel
theorem dX5_swap_54 : decode cX5_swap 54 = .ok (.if_icmp .ge 39, 3) := by decide +kernel
theorem dX5_swap_57 : decode cX5_swap 57 = .ok (.aload_n 0, 1) := by decide +kernel
theorem dX5_swap_58 : decode cX5_swap 58 = .ok (.iload 4, 2) := by decide +kernel
theorem dX5_swap_60 : decode cX5_swap 60 = .ok (.iload 5, 2) := by decide +kernel
theorem dX5_swap_62 : decode cX5_swap 62 = .ok (.iload_n 1, 1) := by decide +kernel
theorem dX5_swap_63 : decode cX5_swap 63 = .ok (.iload_n 3, 1) := by decide +kernel
theorem dX5_swap_64 : decode cX5_swap 64 = .ok (.invokevirtual 194, 3) := by decide +kernel
theorem dX5_swap_67 : decode cX5_swap 67 = .ok (.istore 6, 2) := by decide +kernel
theorem dX5_swap_69 : decode cX5_swap 69 = .ok (.iload 6, 2) := by decide +kernel
theorem dX5_swap_71 : decode cX5_swap 71 = .ok (.iload_n 3, 1) := by decide +kernel
theorem dX5_swap_72 : decode cX5_swap 72 = .ok (.if_icmp .ge 15, 3) := by decide +kernel
theorem dX5_swap_75 : decode cX5_swap 75 = .ok (.iload 6, 2) := by decide +kernel
theorem dX5_swap_77 : decode cX5_swap 77 = .ok (.istore_n 3, 1) := by decide +kernel
theorem dX5_swap_78 : decode cX5_swap 78 = .ok (.bipush 10, 2) := by decide +kernel
theorem dX5_swap_80 : decode cX5_swap 80 = .ok (.iload 4, 2) := by decide +kernel
theorem dX5_swap_82 : decode cX5_swap 82 = .ok (.imul, 1) := by decide +kernel
theorem dX5_swap_83 : decode cX5_swap 83 = .ok (.iload 5, 2) := by decide +kernel
theorem dX5_swap_85 : decode cX5_swap 85 = .ok (.iadd, 1) := by decide +kernel
theorem dX5_swap_86 : decode cX5_swap 86 = .ok (.istore_n 2, 1) := by decide +kernel
theorem dX5_swap_87 : decode cX5_swap 87 = .ok (.iinc 5 1, 3) := by decide +kernel
theorem dX5_swap_90 : decode cX5_swap 90 = .ok (.goto (-45), 3) := by decide +kernel
theorem dX5_swap_93 : decode cX5_swap 93 = .ok (.iinc 4 1, 3) := by decide +kernel
theorem dX5_swap_96 : decode cX5_swap 96 = .ok (.goto (-69), 3) := by decide +kernel
theorem dX5_swap_99 : decode cX5_swap 99 = .ok (.iload_n 2, 1) := by decide +kernel
theorem dX5_swap_100 : decode cX5_swap 100 = .ok (.ifCond .ge 11, 3) := by decide +kernel
theorem dX5_swap_103 : decode cX5_swap 103 = .ok (.aload_n 0, 1) := by decide +kernel
theorem dX5_swap_104 : decode cX5_swap 104 = .ok (.iconst 3, 1) := by decide +kernel
theorem dX5_swap_105 : decode cX5_swap 105 = .ok (.invokevirtual 55, 3) := by decide +kernel
theorem dX5_swap_108 : decode cX5_swap 108 = .ok (.goto 4, 3) := by decide +kernel
theorem dX5_swap_111 : decode cX5_swap 111 = .ok (.iload_n 2, 1) := by decide +kernel
theorem dX5_swap_112 : decode cX5_swap 112 = .ok (.ireturn, 1) := by decide +kernel
theorem dX5_feed_0 : decode cX5_feed 0 = .ok (.iload_n 2, 1) := by decide +kernel
theorem dX5_feed_1 : decode cX5_feed 1 = .ok (.iconst 1, 1) := by decide +kernel
theorem dX5_feed_2 : decode cX5_feed 2 = .ok (.iconst 4, 1) := by decide +kernel
theorem dX5_feed_3 : decode cX5_feed 3 = .ok (.invokestatic 51, 3) := by decide +kernel
theorem dX5_feed_6 : decode cX5_feed 6 = .ok (.ifCond .ne 9, 3) := by decide +kernel
theorem dX5_feed_9 : decode cX5_feed 9 = .ok (.aload_n 0, 1) := by decide +kernel
theorem dX5_feed_10 : decode cX5_feed 10 = .ok (.iconst 0, 1) := by decide +kernel
theorem dX5_feed_11 : decode cX5_feed 11 = .ok (.invokevirtual 55, 3) := by decide +kernel
theorem dX5_feed_14 : decode cX5_feed 14 = .ok (.ireturn, 1) := by decide +kernel
theorem dX5_feed_15 : decode cX5_feed 15 = .ok (.aload_n 0, 1) := by decide +kernel
theorem dX5_feed_16 : decode cX5_feed 16 = .ok (.getfield 32, 3) := by decide +kernel
theorem dX5_feed_19 : decode cX5_feed 19 = .ok (.getfield 198, 3) := by decide +kernel
theorem dX5_feed_22 : decode cX5_feed 22 = .ok (.iload_n 2, 1) := by decide +kernel
theorem dX5_feed_23 : decode cX5_feed 23 = .ok (.iadd, 1) := by decide +kernel
theorem dX5_feed_24 : decode cX5_feed 24 = .ok (.bipush 120, 2) := by decide +kernel
theorem dX5_feed_26 : decode cX5_feed 26 = .ok (.if_icmp .le 9, 3) := by decide +kernel
theorem dX5_feed_29 : decode cX5_feed 29 = .ok (.aload_n 0, 1) := by decide +kernel
theorem dX5_feed_30 : decode cX5_feed 30 = .ok (.iconst 1, 1) := by decide +kernel
theorem dX5_feed_31 : decode cX5_feed 31 = .ok (.invokevirtual 55, 3) := by decide +kernel
theorem dX5_feed_34 : decode cX5_feed 34 = .ok (.ireturn, 1) := by decide +kernel
theorem dX5_feed_35 : decode cX5_feed 35 = .ok (.iload_n 2, 1) := by decide +kernel
theorem dX5_feed_36 : decode cX5_feed 36 = .ok (.iconst 1, 1) := by decide +kernel
theorem dX5_feed_37 : decode cX5_feed 37 = .ok (.isub, 1) := by decide +kernel
theorem dX5_feed_38 : decode cX5_feed 38 = .ok (.istore_n 3, 1) := by decide +kernel
theorem dX5_feed_39 : decode cX5_feed 39 = .ok (.iload_n 3, 1) := by decide +kernel
theorem dX5_feed_40 : decode cX5_feed 40 = .ok (.ifCond .lt 26, 3) := by decide +kernel
theorem dX5_feed_43 : decode cX5_feed 43 = .ok (.aload_n 0, 1) := by decide +kernel
theorem dX5_feed_44 : decode cX5_feed 44 = .ok (.getfield 32, 3) := by decide +kernel
theorem dX5_feed_47 : decode cX5_feed 47 = .ok (.iload_n 1, 1) := by decide +kernel
theorem dX5_feed_48 : decode cX5_feed 48 = .ok (.bipush 8, 2) := by decide +kernel
theorem dX5_feed_50 : decode cX5_feed 50 = .ok (.iload_n 3, 1) := by decide +kernel
theorem dX5_feed_51 : decode cX5_feed 51 = .ok (.imul, 1) := by decide +kernel
theorem dX5_feed_52 : decode cX5_feed 52 = .ok (.ishr, 1) := by decide +kernel
theorem dX5_feed_53 : decode cX5_feed 53 = .ok (.sipush 255, 3) := by decide +kernel
theorem dX5_feed_56 : decode cX5_feed 56 = .ok (.iand, 1) := by decide +kernel
theorem dX5_feed_57 : decode cX5_feed 57 = .ok (.invokevirtual 201, 3) := by decide +kernel
theorem dX5_feed_60 : decode cX5_feed 60 = .ok (.iinc 3 (-1), 3) := by decide +kernel
theorem dX5_feed_63 : decode cX5_feed 63 = .ok (.goto (-24), 3) := by decide +kernel
theorem dX5_feed_66 : decode cX5_feed 66 = .ok (.aload_n 0, 1) := by decide +kernel
theorem dX5_feed_67 : decode cX5_feed 67 = .ok (.getfield 32, 3) := by decide +kernel
theorem dX5_feed_70 : decode cX5_feed 70 = .ok (.getfield 198, 3) := by decide +kernel
theorem dX5_feed_73 : decode cX5_feed 73 = .ok (.ireturn, 1) := by decide +kernel
theorem dX5_wipe_0 : decode cX5_wipe 0 = .ok (.aload_n 0, 1) := by decide +kernel
theorem dX5_wipe_1 : decode cX5_wipe 1 = .ok (.getfield 32, 3) := by decide +kernel
theorem dX5_wipe_4 : decode cX5_wipe 4 = .ok (.getfield 198, 3) := by decide +kernel
theorem dX5_wipe_7 : decode cX5_wipe 7 = .ok (.istore_n 1, 1) := by decide +kernel
theorem dX5_wipe_8 : decode cX5_wipe 8 = .ok (.aload_n 0, 1) := by decide +kernel
theorem dX5_wipe_9 : decode cX5_wipe 9 = .ok (.getfield 32, 3) := by decide +kernel
theorem dX5_wipe_12 : decode cX5_wipe 12 = .ok (.iconst 0, 1) := by decide +kernel
theorem dX5_wipe_13 : decode cX5_wipe 13 = .ok (.putfield 198, 3) := by decide +kernel
theorem dX5_wipe_16 : decode cX5_wipe 16 = .ok (.iload_n 1, 1) := by decide +kernel
theorem dX5_wipe_17 : decode cX5_wipe 17 = .ok (.ireturn, 1) := by decide +kernel
theorem dX5_plain_0 : decode cX5_plain 0 = .ok (.aload_n 0, 1) := by decide +kernel
theorem dX5_plain_1 : decode cX5_plain 1 = .ok (.getfield 19, 3) := by decide +kernel
theorem dX5_plain_4 : decode cX5_plain 4 = .ok (.aload_n 0, 1) := by decide +kernel
theorem dX5_plain_5 : decode cX5_plain 5 = .ok (.getfield 10, 3) := by decide +kernel
theorem dX5_plain_8 : decode cX5_plain 8 = .ok (.invokevirtual 174, 3) := by decide +kernel
theorem dX5_plain_11 : decode cX5_plain 11 = .ok (.aload_n 0, 1) := by decide +kernel
theorem dX5_plain_12 : decode cX5_plain 12 = .ok (.getfield 32, 3) := by decide +kernel
theorem dX5_plain_15 : decode cX5_plain 15 = .ok (.aload_n 0, 1) := by decide +kernel
theorem dX5_plain_16 : decode cX5_plain 16 = .ok (.getfield 19, 3) := by decide +kernel
theorem dX5_plain_19 : decode cX5_plain 19 = .ok (.invokevirtual 205, 3) := by decide +kernel
theorem dX5_plain_22 : decode cX5_plain 22 = .ok (.istore_n 1, 1) := by decide +kernel
theorem dX5_plain_23 : decode cX5_plain 23 = .ok (.aload_n 0, 1) := by decide +kernel
theorem dX5_plain_24 : decode cX5_plain 24 = .ok (.getfield 32, 3) := by decide +kernel
theorem dX5_plain_27 : decode cX5_plain 27 = .ok (.iconst 0, 1) := by decide +kernel
theorem dX5_plain_28 : decode cX5_plain 28 = .ok (.putfield 198, 3) := by decide +kernel
theorem dX5_plain_31 : decode cX5_plain 31 = .ok (.iload_n 1, 1) := by decide +kernel
theorem dX5_plain_32 : decode cX5_plain 32 = .ok (.ifCond .lt 14, 3) := by decide +kernel
theorem dX5_plain_35 : decode cX5_plain 35 = .ok (.aload_n 0, 1) := by decide +kernel
theorem dX5_plain_36 : decode cX5_plain 36 = .ok (.getfield 10, 3) := by decide +kernel
theorem dX5_plain_39 : decode cX5_plain 39 = .ok (.aload_n 0, 1) := by decide +kernel
theorem dX5_plain_40 : decode cX5_plain 40 = .ok (.getfield 19, 3) := by decide +kernel
theorem dX5_plain_43 : decode cX5_plain 43 = .ok (.invokevirtual 174, 3) := by decide +kernel
theorem dX5_plain_46 : decode cX5_plain 46 = .ok (.iload_n 1, 1) := by decide +kernel
theorem dX5_plain_47 : decode cX5_plain 47 = .ok (.ireturn, 1) := by decide +kernel
theorem dX5_sheet_0 : decode cX5_sheet 0 = .ok (.iload_n 1, 1) := by decide +kernel
theorem dX5_sheet_1 : decode cX5_sheet 1 = .ok (.invokestatic 208, 3) := by decide +kernel
theorem dX5_sheet_4 : decode cX5_sheet 4 = .ok (.ifCond .eq 25, 3) := by decide +kernel
theorem dX5_sheet_7 : decode cX5_sheet 7 = .ok (.iload_n 2, 1) := by decide +kernel
theorem dX5_sheet_8 : decode cX5_sheet 8 = .ok (.ifCond .eq 27, 3) := by decide +kernel
theorem dX5_sheet_11 : decode cX5_sheet 11 = .ok (.iload_n 2, 1) := by decide +kernel
theorem dX5_sheet_12 : decode cX5_sheet 12 = .ok (.bipush 8, 2) := by decide +kernel
theorem dX5_sheet_14 : decode cX5_sheet 14 = .ok (.if_icmp .eq 21, 3) := by decide +kernel
theorem dX5_sheet_17 : decode cX5_sheet 17 = .ok (.iload_n 2, 1) := by decide +kernel
theorem dX5_sheet_18 : decode cX5_sheet 18 = .ok (.bipush 16, 2) := by decide +kernel
theorem dX5_sheet_20 : decode cX5_sheet 20 = .ok (.if_icmp .eq 15, 3) := by decide +kernel
theorem dX5_sheet_23 : decode cX5_sheet 23 = .ok (.iload_n 2, 1) := by decide +kernel
theorem dX5_sheet_24 : decode cX5_sheet 24 = .ok (.bipush 64, 2) := by decide +kernel
theorem dX5_sheet_26 : decode cX5_sheet 26 = .ok (.if_icmp .eq 9, 3) := by decide +kernel
theorem dX5_sheet_29 : decode cX5_sheet 29 = .ok (.aload_n 0, 1) := by decide +kernel
theorem dX5_sheet_30 : decode cX5_sheet 30 = .ok (.iconst 0, 1) := by decide +kernel
theorem dX5_sheet_31 : decode cX5_sheet 31 = .ok (.invokevirtual 55, 3) := by decide +kernel
theorem dX5_sheet_34 : decode cX5_sheet 34 = .ok (.ireturn, 1) := by decide +kernel
theorem dX5_sheet_35 : decode cX5_sheet 35 = .ok (.iload_n 3, 1) := by decide +kernel
theorem dX5_sheet_36 : decode cX5_sheet 36 = .ok (.ifCond .ge 10, 3) := by decide +kernel
theorem dX5_sheet_39 : decode cX5_sheet 39 = .ok (.aload_n 0, 1) := by decide +kernel
theorem dX5_sheet_40 : decode cX5_sheet 40 = .ok (.bipush 6, 2) := by decide +kernel
theorem dX5_sheet_42 : decode cX5_sheet 42 = .ok (.invokevirtual 55, 3) := by decide +kernel
theorem dX5_sheet_45 : decode cX5_sheet 45 = .ok (.ireturn, 1) := by decide +kernel
theorem dX5_sheet_46 : decode cX5_sheet 46 = .ok (.iload_n 3, 1) := by decide +kernel
theorem dX5_sheet_47 : decode cX5_sheet 47 = .ok (.bipush 40, 2) := by decide +kernel
theorem dX5_sheet_49 : decode cX5_sheet 49 = .ok (.if_icmp .le 9, 3) := by decide +kernel
theorem dX5_sheet_52 : decode cX5_sheet 52 = .ok (.aload_n 0, 1) := by decide +kernel
theorem dX5_sheet_53 : decode cX5_sheet 53 = .ok (.iconst 0, 1) := by decide +kernel
theorem dX5_sheet_54 : decode cX5_sheet 54 = .ok (.invokevirtual 55, 3) := by decide +kernel
theorem dX5_sheet_57 : decode cX5_sheet 57 = .ok (.ireturn, 1) := by decide +kernel
theorem dX5_sheet_58 : decode cX5_sheet 58 = .ok (.aload_n 0, 1) := by decide +kernel
theorem dX5_sheet_59 : decode cX5_sheet 59 = .ok (.getfield 38, 3) := by decide +kernel
theorem dX5_sheet_62 : decode cX5_sheet 62 = .ok (.iload_n 1, 1) := by decide +kernel
theorem dX5_sheet_63 : decode cX5_sheet 63 = .ok (.aaload, 1) := by decide +kernel
theorem dX5_sheet_64 : decode cX5_sheet 64 = .ok (.iload_n 2, 1) := by decide +kernel
theorem dX5_sheet_65 : decode cX5_sheet 65 = .ok (.iload_n 3, 1) := by decide +kernel
theorem dX5_sheet_66 : decode cX5_sheet 66 = .ok (.invokevirtual 211, 3) := by decide +kernel
theorem dX5_sheet_69 : decode cX5_sheet 69 = .ok (.aload_n 0, 1) := by decide +kernel
theorem dX5_sheet_70 : decode cX5_sheet 70 = .ok (.getfield 38, 3) := by decide +kernel
theorem dX5_sheet_73 : decode cX5_sheet 73 = .ok (.iload_n 1, 1) := by decide +kernel
theorem dX5_sheet_74 : decode cX5_sheet 74 = .ok (.aaload, 1) := by decide +kernel
theorem dX5_sheet_75 : decode cX5_sheet 75 = .ok (.getfield 215, 3) := by decide +kernel
theorem dX5_sheet_78 : decode cX5_sheet 78 = .ok (.ireturn, 1) := by decide +kernel
theorem dX5_write_0 : decode cX5_write 0 = .ok (.iload_n 1, 1) := by decide +kernel
theorem dX5_write_1 : decode cX5_write 1 = .ok (.invokestatic 208, 3) := by decide +kernel
theorem dX5_write_4 : decode cX5_write 4 = .ok (.ifCond .ne 10, 3) := by decide +kernel
theorem dX5_write_7 : decode cX5_write 7 = .ok (.aload_n 0, 1) := by decide +kernel
theorem dX5_write_8 : decode cX5_write 8 = .ok (.iconst 0, 1) := by decide +kernel
theorem dX5_write_9 : decode cX5_write 9 = .ok (.invokevirtual 55, 3) := by decide +kernel
theorem dX5_write_12 : decode cX5_write 12 = .ok (.i2l, 1) := by decide +kernel
theorem dX5_write_13 : decode cX5_write 13 = .ok (.lreturn, 1) := by decide +kernel
theorem dX5_write_14 : decode cX5_write 14 = .ok (.aload_n 0, 1) := by decide +kernel
theorem dX5_write_15 : decode cX5_write 15 = .ok (.getfield 38, 3) := by decide +kernel
theorem dX5_write_18 : decode cX5_write 18 = .ok (.iload_n 1, 1) := by decide +kernel
theorem dX5_write_19 : decode cX5_write 19 = .ok (.aaload, 1) := by decide +kernel
theorem dX5_write_20 : decode cX5_write 20 = .ok (.astore 5, 2) := by decide +kernel
theorem dX5_write_22 : decode cX5_write 22 = .ok (.aload 5, 2) := by decide +kernel
theorem dX5_write_24 : decode cX5_write 24 = .ok (.invokevirtual 218, 3) := by decide +kernel
theorem dX5_write_27 : decode cX5_write 27 = .ok (.ifCond .eq 10, 3) := by decide +kernel
theorem dX5_write_30 : decode cX5_write 30 = .ok (.aload_n 0, 1) := by decide +kernel
theorem dX5_write_31 : decode cX5_write 31 = .ok (.iconst 5, 1) := by decide +kernel
theorem dX5_write_32 : decode cX5_write 32 = .ok (.invokevirtual 55, 3) := by decide +kernel
theorem dX5_write_35 : decode cX5_write 35 = .ok (.i2l, 1) := by decide +kernel
theorem dX5_write_36 : decode cX5_write 36 = .ok (.lreturn, 1) := by decide +kernel
theorem dX5_write_37 : decode cX5_write 37 = .ok (.iload_n 2, 1) := by decide +kernel
theorem dX5_write_38 : decode cX5_write 38 = .ok (.iconst 0, 1) := by decide +kernel
theorem dX5_write_39 : decode cX5_write 39 = .ok (.aload 5, 2) := by decide +kernel
theorem dX5_write_41 : decode cX5_write 41 = .ok (.getfield 215, 3) := by decide +kernel
theorem dX5_write_44 : decode cX5_write 44 = .ok (.iconst 1, 1) := by decide +kernel
theorem dX5_write_45 : decode cX5_write 45 = .ok (.isub, 1) := by decide +kernel
theorem dX5_write_46 : decode cX5_write 46 = .ok (.invokestatic 51, 3) := by decide +kernel
theorem dX5_write_49 : decode cX5_write 49 = .ok (.ifCond .ne 10, 3) := by decide +kernel
theorem dX5_write_52 : decode cX5_write 52 = .ok (.aload_n 0, 1) := by decide +kernel
theorem dX5_write_53 : decode cX5_write 53 = .ok (.iconst 0, 1) := by decide +kernel
theorem dX5_write_54 : decode cX5_write 54 = .ok (.invokevirtual 55, 3) := by decide +kernel
theorem dX5_write_57 : decode cX5_write 57 = .ok (.i2l, 1) := by decide +kernel
theorem dX5_write_58 : decode cX5_write 58 = .ok (.lreturn, 1) := by decide +kernel
theorem dX5_write_59 : decode cX5_write 59 = .ok (.aload 5, 2) := by decide +kernel
theorem dX5_write_61 : decode cX5_write 61 = .ok (.getfield 222, 3) := by decide +kernel
theorem dX5_write_64 : decode cX5_write 64 = .ok (.iload_n 2, 1) := by decide +kernel
theorem dX5_write_65 : decode cX5_write 65 = .ok (.laload, 1) := by decide +kernel
theorem dX5_write_66 : decode cX5_write 66 = .ok (.lstore 6, 2) := by decide +kernel
theorem dX5_write_68 : decode cX5_write 68 = .ok (.aload 5, 2) := by decide +kernel
theorem dX5_write_70 : decode cX5_write 70 = .ok (.iload_n 2, 1) := by decide +kernel
theorem dX5_write_71 : decode cX5_write 71 = .ok (.lload_n 3, 1) := by decide +kernel
theorem dX5_write_72 : decode cX5_write 72 = .ok (.invokevirtual 226, 3) := by decide +kernel
theorem dX5_write_75 : decode cX5_write 75 = .ok (.lload 6, 2) := by decide +kernel
theorem dX5_write_77 : decode cX5_write 77 = .ok (.lreturn, 1) := by decide +kernel
theorem dX5_copy_0 : decode cX5_copy 0 = .ok (.iload_n 1, 1) := by decide +kernel
theorem dX5_copy_1 : decode cX5_copy 1 = .ok (.invokestatic 208, 3) := by decide +kernel
theorem dX5_copy_4 : decode cX5_copy 4 = .ok (.ifCond .eq 10, 3) := by decide +kernel
theorem dX5_copy_7 : decode cX5_copy 7 = .ok (.iload_n 3, 1) := by decide +kernel
theorem dX5_copy_8 : decode cX5_copy 8 = .ok (.invokestatic 208, 3) := by decide +kernel
theorem dX5_copy_11 : decode cX5_copy 11 = .ok (.ifCond .ne 9, 3) := by decide +kernel
theorem dX5_copy_14 : decode cX5_copy 14 = .ok (.aload_n 0, 1) := by decide +kernel
theorem dX5_copy_15 : decode cX5_copy 15 = .ok (.iconst 0, 1) := by decide +kernel
theorem dX5_copy_16 : decode cX5_copy 16 = .ok (.invokevirtual 55, 3) := by decide +kernel
theorem dX5_copy_19 : decode cX5_copy 19 = .ok (.ireturn, 1) := by decide +kernel
theorem dX5_copy_20 : decode cX5_copy 20 = .ok (.aload_n 0, 1) := by decide +kernel
theorem dX5_copy_21 : decode cX5_copy 21 = .ok (.getfield 38, 3) := by decide +kernel
theorem dX5_copy_24 : decode cX5_copy 24 = .ok (.iload_n 1, 1) := by decide +kernel
theorem dX5_copy_25 : decode cX5_copy 25 = .ok (.aaload, 1) := by decide +kernel
theorem dX5_copy_26 : decode cX5_copy 26 = .ok (.astore 6, 2) := by decide +kernel
theorem dX5_copy_28 : decode cX5_copy 28 = .ok (.aload_n 0, 1) := by decide +kernel
theorem dX5_copy_29 : decode cX5_copy 29 = .ok (.getfield 38, 3) := by decide +kernel
theorem dX5_copy_32 : decode cX5_copy 32 = .ok (.iload_n 3, 1) := by decide +kernel
theorem dX5_copy_33 : decode cX5_copy 33 = .ok (.aaload, 1) := by decide +kernel
theorem dX5_copy_34 : decode cX5_copy 34 = .ok (.astore 7, 2) := by decide +kernel
theorem dX5_copy_36 : decode cX5_copy 36 = .ok (.aload 6, 2) := by decide +kernel
theorem dX5_copy_38 : decode cX5_copy 38 = .ok (.invokevirtual 218, 3) := by decide +kernel
theorem dX5_copy_41 : decode cX5_copy 41 = .ok (.ifCond .ne 11, 3) := by decide +kernel
theorem dX5_copy_44 : decode cX5_copy 44 = .ok (.aload 7, 2) := by decide +kernel
theorem dX5_copy_46 : decode cX5_copy 46 = .ok (.invokevirtual 218, 3) := by decide +kernel
theorem dX5_copy_49 : decode cX5_copy 49 = .ok (.ifCond .eq 9, 3) := by decide +kernel
theorem dX5_copy_52 : decode cX5_copy 52 = .ok (.aload_n 0, 1) := by decide +kernel
theorem dX5_copy_53 : decode cX5_copy 53 = .ok (.iconst 5, 1) := by decide +kernel
theorem dX5_copy_54 : decode cX5_copy 54 = .ok (.invokevirtual 55, 3) := by decide +kernel
theorem dX5_copy_57 : decode cX5_copy 57 = .ok (.ireturn, 1) := by decide +kernel
theorem dX5_copy_58 : decode cX5_copy 58 = .ok (.aload 6, 2) := by decide +kernel
theorem dX5_copy_60 : decode cX5_copy 60 = .ok (.getfield 230, 3) := by decide +kernel
theorem dX5_copy_63 : decode cX5_copy 63 = .ok (.aload 7, 2) := by decide +kernel
theorem dX5_copy_65 : decode cX5_copy 65 = .ok (.getfield 230, 3) := by decide +kernel
theorem dX5_copy_68 : decode cX5_copy 68 = .ok (.if_icmp .eq 9, 3) := by decide +kernel
theorem dX5_copy_71 : decode cX5_copy 71 = .ok (.aload_n 0, 1) := by decide +kernel
theorem dX5_copy_72 : decode cX5_copy 72 = .ok (.iconst 2, 1) := by decide +kernel
theorem dX5_copy_73 : decode cX5_copy 73 = .ok (.invokevirtual 55, 3) := by decide +kernel
theorem dX5_copy_76 : decode cX5_copy 76 = .ok (.ireturn, 1) := by decide +kernel
theorem dX5_copy_77 : decode cX5_copy 77 = .ok (.aload 6, 2) := by decide +kernel
theorem dX5_copy_79 : decode cX5_copy 79 = .ok (.iload_n 2, 1) := by decide +kernel
theorem dX5_copy_80 : decode cX5_copy 80 = .ok (.iload 5, 2) := by decide +kernel
theorem dX5_copy_82 : decode cX5_copy 82 = .ok (.invokevirtual 233, 3) := by decide +kernel
theorem dX5_copy_85 : decode cX5_copy 85 = .ok (.ifCond .eq 15, 3) := by decide +kernel
theorem dX5_copy_88 : decode cX5_copy 88 = .ok (.aload 7, 2) := by decide +kernel
theorem dX5_copy_90 : decode cX5_copy 90 = .ok (.iload 4, 2) := by decide +kernel
theorem dX5_copy_92 : decode cX5_copy 92 = .ok (.iload 5, 2) := by decide +kernel
theorem dX5_copy_94 : decode cX5_copy 94 = .ok (.invokevirtual 233, 3) := by decide +kernel
theorem dX5_copy_97 : decode cX5_copy 97 = .ok (.ifCond .ne 9, 3) := by decide +kernel
theorem dX5_copy_100 : decode cX5_copy 100 = .ok (.aload_n 0, 1) := by decide +kernel
theorem dX5_copy_101 : decode cX5_copy 101 = .ok (.iconst 0, 1) := by decide +kernel
theorem dX5_copy_102 : decode cX5_copy 102 = .ok (.invokevirtual 55, 3) := by decide +kernel
theorem dX5_copy_105 : decode cX5_copy 105 = .ok (.ireturn, 1) := by decide +kernel
theorem dX5_copy_106 : decode cX5_copy 106 = .ok (.aload 6, 2) := by decide +kernel
theorem dX5_copy_108 : decode cX5_copy 108 = .ok (.getfield 222, 3) := by decide +kernel
theorem dX5_copy_111 : decode cX5_copy 111 = .ok (.iload_n 2, 1) := by decide +kernel
theorem dX5_copy_112 : decode cX5_copy 112 = .ok (.aload 7, 2) := by decide +kernel
theorem dX5_copy_114 : decode cX5_copy 114 = .ok (.getfield 222, 3) := by decide +kernel
theorem dX5_copy_117 : decode cX5_copy 117 = .ok (.iload 4, 2) := by decide +kernel
theorem dX5_copy_119 : decode cX5_copy 119 = .ok (.iload 5, 2) := by decide +kernel
theorem dX5_copy_121 : decode cX5_copy 121 = .ok (.invokestatic 236, 3) := by decide +kernel
theorem dX5_copy_124 : decode cX5_copy 124 = .ok (.iload 5, 2) := by decide +kernel
theorem dX5_copy_126 : decode cX5_copy 126 = .ok (.ireturn, 1) := by decide +kernel
theorem dX5_lays_0 : decode cX5_lays 0 = .ok (.iload_n 1, 1) := by decide +kernel
theorem dX5_lays_1 : decode cX5_lays 1 = .ok (.invokestatic 208, 3) := by decide +kernel
theorem dX5_lays_4 : decode cX5_lays 4 = .ok (.ifCond .ne 9, 3) := by decide +kernel
theorem dX5_lays_7 : decode cX5_lays 7 = .ok (.aload_n 0, 1) := by decide +kernel
theorem dX5_lays_8 : decode cX5_lays 8 = .ok (.iconst 0, 1) := by decide +kernel
theorem dX5_lays_9 : decode cX5_lays 9 = .ok (.invokevirtual 55, 3) := by decide +kernel
theorem dX5_lays_12 : decode cX5_lays 12 = .ok (.ireturn, 1) := by decide +kernel
theorem dX5_lays_13 : decode cX5_lays 13 = .ok (.aload_n 0, 1) := by decide +kernel
theorem dX5_lays_14 : decode cX5_lays 14 = .ok (.getfield 38, 3) := by decide +kernel
theorem dX5_lays_17 : decode cX5_lays 17 = .ok (.iload_n 1, 1) := by decide +kernel
theorem dX5_lays_18 : decode cX5_lays 18 = .ok (.aaload, 1) := by decide +kernel
theorem dX5_lays_19 : decode cX5_lays 19 = .ok (.astore_n 2, 1) := by decide +kernel
theorem dX5_lays_20 : decode cX5_lays 20 = .ok (.aload_n 2, 1) := by decide +kernel
theorem dX5_lays_21 : decode cX5_lays 21 = .ok (.invokevirtual 218, 3) := by decide +kernel
theorem dX5_lays_24 : decode cX5_lays 24 = .ok (.ifCond .eq 9, 3) := by decide +kernel
theorem dX5_lays_27 : decode cX5_lays 27 = .ok (.aload_n 0, 1) := by decide +kernel
theorem dX5_lays_28 : decode cX5_lays 28 = .ok (.iconst 5, 1) := by decide +kernel
theorem dX5_lays_29 : decode cX5_lays 29 = .ok (.invokevirtual 55, 3) := by decide +kernel
theorem dX5_lays_32 : decode cX5_lays 32 = .ok (.ireturn, 1) := by decide +kernel
theorem dX5_lays_33 : decode cX5_lays 33 = .ok (.iconst 0, 1) := by decide +kernel
theorem dX5_lays_34 : decode cX5_lays 34 = .ok (.istore_n 3, 1) := by decide +kernel
theorem dX5_lays_35 : decode cX5_lays 35 = .ok (.iconst 0, 1) := by decide +kernel
theorem dX5_lays_36 : decode cX5_lays 36 = .ok (.istore 4, 2) := by decide +kernel
theorem dX5_lays_38 : decode cX5_lays 38 = .ok (.iload 4, 2) := by decide +kernel
theorem dX5_lays_40 : decode cX5_lays 40 = .ok (.aload_n 2, 1) := by decide +kernel
theorem dX5_lays_41 : decode cX5_lays 41 = .ok (.getfield 215, 3) := by decide +kernel
theorem dX5_lays_44 : decode cX5_lays 44 = .ok (.if_icmp .ge 50, 3) := by decide +kernel
theorem dX5_lays_47 : decode cX5_lays 47 = .ok (.aload_n 2, 1) := by decide +kernel
theorem dX5_lays_48 : decode cX5_lays 48 = .ok (.getfield 222, 3) := by decide +kernel
theorem dX5_lays_51 : decode cX5_lays 51 = .ok (.iload 4, 2) := by decide +kernel
theorem dX5_lays_53 : decode cX5_lays 53 = .ok (.laload, 1) := by decide +kernel
theorem dX5_lays_54 : decode cX5_lays 54 = .ok (.lstore 5, 2) := by decide +kernel
theorem dX5_lays_56 : decode cX5_lays 56 = .ok (.lload 5, 2) := by decide +kernel
theorem dX5_lays_58 : decode cX5_lays 58 = .ok (.lconst 0, 1) := by decide +kernel
theorem dX5_lays_59 : decode cX5_lays 59 = .ok (.lcmp, 1) := by decide +kernel
theorem dX5_lays_60 : decode cX5_lays 60 = .ok (.ifCond .lt 28, 3) := by decide +kernel
theorem dX5_lays_63 : decode cX5_lays 63 = .ok (.lload 5, 2) := by decide +kernel
theorem dX5_lays_65 : decode cX5_lays 65 = .ok (.ldc2_w 242, 3) := by decide +kernel
theorem dX5_lays_68 : decode cX5_lays 68 = .ok (.lcmp, 1) := by decide +kernel
theorem dX5_lays_69 : decode cX5_lays 69 = .ok (.ifCond .gt 19, 3) := by decide +kernel
theorem dX5_lays_72 : decode cX5_lays 72 = .ok (.aload_n 0, 1) := by decide +kernel
theorem dX5_lays_73 : decode cX5_lays 73 = .ok (.getfield 10, 3) := by decide +kernel
theorem dX5_lays_76 : decode cX5_lays 76 = .ok (.getfield 59, 3) := by decide +kernel
theorem dX5_lays_79 : decode cX5_lays 79 = .ok (.iload 4, 2) := by decide +kernel
theorem dX5_lays_81 : decode cX5_lays 81 = .ok (.lload 5, 2) := by decide +kernel
theorem dX5_lays_83 : decode cX5_lays 83 = .ok (.l2i, 1) := by decide +kernel
theorem dX5_lays_84 : decode cX5_lays 84 = .ok (.iastore, 1) := by decide +kernel
theorem dX5_lays_85 : decode cX5_lays 85 = .ok (.iinc 3 1, 3) := by decide +kernel
theorem dX5_lays_88 : decode cX5_lays 88 = .ok (.iinc 4 1, 3) := by decide +kernel
theorem dX5_lays_91 : decode cX5_lays 91 = .ok (.goto (-53), 3) := by decide +kernel
theorem dX5_lays_94 : decode cX5_lays 94 = .ok (.iload_n 3, 1) := by decide +kernel
theorem dX5_lays_95 : decode cX5_lays 95 = .ok (.ireturn, 1) := by decide +kernel
theorem dX5_book_0 : decode cX5_book 0 = .ok (.iload_n 1, 1) := by decide +kernel
theorem dX5_book_1 : decode cX5_book 1 = .ok (.invokestatic 208, 3) := by decide +kernel
theorem dX5_book_4 : decode cX5_book 4 = .ok (.ifCond .ne 9, 3) := by decide +kernel
theorem dX5_book_7 : decode cX5_book 7 = .ok (.aload_n 0, 1) := by decide +kernel
theorem dX5_book_8 : decode cX5_book 8 = .ok (.iconst 0, 1) := by decide +kernel
theorem dX5_book_9 : decode cX5_book 9 = .ok (.invokevirtual 55, 3) := by decide +kernel
theorem dX5_book_12 : decode cX5_book 12 = .ok (.ireturn, 1) := by decide +kernel
theorem dX5_book_13 : decode cX5_book 13 = .ok (.aload_n 0, 1) := by decide +kernel
theorem dX5_book_14 : decode cX5_book 14 = .ok (.getfield 38, 3) := by decide +kernel
theorem dX5_book_17 : decode cX5_book 17 = .ok (.iload_n 1, 1) := by decide +kernel
theorem dX5_book_18 : decode cX5_book 18 = .ok (.aaload, 1) := by decide +kernel
theorem dX5_book_19 : decode cX5_book 19 = .ok (.astore_n 2, 1) := by decide +kernel
theorem dX5_book_20 : decode cX5_book 20 = .ok (.aload_n 2, 1) := by decide +kernel
theorem dX5_book_21 : decode cX5_book 21 = .ok (.invokevirtual 218, 3) := by decide +kernel
theorem dX5_book_24 : decode cX5_book 24 = .ok (.ifCond .eq 9, 3) := by decide +kernel
theorem dX5_book_27 : decode cX5_book 27 = .ok (.aload_n 0, 1) := by decide +kernel
theorem dX5_book_28 : decode cX5_book 28 = .ok (.iconst 5, 1) := by decide +kernel
theorem dX5_book_29 : decode cX5_book 29 = .ok (.invokevirtual 55, 3) := by decide +kernel
theorem dX5_book_32 : decode cX5_book 32 = .ok (.ireturn, 1) := by decide +kernel
theorem dX5_book_33 : decode cX5_book 33 = .ok (.aload_n 0, 1) := by decide +kernel
theorem dX5_book_34 : decode cX5_book 34 = .ok (.getfield 19, 3) := by decide +kernel
theorem dX5_book_37 : decode cX5_book 37 = .ok (.aload_n 0, 1) := by decide +kernel
theorem dX5_book_38 : decode cX5_book 38 = .ok (.getfield 10, 3) := by decide +kernel
theorem dX5_book_41 : decode cX5_book 41 = .ok (.invokevirtual 174, 3) := by decide +kernel
theorem dX5_book_44 : decode cX5_book 44 = .ok (.aload_n 0, 1) := by decide +kernel
theorem dX5_book_45 : decode cX5_book 45 = .ok (.getfield 25, 3) := by decide +kernel
theorem dX5_book_48 : decode cX5_book 48 = .ok (.aload_n 0, 1) := by decide +kernel
theorem dX5_book_49 : decode cX5_book 49 = .ok (.getfield 19, 3) := by decide +kernel
theorem dX5_book_52 : decode cX5_book 52 = .ok (.invokevirtual 62, 3) := by decide +kernel
theorem dX5_book_55 : decode cX5_book 55 = .ok (.aload_n 0, 1) := by decide +kernel
theorem dX5_book_56 : decode cX5_book 56 = .ok (.getfield 19, 3) := by decide +kernel
theorem dX5_book_59 : decode cX5_book 59 = .ok (.invokevirtual 158, 3) := by decide +kernel
theorem dX5_book_62 : decode cX5_book 62 = .ok (.istore_n 3, 1) := by decide +kernel
theorem dX5_book_63 : decode cX5_book 63 = .ok (.iconst 0, 1) := by decide +kernel
theorem dX5_book_64 : decode cX5_book 64 = .ok (.istore 4, 2) := by decide +kernel
theorem dX5_book_66 : decode cX5_book 66 = .ok (.iload 4, 2) := by decide +kernel
theorem dX5_book_68 : decode cX5_book 68 = .ok (.aload_n 2, 1) := by decide +kernel
theorem dX5_book_69 : decode cX5_book 69 = .ok (.getfield 215, 3) := by decide +kernel
theorem dX5_book_72 : decode cX5_book 72 = .ok (.if_icmp .ge 31, 3) := by decide +kernel
theorem dX5_book_75 : decode cX5_book 75 = .ok (.aload_n 2, 1) := by decide +kernel
theorem dX5_book_76 : decode cX5_book 76 = .ok (.iload 4, 2) := by decide +kernel
theorem dX5_book_78 : decode cX5_book 78 = .ok (.iload_n 3, 1) := by decide +kernel
theorem dX5_book_79 : decode cX5_book 79 = .ok (.i2l, 1) := by decide +kernel
theorem dX5_book_80 : decode cX5_book 80 = .ok (.invokevirtual 226, 3) := by decide +kernel
theorem dX5_book_83 : decode cX5_book 83 = .ok (.iload_n 3, 1) := by decide +kernel
theorem dX5_book_84 : decode cX5_book 84 = .ok (.aload_n 0, 1) := by decide +kernel
theorem dX5_book_85 : decode cX5_book 85 = .ok (.getfield 25, 3) := by decide +kernel
theorem dX5_book_88 : decode cX5_book 88 = .ok (.aload_n 0, 1) := by decide +kernel
theorem dX5_book_89 : decode cX5_book 89 = .ok (.getfield 19, 3) := by decide +kernel
theorem dX5_book_92 : decode cX5_book 92 = .ok (.invokevirtual 177, 3) := by decide +kernel
theorem dX5_book_95 : decode cX5_book 95 = .ok (.isub, 1) := by decide +kernel
theorem dX5_book_96 : decode cX5_book 96 = .ok (.istore_n 3, 1) := by decide +kernel
theorem dX5_book_97 : decode cX5_book 97 = .ok (.iinc 4 1, 3) := by decide +kernel
theorem dX5_book_100 : decode cX5_book 100 = .ok (.goto (-34), 3) := by decide +kernel
theorem dX5_book_103 : decode cX5_book 103 = .ok (.aload_n 2, 1) := by decide +kernel
theorem dX5_book_104 : decode cX5_book 104 = .ok (.getfield 215, 3) := by decide +kernel
theorem dX5_book_107 : decode cX5_book 107 = .ok (.ireturn, 1) := by decide +kernel
theorem dX5_read_0 : decode cX5_read 0 = .ok (.iload_n 1, 1) := by decide +kernel
theorem dX5_read_1 : decode cX5_read 1 = .ok (.invokestatic 208, 3) := by decide +kernel
theorem dX5_read_4 : decode cX5_read 4 = .ok (.ifCond .ne 9, 3) := by decide +kernel
theorem dX5_read_7 : decode cX5_read 7 = .ok (.aload_n 0, 1) := by decide +kernel
theorem dX5_read_8 : decode cX5_read 8 = .ok (.iconst 0, 1) := by decide +kernel
theorem dX5_read_9 : decode cX5_read 9 = .ok (.invokevirtual 55, 3) := by decide +kernel
theorem dX5_read_12 : decode cX5_read 12 = .ok (.ireturn, 1) := by decide +kernel
theorem dX5_read_13 : decode cX5_read 13 = .ok (.aload_n 0, 1) := by decide +kernel
theorem dX5_read_14 : decode cX5_read 14 = .ok (.getfield 38, 3) := by decide +kernel
theorem dX5_read_17 : decode cX5_read 17 = .ok (.iload_n 1, 1) := by decide +kernel
theorem dX5_read_18 : decode cX5_read 18 = .ok (.aaload, 1) := by decide +kernel
theorem dX5_read_19 : decode cX5_read 19 = .ok (.invokevirtual 218, 3) := by decide +kernel
theorem dX5_read_22 : decode cX5_read 22 = .ok (.ifCond .eq 9, 3) := by decide +kernel
theorem dX5_read_25 : decode cX5_read 25 = .ok (.aload_n 0, 1) := by decide +kernel
theorem dX5_read_26 : decode cX5_read 26 = .ok (.iconst 5, 1) := by decide +kernel
theorem dX5_read_27 : decode cX5_read 27 = .ok (.invokevirtual 55, 3) := by decide +kernel
theorem dX5_read_30 : decode cX5_read 30 = .ok (.ireturn, 1) := by decide +kernel
theorem dX5_read_31 : decode cX5_read 31 = .ok (.aload_n 0, 1) := by decide +kernel
theorem dX5_read_32 : decode cX5_read 32 = .ok (.iload_n 2, 1) := by decide +kernel
theorem dX5_read_33 : decode cX5_read 33 = .ok (.invokevirtual 128, 3) := by decide +kernel
theorem dX5_read_36 : decode cX5_read 36 = .ok (.ifCond .ne 9, 3) := by decide +kernel
theorem dX5_read_39 : decode cX5_read 39 = .ok (.aload_n 0, 1) := by decide +kernel
theorem dX5_read_40 : decode cX5_read 40 = .ok (.iconst 0, 1) := by decide +kernel
theorem dX5_read_41 : decode cX5_read 41 = .ok (.invokevirtual 55, 3) := by decide +kernel
theorem dX5_read_44 : decode cX5_read 44 = .ok (.ireturn, 1) := by decide +kernel
theorem dX5_read_45 : decode cX5_read 45 = .ok (.iconst 0, 1) := by decide +kernel
theorem dX5_read_46 : decode cX5_read 46 = .ok (.istore_n 3, 1) := by decide +kernel
theorem dX5_read_47 : decode cX5_read 47 = .ok (.iconst 0, 1) := by decide +kernel
theorem dX5_read_48 : decode cX5_read 48 = .ok (.istore 4, 2) := by decide +kernel
theorem dX5_read_50 : decode cX5_read 50 = .ok (.iload 4, 2) := by decide +kernel
theorem dX5_read_52 : decode cX5_read 52 = .ok (.aload_n 0, 1) := by decide +kernel
theorem dX5_read_53 : decode cX5_read 53 = .ok (.getfield 10, 3) := by decide +kernel
theorem dX5_read_56 : decode cX5_read 56 = .ok (.getfield 79, 3) := by decide +kernel
theorem dX5_read_59 : decode cX5_read 59 = .ok (.if_icmp .ge 74, 3) := by decide +kernel
theorem dX5_read_62 : decode cX5_read 62 = .ok (.iconst 0, 1) := by decide +kernel
theorem dX5_read_63 : decode cX5_read 63 = .ok (.istore 5, 2) := by decide +kernel
theorem dX5_read_65 : decode cX5_read 65 = .ok (.iload 5, 2) := by decide +kernel
theorem dX5_read_67 : decode cX5_read 67 = .ok (.bipush 48, 2) := by decide +kernel
theorem dX5_read_69 : decode cX5_read 69 = .ok (.if_icmp .ge 58, 3) := by decide +kernel
theorem dX5_read_72 : decode cX5_read 72 = .ok (.aload_n 0, 1) := by decide +kernel
theorem dX5_read_73 : decode cX5_read 73 = .ok (.getfield 19, 3) := by decide +kernel
theorem dX5_read_76 : decode cX5_read 76 = .ok (.aload_n 0, 1) := by decide +kernel
theorem dX5_read_77 : decode cX5_read 77 = .ok (.getfield 10, 3) := by decide +kernel
theorem dX5_read_80 : decode cX5_read 80 = .ok (.invokevirtual 174, 3) := by decide +kernel
theorem dX5_read_83 : decode cX5_read 83 = .ok (.aload_n 0, 1) := by decide +kernel
theorem dX5_read_84 : decode cX5_read 84 = .ok (.getfield 19, 3) := by decide +kernel
theorem dX5_read_87 : decode cX5_read 87 = .ok (.getfield 134, 3) := by decide +kernel
theorem dX5_read_90 : decode cX5_read 90 = .ok (.iload_n 2, 1) := by decide +kernel
theorem dX5_read_91 : decode cX5_read 91 = .ok (.iload 4, 2) := by decide +kernel
theorem dX5_read_93 : decode cX5_read 93 = .ok (.iastore, 1) := by decide +kernel
theorem dX5_read_94 : decode cX5_read 94 = .ok (.aload_n 0, 1) := by decide +kernel
theorem dX5_read_95 : decode cX5_read 95 = .ok (.getfield 19, 3) := by decide +kernel
theorem dX5_read_98 : decode cX5_read 98 = .ok (.getfield 131, 3) := by decide +kernel
theorem dX5_read_101 : decode cX5_read 101 = .ok (.iload_n 2, 1) := by decide +kernel
theorem dX5_read_102 : decode cX5_read 102 = .ok (.iload 5, 2) := by decide +kernel
theorem dX5_read_104 : decode cX5_read 104 = .ok (.iastore, 1) := by decide +kernel
theorem dX5_read_105 : decode cX5_read 105 = .ok (.aload_n 0, 1) := by decide +kernel
theorem dX5_read_106 : decode cX5_read 106 = .ok (.aload_n 0, 1) := by decide +kernel
theorem dX5_read_107 : decode cX5_read 107 = .ok (.getfield 38, 3) := by decide +kernel
theorem dX5_read_110 : decode cX5_read 110 = .ok (.iload_n 1, 1) := by decide +kernel
theorem dX5_read_111 : decode cX5_read 111 = .ok (.aaload, 1) := by decide +kernel
theorem dX5_read_112 : decode cX5_read 112 = .ok (.invokevirtual 244, 3) := by decide +kernel
theorem dX5_read_115 : decode cX5_read 115 = .ok (.ifCond .eq 6, 3) := by decide +kernel
theorem dX5_read_118 : decode cX5_read 118 = .ok (.iinc 3 1, 3) := by decide +kernel
theorem dX5_read_121 : decode cX5_read 121 = .ok (.iinc 5 1, 3) := by decide +kernel
theorem dX5_read_124 : decode cX5_read 124 = .ok (.goto (-59), 3) := by decide +kernel
theorem dX5_read_127 : decode cX5_read 127 = .ok (.iinc 4 1, 3) := by decide +kernel
theorem dX5_read_130 : decode cX5_read 130 = .ok (.goto (-80), 3) := by decide +kernel
theorem dX5_read_133 : decode cX5_read 133 = .ok (.iload_n 3, 1) := by decide +kernel
theorem dX5_read_134 : decode cX5_read 134 = .ok (.ireturn, 1) := by decide +kernel
theorem dX5_image_0 : decode cX5_image 0 = .ok (.aload_n 0, 1) := by decide +kernel
theorem dX5_image_1 : decode cX5_image 1 = .ok (.getfield 16, 3) := by decide +kernel
theorem dX5_image_4 : decode cX5_image 4 = .ok (.aload_n 0, 1) := by decide +kernel
theorem dX5_image_5 : decode cX5_image 5 = .ok (.getfield 10, 3) := by decide +kernel
theorem dX5_image_8 : decode cX5_image 8 = .ok (.invokevirtual 174, 3) := by decide +kernel
theorem dX5_image_11 : decode cX5_image 11 = .ok (.aload_n 0, 1) := by decide +kernel
theorem dX5_image_12 : decode cX5_image 12 = .ok (.iconst 1, 1) := by decide +kernel
theorem dX5_image_13 : decode cX5_image 13 = .ok (.putfield 248, 3) := by decide +kernel
theorem dX5_image_16 : decode cX5_image 16 = .ok (.iconst 1, 1) := by decide +kernel
theorem dX5_image_17 : decode cX5_image 17 = .ok (.ireturn, 1) := by decide +kernel
theorem dX5_undo_0 : decode cX5_undo 0 = .ok (.aload_n 0, 1) := by decide +kernel
theorem dX5_undo_1 : decode cX5_undo 1 = .ok (.getfield 248, 3) := by decide +kernel
theorem dX5_undo_4 : decode cX5_undo 4 = .ok (.ifCond .ne 9, 3) := by decide +kernel
theorem dX5_undo_7 : decode cX5_undo 7 = .ok (.aload_n 0, 1) := by decide +kernel
theorem dX5_undo_8 : decode cX5_undo 8 = .ok (.iconst 3, 1) := by decide +kernel
theorem dX5_undo_9 : decode cX5_undo 9 = .ok (.invokevirtual 55, 3) := by decide +kernel
theorem dX5_undo_12 : decode cX5_undo 12 = .ok (.ireturn, 1) := by decide +kernel
theorem dX5_undo_13 : decode cX5_undo 13 = .ok (.aload_n 0, 1) := by decide +kernel
theorem dX5_undo_14 : decode cX5_undo 14 = .ok (.getfield 10, 3) := by decide +kernel
theorem dX5_undo_17 : decode cX5_undo 17 = .ok (.aload_n 0, 1) := by decide +kernel
theorem dX5_undo_18 : decode cX5_undo 18 = .ok (.getfield 16, 3) := by decide +kernel
theorem dX5_undo_21 : decode cX5_undo 21 = .ok (.invokevirtual 174, 3) := by decide +kernel
theorem dX5_undo_24 : decode cX5_undo 24 = .ok (.aload_n 0, 1) := by decide +kernel
theorem dX5_undo_25 : decode cX5_undo 25 = .ok (.getfield 10, 3) := by decide +kernel
theorem dX5_undo_28 : decode cX5_undo 28 = .ok (.getfield 79, 3) := by decide +kernel
theorem dX5_undo_31 : decode cX5_undo 31 = .ok (.ireturn, 1) := by decide +kernel
theorem dX5_tear_0 : decode cX5_tear 0 = .ok (.aload_n 0, 1) := by decide +kernel
theorem dX5_tear_1 : decode cX5_tear 1 = .ok (.getfield 248, 3) := by decide +kernel
theorem dX5_tear_4 : decode cX5_tear 4 = .ok (.ifCond .eq 7, 3) := by decide +kernel
theorem dX5_tear_7 : decode cX5_tear 7 = .ok (.iconst 1, 1) := by decide +kernel
theorem dX5_tear_8 : decode cX5_tear 8 = .ok (.goto 4, 3) := by decide +kernel
theorem dX5_tear_11 : decode cX5_tear 11 = .ok (.iconst 0, 1) := by decide +kernel
theorem dX5_tear_12 : decode cX5_tear 12 = .ok (.istore_n 1, 1) := by decide +kernel
theorem dX5_tear_13 : decode cX5_tear 13 = .ok (.aload_n 0, 1) := by decide +kernel
theorem dX5_tear_14 : decode cX5_tear 14 = .ok (.iconst 0, 1) := by decide +kernel
theorem dX5_tear_15 : decode cX5_tear 15 = .ok (.putfield 248, 3) := by decide +kernel
theorem dX5_tear_18 : decode cX5_tear 18 = .ok (.iload_n 1, 1) := by decide +kernel
theorem dX5_tear_19 : decode cX5_tear 19 = .ok (.ireturn, 1) := by decide +kernel
theorem dX5_count_0 : decode cX5_count 0 = .ok (.iload_n 1, 1) := by decide +kernel
theorem dX5_count_1 : decode cX5_count 1 = .ok (.tableswitch 63 0 3 #[31, 39, 47, 55], 31) := by decide +kernel
theorem dX5_count_32 : decode cX5_count 32 = .ok (.aload_n 0, 1) := by decide +kernel
theorem dX5_count_33 : decode cX5_count 33 = .ok (.getfield 10, 3) := by decide +kernel
theorem dX5_count_36 : decode cX5_count 36 = .ok (.getfield 79, 3) := by decide +kernel
theorem dX5_count_39 : decode cX5_count 39 = .ok (.ireturn, 1) := by decide +kernel
theorem dX5_count_40 : decode cX5_count 40 = .ok (.aload_n 0, 1) := by decide +kernel
theorem dX5_count_41 : decode cX5_count 41 = .ok (.getfield 32, 3) := by decide +kernel
theorem dX5_count_44 : decode cX5_count 44 = .ok (.getfield 198, 3) := by decide +kernel
theorem dX5_count_47 : decode cX5_count 47 = .ok (.ireturn, 1) := by decide +kernel
theorem dX5_count_48 : decode cX5_count 48 = .ok (.aload_n 0, 1) := by decide +kernel
theorem dX5_count_49 : decode cX5_count 49 = .ok (.getfield 10, 3) := by decide +kernel
theorem dX5_count_52 : decode cX5_count 52 = .ok (.getfield 121, 3) := by decide +kernel
theorem dX5_count_55 : decode cX5_count 55 = .ok (.ireturn, 1) := by decide +kernel
theorem dX5_count_56 : decode cX5_count 56 = .ok (.aload_n 0, 1) := by decide +kernel
theorem dX5_count_57 : decode cX5_count 57 = .ok (.getfield 10, 3) := by decide +kernel
theorem dX5_count_60 : decode cX5_count 60 = .ok (.invokevirtual 252, 3) := by decide +kernel
theorem dX5_count_63 : decode cX5_count 63 = .ok (.ireturn, 1) := by decide +kernel
theorem dX5_count_64 : decode cX5_count 64 = .ok (.aload_n 0, 1) := by decide +kernel
theorem dX5_count_65 : decode cX5_count 65 = .ok (.iconst 0, 1) := by decide +kernel
theorem dX5_count_66 : decode cX5_count 66 = .ok (.invokevirtual 55, 3) := by decide +kernel
theorem dX5_count_69 : decode cX5_count 69 = .ok (.ireturn, 1) := by decide +kernel
theorem dX5_status_0 : decode cX5_status 0 = .ok (.iload_n 1, 1) := by decide +kernel
theorem dX5_status_1 : decode cX5_status 1 = .ok (.iconst (-1), 1) := by decide +kernel
theorem dX5_status_2 : decode cX5_status 2 = .ok (.if_icmp .ne 13, 3) := by decide +kernel
theorem dX5_status_5 : decode cX5_status 5 = .ok (.aload_n 0, 1) := by decide +kernel
theorem dX5_status_6 : decode cX5_status 6 = .ok (.getfield 42, 3) := by decide +kernel
theorem dX5_status_9 : decode cX5_status 9 = .ok (.bipush 7, 2) := by decide +kernel
theorem dX5_status_11 : decode cX5_status 11 = .ok (.invokestatic 255, 3) := by decide +kernel
theorem dX5_status_14 : decode cX5_status 14 = .ok (.ireturn, 1) := by decide +kernel
theorem dX5_status_15 : decode cX5_status 15 = .ok (.iload_n 1, 1) := by decide +kernel
theorem dX5_status_16 : decode cX5_status 16 = .ok (.iconst 0, 1) := by decide +kernel
theorem dX5_status_17 : decode cX5_status 17 = .ok (.bipush 6, 2) := by decide +kernel
theorem dX5_status_19 : decode cX5_status 19 = .ok (.invokestatic 51, 3) := by decide +kernel
theorem dX5_status_22 : decode cX5_status 22 = .ok (.ifCond .ne 9, 3) := by decide +kernel
theorem dX5_status_25 : decode cX5_status 25 = .ok (.aload_n 0, 1) := by decide +kernel
theorem dX5_status_26 : decode cX5_status 26 = .ok (.iconst 0, 1) := by decide +kernel
theorem dX5_status_27 : decode cX5_status 27 = .ok (.invokevirtual 55, 3) := by decide +kernel
theorem dX5_status_30 : decode cX5_status 30 = .ok (.ireturn, 1) := by decide +kernel
theorem dX5_status_31 : decode cX5_status 31 = .ok (.aload_n 0, 1) := by decide +kernel
theorem dX5_status_32 : decode cX5_status 32 = .ok (.getfield 42, 3) := by decide +kernel
theorem dX5_status_35 : decode cX5_status 35 = .ok (.iload_n 1, 1) := by decide +kernel
theorem dX5_status_36 : decode cX5_status 36 = .ok (.iaload, 1) := by decide +kernel
theorem dX5_status_37 : decode cX5_status 37 = .ok (.ireturn, 1) := by decide +kernel
theorem dX5_finding_0 : decode cX5_finding 0 = .ok (.aload_n 0, 1) := by decide +kernel
theorem dX5_finding_1 : decode cX5_finding 1 = .ok (.getfield 42, 3) := by decide +kernel
theorem dX5_finding_4 : decode cX5_finding 4 = .ok (.iload_n 1, 1) := by decide +kernel
theorem dX5_finding_5 : decode cX5_finding 5 = .ok (.dup2, 1) := by decide +kernel
theorem dX5_finding_6 : decode cX5_finding 6 = .ok (.iaload, 1) := by decide +kernel
theorem dX5_finding_7 : decode cX5_finding 7 = .ok (.iconst 1, 1) := by decide +kernel
theorem dX5_finding_8 : decode cX5_finding 8 = .ok (.iadd, 1) := by decide +kernel
theorem dX5_finding_9 : decode cX5_finding 9 = .ok (.iastore, 1) := by decide +kernel
theorem dX5_finding_10 : decode cX5_finding 10 = .ok (.ldc_w 259, 3) := by decide +kernel
theorem dX5_finding_13 : decode cX5_finding 13 = .ok (.iload_n 1, 1) := by decide +kernel
theorem dX5_finding_14 : decode cX5_finding 14 = .ok (.isub, 1) := by decide +kernel
theorem dX5_finding_15 : decode cX5_finding 15 = .ok (.ireturn, 1) := by decide +kernel
theorem dX5_isSitter_0 : decode cX5_isSitter 0 = .ok (.iload_n 1, 1) := by decide +kernel
theorem dX5_isSitter_1 : decode cX5_isSitter 1 = .ok (.iconst 0, 1) := by decide +kernel
theorem dX5_isSitter_2 : decode cX5_isSitter 2 = .ok (.aload_n 0, 1) := by decide +kernel
theorem dX5_isSitter_3 : decode cX5_isSitter 3 = .ok (.getfield 10, 3) := by decide +kernel
theorem dX5_isSitter_6 : decode cX5_isSitter 6 = .ok (.getfield 79, 3) := by decide +kernel
theorem dX5_isSitter_9 : decode cX5_isSitter 9 = .ok (.iconst 1, 1) := by decide +kernel
theorem dX5_isSitter_10 : decode cX5_isSitter 10 = .ok (.isub, 1) := by decide +kernel
theorem dX5_isSitter_11 : decode cX5_isSitter 11 = .ok (.invokestatic 51, 3) := by decide +kernel
theorem dX5_isSitter_14 : decode cX5_isSitter 14 = .ok (.ireturn, 1) := by decide +kernel
theorem dX5_isLikeness_0 : decode cX5_isLikeness 0 = .ok (.iload_n 1, 1) := by decide +kernel
theorem dX5_isLikeness_1 : decode cX5_isLikeness 1 = .ok (.iconst 0, 1) := by decide +kernel
theorem dX5_isLikeness_2 : decode cX5_isLikeness 2 = .ok (.aload_n 0, 1) := by decide +kernel
theorem dX5_isLikeness_3 : decode cX5_isLikeness 3 = .ok (.getfield 10, 3) := by decide +kernel
theorem dX5_isLikeness_6 : decode cX5_isLikeness 6 = .ok (.getfield 121, 3) := by decide +kernel
theorem dX5_isLikeness_9 : decode cX5_isLikeness 9 = .ok (.iconst 1, 1) := by decide +kernel
theorem dX5_isLikeness_10 : decode cX5_isLikeness 10 = .ok (.isub, 1) := by decide +kernel
theorem dX5_isLikeness_11 : decode cX5_isLikeness 11 = .ok (.invokestatic 51, 3) := by decide +kernel
theorem dX5_isLikeness_14 : decode cX5_isLikeness 14 = .ok (.ireturn, 1) := by decide +kernel
theorem dX5_eatenAsItIs_0 : decode cX5_eatenAsItIs 0 = .ok (.aload_n 0, 1) := by decide +kernel
theorem dX5_eatenAsItIs_1 : decode cX5_eatenAsItIs 1 = .ok (.getfield 19, 3) := by decide +kernel
theorem dX5_eatenAsItIs_4 : decode cX5_eatenAsItIs 4 = .ok (.aload_n 0, 1) := by decide +kernel
theorem dX5_eatenAsItIs_5 : decode cX5_eatenAsItIs 5 = .ok (.getfield 10, 3) := by decide +kernel
theorem dX5_eatenAsItIs_8 : decode cX5_eatenAsItIs 8 = .ok (.invokevirtual 174, 3) := by decide +kernel
theorem dX5_eatenAsItIs_11 : decode cX5_eatenAsItIs 11 = .ok (.aload_n 0, 1) := by decide +kernel
theorem dX5_eatenAsItIs_12 : decode cX5_eatenAsItIs 12 = .ok (.getfield 25, 3) := by decide +kernel
theorem dX5_eatenAsItIs_15 : decode cX5_eatenAsItIs 15 = .ok (.aload_n 0, 1) := by decide +kernel
theorem dX5_eatenAsItIs_16 : decode cX5_eatenAsItIs 16 = .ok (.getfield 19, 3) := by decide +kernel
theorem dX5_eatenAsItIs_19 : decode cX5_eatenAsItIs 19 = .ok (.iload_n 1, 1) := by decide +kernel
theorem dX5_eatenAsItIs_20 : decode cX5_eatenAsItIs 20 = .ok (.ldc 153, 2) := by decide +kernel
theorem dX5_eatenAsItIs_22 : decode cX5_eatenAsItIs 22 = .ok (.invokevirtual 154, 3) := by decide +kernel
theorem dX5_eatenAsItIs_25 : decode cX5_eatenAsItIs 25 = .ok (.ireturn, 1) := by decide +kernel
theorem dX5_eatenWith_0 : decode cX5_eatenWith 0 = .ok (.aload_n 0, 1) := by decide +kernel
theorem dX5_eatenWith_1 : decode cX5_eatenWith 1 = .ok (.getfield 19, 3) := by decide +kernel
theorem dX5_eatenWith_4 : decode cX5_eatenWith 4 = .ok (.aload_n 0, 1) := by decide +kernel
theorem dX5_eatenWith_5 : decode cX5_eatenWith 5 = .ok (.getfield 10, 3) := by decide +kernel
theorem dX5_eatenWith_8 : decode cX5_eatenWith 8 = .ok (.invokevirtual 174, 3) := by decide +kernel
theorem dX5_eatenWith_11 : decode cX5_eatenWith 11 = .ok (.aload_n 0, 1) := by decide +kernel
theorem dX5_eatenWith_12 : decode cX5_eatenWith 12 = .ok (.getfield 19, 3) := by decide +kernel
theorem dX5_eatenWith_15 : decode cX5_eatenWith 15 = .ok (.iload_n 1, 1) := by decide +kernel
theorem dX5_eatenWith_16 : decode cX5_eatenWith 16 = .ok (.invokevirtual 260, 3) := by decide +kernel
theorem dX5_eatenWith_19 : decode cX5_eatenWith 19 = .ok (.aload_n 0, 1) := by decide +kernel
theorem dX5_eatenWith_20 : decode cX5_eatenWith 20 = .ok (.getfield 25, 3) := by decide +kernel
theorem dX5_eatenWith_23 : decode cX5_eatenWith 23 = .ok (.aload_n 0, 1) := by decide +kernel
theorem dX5_eatenWith_24 : decode cX5_eatenWith 24 = .ok (.getfield 19, 3) := by decide +kernel
theorem dX5_eatenWith_27 : decode cX5_eatenWith 27 = .ok (.iload_n 2, 1) := by decide +kernel
theorem dX5_eatenWith_28 : decode cX5_eatenWith 28 = .ok (.iload_n 3, 1) := by decide +kernel
theorem dX5_eatenWith_29 : decode cX5_eatenWith 29 = .ok (.invokevirtual 154, 3) := by decide +kernel
theorem dX5_eatenWith_32 : decode cX5_eatenWith 32 = .ok (.ireturn, 1) := by decide +kernel
theorem dX5_eatenSwapped_0 : decode cX5_eatenSwapped 0 = .ok (.aload_n 0, 1) := by decide +kernel
theorem dX5_eatenSwapped_1 : decode cX5_eatenSwapped 1 = .ok (.getfield 19, 3) := by decide +kernel
theorem dX5_eatenSwapped_4 : decode cX5_eatenSwapped 4 = .ok (.aload_n 0, 1) := by decide +kernel
theorem dX5_eatenSwapped_5 : decode cX5_eatenSwapped 5 = .ok (.getfield 10, 3) := by decide +kernel
theorem dX5_eatenSwapped_8 : decode cX5_eatenSwapped 8 = .ok (.invokevirtual 174, 3) := by decide +kernel
theorem dX5_eatenSwapped_11 : decode cX5_eatenSwapped 11 = .ok (.aload_n 0, 1) := by decide +kernel
theorem dX5_eatenSwapped_12 : decode cX5_eatenSwapped 12 = .ok (.getfield 19, 3) := by decide +kernel
theorem dX5_eatenSwapped_15 : decode cX5_eatenSwapped 15 = .ok (.getfield 131, 3) := by decide +kernel
theorem dX5_eatenSwapped_18 : decode cX5_eatenSwapped 18 = .ok (.iload_n 1, 1) := by decide +kernel
theorem dX5_eatenSwapped_19 : decode cX5_eatenSwapped 19 = .ok (.aload_n 0, 1) := by decide +kernel
theorem dX5_eatenSwapped_20 : decode cX5_eatenSwapped 20 = .ok (.getfield 10, 3) := by decide +kernel
theorem dX5_eatenSwapped_23 : decode cX5_eatenSwapped 23 = .ok (.getfield 131, 3) := by decide +kernel
theorem dX5_eatenSwapped_26 : decode cX5_eatenSwapped 26 = .ok (.iload_n 2, 1) := by decide +kernel
theorem dX5_eatenSwapped_27 : decode cX5_eatenSwapped 27 = .ok (.iaload, 1) := by decide +kernel
theorem dX5_eatenSwapped_28 : decode cX5_eatenSwapped 28 = .ok (.iastore, 1) := by decide +kernel
theorem dX5_eatenSwapped_29 : decode cX5_eatenSwapped 29 = .ok (.aload_n 0, 1) := by decide +kernel
theorem dX5_eatenSwapped_30 : decode cX5_eatenSwapped 30 = .ok (.getfield 19, 3) := by decide +kernel
theorem dX5_eatenSwapped_33 : decode cX5_eatenSwapped 33 = .ok (.getfield 131, 3) := by decide +kernel
theorem dX5_eatenSwapped_36 : decode cX5_eatenSwapped 36 = .ok (.iload_n 2, 1) := by decide +kernel
theorem dX5_eatenSwapped_37 : decode cX5_eatenSwapped 37 = .ok (.aload_n 0, 1) := by decide +kernel
theorem dX5_eatenSwapped_38 : decode cX5_eatenSwapped 38 = .ok (.getfield 10, 3) := by decide +kernel
theorem dX5_eatenSwapped_41 : decode cX5_eatenSwapped 41 = .ok (.getfield 131, 3) := by decide +kernel
theorem dX5_eatenSwapped_44 : decode cX5_eatenSwapped 44 = .ok (.iload_n 1, 1) := by decide +kernel
theorem dX5_eatenSwapped_45 : decode cX5_eatenSwapped 45 = .ok (.iaload, 1) := by decide +kernel
theorem dX5_eatenSwapped_46 : decode cX5_eatenSwapped 46 = .ok (.iastore, 1) := by decide +kernel
theorem dX5_eatenSwapped_47 : decode cX5_eatenSwapped 47 = .ok (.aload_n 0, 1) := by decide +kernel
theorem dX5_eatenSwapped_48 : decode cX5_eatenSwapped 48 = .ok (.getfield 25, 3) := by decide +kernel
theorem dX5_eatenSwapped_51 : decode cX5_eatenSwapped 51 = .ok (.aload_n 0, 1) := by decide +kernel
theorem dX5_eatenSwapped_52 : decode cX5_eatenSwapped 52 = .ok (.getfield 19, 3) := by decide +kernel
theorem dX5_eatenSwapped_55 : decode cX5_eatenSwapped 55 = .ok (.iload_n 3, 1) := by decide +kernel
theorem dX5_eatenSwapped_56 : decode cX5_eatenSwapped 56 = .ok (.iload 4, 2) := by decide +kernel
theorem dX5_eatenSwapped_58 : decode cX5_eatenSwapped 58 = .ok (.invokevirtual 154, 3) := by decide +kernel
theorem dX5_eatenSwapped_61 : decode cX5_eatenSwapped 61 = .ok (.ireturn, 1) := by decide +kernel
theorem dX5_bestChoice_0 : decode cX5_bestChoice 0 = .ok (.iconst 0, 1) := by decide +kernel
theorem dX5_bestChoice_1 : decode cX5_bestChoice 1 = .ok (.istore 5, 2) := by decide +kernel
theorem dX5_bestChoice_3 : decode cX5_bestChoice 3 = .ok (.ldc 153, 2) := by decide +kernel
theorem dX5_bestChoice_5 : decode cX5_bestChoice 5 = .ok (.istore 6, 2) := by decide +kernel
theorem dX5_bestChoice_7 : decode cX5_bestChoice 7 = .ok (.iconst 0, 1) := by decide +kernel
theorem dX5_bestChoice_8 : decode cX5_bestChoice 8 = .ok (.istore 7, 2) := by decide +kernel
theorem dX5_bestChoice_10 : decode cX5_bestChoice 10 = .ok (.iload 7, 2) := by decide +kernel
theorem dX5_bestChoice_12 : decode cX5_bestChoice 12 = .ok (.iload_n 3, 1) := by decide +kernel
theorem dX5_bestChoice_13 : decode cX5_bestChoice 13 = .ok (.if_icmp .ge 62, 3) := by decide +kernel
theorem dX5_bestChoice_16 : decode cX5_bestChoice 16 = .ok (.iload 6, 2) := by decide +kernel
theorem dX5_bestChoice_18 : decode cX5_bestChoice 18 = .ok (.ifCond .le 57, 3) := by decide +kernel
theorem dX5_bestChoice_21 : decode cX5_bestChoice 21 = .ok (.aload_n 0, 1) := by decide +kernel
theorem dX5_bestChoice_22 : decode cX5_bestChoice 22 = .ok (.getfield 19, 3) := by decide +kernel
theorem dX5_bestChoice_25 : decode cX5_bestChoice 25 = .ok (.aload_n 0, 1) := by decide +kernel
theorem dX5_bestChoice_26 : decode cX5_bestChoice 26 = .ok (.getfield 10, 3) := by decide +kernel
theorem dX5_bestChoice_29 : decode cX5_bestChoice 29 = .ok (.invokevirtual 174, 3) := by decide +kernel
theorem dX5_bestChoice_32 : decode cX5_bestChoice 32 = .ok (.aload_n 1, 1) := by decide +kernel
theorem dX5_bestChoice_33 : decode cX5_bestChoice 33 = .ok (.iload_n 2, 1) := by decide +kernel
theorem dX5_bestChoice_34 : decode cX5_bestChoice 34 = .ok (.iload 7, 2) := by decide +kernel
theorem dX5_bestChoice_36 : decode cX5_bestChoice 36 = .ok (.iastore, 1) := by decide +kernel
theorem dX5_bestChoice_37 : decode cX5_bestChoice 37 = .ok (.aload_n 0, 1) := by decide +kernel
theorem dX5_bestChoice_38 : decode cX5_bestChoice 38 = .ok (.getfield 25, 3) := by decide +kernel
theorem dX5_bestChoice_41 : decode cX5_bestChoice 41 = .ok (.aload_n 0, 1) := by decide +kernel
theorem dX5_bestChoice_42 : decode cX5_bestChoice 42 = .ok (.getfield 19, 3) := by decide +kernel
theorem dX5_bestChoice_45 : decode cX5_bestChoice 45 = .ok (.iload 4, 2) := by decide +kernel
theorem dX5_bestChoice_47 : decode cX5_bestChoice 47 = .ok (.iload 6, 2) := by decide +kernel
theorem dX5_bestChoice_49 : decode cX5_bestChoice 49 = .ok (.invokevirtual 154, 3) := by decide +kernel
theorem dX5_bestChoice_52 : decode cX5_bestChoice 52 = .ok (.istore 8, 2) := by decide +kernel
theorem dX5_bestChoice_54 : decode cX5_bestChoice 54 = .ok (.iload 8, 2) := by decide +kernel
theorem dX5_bestChoice_56 : decode cX5_bestChoice 56 = .ok (.iload 6, 2) := by decide +kernel
theorem dX5_bestChoice_58 : decode cX5_bestChoice 58 = .ok (.if_icmp .ge 11, 3) := by decide +kernel
theorem dX5_bestChoice_61 : decode cX5_bestChoice 61 = .ok (.iload 8, 2) := by decide +kernel
theorem dX5_bestChoice_63 : decode cX5_bestChoice 63 = .ok (.istore 6, 2) := by decide +kernel
theorem dX5_bestChoice_65 : decode cX5_bestChoice 65 = .ok (.iload 7, 2) := by decide +kernel
theorem dX5_bestChoice_67 : decode cX5_bestChoice 67 = .ok (.istore 5, 2) := by decide +kernel
theorem dX5_bestChoice_69 : decode cX5_bestChoice 69 = .ok (.iinc 7 1, 3) := by decide +kernel
theorem dX5_bestChoice_72 : decode cX5_bestChoice 72 = .ok (.goto (-62), 3) := by decide +kernel
theorem dX5_bestChoice_75 : decode cX5_bestChoice 75 = .ok (.iload 5, 2) := by decide +kernel
theorem dX5_bestChoice_77 : decode cX5_bestChoice 77 = .ok (.ireturn, 1) := by decide +kernel
theorem dX5_trialGoesAs_0 : decode cX5_trialGoesAs 0 = .ok (.aload_n 0, 1) := by decide +kernel
theorem dX5_trialGoesAs_1 : decode cX5_trialGoesAs 1 = .ok (.getfield 25, 3) := by decide +kernel
theorem dX5_trialGoesAs_4 : decode cX5_trialGoesAs 4 = .ok (.aload_n 0, 1) := by decide +kernel
theorem dX5_trialGoesAs_5 : decode cX5_trialGoesAs 5 = .ok (.getfield 19, 3) := by decide +kernel
theorem dX5_trialGoesAs_8 : decode cX5_trialGoesAs 8 = .ok (.invokevirtual 62, 3) := by decide +kernel
theorem dX5_trialGoesAs_11 : decode cX5_trialGoesAs 11 = .ok (.aload_n 0, 1) := by decide +kernel
theorem dX5_trialGoesAs_12 : decode cX5_trialGoesAs 12 = .ok (.getfield 19, 3) := by decide +kernel
theorem dX5_trialGoesAs_15 : decode cX5_trialGoesAs 15 = .ok (.invokevirtual 158, 3) := by decide +kernel
theorem dX5_trialGoesAs_18 : decode cX5_trialGoesAs 18 = .ok (.istore_n 2, 1) := by decide +kernel
theorem dX5_trialGoesAs_19 : decode cX5_trialGoesAs 19 = .ok (.iconst 0, 1) := by decide +kernel
theorem dX5_trialGoesAs_20 : decode cX5_trialGoesAs 20 = .ok (.istore_n 3, 1) := by decide +kernel
theorem dX5_trialGoesAs_21 : decode cX5_trialGoesAs 21 = .ok (.iload_n 3, 1) := by decide +kernel
theorem dX5_trialGoesAs_22 : decode cX5_trialGoesAs 22 = .ok (.aload_n 1, 1) := by decide +kernel
theorem dX5_trialGoesAs_23 : decode cX5_trialGoesAs 23 = .ok (.getfield 215, 3) := by decide +kernel
theorem dX5_trialGoesAs_26 : decode cX5_trialGoesAs 26 = .ok (.if_icmp .ge 37, 3) := by decide +kernel
theorem dX5_trialGoesAs_29 : decode cX5_trialGoesAs 29 = .ok (.aload_n 1, 1) := by decide +kernel
theorem dX5_trialGoesAs_30 : decode cX5_trialGoesAs 30 = .ok (.getfield 222, 3) := by decide +kernel
theorem dX5_trialGoesAs_33 : decode cX5_trialGoesAs 33 = .ok (.iload_n 3, 1) := by decide +kernel
theorem dX5_trialGoesAs_34 : decode cX5_trialGoesAs 34 = .ok (.laload, 1) := by decide +kernel
theorem dX5_trialGoesAs_35 : decode cX5_trialGoesAs 35 = .ok (.iload_n 2, 1) := by decide +kernel
theorem dX5_trialGoesAs_36 : decode cX5_trialGoesAs 36 = .ok (.i2l, 1) := by decide +kernel
theorem dX5_trialGoesAs_37 : decode cX5_trialGoesAs 37 = .ok (.lcmp, 1) := by decide +kernel
theorem dX5_trialGoesAs_38 : decode cX5_trialGoesAs 38 = .ok (.ifCond .eq 5, 3) := by decide +kernel
theorem dX5_trialGoesAs_41 : decode cX5_trialGoesAs 41 = .ok (.iconst 0, 1) := by decide +kernel
theorem dX5_trialGoesAs_42 : decode cX5_trialGoesAs 42 = .ok (.ireturn, 1) := by decide +kernel
theorem dX5_trialGoesAs_43 : decode cX5_trialGoesAs 43 = .ok (.iload_n 2, 1) := by decide +kernel
theorem dX5_trialGoesAs_44 : decode cX5_trialGoesAs 44 = .ok (.aload_n 0, 1) := by decide +kernel
theorem dX5_trialGoesAs_45 : decode cX5_trialGoesAs 45 = .ok (.getfield 25, 3) := by decide +kernel
theorem dX5_trialGoesAs_48 : decode cX5_trialGoesAs 48 = .ok (.aload_n 0, 1) := by decide +kernel
theorem dX5_trialGoesAs_49 : decode cX5_trialGoesAs 49 = .ok (.getfield 19, 3) := by decide +kernel
theorem dX5_trialGoesAs_52 : decode cX5_trialGoesAs 52 = .ok (.invokevirtual 177, 3) := by decide +kernel
theorem dX5_trialGoesAs_55 : decode cX5_trialGoesAs 55 = .ok (.isub, 1) := by decide +kernel
theorem dX5_trialGoesAs_56 : decode cX5_trialGoesAs 56 = .ok (.istore_n 2, 1) := by decide +kernel
theorem dX5_trialGoesAs_57 : decode cX5_trialGoesAs 57 = .ok (.iinc 3 1, 3) := by decide +kernel
theorem dX5_trialGoesAs_60 : decode cX5_trialGoesAs 60 = .ok (.goto (-39), 3) := by decide +kernel
theorem dX5_trialGoesAs_63 : decode cX5_trialGoesAs 63 = .ok (.iconst 1, 1) := by decide +kernel
theorem dX5_trialGoesAs_64 : decode cX5_trialGoesAs 64 = .ok (.ireturn, 1) := by decide +kernel
theorem dX5_isWithin_0 : decode cX5_isWithin 0 = .ok (.iload_n 0, 1) := by decide +kernel
theorem dX5_isWithin_1 : decode cX5_isWithin 1 = .ok (.iload_n 1, 1) := by decide +kernel
theorem dX5_isWithin_2 : decode cX5_isWithin 2 = .ok (.if_icmp .lt 12, 3) := by decide +kernel
theorem dX5_isWithin_5 : decode cX5_isWithin 5 = .ok (.iload_n 0, 1) := by decide +kernel
theorem dX5_isWithin_6 : decode cX5_isWithin 6 = .ok (.iload_n 2, 1) := by decide +kernel
theorem dX5_isWithin_7 : decode cX5_isWithin 7 = .ok (.if_icmp .gt 7, 3) := by decide +kernel
theorem dX5_isWithin_10 : decode cX5_isWithin 10 = .ok (.iconst 1, 1) := by decide +kernel
theorem dX5_isWithin_11 : decode cX5_isWithin 11 = .ok (.goto 4, 3) := by decide +kernel
theorem dX5_isWithin_14 : decode cX5_isWithin 14 = .ok (.iconst 0, 1) := by decide +kernel
theorem dX5_isWithin_15 : decode cX5_isWithin 15 = .ok (.ireturn, 1) := by decide +kernel
theorem dX5_isCell_0 : decode cX5_isCell 0 = .ok (.iload_n 0, 1) := by decide +kernel
theorem dX5_isCell_1 : decode cX5_isCell 1 = .ok (.iconst 0, 1) := by decide +kernel
theorem dX5_isCell_2 : decode cX5_isCell 2 = .ok (.bipush 47, 2) := by decide +kernel
theorem dX5_isCell_4 : decode cX5_isCell 4 = .ok (.invokestatic 51, 3) := by decide +kernel
theorem dX5_isCell_7 : decode cX5_isCell 7 = .ok (.ireturn, 1) := by decide +kernel
theorem dX5_isKind_0 : decode cX5_isKind 0 = .ok (.iload_n 0, 1) := by decide +kernel
theorem dX5_isKind_1 : decode cX5_isKind 1 = .ok (.iconst 0, 1) := by decide +kernel
theorem dX5_isKind_2 : decode cX5_isKind 2 = .ok (.iconst 5, 1) := by decide +kernel
theorem dX5_isKind_3 : decode cX5_isKind 3 = .ok (.invokestatic 51, 3) := by decide +kernel
theorem dX5_isKind_6 : decode cX5_isKind 6 = .ok (.ireturn, 1) := by decide +kernel
theorem dX5_isSheet_0 : decode cX5_isSheet 0 = .ok (.iload_n 0, 1) := by decide +kernel
theorem dX5_isSheet_1 : decode cX5_isSheet 1 = .ok (.iconst 0, 1) := by decide +kernel
theorem dX5_isSheet_2 : decode cX5_isSheet 2 = .ok (.iconst 3, 1) := by decide +kernel
theorem dX5_isSheet_3 : decode cX5_isSheet 3 = .ok (.invokestatic 51, 3) := by decide +kernel
theorem dX5_isSheet_6 : decode cX5_isSheet 6 = .ok (.ireturn, 1) := by decide +kernel
theorem dX5_exchange_0 : decode cX5_exchange 0 = .ok (.aload_n 0, 1) := by decide +kernel
theorem dX5_exchange_1 : decode cX5_exchange 1 = .ok (.iload_n 1, 1) := by decide +kernel
theorem dX5_exchange_2 : decode cX5_exchange 2 = .ok (.iaload, 1) := by decide +kernel
theorem dX5_exchange_3 : decode cX5_exchange 3 = .ok (.istore_n 3, 1) := by decide +kernel
theorem dX5_exchange_4 : decode cX5_exchange 4 = .ok (.aload_n 0, 1) := by decide +kernel
theorem dX5_exchange_5 : decode cX5_exchange 5 = .ok (.iload_n 1, 1) := by decide +kernel
theorem dX5_exchange_6 : decode cX5_exchange 6 = .ok (.iload_n 2, 1) := by decide +kernel
theorem dX5_exchange_7 : decode cX5_exchange 7 = .ok (.iastore, 1) := by decide +kernel
theorem dX5_exchange_8 : decode cX5_exchange 8 = .ok (.iload_n 3, 1) := by decide +kernel
theorem dX5_exchange_9 : decode cX5_exchange 9 = .ok (.ireturn, 1) := by decide +kernel
theorem dX5_sumOf_0 : decode cX5_sumOf 0 = .ok (.iconst 0, 1) := by decide +kernel
theorem dX5_sumOf_1 : decode cX5_sumOf 1 = .ok (.istore_n 2, 1) := by decide +kernel
theorem dX5_sumOf_2 : decode cX5_sumOf 2 = .ok (.iconst 0, 1) := by decide +kernel
theorem dX5_sumOf_3 : decode cX5_sumOf 3 = .ok (.istore_n 3, 1) := by decide +kernel
theorem dX5_sumOf_4 : decode cX5_sumOf 4 = .ok (.iload_n 3, 1) := by decide +kernel
theorem dX5_sumOf_5 : decode cX5_sumOf 5 = .ok (.iload_n 1, 1) := by decide +kernel
theorem dX5_sumOf_6 : decode cX5_sumOf 6 = .ok (.if_icmp .ge 15, 3) := by decide +kernel
theorem dX5_sumOf_9 : decode cX5_sumOf 9 = .ok (.iload_n 2, 1) := by decide +kernel
theorem dX5_sumOf_10 : decode cX5_sumOf 10 = .ok (.aload_n 0, 1) := by decide +kernel
theorem dX5_sumOf_11 : decode cX5_sumOf 11 = .ok (.iload_n 3, 1) := by decide +kernel
theorem dX5_sumOf_12 : decode cX5_sumOf 12 = .ok (.iaload, 1) := by decide +kernel
theorem dX5_sumOf_13 : decode cX5_sumOf 13 = .ok (.iadd, 1) := by decide +kernel
theorem dX5_sumOf_14 : decode cX5_sumOf 14 = .ok (.istore_n 2, 1) := by decide +kernel
theorem dX5_sumOf_15 : decode cX5_sumOf 15 = .ok (.iinc 3 1, 3) := by decide +kernel
theorem dX5_sumOf_18 : decode cX5_sumOf 18 = .ok (.goto (-14), 3) := by decide +kernel
theorem dX5_sumOf_21 : decode cX5_sumOf 21 = .ok (.iload_n 2, 1) := by decide +kernel
theorem dX5_sumOf_22 : decode cX5_sumOf 22 = .ok (.ireturn, 1) := by decide +kernel
theorem dX5_distanceOf_0 : decode cX5_distanceOf 0 = .ok (.iload_n 0, 1) := by decide +kernel
theorem dX5_distanceOf_1 : decode cX5_distanceOf 1 = .ok (.bipush 8, 2) := by decide +kernel
theorem dX5_distanceOf_3 : decode cX5_distanceOf 3 = .ok (.idiv, 1) := by decide +kernel
theorem dX5_distanceOf_4 : decode cX5_distanceOf 4 = .ok (.iload_n 1, 1) := by decide +kernel
theorem dX5_distanceOf_5 : decode cX5_distanceOf 5 = .ok (.bipush 8, 2) := by decide +kernel
theorem dX5_distanceOf_7 : decode cX5_distanceOf 7 = .ok (.idiv, 1) := by decide +kernel
theorem dX5_distanceOf_8 : decode cX5_distanceOf 8 = .ok (.isub, 1) := by decide +kernel
theorem dX5_distanceOf_9 : decode cX5_distanceOf 9 = .ok (.invokestatic 263, 3) := by decide +kernel
theorem dX5_distanceOf_12 : decode cX5_distanceOf 12 = .ok (.istore_n 2, 1) := by decide +kernel
theorem dX5_distanceOf_13 : decode cX5_distanceOf 13 = .ok (.iload_n 0, 1) := by decide +kernel
theorem dX5_distanceOf_14 : decode cX5_distanceOf 14 = .ok (.bipush 8, 2) := by decide +kernel
theorem dX5_distanceOf_16 : decode cX5_distanceOf 16 = .ok (.irem, 1) := by decide +kernel
theorem dX5_distanceOf_17 : decode cX5_distanceOf 17 = .ok (.iload_n 1, 1) := by decide +kernel
theorem dX5_distanceOf_18 : decode cX5_distanceOf 18 = .ok (.bipush 8, 2) := by decide +kernel
theorem dX5_distanceOf_20 : decode cX5_distanceOf 20 = .ok (.irem, 1) := by decide +kernel
theorem dX5_distanceOf_21 : decode cX5_distanceOf 21 = .ok (.isub, 1) := by decide +kernel
theorem dX5_distanceOf_22 : decode cX5_distanceOf 22 = .ok (.invokestatic 263, 3) := by decide +kernel
theorem dX5_distanceOf_25 : decode cX5_distanceOf 25 = .ok (.istore_n 3, 1) := by decide +kernel
theorem dX5_distanceOf_26 : decode cX5_distanceOf 26 = .ok (.iload_n 2, 1) := by decide +kernel
theorem dX5_distanceOf_27 : decode cX5_distanceOf 27 = .ok (.iload_n 3, 1) := by decide +kernel
theorem dX5_distanceOf_28 : decode cX5_distanceOf 28 = .ok (.iadd, 1) := by decide +kernel
theorem dX5_distanceOf_29 : decode cX5_distanceOf 29 = .ok (.ireturn, 1) := by decide +kernel
