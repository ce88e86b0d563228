theorem dX0_init_0 : decode cX0_init 0 = .ok (.aload_n 0, 1) := by decide +kernel
theorem dX0_init_1 : decode cX0_init 1 = .ok (.invokespecial 3, 3) := by decide +kernel
theorem dX0_init_4 : decode cX0_init 4 = .ok (.aload_n 0, 1) := by decide +kernel
theorem dX0_init_5 : decode cX0_init 5 = .ok (.bipush 48, 2) := by decide +kernel
theorem dX0_init_7 : decode cX0_init 7 = .ok (.newarray .int, 2) := by decide +kernel
theorem dX0_init_9 : decode cX0_init 9 = .ok (.putfield 9, 3) := by decide +kernel
theorem dX0_init_12 : decode cX0_init 12 = .ok (.aload_n 0, 1) := by decide +kernel
theorem dX0_init_13 : decode cX0_init 13 = .ok (.bipush 8, 2) := by decide +kernel
theorem dX0_init_15 : decode cX0_init 15 = .ok (.newarray .int, 2) := by decide +kernel
theorem dX0_init_17 : decode cX0_init 17 = .ok (.putfield 15, 3) := by decide +kernel
theorem dX0_init_20 : decode cX0_init 20 = .ok (.aload_n 0, 1) := by decide +kernel
theorem dX0_init_21 : decode cX0_init 21 = .ok (.bipush 104, 2) := by decide +kernel
theorem dX0_init_23 : decode cX0_init 23 = .ok (.newarray .int, 2) := by decide +kernel
theorem dX0_init_25 : decode cX0_init 25 = .ok (.putfield 18, 3) := by decide +kernel
theorem dX0_init_28 : decode cX0_init 28 = .ok (.aload_n 0, 1) := by decide +kernel
theorem dX0_init_29 : decode cX0_init 29 = .ok (.bipush 6, 2) := by decide +kernel
theorem dX0_init_31 : decode cX0_init 31 = .ok (.newarray .int, 2) := by decide +kernel
theorem dX0_init_33 : decode cX0_init 33 = .ok (.putfield 21, 3) := by decide +kernel
theorem dX0_init_36 : decode cX0_init 36 = .ok (.aload_n 0, 1) := by decide +kernel
theorem dX0_init_37 : decode cX0_init 37 = .ok (.bipush 6, 2) := by decide +kernel
theorem dX0_init_39 : decode cX0_init 39 = .ok (.newarray .int, 2) := by decide +kernel
theorem dX0_init_41 : decode cX0_init 41 = .ok (.putfield 24, 3) := by decide +kernel
theorem dX0_init_44 : decode cX0_init 44 = .ok (.return_, 1) := by decide +kernel
theorem dX0_look_0 : decode cX0_look 0 = .ok (.iconst 0, 1) := by decide +kernel
theorem dX0_look_1 : decode cX0_look 1 = .ok (.istore_n 2, 1) := by decide +kernel
theorem dX0_look_2 : decode cX0_look 2 = .ok (.iload_n 2, 1) := by decide +kernel
theorem dX0_look_3 : decode cX0_look 3 = .ok (.aload_n 1, 1) := by decide +kernel
theorem dX0_look_4 : decode cX0_look 4 = .ok (.getfield 27, 3) := by decide +kernel
theorem dX0_look_7 : decode cX0_look 7 = .ok (.if_icmp .ge 20, 3) := by decide +kernel
theorem dX0_look_10 : decode cX0_look 10 = .ok (.aload_n 0, 1) := by decide +kernel
theorem dX0_look_11 : decode cX0_look 11 = .ok (.aload_n 1, 1) := by decide +kernel
theorem dX0_look_12 : decode cX0_look 12 = .ok (.iload_n 2, 1) := by decide +kernel
theorem dX0_look_13 : decode cX0_look 13 = .ok (.aload_n 1, 1) := by decide +kernel
theorem dX0_look_14 : decode cX0_look 14 = .ok (.iload_n 2, 1) := by decide +kernel
theorem dX0_look_15 : decode cX0_look 15 = .ok (.invokevirtual 33, 3) := by decide +kernel
theorem dX0_look_18 : decode cX0_look 18 = .ok (.invokevirtual 37, 3) := by decide +kernel
theorem dX0_look_21 : decode cX0_look 21 = .ok (.iinc 2 1, 3) := by decide +kernel
theorem dX0_look_24 : decode cX0_look 24 = .ok (.goto (-22), 3) := by decide +kernel
theorem dX0_look_27 : decode cX0_look 27 = .ok (.iconst 0, 1) := by decide +kernel
theorem dX0_look_28 : decode cX0_look 28 = .ok (.istore_n 2, 1) := by decide +kernel
theorem dX0_look_29 : decode cX0_look 29 = .ok (.iload_n 2, 1) := by decide +kernel
theorem dX0_look_30 : decode cX0_look 30 = .ok (.aload_n 1, 1) := by decide +kernel
theorem dX0_look_31 : decode cX0_look 31 = .ok (.getfield 41, 3) := by decide +kernel
theorem dX0_look_34 : decode cX0_look 34 = .ok (.if_icmp .ge 20, 3) := by decide +kernel
theorem dX0_look_37 : decode cX0_look 37 = .ok (.aload_n 0, 1) := by decide +kernel
theorem dX0_look_38 : decode cX0_look 38 = .ok (.getfield 24, 3) := by decide +kernel
theorem dX0_look_41 : decode cX0_look 41 = .ok (.iload_n 2, 1) := by decide +kernel
theorem dX0_look_42 : decode cX0_look 42 = .ok (.aload_n 1, 1) := by decide +kernel
theorem dX0_look_43 : decode cX0_look 43 = .ok (.iload_n 2, 1) := by decide +kernel
theorem dX0_look_44 : decode cX0_look 44 = .ok (.invokevirtual 44, 3) := by decide +kernel
theorem dX0_look_47 : decode cX0_look 47 = .ok (.iastore, 1) := by decide +kernel
theorem dX0_look_48 : decode cX0_look 48 = .ok (.iinc 2 1, 3) := by decide +kernel
theorem dX0_look_51 : decode cX0_look 51 = .ok (.goto (-22), 3) := by decide +kernel
theorem dX0_look_54 : decode cX0_look 54 = .ok (.aload_n 0, 1) := by decide +kernel
theorem dX0_look_55 : decode cX0_look 55 = .ok (.aload_n 1, 1) := by decide +kernel
theorem dX0_look_56 : decode cX0_look 56 = .ok (.invokevirtual 46, 3) := by decide +kernel
theorem dX0_look_59 : decode cX0_look 59 = .ok (.return_, 1) := by decide +kernel
theorem dX0_landing_0 : decode cX0_landing 0 = .ok (.iconst (-1), 1) := by decide +kernel
theorem dX0_landing_1 : decode cX0_landing 1 = .ok (.istore_n 2, 1) := by decide +kernel
theorem dX0_landing_2 : decode cX0_landing 2 = .ok (.iconst 0, 1) := by decide +kernel
theorem dX0_landing_3 : decode cX0_landing 3 = .ok (.istore_n 3, 1) := by decide +kernel
theorem dX0_landing_4 : decode cX0_landing 4 = .ok (.iconst 0, 1) := by decide +kernel
theorem dX0_landing_5 : decode cX0_landing 5 = .ok (.istore 4, 2) := by decide +kernel
theorem dX0_landing_7 : decode cX0_landing 7 = .ok (.iload 4, 2) := by decide +kernel
theorem dX0_landing_9 : decode cX0_landing 9 = .ok (.bipush 48, 2) := by decide +kernel
theorem dX0_landing_11 : decode cX0_landing 11 = .ok (.if_icmp .ge 64, 3) := by decide +kernel
theorem dX0_landing_14 : decode cX0_landing 14 = .ok (.aload_n 1, 1) := by decide +kernel
theorem dX0_landing_15 : decode cX0_landing 15 = .ok (.getfield 50, 3) := by decide +kernel
theorem dX0_landing_18 : decode cX0_landing 18 = .ok (.iload 4, 2) := by decide +kernel
theorem dX0_landing_20 : decode cX0_landing 20 = .ok (.iaload, 1) := by decide +kernel
theorem dX0_landing_21 : decode cX0_landing 21 = .ok (.ifCond .le 48, 3) := by decide +kernel
theorem dX0_landing_24 : decode cX0_landing 24 = .ok (.aload_n 0, 1) := by decide +kernel
theorem dX0_landing_25 : decode cX0_landing 25 = .ok (.getfield 9, 3) := by decide +kernel
theorem dX0_landing_28 : decode cX0_landing 28 = .ok (.iload 4, 2) := by decide +kernel
theorem dX0_landing_30 : decode cX0_landing 30 = .ok (.iaload, 1) := by decide +kernel
theorem dX0_landing_31 : decode cX0_landing 31 = .ok (.bipush 20, 2) := by decide +kernel
theorem dX0_landing_33 : decode cX0_landing 33 = .ok (.if_icmp .ge 36, 3) := by decide +kernel
theorem dX0_landing_36 : decode cX0_landing 36 = .ok (.aload_n 1, 1) := by decide +kernel
theorem dX0_landing_37 : decode cX0_landing 37 = .ok (.getfield 50, 3) := by decide +kernel
theorem dX0_landing_40 : decode cX0_landing 40 = .ok (.iload 4, 2) := by decide +kernel
theorem dX0_landing_42 : decode cX0_landing 42 = .ok (.iaload, 1) := by decide +kernel
theorem dX0_landing_43 : decode cX0_landing 43 = .ok (.aload_n 0, 1) := by decide +kernel
theorem dX0_landing_44 : decode cX0_landing 44 = .ok (.getfield 9, 3) := by decide +kernel
theorem dX0_landing_47 : decode cX0_landing 47 = .ok (.iload 4, 2) := by decide +kernel
theorem dX0_landing_49 : decode cX0_landing 49 = .ok (.iaload, 1) := by decide +kernel
theorem dX0_landing_50 : decode cX0_landing 50 = .ok (.isub, 1) := by decide +kernel
theorem dX0_landing_51 : decode cX0_landing 51 = .ok (.istore 5, 2) := by decide +kernel
theorem dX0_landing_53 : decode cX0_landing 53 = .ok (.iload_n 2, 1) := by decide +kernel
theorem dX0_landing_54 : decode cX0_landing 54 = .ok (.ifCond .lt 9, 3) := by decide +kernel
theorem dX0_landing_57 : decode cX0_landing 57 = .ok (.iload 5, 2) := by decide +kernel
theorem dX0_landing_59 : decode cX0_landing 59 = .ok (.iload_n 3, 1) := by decide +kernel
theorem dX0_landing_60 : decode cX0_landing 60 = .ok (.if_icmp .le 9, 3) := by decide +kernel
theorem dX0_landing_63 : decode cX0_landing 63 = .ok (.iload 5, 2) := by decide +kernel
theorem dX0_landing_65 : decode cX0_landing 65 = .ok (.istore_n 3, 1) := by decide +kernel
theorem dX0_landing_66 : decode cX0_landing 66 = .ok (.iload 4, 2) := by decide +kernel
theorem dX0_landing_68 : decode cX0_landing 68 = .ok (.istore_n 2, 1) := by decide +kernel
theorem dX0_landing_69 : decode cX0_landing 69 = .ok (.iinc 4 1, 3) := by decide +kernel
theorem dX0_landing_72 : decode cX0_landing 72 = .ok (.goto (-65), 3) := by decide +kernel
theorem dX0_landing_75 : decode cX0_landing 75 = .ok (.iload_n 2, 1) := by decide +kernel
theorem dX0_landing_76 : decode cX0_landing 76 = .ok (.ireturn, 1) := by decide +kernel
theorem dX0_fearedCells_0 : decode cX0_fearedCells 0 = .ok (.iconst 0, 1) := by decide +kernel
theorem dX0_fearedCells_1 : decode cX0_fearedCells 1 = .ok (.istore_n 1, 1) := by decide +kernel
theorem dX0_fearedCells_2 : decode cX0_fearedCells 2 = .ok (.iconst 0, 1) := by decide +kernel
theorem dX0_fearedCells_3 : decode cX0_fearedCells 3 = .ok (.istore_n 2, 1) := by decide +kernel
theorem dX0_fearedCells_4 : decode cX0_fearedCells 4 = .ok (.iload_n 2, 1) := by decide +kernel
theorem dX0_fearedCells_5 : decode cX0_fearedCells 5 = .ok (.bipush 48, 2) := by decide +kernel
theorem dX0_fearedCells_7 : decode cX0_fearedCells 7 = .ok (.if_icmp .ge 23, 3) := by decide +kernel
theorem dX0_fearedCells_10 : decode cX0_fearedCells 10 = .ok (.aload_n 0, 1) := by decide +kernel
theorem dX0_fearedCells_11 : decode cX0_fearedCells 11 = .ok (.getfield 9, 3) := by decide +kernel
theorem dX0_fearedCells_14 : decode cX0_fearedCells 14 = .ok (.iload_n 2, 1) := by decide +kernel
theorem dX0_fearedCells_15 : decode cX0_fearedCells 15 = .ok (.iaload, 1) := by decide +kernel
theorem dX0_fearedCells_16 : decode cX0_fearedCells 16 = .ok (.bipush 20, 2) := by decide +kernel
theorem dX0_fearedCells_18 : decode cX0_fearedCells 18 = .ok (.if_icmp .lt 6, 3) := by decide +kernel
theorem dX0_fearedCells_21 : decode cX0_fearedCells 21 = .ok (.iinc 1 1, 3) := by decide +kernel
theorem dX0_fearedCells_24 : decode cX0_fearedCells 24 = .ok (.iinc 2 1, 3) := by decide +kernel
theorem dX0_fearedCells_27 : decode cX0_fearedCells 27 = .ok (.goto (-23), 3) := by decide +kernel
theorem dX0_fearedCells_30 : decode cX0_fearedCells 30 = .ok (.iload_n 1, 1) := by decide +kernel
theorem dX0_fearedCells_31 : decode cX0_fearedCells 31 = .ok (.ireturn, 1) := by decide +kernel
theorem dX0_passDays_0 : decode cX0_passDays 0 = .ok (.aload_n 0, 1) := by decide +kernel
theorem dX0_passDays_1 : decode cX0_passDays 1 = .ok (.aload_n 1, 1) := by decide +kernel
theorem dX0_passDays_2 : decode cX0_passDays 2 = .ok (.invokevirtual 53, 3) := by decide +kernel
theorem dX0_passDays_5 : decode cX0_passDays 5 = .ok (.iconst 0, 1) := by decide +kernel
theorem dX0_passDays_6 : decode cX0_passDays 6 = .ok (.istore 4, 2) := by decide +kernel
theorem dX0_passDays_8 : decode cX0_passDays 8 = .ok (.iconst 0, 1) := by decide +kernel
theorem dX0_passDays_9 : decode cX0_passDays 9 = .ok (.istore 5, 2) := by decide +kernel
theorem dX0_passDays_11 : decode cX0_passDays 11 = .ok (.iload 5, 2) := by decide +kernel
theorem dX0_passDays_13 : decode cX0_passDays 13 = .ok (.iload_n 2, 1) := by decide +kernel
theorem dX0_passDays_14 : decode cX0_passDays 14 = .ok (.if_icmp .ge 25, 3) := by decide +kernel
theorem dX0_passDays_17 : decode cX0_passDays 17 = .ok (.iload 4, 2) := by decide +kernel
theorem dX0_passDays_19 : decode cX0_passDays 19 = .ok (.iload_n 3, 1) := by decide +kernel
theorem dX0_passDays_20 : decode cX0_passDays 20 = .ok (.if_icmp .ge 19, 3) := by decide +kernel
theorem dX0_passDays_23 : decode cX0_passDays 23 = .ok (.iload 4, 2) := by decide +kernel
theorem dX0_passDays_25 : decode cX0_passDays 25 = .ok (.aload_n 0, 1) := by decide +kernel
theorem dX0_passDays_26 : decode cX0_passDays 26 = .ok (.aload_n 1, 1) := by decide +kernel
theorem dX0_passDays_27 : decode cX0_passDays 27 = .ok (.invokevirtual 56, 3) := by decide +kernel
theorem dX0_passDays_30 : decode cX0_passDays 30 = .ok (.iadd, 1) := by decide +kernel
theorem dX0_passDays_31 : decode cX0_passDays 31 = .ok (.istore 4, 2) := by decide +kernel
theorem dX0_passDays_33 : decode cX0_passDays 33 = .ok (.iinc 5 1, 3) := by decide +kernel
theorem dX0_passDays_36 : decode cX0_passDays 36 = .ok (.goto (-25), 3) := by decide +kernel
theorem dX0_passDays_39 : decode cX0_passDays 39 = .ok (.iload 4, 2) := by decide +kernel
theorem dX0_passDays_41 : decode cX0_passDays 41 = .ok (.ireturn, 1) := by decide +kernel
theorem dX0_passDay_0 : decode cX0_passDay 0 = .ok (.aload_n 0, 1) := by decide +kernel
theorem dX0_passDay_1 : decode cX0_passDay 1 = .ok (.aload_n 1, 1) := by decide +kernel
theorem dX0_passDay_2 : decode cX0_passDay 2 = .ok (.invokevirtual 60, 3) := by decide +kernel
theorem dX0_passDay_5 : decode cX0_passDay 5 = .ok (.ifCond .eq 8, 3) := by decide +kernel
theorem dX0_passDay_8 : decode cX0_passDay 8 = .ok (.aload_n 0, 1) := by decide +kernel
theorem dX0_passDay_9 : decode cX0_passDay 9 = .ok (.aload_n 1, 1) := by decide +kernel
theorem dX0_passDay_10 : decode cX0_passDay 10 = .ok (.invokevirtual 46, 3) := by decide +kernel
theorem dX0_passDay_13 : decode cX0_passDay 13 = .ok (.iconst 0, 1) := by decide +kernel
theorem dX0_passDay_14 : decode cX0_passDay 14 = .ok (.istore_n 2, 1) := by decide +kernel
theorem dX0_passDay_15 : decode cX0_passDay 15 = .ok (.iconst 0, 1) := by decide +kernel
theorem dX0_passDay_16 : decode cX0_passDay 16 = .ok (.istore_n 3, 1) := by decide +kernel
theorem dX0_passDay_17 : decode cX0_passDay 17 = .ok (.iload_n 3, 1) := by decide +kernel
theorem dX0_passDay_18 : decode cX0_passDay 18 = .ok (.aload_n 1, 1) := by decide +kernel
theorem dX0_passDay_19 : decode cX0_passDay 19 = .ok (.getfield 64, 3) := by decide +kernel
theorem dX0_passDay_22 : decode cX0_passDay 22 = .ok (.if_icmp .ge 54, 3) := by decide +kernel
theorem dX0_passDay_25 : decode cX0_passDay 25 = .ok (.aload_n 0, 1) := by decide +kernel
theorem dX0_passDay_26 : decode cX0_passDay 26 = .ok (.aload_n 1, 1) := by decide +kernel
theorem dX0_passDay_27 : decode cX0_passDay 27 = .ok (.invokevirtual 67, 3) := by decide +kernel
theorem dX0_passDay_30 : decode cX0_passDay 30 = .ok (.istore 4, 2) := by decide +kernel
theorem dX0_passDay_32 : decode cX0_passDay 32 = .ok (.iload 4, 2) := by decide +kernel
theorem dX0_passDay_34 : decode cX0_passDay 34 = .ok (.ifCond .ge 6, 3) := by decide +kernel
theorem dX0_passDay_37 : decode cX0_passDay 37 = .ok (.goto 39, 3) := by decide +kernel
theorem dX0_passDay_40 : decode cX0_passDay 40 = .ok (.iconst 2, 1) := by decide +kernel
theorem dX0_passDay_41 : decode cX0_passDay 41 = .ok (.aload_n 1, 1) := by decide +kernel
theorem dX0_passDay_42 : decode cX0_passDay 42 = .ok (.getfield 50, 3) := by decide +kernel
theorem dX0_passDay_45 : decode cX0_passDay 45 = .ok (.iload 4, 2) := by decide +kernel
theorem dX0_passDay_47 : decode cX0_passDay 47 = .ok (.iaload, 1) := by decide +kernel
theorem dX0_passDay_48 : decode cX0_passDay 48 = .ok (.invokestatic 70, 3) := by decide +kernel
theorem dX0_passDay_51 : decode cX0_passDay 51 = .ok (.istore 5, 2) := by decide +kernel
theorem dX0_passDay_53 : decode cX0_passDay 53 = .ok (.aload_n 1, 1) := by decide +kernel
theorem dX0_passDay_54 : decode cX0_passDay 54 = .ok (.getfield 50, 3) := by decide +kernel
theorem dX0_passDay_57 : decode cX0_passDay 57 = .ok (.iload 4, 2) := by decide +kernel
theorem dX0_passDay_59 : decode cX0_passDay 59 = .ok (.dup2, 1) := by decide +kernel
theorem dX0_passDay_60 : decode cX0_passDay 60 = .ok (.iaload, 1) := by decide +kernel
theorem dX0_passDay_61 : decode cX0_passDay 61 = .ok (.iload 5, 2) := by decide +kernel
theorem dX0_passDay_63 : decode cX0_passDay 63 = .ok (.isub, 1) := by decide +kernel
theorem dX0_passDay_64 : decode cX0_passDay 64 = .ok (.iastore, 1) := by decide +kernel
theorem dX0_passDay_65 : decode cX0_passDay 65 = .ok (.iload_n 2, 1) := by decide +kernel
theorem dX0_passDay_66 : decode cX0_passDay 66 = .ok (.iload 5, 2) := by decide +kernel
theorem dX0_passDay_68 : decode cX0_passDay 68 = .ok (.iadd, 1) := by decide +kernel
theorem dX0_passDay_69 : decode cX0_passDay 69 = .ok (.istore_n 2, 1) := by decide +kernel
theorem dX0_passDay_70 : decode cX0_passDay 70 = .ok (.iinc 3 1, 3) := by decide +kernel
theorem dX0_passDay_73 : decode cX0_passDay 73 = .ok (.goto (-56), 3) := by decide +kernel
theorem dX0_passDay_76 : decode cX0_passDay 76 = .ok (.aload_n 0, 1) := by decide +kernel
theorem dX0_passDay_77 : decode cX0_passDay 77 = .ok (.aload_n 1, 1) := by decide +kernel
theorem dX0_passDay_78 : decode cX0_passDay 78 = .ok (.invokevirtual 76, 3) := by decide +kernel
theorem dX0_passDay_81 : decode cX0_passDay 81 = .ok (.iload_n 2, 1) := by decide +kernel
theorem dX0_passDay_82 : decode cX0_passDay 82 = .ok (.ireturn, 1) := by decide +kernel
theorem dX0_renewScares_0 : decode cX0_renewScares 0 = .ok (.iconst 0, 1) := by decide +kernel
theorem dX0_renewScares_1 : decode cX0_renewScares 1 = .ok (.istore_n 2, 1) := by decide +kernel
theorem dX0_renewScares_2 : decode cX0_renewScares 2 = .ok (.iconst 0, 1) := by decide +kernel
theorem dX0_renewScares_3 : decode cX0_renewScares 3 = .ok (.istore_n 3, 1) := by decide +kernel
theorem dX0_renewScares_4 : decode cX0_renewScares 4 = .ok (.iload_n 3, 1) := by decide +kernel
theorem dX0_renewScares_5 : decode cX0_renewScares 5 = .ok (.aload_n 1, 1) := by decide +kernel
theorem dX0_renewScares_6 : decode cX0_renewScares 6 = .ok (.getfield 27, 3) := by decide +kernel
theorem dX0_renewScares_9 : decode cX0_renewScares 9 = .ok (.if_icmp .ge 37, 3) := by decide +kernel
theorem dX0_renewScares_12 : decode cX0_renewScares 12 = .ok (.aload_n 1, 1) := by decide +kernel
theorem dX0_renewScares_13 : decode cX0_renewScares 13 = .ok (.iload_n 3, 1) := by decide +kernel
theorem dX0_renewScares_14 : decode cX0_renewScares 14 = .ok (.invokevirtual 33, 3) := by decide +kernel
theorem dX0_renewScares_17 : decode cX0_renewScares 17 = .ok (.istore 4, 2) := by decide +kernel
theorem dX0_renewScares_19 : decode cX0_renewScares 19 = .ok (.iload 4, 2) := by decide +kernel
theorem dX0_renewScares_21 : decode cX0_renewScares 21 = .ok (.aload_n 0, 1) := by decide +kernel
theorem dX0_renewScares_22 : decode cX0_renewScares 22 = .ok (.getfield 15, 3) := by decide +kernel
theorem dX0_renewScares_25 : decode cX0_renewScares 25 = .ok (.iload_n 3, 1) := by decide +kernel
theorem dX0_renewScares_26 : decode cX0_renewScares 26 = .ok (.iaload, 1) := by decide +kernel
theorem dX0_renewScares_27 : decode cX0_renewScares 27 = .ok (.if_icmp .eq 13, 3) := by decide +kernel
theorem dX0_renewScares_30 : decode cX0_renewScares 30 = .ok (.aload_n 0, 1) := by decide +kernel
theorem dX0_renewScares_31 : decode cX0_renewScares 31 = .ok (.aload_n 1, 1) := by decide +kernel
theorem dX0_renewScares_32 : decode cX0_renewScares 32 = .ok (.iload_n 3, 1) := by decide +kernel
theorem dX0_renewScares_33 : decode cX0_renewScares 33 = .ok (.iload 4, 2) := by decide +kernel
theorem dX0_renewScares_35 : decode cX0_renewScares 35 = .ok (.invokevirtual 37, 3) := by decide +kernel
theorem dX0_renewScares_38 : decode cX0_renewScares 38 = .ok (.iconst 1, 1) := by decide +kernel
theorem dX0_renewScares_39 : decode cX0_renewScares 39 = .ok (.istore_n 2, 1) := by decide +kernel
theorem dX0_renewScares_40 : decode cX0_renewScares 40 = .ok (.iinc 3 1, 3) := by decide +kernel
theorem dX0_renewScares_43 : decode cX0_renewScares 43 = .ok (.goto (-39), 3) := by decide +kernel
theorem dX0_renewScares_46 : decode cX0_renewScares 46 = .ok (.iload_n 2, 1) := by decide +kernel
theorem dX0_renewScares_47 : decode cX0_renewScares 47 = .ok (.ireturn, 1) := by decide +kernel
theorem dX0_takeScares_0 : decode cX0_takeScares 0 = .ok (.aload_n 0, 1) := by decide +kernel
theorem dX0_takeScares_1 : decode cX0_takeScares 1 = .ok (.getfield 15, 3) := by decide +kernel
theorem dX0_takeScares_4 : decode cX0_takeScares 4 = .ok (.iload_n 2, 1) := by decide +kernel
theorem dX0_takeScares_5 : decode cX0_takeScares 5 = .ok (.iload_n 3, 1) := by decide +kernel
theorem dX0_takeScares_6 : decode cX0_takeScares 6 = .ok (.iastore, 1) := by decide +kernel
theorem dX0_takeScares_7 : decode cX0_takeScares 7 = .ok (.aload_n 1, 1) := by decide +kernel
theorem dX0_takeScares_8 : decode cX0_takeScares 8 = .ok (.getfield 79, 3) := by decide +kernel
theorem dX0_takeScares_11 : decode cX0_takeScares 11 = .ok (.aload_n 1, 1) := by decide +kernel
theorem dX0_takeScares_12 : decode cX0_takeScares 12 = .ok (.getfield 82, 3) := by decide +kernel
theorem dX0_takeScares_15 : decode cX0_takeScares 15 = .ok (.iload_n 2, 1) := by decide +kernel
theorem dX0_takeScares_16 : decode cX0_takeScares 16 = .ok (.iaload, 1) := by decide +kernel
theorem dX0_takeScares_17 : decode cX0_takeScares 17 = .ok (.iaload, 1) := by decide +kernel
theorem dX0_takeScares_18 : decode cX0_takeScares 18 = .ok (.istore 4, 2) := by decide +kernel
theorem dX0_takeScares_20 : decode cX0_takeScares 20 = .ok (.iconst 0, 1) := by decide +kernel
theorem dX0_takeScares_21 : decode cX0_takeScares 21 = .ok (.istore 5, 2) := by decide +kernel
theorem dX0_takeScares_23 : decode cX0_takeScares 23 = .ok (.iload 5, 2) := by decide +kernel
theorem dX0_takeScares_25 : decode cX0_takeScares 25 = .ok (.bipush 13, 2) := by decide +kernel
theorem dX0_takeScares_27 : decode cX0_takeScares 27 = .ok (.if_icmp .ge 29, 3) := by decide +kernel
theorem dX0_takeScares_30 : decode cX0_takeScares 30 = .ok (.aload_n 0, 1) := by decide +kernel
theorem dX0_takeScares_31 : decode cX0_takeScares 31 = .ok (.getfield 18, 3) := by decide +kernel
theorem dX0_takeScares_34 : decode cX0_takeScares 34 = .ok (.iload_n 2, 1) := by decide +kernel
theorem dX0_takeScares_35 : decode cX0_takeScares 35 = .ok (.bipush 13, 2) := by decide +kernel
theorem dX0_takeScares_37 : decode cX0_takeScares 37 = .ok (.imul, 1) := by decide +kernel
theorem dX0_takeScares_38 : decode cX0_takeScares 38 = .ok (.iload 5, 2) := by decide +kernel
theorem dX0_takeScares_40 : decode cX0_takeScares 40 = .ok (.iadd, 1) := by decide +kernel
theorem dX0_takeScares_41 : decode cX0_takeScares 41 = .ok (.iload 4, 2) := by decide +kernel
theorem dX0_takeScares_43 : decode cX0_takeScares 43 = .ok (.iload_n 3, 1) := by decide +kernel
theorem dX0_takeScares_44 : decode cX0_takeScares 44 = .ok (.iload 5, 2) := by decide +kernel
theorem dX0_takeScares_46 : decode cX0_takeScares 46 = .ok (.invokestatic 85, 3) := by decide +kernel
theorem dX0_takeScares_49 : decode cX0_takeScares 49 = .ok (.iastore, 1) := by decide +kernel
theorem dX0_takeScares_50 : decode cX0_takeScares 50 = .ok (.iinc 5 1, 3) := by decide +kernel
theorem dX0_takeScares_53 : decode cX0_takeScares 53 = .ok (.goto (-30), 3) := by decide +kernel
theorem dX0_takeScares_56 : decode cX0_takeScares 56 = .ok (.return_, 1) := by decide +kernel
theorem dX0_weighFears_0 : decode cX0_weighFears 0 = .ok (.iconst 0, 1) := by decide +kernel
theorem dX0_weighFears_1 : decode cX0_weighFears 1 = .ok (.istore_n 2, 1) := by decide +kernel
theorem dX0_weighFears_2 : decode cX0_weighFears 2 = .ok (.iload_n 2, 1) := by decide +kernel
theorem dX0_weighFears_3 : decode cX0_weighFears 3 = .ok (.bipush 48, 2) := by decide +kernel
theorem dX0_weighFears_5 : decode cX0_weighFears 5 = .ok (.if_icmp .ge 21, 3) := by decide +kernel
theorem dX0_weighFears_8 : decode cX0_weighFears 8 = .ok (.aload_n 0, 1) := by decide +kernel
theorem dX0_weighFears_9 : decode cX0_weighFears 9 = .ok (.getfield 9, 3) := by decide +kernel
theorem dX0_weighFears_12 : decode cX0_weighFears 12 = .ok (.iload_n 2, 1) := by decide +kernel
theorem dX0_weighFears_13 : decode cX0_weighFears 13 = .ok (.aload_n 0, 1) := by decide +kernel
theorem dX0_weighFears_14 : decode cX0_weighFears 14 = .ok (.aload_n 1, 1) := by decide +kernel
theorem dX0_weighFears_15 : decode cX0_weighFears 15 = .ok (.iload_n 2, 1) := by decide +kernel
theorem dX0_weighFears_16 : decode cX0_weighFears 16 = .ok (.invokevirtual 91, 3) := by decide +kernel
theorem dX0_weighFears_19 : decode cX0_weighFears 19 = .ok (.iastore, 1) := by decide +kernel
theorem dX0_weighFears_20 : decode cX0_weighFears 20 = .ok (.iinc 2 1, 3) := by decide +kernel
theorem dX0_weighFears_23 : decode cX0_weighFears 23 = .ok (.goto (-21), 3) := by decide +kernel
theorem dX0_weighFears_26 : decode cX0_weighFears 26 = .ok (.return_, 1) := by decide +kernel
theorem dX0_fearAt_0 : decode cX0_fearAt 0 = .ok (.aload_n 0, 1) := by decide +kernel
theorem dX0_fearAt_1 : decode cX0_fearAt 1 = .ok (.getfield 21, 3) := by decide +kernel
theorem dX0_fearAt_4 : decode cX0_fearAt 4 = .ok (.ldc 95, 2) := by decide +kernel
theorem dX0_fearAt_6 : decode cX0_fearAt 6 = .ok (.invokestatic 96, 3) := by decide +kernel
theorem dX0_fearAt_9 : decode cX0_fearAt 9 = .ok (.iconst 0, 1) := by decide +kernel
theorem dX0_fearAt_10 : decode cX0_fearAt 10 = .ok (.istore_n 3, 1) := by decide +kernel
theorem dX0_fearAt_11 : decode cX0_fearAt 11 = .ok (.iload_n 3, 1) := by decide +kernel
theorem dX0_fearAt_12 : decode cX0_fearAt 12 = .ok (.aload_n 1, 1) := by decide +kernel
theorem dX0_fearAt_13 : decode cX0_fearAt 13 = .ok (.getfield 27, 3) := by decide +kernel
theorem dX0_fearAt_16 : decode cX0_fearAt 16 = .ok (.if_icmp .ge 58, 3) := by decide +kernel
theorem dX0_fearAt_19 : decode cX0_fearAt 19 = .ok (.aload_n 1, 1) := by decide +kernel
theorem dX0_fearAt_20 : decode cX0_fearAt 20 = .ok (.getfield 82, 3) := by decide +kernel
theorem dX0_fearAt_23 : decode cX0_fearAt 23 = .ok (.iload_n 3, 1) := by decide +kernel
theorem dX0_fearAt_24 : decode cX0_fearAt 24 = .ok (.iaload, 1) := by decide +kernel
theorem dX0_fearAt_25 : decode cX0_fearAt 25 = .ok (.istore 4, 2) := by decide +kernel
theorem dX0_fearAt_27 : decode cX0_fearAt 27 = .ok (.aload_n 0, 1) := by decide +kernel
theorem dX0_fearAt_28 : decode cX0_fearAt 28 = .ok (.getfield 18, 3) := by decide +kernel
theorem dX0_fearAt_31 : decode cX0_fearAt 31 = .ok (.iload_n 3, 1) := by decide +kernel
theorem dX0_fearAt_32 : decode cX0_fearAt 32 = .ok (.bipush 13, 2) := by decide +kernel
theorem dX0_fearAt_34 : decode cX0_fearAt 34 = .ok (.imul, 1) := by decide +kernel
theorem dX0_fearAt_35 : decode cX0_fearAt 35 = .ok (.aload_n 1, 1) := by decide +kernel
theorem dX0_fearAt_36 : decode cX0_fearAt 36 = .ok (.getfield 102, 3) := by decide +kernel
theorem dX0_fearAt_39 : decode cX0_fearAt 39 = .ok (.iload_n 3, 1) := by decide +kernel
theorem dX0_fearAt_40 : decode cX0_fearAt 40 = .ok (.iaload, 1) := by decide +kernel
theorem dX0_fearAt_41 : decode cX0_fearAt 41 = .ok (.iload_n 2, 1) := by decide +kernel
theorem dX0_fearAt_42 : decode cX0_fearAt 42 = .ok (.invokestatic 105, 3) := by decide +kernel
theorem dX0_fearAt_45 : decode cX0_fearAt 45 = .ok (.iadd, 1) := by decide +kernel
theorem dX0_fearAt_46 : decode cX0_fearAt 46 = .ok (.iaload, 1) := by decide +kernel
theorem dX0_fearAt_47 : decode cX0_fearAt 47 = .ok (.istore 5, 2) := by decide +kernel
theorem dX0_fearAt_49 : decode cX0_fearAt 49 = .ok (.aload_n 0, 1) := by decide +kernel
theorem dX0_fearAt_50 : decode cX0_fearAt 50 = .ok (.getfield 21, 3) := by decide +kernel
theorem dX0_fearAt_53 : decode cX0_fearAt 53 = .ok (.iload 4, 2) := by decide +kernel
theorem dX0_fearAt_55 : decode cX0_fearAt 55 = .ok (.aload_n 0, 1) := by decide +kernel
theorem dX0_fearAt_56 : decode cX0_fearAt 56 = .ok (.getfield 21, 3) := by decide +kernel
theorem dX0_fearAt_59 : decode cX0_fearAt 59 = .ok (.iload 4, 2) := by decide +kernel
theorem dX0_fearAt_61 : decode cX0_fearAt 61 = .ok (.iaload, 1) := by decide +kernel
theorem dX0_fearAt_62 : decode cX0_fearAt 62 = .ok (.iload 5, 2) := by decide +kernel
theorem dX0_fearAt_64 : decode cX0_fearAt 64 = .ok (.invokestatic 108, 3) := by decide +kernel
theorem dX0_fearAt_67 : decode cX0_fearAt 67 = .ok (.iastore, 1) := by decide +kernel
theorem dX0_fearAt_68 : decode cX0_fearAt 68 = .ok (.iinc 3 1, 3) := by decide +kernel
theorem dX0_fearAt_71 : decode cX0_fearAt 71 = .ok (.goto (-60), 3) := by decide +kernel
theorem dX0_fearAt_74 : decode cX0_fearAt 74 = .ok (.iconst 0, 1) := by decide +kernel
theorem dX0_fearAt_75 : decode cX0_fearAt 75 = .ok (.istore_n 3, 1) := by decide +kernel
theorem dX0_fearAt_76 : decode cX0_fearAt 76 = .ok (.iconst 0, 1) := by decide +kernel
theorem dX0_fearAt_77 : decode cX0_fearAt 77 = .ok (.istore 4, 2) := by decide +kernel
theorem dX0_fearAt_79 : decode cX0_fearAt 79 = .ok (.iload 4, 2) := by decide +kernel
theorem dX0_fearAt_81 : decode cX0_fearAt 81 = .ok (.aload_n 1, 1) := by decide +kernel
theorem dX0_fearAt_82 : decode cX0_fearAt 82 = .ok (.getfield 41, 3) := by decide +kernel
theorem dX0_fearAt_85 : decode cX0_fearAt 85 = .ok (.if_icmp .ge 31, 3) := by decide +kernel
theorem dX0_fearAt_88 : decode cX0_fearAt 88 = .ok (.aload_n 0, 1) := by decide +kernel
theorem dX0_fearAt_89 : decode cX0_fearAt 89 = .ok (.getfield 21, 3) := by decide +kernel
theorem dX0_fearAt_92 : decode cX0_fearAt 92 = .ok (.iload 4, 2) := by decide +kernel
theorem dX0_fearAt_94 : decode cX0_fearAt 94 = .ok (.iaload, 1) := by decide +kernel
theorem dX0_fearAt_95 : decode cX0_fearAt 95 = .ok (.ldc 95, 2) := by decide +kernel
theorem dX0_fearAt_97 : decode cX0_fearAt 97 = .ok (.if_icmp .eq 13, 3) := by decide +kernel
theorem dX0_fearAt_100 : decode cX0_fearAt 100 = .ok (.iload_n 3, 1) := by decide +kernel
theorem dX0_fearAt_101 : decode cX0_fearAt 101 = .ok (.aload_n 0, 1) := by decide +kernel
theorem dX0_fearAt_102 : decode cX0_fearAt 102 = .ok (.getfield 21, 3) := by decide +kernel
theorem dX0_fearAt_105 : decode cX0_fearAt 105 = .ok (.iload 4, 2) := by decide +kernel
theorem dX0_fearAt_107 : decode cX0_fearAt 107 = .ok (.iaload, 1) := by decide +kernel
theorem dX0_fearAt_108 : decode cX0_fearAt 108 = .ok (.iadd, 1) := by decide +kernel
theorem dX0_fearAt_109 : decode cX0_fearAt 109 = .ok (.istore_n 3, 1) := by decide +kernel
theorem dX0_fearAt_110 : decode cX0_fearAt 110 = .ok (.iinc 4 1, 3) := by decide +kernel
theorem dX0_fearAt_113 : decode cX0_fearAt 113 = .ok (.goto (-34), 3) := by decide +kernel
theorem dX0_fearAt_116 : decode cX0_fearAt 116 = .ok (.iload_n 3, 1) := by decide +kernel
theorem dX0_fearAt_117 : decode cX0_fearAt 117 = .ok (.ireturn, 1) := by decide +kernel
theorem dX0_growOlder_0 : decode cX0_growOlder 0 = .ok (.iconst 0, 1) := by decide +kernel
theorem dX0_growOlder_1 : decode cX0_growOlder 1 = .ok (.istore_n 2, 1) := by decide +kernel
theorem dX0_growOlder_2 : decode cX0_growOlder 2 = .ok (.iload_n 2, 1) := by decide +kernel
theorem dX0_growOlder_3 : decode cX0_growOlder 3 = .ok (.aload_n 1, 1) := by decide +kernel
theorem dX0_growOlder_4 : decode cX0_growOlder 4 = .ok (.getfield 41, 3) := by decide +kernel
theorem dX0_growOlder_7 : decode cX0_growOlder 7 = .ok (.if_icmp .ge 32, 3) := by decide +kernel
theorem dX0_growOlder_10 : decode cX0_growOlder 10 = .ok (.aload_n 1, 1) := by decide +kernel
theorem dX0_growOlder_11 : decode cX0_growOlder 11 = .ok (.getfield 111, 3) := by decide +kernel
theorem dX0_growOlder_14 : decode cX0_growOlder 14 = .ok (.iload_n 2, 1) := by decide +kernel
theorem dX0_growOlder_15 : decode cX0_growOlder 15 = .ok (.iconst 0, 1) := by decide +kernel
theorem dX0_growOlder_16 : decode cX0_growOlder 16 = .ok (.aload_n 1, 1) := by decide +kernel
theorem dX0_growOlder_17 : decode cX0_growOlder 17 = .ok (.getfield 111, 3) := by decide +kernel
theorem dX0_growOlder_20 : decode cX0_growOlder 20 = .ok (.iload_n 2, 1) := by decide +kernel
theorem dX0_growOlder_21 : decode cX0_growOlder 21 = .ok (.iaload, 1) := by decide +kernel
theorem dX0_growOlder_22 : decode cX0_growOlder 22 = .ok (.aload_n 0, 1) := by decide +kernel
theorem dX0_growOlder_23 : decode cX0_growOlder 23 = .ok (.getfield 24, 3) := by decide +kernel
theorem dX0_growOlder_26 : decode cX0_growOlder 26 = .ok (.iload_n 2, 1) := by decide +kernel
theorem dX0_growOlder_27 : decode cX0_growOlder 27 = .ok (.iaload, 1) := by decide +kernel
theorem dX0_growOlder_28 : decode cX0_growOlder 28 = .ok (.isub, 1) := by decide +kernel
theorem dX0_growOlder_29 : decode cX0_growOlder 29 = .ok (.invokestatic 108, 3) := by decide +kernel
theorem dX0_growOlder_32 : decode cX0_growOlder 32 = .ok (.iastore, 1) := by decide +kernel
theorem dX0_growOlder_33 : decode cX0_growOlder 33 = .ok (.iinc 2 1, 3) := by decide +kernel
theorem dX0_growOlder_36 : decode cX0_growOlder 36 = .ok (.goto (-34), 3) := by decide +kernel
theorem dX0_growOlder_39 : decode cX0_growOlder 39 = .ok (.iconst 0, 1) := by decide +kernel
theorem dX0_growOlder_40 : decode cX0_growOlder 40 = .ok (.istore_n 2, 1) := by decide +kernel
theorem dX0_growOlder_41 : decode cX0_growOlder 41 = .ok (.iload_n 2, 1) := by decide +kernel
theorem dX0_growOlder_42 : decode cX0_growOlder 42 = .ok (.aload_n 1, 1) := by decide +kernel
theorem dX0_growOlder_43 : decode cX0_growOlder 43 = .ok (.getfield 27, 3) := by decide +kernel
theorem dX0_growOlder_46 : decode cX0_growOlder 46 = .ok (.if_icmp .ge 29, 3) := by decide +kernel
theorem dX0_growOlder_49 : decode cX0_growOlder 49 = .ok (.aload_n 1, 1) := by decide +kernel
theorem dX0_growOlder_50 : decode cX0_growOlder 50 = .ok (.getfield 114, 3) := by decide +kernel
theorem dX0_growOlder_53 : decode cX0_growOlder 53 = .ok (.iload_n 2, 1) := by decide +kernel
theorem dX0_growOlder_54 : decode cX0_growOlder 54 = .ok (.sipush 9999, 3) := by decide +kernel
theorem dX0_growOlder_57 : decode cX0_growOlder 57 = .ok (.aload_n 1, 1) := by decide +kernel
theorem dX0_growOlder_58 : decode cX0_growOlder 58 = .ok (.getfield 114, 3) := by decide +kernel
theorem dX0_growOlder_61 : decode cX0_growOlder 61 = .ok (.iload_n 2, 1) := by decide +kernel
theorem dX0_growOlder_62 : decode cX0_growOlder 62 = .ok (.iaload, 1) := by decide +kernel
theorem dX0_growOlder_63 : decode cX0_growOlder 63 = .ok (.iconst 1, 1) := by decide +kernel
theorem dX0_growOlder_64 : decode cX0_growOlder 64 = .ok (.iadd, 1) := by decide +kernel
theorem dX0_growOlder_65 : decode cX0_growOlder 65 = .ok (.invokestatic 70, 3) := by decide +kernel
theorem dX0_growOlder_68 : decode cX0_growOlder 68 = .ok (.iastore, 1) := by decide +kernel
theorem dX0_growOlder_69 : decode cX0_growOlder 69 = .ok (.iinc 2 1, 3) := by decide +kernel
theorem dX0_growOlder_72 : decode cX0_growOlder 72 = .ok (.goto (-31), 3) := by decide +kernel
theorem dX0_growOlder_75 : decode cX0_growOlder 75 = .ok (.aload_n 1, 1) := by decide +kernel
theorem dX0_growOlder_76 : decode cX0_growOlder 76 = .ok (.dup, 1) := by decide +kernel
theorem dX0_growOlder_77 : decode cX0_growOlder 77 = .ok (.getfield 117, 3) := by decide +kernel
theorem dX0_growOlder_80 : decode cX0_growOlder 80 = .ok (.iconst 1, 1) := by decide +kernel
theorem dX0_growOlder_81 : decode cX0_growOlder 81 = .ok (.iadd, 1) := by decide +kernel
theorem dX0_growOlder_82 : decode cX0_growOlder 82 = .ok (.putfield 117, 3) := by decide +kernel
theorem dX0_growOlder_85 : decode cX0_growOlder 85 = .ok (.return_, 1) := by decide +kernel
theorem dX1_isUnder_0 : decode cX1_isUnder 0 = .ok (.iload_n 0, 1) := by decide +kernel
theorem dX1_isUnder_1 : decode cX1_isUnder 1 = .ok (.istore_n 2, 1) := by decide +kernel
theorem dX1_isUnder_2 : decode cX1_isUnder 2 = .ok (.iconst 0, 1) := by decide +kernel
theorem dX1_isUnder_3 : decode cX1_isUnder 3 = .ok (.istore_n 3, 1) := by decide +kernel
theorem dX1_isUnder_4 : decode cX1_isUnder 4 = .ok (.iload_n 3, 1) := by decide +kernel
theorem dX1_isUnder_5 : decode cX1_isUnder 5 = .ok (.bipush 6, 2) := by decide +kernel
theorem dX1_isUnder_7 : decode cX1_isUnder 7 = .ok (.if_icmp .ge 26, 3) := by decide +kernel
theorem dX1_isUnder_10 : decode cX1_isUnder 10 = .ok (.iload_n 2, 1) := by decide +kernel
theorem dX1_isUnder_11 : decode cX1_isUnder 11 = .ok (.ifCond .lt 22, 3) := by decide +kernel
theorem dX1_isUnder_14 : decode cX1_isUnder 14 = .ok (.iload_n 2, 1) := by decide +kernel
theorem dX1_isUnder_15 : decode cX1_isUnder 15 = .ok (.iload_n 1, 1) := by decide +kernel
theorem dX1_isUnder_16 : decode cX1_isUnder 16 = .ok (.if_icmp .ne 5, 3) := by decide +kernel
theorem dX1_isUnder_19 : decode cX1_isUnder 19 = .ok (.iconst 1, 1) := by decide +kernel
theorem dX1_isUnder_20 : decode cX1_isUnder 20 = .ok (.ireturn, 1) := by decide +kernel
theorem dX1_isUnder_21 : decode cX1_isUnder 21 = .ok (.getstatic 9, 3) := by decide +kernel
theorem dX1_isUnder_24 : decode cX1_isUnder 24 = .ok (.iload_n 2, 1) := by decide +kernel
theorem dX1_isUnder_25 : decode cX1_isUnder 25 = .ok (.iaload, 1) := by decide +kernel
theorem dX1_isUnder_26 : decode cX1_isUnder 26 = .ok (.istore_n 2, 1) := by decide +kernel
theorem dX1_isUnder_27 : decode cX1_isUnder 27 = .ok (.iinc 3 1, 3) := by decide +kernel
theorem dX1_isUnder_30 : decode cX1_isUnder 30 = .ok (.goto (-26), 3) := by decide +kernel
theorem dX1_isUnder_33 : decode cX1_isUnder 33 = .ok (.iconst 0, 1) := by decide +kernel
theorem dX1_isUnder_34 : decode cX1_isUnder 34 = .ok (.ireturn, 1) := by decide +kernel
theorem dX1_fade_0 : decode cX1_fade 0 = .ok (.iconst 0, 1) := by decide +kernel
theorem dX1_fade_1 : decode cX1_fade 1 = .ok (.iload_n 1, 1) := by decide +kernel
theorem dX1_fade_2 : decode cX1_fade 2 = .ok (.iload_n 2, 1) := by decide +kernel
theorem dX1_fade_3 : decode cX1_fade 3 = .ok (.iconst 4, 1) := by decide +kernel
theorem dX1_fade_4 : decode cX1_fade 4 = .ok (.idiv, 1) := by decide +kernel
theorem dX1_fade_5 : decode cX1_fade 5 = .ok (.isub, 1) := by decide +kernel
theorem dX1_fade_6 : decode cX1_fade 6 = .ok (.invokestatic 13, 3) := by decide +kernel
theorem dX1_fade_9 : decode cX1_fade 9 = .ok (.istore_n 3, 1) := by decide +kernel
theorem dX1_fade_10 : decode cX1_fade 10 = .ok (.iload_n 2, 1) := by decide +kernel
theorem dX1_fade_11 : decode cX1_fade 11 = .ok (.sipush 365, 3) := by decide +kernel
theorem dX1_fade_14 : decode cX1_fade 14 = .ok (.if_icmp .ge 7, 3) := by decide +kernel
theorem dX1_fade_17 : decode cX1_fade 17 = .ok (.iload_n 1, 1) := by decide +kernel
theorem dX1_fade_18 : decode cX1_fade 18 = .ok (.goto 4, 3) := by decide +kernel
theorem dX1_fade_21 : decode cX1_fade 21 = .ok (.iconst 0, 1) := by decide +kernel
theorem dX1_fade_22 : decode cX1_fade 22 = .ok (.istore 4, 2) := by decide +kernel
theorem dX1_fade_24 : decode cX1_fade 24 = .ok (.iload_n 0, 1) := by decide +kernel
theorem dX1_fade_25 : decode cX1_fade 25 = .ok (.tableswitch 64 1 5 #[35, 39, 43, 46, 51], 35) := by decide +kernel
theorem dX1_fade_60 : decode cX1_fade 60 = .ok (.iload_n 3, 1) := by decide +kernel
theorem dX1_fade_61 : decode cX1_fade 61 = .ok (.iconst 5, 1) := by decide +kernel
theorem dX1_fade_62 : decode cX1_fade 62 = .ok (.iadd, 1) := by decide +kernel
theorem dX1_fade_63 : decode cX1_fade 63 = .ok (.ireturn, 1) := by decide +kernel
theorem dX1_fade_64 : decode cX1_fade 64 = .ok (.iload_n 3, 1) := by decide +kernel
theorem dX1_fade_65 : decode cX1_fade 65 = .ok (.iconst 2, 1) := by decide +kernel
theorem dX1_fade_66 : decode cX1_fade 66 = .ok (.idiv, 1) := by decide +kernel
theorem dX1_fade_67 : decode cX1_fade 67 = .ok (.ireturn, 1) := by decide +kernel
theorem dX1_fade_68 : decode cX1_fade 68 = .ok (.iload 4, 2) := by decide +kernel
theorem dX1_fade_70 : decode cX1_fade 70 = .ok (.ireturn, 1) := by decide +kernel
theorem dX1_fade_71 : decode cX1_fade 71 = .ok (.iload_n 3, 1) := by decide +kernel
theorem dX1_fade_72 : decode cX1_fade 72 = .ok (.iconst 2, 1) := by decide +kernel
theorem dX1_fade_73 : decode cX1_fade 73 = .ok (.idiv, 1) := by decide +kernel
theorem dX1_fade_74 : decode cX1_fade 74 = .ok (.ineg, 1) := by decide +kernel
theorem dX1_fade_75 : decode cX1_fade 75 = .ok (.ireturn, 1) := by decide +kernel
theorem dX1_fade_76 : decode cX1_fade 76 = .ok (.iload_n 2, 1) := by decide +kernel
theorem dX1_fade_77 : decode cX1_fade 77 = .ok (.bipush 7, 2) := by decide +kernel
theorem dX1_fade_79 : decode cX1_fade 79 = .ok (.if_icmp .ge 8, 3) := by decide +kernel
theorem dX1_fade_82 : decode cX1_fade 82 = .ok (.iload 4, 2) := by decide +kernel
theorem dX1_fade_84 : decode cX1_fade 84 = .ok (.goto 4, 3) := by decide +kernel
theorem dX1_fade_87 : decode cX1_fade 87 = .ok (.iconst 0, 1) := by decide +kernel
theorem dX1_fade_88 : decode cX1_fade 88 = .ok (.ireturn, 1) := by decide +kernel
theorem dX1_fade_89 : decode cX1_fade 89 = .ok (.iload_n 3, 1) := by decide +kernel
theorem dX1_fade_90 : decode cX1_fade 90 = .ok (.ireturn, 1) := by decide +kernel
theorem dX1_scare_0 : decode cX1_scare 0 = .ok (.iconst 0, 1) := by decide +kernel
theorem dX1_scare_1 : decode cX1_scare 1 = .ok (.iload_n 1, 1) := by decide +kernel
theorem dX1_scare_2 : decode cX1_scare 2 = .ok (.iconst 3, 1) := by decide +kernel
theorem dX1_scare_3 : decode cX1_scare 3 = .ok (.iload_n 2, 1) := by decide +kernel
theorem dX1_scare_4 : decode cX1_scare 4 = .ok (.imul, 1) := by decide +kernel
theorem dX1_scare_5 : decode cX1_scare 5 = .ok (.isub, 1) := by decide +kernel
theorem dX1_scare_6 : decode cX1_scare 6 = .ok (.invokestatic 13, 3) := by decide +kernel
theorem dX1_scare_9 : decode cX1_scare 9 = .ok (.istore_n 3, 1) := by decide +kernel
theorem dX1_scare_10 : decode cX1_scare 10 = .ok (.iload_n 0, 1) := by decide +kernel
theorem dX1_scare_11 : decode cX1_scare 11 = .ok (.tableswitch 72 1 5 #[33, 41, 72, 49, 59], 33) := by decide +kernel
theorem dX1_scare_44 : decode cX1_scare 44 = .ok (.iconst 0, 1) := by decide +kernel
theorem dX1_scare_45 : decode cX1_scare 45 = .ok (.iload_n 1, 1) := by decide +kernel
theorem dX1_scare_46 : decode cX1_scare 46 = .ok (.iload_n 2, 1) := by decide +kernel
theorem dX1_scare_47 : decode cX1_scare 47 = .ok (.isub, 1) := by decide +kernel
theorem dX1_scare_48 : decode cX1_scare 48 = .ok (.invokestatic 13, 3) := by decide +kernel
theorem dX1_scare_51 : decode cX1_scare 51 = .ok (.ireturn, 1) := by decide +kernel
theorem dX1_scare_52 : decode cX1_scare 52 = .ok (.iconst 0, 1) := by decide +kernel
theorem dX1_scare_53 : decode cX1_scare 53 = .ok (.iload_n 3, 1) := by decide +kernel
theorem dX1_scare_54 : decode cX1_scare 54 = .ok (.iconst 1, 1) := by decide +kernel
theorem dX1_scare_55 : decode cX1_scare 55 = .ok (.isub, 1) := by decide +kernel
theorem dX1_scare_56 : decode cX1_scare 56 = .ok (.invokestatic 13, 3) := by decide +kernel
theorem dX1_scare_59 : decode cX1_scare 59 = .ok (.ireturn, 1) := by decide +kernel
theorem dX1_scare_60 : decode cX1_scare 60 = .ok (.iconst 0, 1) := by decide +kernel
theorem dX1_scare_61 : decode cX1_scare 61 = .ok (.iload_n 1, 1) := by decide +kernel
theorem dX1_scare_62 : decode cX1_scare 62 = .ok (.iconst 2, 1) := by decide +kernel
theorem dX1_scare_63 : decode cX1_scare 63 = .ok (.iload_n 2, 1) := by decide +kernel
theorem dX1_scare_64 : decode cX1_scare 64 = .ok (.imul, 1) := by decide +kernel
theorem dX1_scare_65 : decode cX1_scare 65 = .ok (.iadd, 1) := by decide +kernel
theorem dX1_scare_66 : decode cX1_scare 66 = .ok (.invokestatic 21, 3) := by decide +kernel
theorem dX1_scare_69 : decode cX1_scare 69 = .ok (.ireturn, 1) := by decide +kernel
theorem dX1_scare_70 : decode cX1_scare 70 = .ok (.iload_n 2, 1) := by decide +kernel
theorem dX1_scare_71 : decode cX1_scare 71 = .ok (.iconst 1, 1) := by decide +kernel
theorem dX1_scare_72 : decode cX1_scare 72 = .ok (.if_icmp .gt 9, 3) := by decide +kernel
theorem dX1_scare_75 : decode cX1_scare 75 = .ok (.iconst 2, 1) := by decide +kernel
theorem dX1_scare_76 : decode cX1_scare 76 = .ok (.iload_n 3, 1) := by decide +kernel
theorem dX1_scare_77 : decode cX1_scare 77 = .ok (.imul, 1) := by decide +kernel
theorem dX1_scare_78 : decode cX1_scare 78 = .ok (.goto 4, 3) := by decide +kernel
theorem dX1_scare_81 : decode cX1_scare 81 = .ok (.iload_n 3, 1) := by decide +kernel
theorem dX1_scare_82 : decode cX1_scare 82 = .ok (.ireturn, 1) := by decide +kernel
theorem dX1_scare_83 : decode cX1_scare 83 = .ok (.iload_n 3, 1) := by decide +kernel
theorem dX1_scare_84 : decode cX1_scare 84 = .ok (.ireturn, 1) := by decide +kernel
theorem dX2_init_0 : decode cX2_init 0 = .ok (.aload_n 0, 1) := by decide +kernel
theorem dX2_init_1 : decode cX2_init 1 = .ok (.invokespecial 3, 3) := by decide +kernel
theorem dX2_init_4 : decode cX2_init 4 = .ok (.aload_n 0, 1) := by decide +kernel
theorem dX2_init_5 : decode cX2_init 5 = .ok (.bipush 48, 2) := by decide +kernel
theorem dX2_init_7 : decode cX2_init 7 = .ok (.newarray .int, 2) := by decide +kernel
theorem dX2_init_9 : decode cX2_init 9 = .ok (.putfield 9, 3) := by decide +kernel
theorem dX2_init_12 : decode cX2_init 12 = .ok (.aload_n 0, 1) := by decide +kernel
theorem dX2_init_13 : decode cX2_init 13 = .ok (.iconst 3, 1) := by decide +kernel
theorem dX2_init_14 : decode cX2_init 14 = .ok (.putfield 15, 3) := by decide +kernel
theorem dX2_init_17 : decode cX2_init 17 = .ok (.aload_n 0, 1) := by decide +kernel
theorem dX2_init_18 : decode cX2_init 18 = .ok (.bipush 6, 2) := by decide +kernel
theorem dX2_init_20 : decode cX2_init 20 = .ok (.newarray .int, 2) := by decide +kernel
theorem dX2_init_22 : decode cX2_init 22 = .ok (.putfield 19, 3) := by decide +kernel
theorem dX2_init_25 : decode cX2_init 25 = .ok (.aload_n 0, 1) := by decide +kernel
theorem dX2_init_26 : decode cX2_init 26 = .ok (.bipush 6, 2) := by decide +kernel
theorem dX2_init_28 : decode cX2_init 28 = .ok (.newarray .int, 2) := by decide +kernel
theorem dX2_init_30 : decode cX2_init 30 = .ok (.putfield 22, 3) := by decide +kernel
theorem dX2_init_33 : decode cX2_init 33 = .ok (.aload_n 0, 1) := by decide +kernel
theorem dX2_init_34 : decode cX2_init 34 = .ok (.bipush 6, 2) := by decide +kernel
theorem dX2_init_36 : decode cX2_init 36 = .ok (.newarray .int, 2) := by decide +kernel
theorem dX2_init_38 : decode cX2_init 38 = .ok (.putfield 25, 3) := by decide +kernel
theorem dX2_init_41 : decode cX2_init 41 = .ok (.aload_n 0, 1) := by decide +kernel
theorem dX2_init_42 : decode cX2_init 42 = .ok (.bipush 6, 2) := by decide +kernel
theorem dX2_init_44 : decode cX2_init 44 = .ok (.newarray .int, 2) := by decide +kernel
theorem dX2_init_46 : decode cX2_init 46 = .ok (.putfield 28, 3) := by decide +kernel
theorem dX2_init_49 : decode cX2_init 49 = .ok (.aload_n 0, 1) := by decide +kernel
theorem dX2_init_50 : decode cX2_init 50 = .ok (.bipush 8, 2) := by decide +kernel
theorem dX2_init_52 : decode cX2_init 52 = .ok (.newarray .int, 2) := by decide +kernel
theorem dX2_init_54 : decode cX2_init 54 = .ok (.putfield 31, 3) := by decide +kernel
theorem dX2_init_57 : decode cX2_init 57 = .ok (.aload_n 0, 1) := by decide +kernel
theorem dX2_init_58 : decode cX2_init 58 = .ok (.bipush 8, 2) := by decide +kernel
theorem dX2_init_60 : decode cX2_init 60 = .ok (.newarray .int, 2) := by decide +kernel
theorem dX2_init_62 : decode cX2_init 62 = .ok (.putfield 34, 3) := by decide +kernel
theorem dX2_init_65 : decode cX2_init 65 = .ok (.aload_n 0, 1) := by decide +kernel
theorem dX2_init_66 : decode cX2_init 66 = .ok (.bipush 8, 2) := by decide +kernel
theorem dX2_init_68 : decode cX2_init 68 = .ok (.newarray .int, 2) := by decide +kernel
theorem dX2_init_70 : decode cX2_init 70 = .ok (.putfield 37, 3) := by decide +kernel
theorem dX2_init_73 : decode cX2_init 73 = .ok (.aload_n 0, 1) := by decide +kernel
theorem dX2_init_74 : decode cX2_init 74 = .ok (.getfield 9, 3) := by decide +kernel
theorem dX2_init_77 : decode cX2_init 77 = .ok (.bipush 10, 2) := by decide +kernel
theorem dX2_init_79 : decode cX2_init 79 = .ok (.invokestatic 40, 3) := by decide +kernel
theorem dX2_init_82 : decode cX2_init 82 = .ok (.return_, 1) := by decide +kernel
theorem dX2_become_0 : decode cX2_become 0 = .ok (.aload_n 1, 1) := by decide +kernel
theorem dX2_become_1 : decode cX2_become 1 = .ok (.getfield 9, 3) := by decide +kernel
theorem dX2_become_4 : decode cX2_become 4 = .ok (.iconst 0, 1) := by decide +kernel
theorem dX2_become_5 : decode cX2_become 5 = .ok (.aload_n 0, 1) := by decide +kernel
theorem dX2_become_6 : decode cX2_become 6 = .ok (.getfield 9, 3) := by decide +kernel
theorem dX2_become_9 : decode cX2_become 9 = .ok (.iconst 0, 1) := by decide +kernel
theorem dX2_become_10 : decode cX2_become 10 = .ok (.bipush 48, 2) := by decide +kernel
theorem dX2_become_12 : decode cX2_become 12 = .ok (.invokestatic 46, 3) := by decide +kernel
theorem dX2_become_15 : decode cX2_become 15 = .ok (.aload_n 0, 1) := by decide +kernel
theorem dX2_become_16 : decode cX2_become 16 = .ok (.aload_n 1, 1) := by decide +kernel
theorem dX2_become_17 : decode cX2_become 17 = .ok (.getfield 15, 3) := by decide +kernel
theorem dX2_become_20 : decode cX2_become 20 = .ok (.putfield 15, 3) := by decide +kernel
theorem dX2_become_23 : decode cX2_become 23 = .ok (.aload_n 0, 1) := by decide +kernel
theorem dX2_become_24 : decode cX2_become 24 = .ok (.aload_n 1, 1) := by decide +kernel
theorem dX2_become_25 : decode cX2_become 25 = .ok (.getfield 52, 3) := by decide +kernel
theorem dX2_become_28 : decode cX2_become 28 = .ok (.putfield 52, 3) := by decide +kernel
theorem dX2_become_31 : decode cX2_become 31 = .ok (.aload_n 0, 1) := by decide +kernel
theorem dX2_become_32 : decode cX2_become 32 = .ok (.aload_n 1, 1) := by decide +kernel
theorem dX2_become_33 : decode cX2_become 33 = .ok (.getfield 55, 3) := by decide +kernel
theorem dX2_become_36 : decode cX2_become 36 = .ok (.putfield 55, 3) := by decide +kernel
theorem dX2_become_39 : decode cX2_become 39 = .ok (.aload_n 1, 1) := by decide +kernel
theorem dX2_become_40 : decode cX2_become 40 = .ok (.getfield 19, 3) := by decide +kernel
theorem dX2_become_43 : decode cX2_become 43 = .ok (.iconst 0, 1) := by decide +kernel
theorem dX2_become_44 : decode cX2_become 44 = .ok (.aload_n 0, 1) := by decide +kernel
theorem dX2_become_45 : decode cX2_become 45 = .ok (.getfield 19, 3) := by decide +kernel
theorem dX2_become_48 : decode cX2_become 48 = .ok (.iconst 0, 1) := by decide +kernel
theorem dX2_become_49 : decode cX2_become 49 = .ok (.aload_n 0, 1) := by decide +kernel
theorem dX2_become_50 : decode cX2_become 50 = .ok (.getfield 55, 3) := by decide +kernel
theorem dX2_become_53 : decode cX2_become 53 = .ok (.invokestatic 46, 3) := by decide +kernel
theorem dX2_become_56 : decode cX2_become 56 = .ok (.aload_n 1, 1) := by decide +kernel
theorem dX2_become_57 : decode cX2_become 57 = .ok (.getfield 22, 3) := by decide +kernel
theorem dX2_become_60 : decode cX2_become 60 = .ok (.iconst 0, 1) := by decide +kernel
theorem dX2_become_61 : decode cX2_become 61 = .ok (.aload_n 0, 1) := by decide +kernel
theorem dX2_become_62 : decode cX2_become 62 = .ok (.getfield 22, 3) := by decide +kernel
theorem dX2_become_65 : decode cX2_become 65 = .ok (.iconst 0, 1) := by decide +kernel
theorem dX2_become_66 : decode cX2_become 66 = .ok (.aload_n 0, 1) := by decide +kernel
theorem dX2_become_67 : decode cX2_become 67 = .ok (.getfield 55, 3) := by decide +kernel
theorem dX2_become_70 : decode cX2_become 70 = .ok (.invokestatic 46, 3) := by decide +kernel
theorem dX2_become_73 : decode cX2_become 73 = .ok (.aload_n 1, 1) := by decide +kernel
theorem dX2_become_74 : decode cX2_become 74 = .ok (.getfield 25, 3) := by decide +kernel
theorem dX2_become_77 : decode cX2_become 77 = .ok (.iconst 0, 1) := by decide +kernel
theorem dX2_become_78 : decode cX2_become 78 = .ok (.aload_n 0, 1) := by decide +kernel
theorem dX2_become_79 : decode cX2_become 79 = .ok (.getfield 25, 3) := by decide +kernel
theorem dX2_become_82 : decode cX2_become 82 = .ok (.iconst 0, 1) := by decide +kernel
theorem dX2_become_83 : decode cX2_become 83 = .ok (.aload_n 0, 1) := by decide +kernel
theorem dX2_become_84 : decode cX2_become 84 = .ok (.getfield 55, 3) := by decide +kernel
theorem dX2_become_87 : decode cX2_become 87 = .ok (.invokestatic 46, 3) := by decide +kernel
theorem dX2_become_90 : decode cX2_become 90 = .ok (.aload_n 1, 1) := by decide +kernel
theorem dX2_become_91 : decode cX2_become 91 = .ok (.getfield 28, 3) := by decide +kernel
theorem dX2_become_94 : decode cX2_become 94 = .ok (.iconst 0, 1) := by decide +kernel
theorem dX2_become_95 : decode cX2_become 95 = .ok (.aload_n 0, 1) := by decide +kernel
theorem dX2_become_96 : decode cX2_become 96 = .ok (.getfield 28, 3) := by decide +kernel
theorem dX2_become_99 : decode cX2_become 99 = .ok (.iconst 0, 1) := by decide +kernel
theorem dX2_become_100 : decode cX2_become 100 = .ok (.aload_n 0, 1) := by decide +kernel
theorem dX2_become_101 : decode cX2_become 101 = .ok (.getfield 55, 3) := by decide +kernel
theorem dX2_become_104 : decode cX2_become 104 = .ok (.invokestatic 46, 3) := by decide +kernel
theorem dX2_become_107 : decode cX2_become 107 = .ok (.aload_n 0, 1) := by decide +kernel
theorem dX2_become_108 : decode cX2_become 108 = .ok (.aload_n 1, 1) := by decide +kernel
theorem dX2_become_109 : decode cX2_become 109 = .ok (.getfield 58, 3) := by decide +kernel
theorem dX2_become_112 : decode cX2_become 112 = .ok (.putfield 58, 3) := by decide +kernel
theorem dX2_become_115 : decode cX2_become 115 = .ok (.aload_n 1, 1) := by decide +kernel
theorem dX2_become_116 : decode cX2_become 116 = .ok (.getfield 31, 3) := by decide +kernel
theorem dX2_become_119 : decode cX2_become 119 = .ok (.iconst 0, 1) := by decide +kernel
theorem dX2_become_120 : decode cX2_become 120 = .ok (.aload_n 0, 1) := by decide +kernel
theorem dX2_become_121 : decode cX2_become 121 = .ok (.getfield 31, 3) := by decide +kernel
theorem dX2_become_124 : decode cX2_become 124 = .ok (.iconst 0, 1) := by decide +kernel
theorem dX2_become_125 : decode cX2_become 125 = .ok (.aload_n 0, 1) := by decide +kernel
theorem dX2_become_126 : decode cX2_become 126 = .ok (.getfield 58, 3) := by decide +kernel
theorem dX2_become_129 : decode cX2_become 129 = .ok (.invokestatic 46, 3) := by decide +kernel
theorem dX2_become_132 : decode cX2_become 132 = .ok (.aload_n 1, 1) := by decide +kernel
theorem dX2_become_133 : decode cX2_become 133 = .ok (.getfield 34, 3) := by decide +kernel
theorem dX2_become_136 : decode cX2_become 136 = .ok (.iconst 0, 1) := by decide +kernel
theorem dX2_become_137 : decode cX2_become 137 = .ok (.aload_n 0, 1) := by decide +kernel
theorem dX2_become_138 : decode cX2_become 138 = .ok (.getfield 34, 3) := by decide +kernel
theorem dX2_become_141 : decode cX2_become 141 = .ok (.iconst 0, 1) := by decide +kernel
theorem dX2_become_142 : decode cX2_become 142 = .ok (.aload_n 0, 1) := by decide +kernel
theorem dX2_become_143 : decode cX2_become 143 = .ok (.getfield 58, 3) := by decide +kernel
theorem dX2_become_146 : decode cX2_become 146 = .ok (.invokestatic 46, 3) := by decide +kernel
theorem dX2_become_149 : decode cX2_become 149 = .ok (.aload_n 1, 1) := by decide +kernel
theorem dX2_become_150 : decode cX2_become 150 = .ok (.getfield 37, 3) := by decide +kernel
theorem dX2_become_153 : decode cX2_become 153 = .ok (.iconst 0, 1) := by decide +kernel
theorem dX2_become_154 : decode cX2_become 154 = .ok (.aload_n 0, 1) := by decide +kernel
theorem dX2_become_155 : decode cX2_become 155 = .ok (.getfield 37, 3) := by decide +kernel
theorem dX2_become_158 : decode cX2_become 158 = .ok (.iconst 0, 1) := by decide +kernel
theorem dX2_become_159 : decode cX2_become 159 = .ok (.aload_n 0, 1) := by decide +kernel
theorem dX2_become_160 : decode cX2_become 160 = .ok (.getfield 58, 3) := by decide +kernel
theorem dX2_become_163 : decode cX2_become 163 = .ok (.invokestatic 46, 3) := by decide +kernel
theorem dX2_become_166 : decode cX2_become 166 = .ok (.return_, 1) := by decide +kernel
theorem dX2_addSitter_0 : decode cX2_addSitter 0 = .ok (.aload_n 0, 1) := by decide +kernel
theorem dX2_addSitter_1 : decode cX2_addSitter 1 = .ok (.getfield 19, 3) := by decide +kernel
theorem dX2_addSitter_4 : decode cX2_addSitter 4 = .ok (.aload_n 0, 1) := by decide +kernel
theorem dX2_addSitter_5 : decode cX2_addSitter 5 = .ok (.getfield 55, 3) := by decide +kernel
theorem dX2_addSitter_8 : decode cX2_addSitter 8 = .ok (.iload_n 1, 1) := by decide +kernel
theorem dX2_addSitter_9 : decode cX2_addSitter 9 = .ok (.iastore, 1) := by decide +kernel
theorem dX2_addSitter_10 : decode cX2_addSitter 10 = .ok (.aload_n 0, 1) := by decide +kernel
theorem dX2_addSitter_11 : decode cX2_addSitter 11 = .ok (.getfield 22, 3) := by decide +kernel
theorem dX2_addSitter_14 : decode cX2_addSitter 14 = .ok (.aload_n 0, 1) := by decide +kernel
theorem dX2_addSitter_15 : decode cX2_addSitter 15 = .ok (.getfield 55, 3) := by decide +kernel
theorem dX2_addSitter_18 : decode cX2_addSitter 18 = .ok (.bipush 10, 2) := by decide +kernel
theorem dX2_addSitter_20 : decode cX2_addSitter 20 = .ok (.iastore, 1) := by decide +kernel
theorem dX2_addSitter_21 : decode cX2_addSitter 21 = .ok (.aload_n 0, 1) := by decide +kernel
theorem dX2_addSitter_22 : decode cX2_addSitter 22 = .ok (.getfield 25, 3) := by decide +kernel
theorem dX2_addSitter_25 : decode cX2_addSitter 25 = .ok (.aload_n 0, 1) := by decide +kernel
theorem dX2_addSitter_26 : decode cX2_addSitter 26 = .ok (.getfield 55, 3) := by decide +kernel
theorem dX2_addSitter_29 : decode cX2_addSitter 29 = .ok (.iconst 5, 1) := by decide +kernel
theorem dX2_addSitter_30 : decode cX2_addSitter 30 = .ok (.iastore, 1) := by decide +kernel
theorem dX2_addSitter_31 : decode cX2_addSitter 31 = .ok (.aload_n 0, 1) := by decide +kernel
theorem dX2_addSitter_32 : decode cX2_addSitter 32 = .ok (.getfield 28, 3) := by decide +kernel
theorem dX2_addSitter_35 : decode cX2_addSitter 35 = .ok (.aload_n 0, 1) := by decide +kernel
theorem dX2_addSitter_36 : decode cX2_addSitter 36 = .ok (.getfield 55, 3) := by decide +kernel
theorem dX2_addSitter_39 : decode cX2_addSitter 39 = .ok (.aload_n 0, 1) := by decide +kernel
theorem dX2_addSitter_40 : decode cX2_addSitter 40 = .ok (.getfield 52, 3) := by decide +kernel
theorem dX2_addSitter_43 : decode cX2_addSitter 43 = .ok (.iastore, 1) := by decide +kernel
theorem dX2_addSitter_44 : decode cX2_addSitter 44 = .ok (.aload_n 0, 1) := by decide +kernel
theorem dX2_addSitter_45 : decode cX2_addSitter 45 = .ok (.dup, 1) := by decide +kernel
theorem dX2_addSitter_46 : decode cX2_addSitter 46 = .ok (.getfield 55, 3) := by decide +kernel
theorem dX2_addSitter_49 : decode cX2_addSitter 49 = .ok (.iconst 1, 1) := by decide +kernel
theorem dX2_addSitter_50 : decode cX2_addSitter 50 = .ok (.iadd, 1) := by decide +kernel
theorem dX2_addSitter_51 : decode cX2_addSitter 51 = .ok (.putfield 55, 3) := by decide +kernel
theorem dX2_addSitter_54 : decode cX2_addSitter 54 = .ok (.aload_n 0, 1) := by decide +kernel
theorem dX2_addSitter_55 : decode cX2_addSitter 55 = .ok (.getfield 55, 3) := by decide +kernel
theorem dX2_addSitter_58 : decode cX2_addSitter 58 = .ok (.iconst 1, 1) := by decide +kernel
theorem dX2_addSitter_59 : decode cX2_addSitter 59 = .ok (.isub, 1) := by decide +kernel
theorem dX2_addSitter_60 : decode cX2_addSitter 60 = .ok (.ireturn, 1) := by decide +kernel
theorem dX2_addLikeness_0 : decode cX2_addLikeness 0 = .ok (.aload_n 0, 1) := by decide +kernel
theorem dX2_addLikeness_1 : decode cX2_addLikeness 1 = .ok (.getfield 31, 3) := by decide +kernel
theorem dX2_addLikeness_4 : decode cX2_addLikeness 4 = .ok (.aload_n 0, 1) := by decide +kernel
theorem dX2_addLikeness_5 : decode cX2_addLikeness 5 = .ok (.getfield 58, 3) := by decide +kernel
theorem dX2_addLikeness_8 : decode cX2_addLikeness 8 = .ok (.iload_n 2, 1) := by decide +kernel
theorem dX2_addLikeness_9 : decode cX2_addLikeness 9 = .ok (.iastore, 1) := by decide +kernel
theorem dX2_addLikeness_10 : decode cX2_addLikeness 10 = .ok (.aload_n 0, 1) := by decide +kernel
theorem dX2_addLikeness_11 : decode cX2_addLikeness 11 = .ok (.getfield 34, 3) := by decide +kernel
theorem dX2_addLikeness_14 : decode cX2_addLikeness 14 = .ok (.aload_n 0, 1) := by decide +kernel
theorem dX2_addLikeness_15 : decode cX2_addLikeness 15 = .ok (.getfield 58, 3) := by decide +kernel
theorem dX2_addLikeness_18 : decode cX2_addLikeness 18 = .ok (.iload_n 1, 1) := by decide +kernel
theorem dX2_addLikeness_19 : decode cX2_addLikeness 19 = .ok (.iastore, 1) := by decide +kernel
theorem dX2_addLikeness_20 : decode cX2_addLikeness 20 = .ok (.aload_n 0, 1) := by decide +kernel
theorem dX2_addLikeness_21 : decode cX2_addLikeness 21 = .ok (.getfield 37, 3) := by decide +kernel
theorem dX2_addLikeness_24 : decode cX2_addLikeness 24 = .ok (.aload_n 0, 1) := by decide +kernel
theorem dX2_addLikeness_25 : decode cX2_addLikeness 25 = .ok (.getfield 58, 3) := by decide +kernel
theorem dX2_addLikeness_28 : decode cX2_addLikeness 28 = .ok (.iconst 0, 1) := by decide +kernel
theorem dX2_addLikeness_29 : decode cX2_addLikeness 29 = .ok (.iastore, 1) := by decide +kernel
theorem dX2_addLikeness_30 : decode cX2_addLikeness 30 = .ok (.aload_n 0, 1) := by decide +kernel
theorem dX2_addLikeness_31 : decode cX2_addLikeness 31 = .ok (.dup, 1) := by decide +kernel
theorem dX2_addLikeness_32 : decode cX2_addLikeness 32 = .ok (.getfield 58, 3) := by decide +kernel
theorem dX2_addLikeness_35 : decode cX2_addLikeness 35 = .ok (.iconst 1, 1) := by decide +kernel
theorem dX2_addLikeness_36 : decode cX2_addLikeness 36 = .ok (.iadd, 1) := by decide +kernel
theorem dX2_addLikeness_37 : decode cX2_addLikeness 37 = .ok (.putfield 58, 3) := by decide +kernel
theorem dX2_addLikeness_40 : decode cX2_addLikeness 40 = .ok (.aload_n 0, 1) := by decide +kernel
theorem dX2_addLikeness_41 : decode cX2_addLikeness 41 = .ok (.getfield 58, 3) := by decide +kernel
theorem dX2_addLikeness_44 : decode cX2_addLikeness 44 = .ok (.iconst 1, 1) := by decide +kernel
theorem dX2_addLikeness_45 : decode cX2_addLikeness 45 = .ok (.isub, 1) := by decide +kernel
theorem dX2_addLikeness_46 : decode cX2_addLikeness 46 = .ok (.ireturn, 1) := by decide +kernel
theorem dX2_keepOnly_0 : decode cX2_keepOnly 0 = .ok (.iconst 0, 1) := by decide +kernel
theorem dX2_keepOnly_1 : decode cX2_keepOnly 1 = .ok (.istore_n 2, 1) := by decide +kernel
theorem dX2_keepOnly_2 : decode cX2_keepOnly 2 = .ok (.iconst 0, 1) := by decide +kernel
theorem dX2_keepOnly_3 : decode cX2_keepOnly 3 = .ok (.istore_n 3, 1) := by decide +kernel
theorem dX2_keepOnly_4 : decode cX2_keepOnly 4 = .ok (.iload_n 3, 1) := by decide +kernel
theorem dX2_keepOnly_5 : decode cX2_keepOnly 5 = .ok (.aload_n 0, 1) := by decide +kernel
theorem dX2_keepOnly_6 : decode cX2_keepOnly 6 = .ok (.getfield 58, 3) := by decide +kernel
theorem dX2_keepOnly_9 : decode cX2_keepOnly 9 = .ok (.if_icmp .ge 57, 3) := by decide +kernel
theorem dX2_keepOnly_12 : decode cX2_keepOnly 12 = .ok (.iload_n 1, 1) := by decide +kernel
theorem dX2_keepOnly_13 : decode cX2_keepOnly 13 = .ok (.iload_n 3, 1) := by decide +kernel
theorem dX2_keepOnly_14 : decode cX2_keepOnly 14 = .ok (.ishr, 1) := by decide +kernel
theorem dX2_keepOnly_15 : decode cX2_keepOnly 15 = .ok (.iconst 1, 1) := by decide +kernel
theorem dX2_keepOnly_16 : decode cX2_keepOnly 16 = .ok (.iand, 1) := by decide +kernel
theorem dX2_keepOnly_17 : decode cX2_keepOnly 17 = .ok (.iconst 1, 1) := by decide +kernel
theorem dX2_keepOnly_18 : decode cX2_keepOnly 18 = .ok (.if_icmp .ne 42, 3) := by decide +kernel
theorem dX2_keepOnly_21 : decode cX2_keepOnly 21 = .ok (.aload_n 0, 1) := by decide +kernel
theorem dX2_keepOnly_22 : decode cX2_keepOnly 22 = .ok (.getfield 31, 3) := by decide +kernel
theorem dX2_keepOnly_25 : decode cX2_keepOnly 25 = .ok (.iload_n 2, 1) := by decide +kernel
theorem dX2_keepOnly_26 : decode cX2_keepOnly 26 = .ok (.aload_n 0, 1) := by decide +kernel
theorem dX2_keepOnly_27 : decode cX2_keepOnly 27 = .ok (.getfield 31, 3) := by decide +kernel
theorem dX2_keepOnly_30 : decode cX2_keepOnly 30 = .ok (.iload_n 3, 1) := by decide +kernel
theorem dX2_keepOnly_31 : decode cX2_keepOnly 31 = .ok (.iaload, 1) := by decide +kernel
theorem dX2_keepOnly_32 : decode cX2_keepOnly 32 = .ok (.iastore, 1) := by decide +kernel
theorem dX2_keepOnly_33 : decode cX2_keepOnly 33 = .ok (.aload_n 0, 1) := by decide +kernel
theorem dX2_keepOnly_34 : decode cX2_keepOnly 34 = .ok (.getfield 34, 3) := by decide +kernel
theorem dX2_keepOnly_37 : decode cX2_keepOnly 37 = .ok (.iload_n 2, 1) := by decide +kernel
theorem dX2_keepOnly_38 : decode cX2_keepOnly 38 = .ok (.aload_n 0, 1) := by decide +kernel
theorem dX2_keepOnly_39 : decode cX2_keepOnly 39 = .ok (.getfield 34, 3) := by decide +kernel
theorem dX2_keepOnly_42 : decode cX2_keepOnly 42 = .ok (.iload_n 3, 1) := by decide +kernel
theorem dX2_keepOnly_43 : decode cX2_keepOnly 43 = .ok (.iaload, 1) := by decide +kernel
theorem dX2_keepOnly_44 : decode cX2_keepOnly 44 = .ok (.iastore, 1) := by decide +kernel
theorem dX2_keepOnly_45 : decode cX2_keepOnly 45 = .ok (.aload_n 0, 1) := by decide +kernel
theorem dX2_keepOnly_46 : decode cX2_keepOnly 46 = .ok (.getfield 37, 3) := by decide +kernel
theorem dX2_keepOnly_49 : decode cX2_keepOnly 49 = .ok (.iload_n 2, 1) := by decide +kernel
theorem dX2_keepOnly_50 : decode cX2_keepOnly 50 = .ok (.aload_n 0, 1) := by decide +kernel
theorem dX2_keepOnly_51 : decode cX2_keepOnly 51 = .ok (.getfield 37, 3) := by decide +kernel
theorem dX2_keepOnly_54 : decode cX2_keepOnly 54 = .ok (.iload_n 3, 1) := by decide +kernel
theorem dX2_keepOnly_55 : decode cX2_keepOnly 55 = .ok (.iaload, 1) := by decide +kernel
theorem dX2_keepOnly_56 : decode cX2_keepOnly 56 = .ok (.iastore, 1) := by decide +kernel
theorem dX2_keepOnly_57 : decode cX2_keepOnly 57 = .ok (.iinc 2 1, 3) := by decide +kernel
theorem dX2_keepOnly_60 : decode cX2_keepOnly 60 = .ok (.iinc 3 1, 3) := by decide +kernel
theorem dX2_keepOnly_63 : decode cX2_keepOnly 63 = .ok (.goto (-59), 3) := by decide +kernel
theorem dX2_keepOnly_66 : decode cX2_keepOnly 66 = .ok (.aload_n 0, 1) := by decide +kernel
theorem dX2_keepOnly_67 : decode cX2_keepOnly 67 = .ok (.iload_n 2, 1) := by decide +kernel
theorem dX2_keepOnly_68 : decode cX2_keepOnly 68 = .ok (.putfield 58, 3) := by decide +kernel
theorem dX2_keepOnly_71 : decode cX2_keepOnly 71 = .ok (.return_, 1) := by decide +kernel
theorem dX2_allLikenesses_0 : decode cX2_allLikenesses 0 = .ok (.iconst 1, 1) := by decide +kernel
theorem dX2_allLikenesses_1 : decode cX2_allLikenesses 1 = .ok (.aload_n 0, 1) := by decide +kernel
theorem dX2_allLikenesses_2 : decode cX2_allLikenesses 2 = .ok (.getfield 58, 3) := by decide +kernel
theorem dX2_allLikenesses_5 : decode cX2_allLikenesses 5 = .ok (.ishl, 1) := by decide +kernel
theorem dX2_allLikenesses_6 : decode cX2_allLikenesses 6 = .ok (.iconst 1, 1) := by decide +kernel
theorem dX2_allLikenesses_7 : decode cX2_allLikenesses 7 = .ok (.isub, 1) := by decide +kernel
theorem dX2_allLikenesses_8 : decode cX2_allLikenesses 8 = .ok (.ireturn, 1) := by decide +kernel
theorem dX2_likenessesAt_0 : decode cX2_likenessesAt 0 = .ok (.aload_n 0, 1) := by decide +kernel
theorem dX2_likenessesAt_1 : decode cX2_likenessesAt 1 = .ok (.iload_n 1, 1) := by decide +kernel
theorem dX2_likenessesAt_2 : decode cX2_likenessesAt 2 = .ok (.aload_n 0, 1) := by decide +kernel
theorem dX2_likenessesAt_3 : decode cX2_likenessesAt 3 = .ok (.getfield 31, 3) := by decide +kernel
theorem dX2_likenessesAt_6 : decode cX2_likenessesAt 6 = .ok (.invokevirtual 61, 3) := by decide +kernel
theorem dX2_likenessesAt_9 : decode cX2_likenessesAt 9 = .ok (.ireturn, 1) := by decide +kernel
theorem dX2_likenessesOf_0 : decode cX2_likenessesOf 0 = .ok (.aload_n 0, 1) := by decide +kernel
theorem dX2_likenessesOf_1 : decode cX2_likenessesOf 1 = .ok (.iload_n 1, 1) := by decide +kernel
theorem dX2_likenessesOf_2 : decode cX2_likenessesOf 2 = .ok (.aload_n 0, 1) := by decide +kernel
theorem dX2_likenessesOf_3 : decode cX2_likenessesOf 3 = .ok (.getfield 34, 3) := by decide +kernel
theorem dX2_likenessesOf_6 : decode cX2_likenessesOf 6 = .ok (.invokevirtual 61, 3) := by decide +kernel
theorem dX2_likenessesOf_9 : decode cX2_likenessesOf 9 = .ok (.ireturn, 1) := by decide +kernel
theorem dX2_placesOf_0 : decode cX2_placesOf 0 = .ok (.iconst 0, 1) := by decide +kernel
theorem dX2_placesOf_1 : decode cX2_placesOf 1 = .ok (.istore_n 3, 1) := by decide +kernel
theorem dX2_placesOf_2 : decode cX2_placesOf 2 = .ok (.iconst 0, 1) := by decide +kernel
theorem dX2_placesOf_3 : decode cX2_placesOf 3 = .ok (.istore 4, 2) := by decide +kernel
theorem dX2_placesOf_5 : decode cX2_placesOf 5 = .ok (.iload 4, 2) := by decide +kernel
theorem dX2_placesOf_7 : decode cX2_placesOf 7 = .ok (.aload_n 0, 1) := by decide +kernel
theorem dX2_placesOf_8 : decode cX2_placesOf 8 = .ok (.getfield 58, 3) := by decide +kernel
theorem dX2_placesOf_11 : decode cX2_placesOf 11 = .ok (.if_icmp .ge 24, 3) := by decide +kernel
theorem dX2_placesOf_14 : decode cX2_placesOf 14 = .ok (.aload_n 2, 1) := by decide +kernel
theorem dX2_placesOf_15 : decode cX2_placesOf 15 = .ok (.iload 4, 2) := by decide +kernel
theorem dX2_placesOf_17 : decode cX2_placesOf 17 = .ok (.iaload, 1) := by decide +kernel
theorem dX2_placesOf_18 : decode cX2_placesOf 18 = .ok (.iload_n 1, 1) := by decide +kernel
theorem dX2_placesOf_19 : decode cX2_placesOf 19 = .ok (.if_icmp .ne 10, 3) := by decide +kernel
theorem dX2_placesOf_22 : decode cX2_placesOf 22 = .ok (.iload_n 3, 1) := by decide +kernel
theorem dX2_placesOf_23 : decode cX2_placesOf 23 = .ok (.iconst 1, 1) := by decide +kernel
theorem dX2_placesOf_24 : decode cX2_placesOf 24 = .ok (.iload 4, 2) := by decide +kernel
theorem dX2_placesOf_26 : decode cX2_placesOf 26 = .ok (.ishl, 1) := by decide +kernel
theorem dX2_placesOf_27 : decode cX2_placesOf 27 = .ok (.ior, 1) := by decide +kernel
theorem dX2_placesOf_28 : decode cX2_placesOf 28 = .ok (.istore_n 3, 1) := by decide +kernel
theorem dX2_placesOf_29 : decode cX2_placesOf 29 = .ok (.iinc 4 1, 3) := by decide +kernel
theorem dX2_placesOf_32 : decode cX2_placesOf 32 = .ok (.goto (-27), 3) := by decide +kernel
theorem dX2_placesOf_35 : decode cX2_placesOf 35 = .ok (.iload_n 3, 1) := by decide +kernel
theorem dX2_placesOf_36 : decode cX2_placesOf 36 = .ok (.ireturn, 1) := by decide +kernel
theorem dX2_meetings_0 : decode cX2_meetings 0 = .ok (.iconst 0, 1) := by decide +kernel
theorem dX2_meetings_1 : decode cX2_meetings 1 = .ok (.istore_n 2, 1) := by decide +kernel
theorem dX2_meetings_2 : decode cX2_meetings 2 = .ok (.iconst 0, 1) := by decide +kernel
theorem dX2_meetings_3 : decode cX2_meetings 3 = .ok (.istore_n 3, 1) := by decide +kernel
theorem dX2_meetings_4 : decode cX2_meetings 4 = .ok (.iload_n 3, 1) := by decide +kernel
theorem dX2_meetings_5 : decode cX2_meetings 5 = .ok (.aload_n 0, 1) := by decide +kernel
theorem dX2_meetings_6 : decode cX2_meetings 6 = .ok (.getfield 58, 3) := by decide +kernel
theorem dX2_meetings_9 : decode cX2_meetings 9 = .ok (.if_icmp .ge 63, 3) := by decide +kernel
theorem dX2_meetings_12 : decode cX2_meetings 12 = .ok (.iload_n 3, 1) := by decide +kernel
theorem dX2_meetings_13 : decode cX2_meetings 13 = .ok (.iconst 1, 1) := by decide +kernel
theorem dX2_meetings_14 : decode cX2_meetings 14 = .ok (.iadd, 1) := by decide +kernel
theorem dX2_meetings_15 : decode cX2_meetings 15 = .ok (.istore 4, 2) := by decide +kernel
theorem dX2_meetings_17 : decode cX2_meetings 17 = .ok (.iload 4, 2) := by decide +kernel
theorem dX2_meetings_19 : decode cX2_meetings 19 = .ok (.aload_n 0, 1) := by decide +kernel
theorem dX2_meetings_20 : decode cX2_meetings 20 = .ok (.getfield 58, 3) := by decide +kernel
theorem dX2_meetings_23 : decode cX2_meetings 23 = .ok (.if_icmp .ge 43, 3) := by decide +kernel
theorem dX2_meetings_26 : decode cX2_meetings 26 = .ok (.aload_n 0, 1) := by decide +kernel
theorem dX2_meetings_27 : decode cX2_meetings 27 = .ok (.getfield 34, 3) := by decide +kernel
theorem dX2_meetings_30 : decode cX2_meetings 30 = .ok (.iload_n 3, 1) := by decide +kernel
theorem dX2_meetings_31 : decode cX2_meetings 31 = .ok (.iaload, 1) := by decide +kernel
theorem dX2_meetings_32 : decode cX2_meetings 32 = .ok (.iload_n 1, 1) := by decide +kernel
theorem dX2_meetings_33 : decode cX2_meetings 33 = .ok (.if_icmp .ne 27, 3) := by decide +kernel
theorem dX2_meetings_36 : decode cX2_meetings 36 = .ok (.aload_n 0, 1) := by decide +kernel
theorem dX2_meetings_37 : decode cX2_meetings 37 = .ok (.getfield 34, 3) := by decide +kernel
theorem dX2_meetings_40 : decode cX2_meetings 40 = .ok (.iload 4, 2) := by decide +kernel
theorem dX2_meetings_42 : decode cX2_meetings 42 = .ok (.iaload, 1) := by decide +kernel
theorem dX2_meetings_43 : decode cX2_meetings 43 = .ok (.iload_n 1, 1) := by decide +kernel
theorem dX2_meetings_44 : decode cX2_meetings 44 = .ok (.if_icmp .ne 16, 3) := by decide +kernel
theorem dX2_meetings_47 : decode cX2_meetings 47 = .ok (.aload_n 0, 1) := by decide +kernel
theorem dX2_meetings_48 : decode cX2_meetings 48 = .ok (.iload_n 3, 1) := by decide +kernel
theorem dX2_meetings_49 : decode cX2_meetings 49 = .ok (.iload 4, 2) := by decide +kernel
theorem dX2_meetings_51 : decode cX2_meetings 51 = .ok (.invokevirtual 65, 3) := by decide +kernel
theorem dX2_meetings_54 : decode cX2_meetings 54 = .ok (.ifCond .eq 6, 3) := by decide +kernel
theorem dX2_meetings_57 : decode cX2_meetings 57 = .ok (.iinc 2 1, 3) := by decide +kernel
theorem dX2_meetings_60 : decode cX2_meetings 60 = .ok (.iinc 4 1, 3) := by decide +kernel
theorem dX2_meetings_63 : decode cX2_meetings 63 = .ok (.goto (-46), 3) := by decide +kernel
theorem dX2_meetings_66 : decode cX2_meetings 66 = .ok (.iinc 3 1, 3) := by decide +kernel
theorem dX2_meetings_69 : decode cX2_meetings 69 = .ok (.goto (-65), 3) := by decide +kernel
theorem dX2_meetings_72 : decode cX2_meetings 72 = .ok (.iload_n 2, 1) := by decide +kernel
theorem dX2_meetings_73 : decode cX2_meetings 73 = .ok (.ireturn, 1) := by decide +kernel
theorem dX2_isMeeting_0 : decode cX2_isMeeting 0 = .ok (.aload_n 0, 1) := by decide +kernel
theorem dX2_isMeeting_1 : decode cX2_isMeeting 1 = .ok (.getfield 31, 3) := by decide +kernel
theorem dX2_isMeeting_4 : decode cX2_isMeeting 4 = .ok (.iload_n 1, 1) := by decide +kernel
theorem dX2_isMeeting_5 : decode cX2_isMeeting 5 = .ok (.iaload, 1) := by decide +kernel
theorem dX2_isMeeting_6 : decode cX2_isMeeting 6 = .ok (.bipush 8, 2) := by decide +kernel
theorem dX2_isMeeting_8 : decode cX2_isMeeting 8 = .ok (.idiv, 1) := by decide +kernel
theorem dX2_isMeeting_9 : decode cX2_isMeeting 9 = .ok (.aload_n 0, 1) := by decide +kernel
theorem dX2_isMeeting_10 : decode cX2_isMeeting 10 = .ok (.getfield 31, 3) := by decide +kernel
theorem dX2_isMeeting_13 : decode cX2_isMeeting 13 = .ok (.iload_n 2, 1) := by decide +kernel
theorem dX2_isMeeting_14 : decode cX2_isMeeting 14 = .ok (.iaload, 1) := by decide +kernel
theorem dX2_isMeeting_15 : decode cX2_isMeeting 15 = .ok (.bipush 8, 2) := by decide +kernel
theorem dX2_isMeeting_17 : decode cX2_isMeeting 17 = .ok (.idiv, 1) := by decide +kernel
theorem dX2_isMeeting_18 : decode cX2_isMeeting 18 = .ok (.if_icmp .eq 24, 3) := by decide +kernel
theorem dX2_isMeeting_21 : decode cX2_isMeeting 21 = .ok (.aload_n 0, 1) := by decide +kernel
theorem dX2_isMeeting_22 : decode cX2_isMeeting 22 = .ok (.getfield 31, 3) := by decide +kernel
theorem dX2_isMeeting_25 : decode cX2_isMeeting 25 = .ok (.iload_n 1, 1) := by decide +kernel
theorem dX2_isMeeting_26 : decode cX2_isMeeting 26 = .ok (.iaload, 1) := by decide +kernel
theorem dX2_isMeeting_27 : decode cX2_isMeeting 27 = .ok (.bipush 8, 2) := by decide +kernel
theorem dX2_isMeeting_29 : decode cX2_isMeeting 29 = .ok (.irem, 1) := by decide +kernel
theorem dX2_isMeeting_30 : decode cX2_isMeeting 30 = .ok (.aload_n 0, 1) := by decide +kernel
theorem dX2_isMeeting_31 : decode cX2_isMeeting 31 = .ok (.getfield 31, 3) := by decide +kernel
theorem dX2_isMeeting_34 : decode cX2_isMeeting 34 = .ok (.iload_n 2, 1) := by decide +kernel
theorem dX2_isMeeting_35 : decode cX2_isMeeting 35 = .ok (.iaload, 1) := by decide +kernel
theorem dX2_isMeeting_36 : decode cX2_isMeeting 36 = .ok (.bipush 8, 2) := by decide +kernel
theorem dX2_isMeeting_38 : decode cX2_isMeeting 38 = .ok (.irem, 1) := by decide +kernel
theorem dX2_isMeeting_39 : decode cX2_isMeeting 39 = .ok (.if_icmp .ne 7, 3) := by decide +kernel
theorem dX2_isMeeting_42 : decode cX2_isMeeting 42 = .ok (.iconst 1, 1) := by decide +kernel
theorem dX2_isMeeting_43 : decode cX2_isMeeting 43 = .ok (.goto 4, 3) := by decide +kernel
theorem dX2_isMeeting_46 : decode cX2_isMeeting 46 = .ok (.iconst 0, 1) := by decide +kernel
theorem dX2_isMeeting_47 : decode cX2_isMeeting 47 = .ok (.ireturn, 1) := by decide +kernel
theorem dX2_sittersWhoMeet_0 : decode cX2_sittersWhoMeet 0 = .ok (.iconst 0, 1) := by decide +kernel
theorem dX2_sittersWhoMeet_1 : decode cX2_sittersWhoMeet 1 = .ok (.istore_n 1, 1) := by decide +kernel
theorem dX2_sittersWhoMeet_2 : decode cX2_sittersWhoMeet 2 = .ok (.iconst 0, 1) := by decide +kernel
theorem dX2_sittersWhoMeet_3 : decode cX2_sittersWhoMeet 3 = .ok (.istore_n 2, 1) := by decide +kernel
theorem dX2_sittersWhoMeet_4 : decode cX2_sittersWhoMeet 4 = .ok (.iload_n 2, 1) := by decide +kernel
theorem dX2_sittersWhoMeet_5 : decode cX2_sittersWhoMeet 5 = .ok (.aload_n 0, 1) := by decide +kernel
theorem dX2_sittersWhoMeet_6 : decode cX2_sittersWhoMeet 6 = .ok (.getfield 55, 3) := by decide +kernel
theorem dX2_sittersWhoMeet_9 : decode cX2_sittersWhoMeet 9 = .ok (.if_icmp .ge 23, 3) := by decide +kernel
theorem dX2_sittersWhoMeet_12 : decode cX2_sittersWhoMeet 12 = .ok (.aload_n 0, 1) := by decide +kernel
theorem dX2_sittersWhoMeet_13 : decode cX2_sittersWhoMeet 13 = .ok (.iload_n 2, 1) := by decide +kernel
theorem dX2_sittersWhoMeet_14 : decode cX2_sittersWhoMeet 14 = .ok (.invokevirtual 69, 3) := by decide +kernel
theorem dX2_sittersWhoMeet_17 : decode cX2_sittersWhoMeet 17 = .ok (.ifCond .le 9, 3) := by decide +kernel
theorem dX2_sittersWhoMeet_20 : decode cX2_sittersWhoMeet 20 = .ok (.iload_n 1, 1) := by decide +kernel
theorem dX2_sittersWhoMeet_21 : decode cX2_sittersWhoMeet 21 = .ok (.iconst 1, 1) := by decide +kernel
theorem dX2_sittersWhoMeet_22 : decode cX2_sittersWhoMeet 22 = .ok (.iload_n 2, 1) := by decide +kernel
theorem dX2_sittersWhoMeet_23 : decode cX2_sittersWhoMeet 23 = .ok (.ishl, 1) := by decide +kernel
theorem dX2_sittersWhoMeet_24 : decode cX2_sittersWhoMeet 24 = .ok (.ior, 1) := by decide +kernel
theorem dX2_sittersWhoMeet_25 : decode cX2_sittersWhoMeet 25 = .ok (.istore_n 1, 1) := by decide +kernel
theorem dX2_sittersWhoMeet_26 : decode cX2_sittersWhoMeet 26 = .ok (.iinc 2 1, 3) := by decide +kernel
theorem dX2_sittersWhoMeet_29 : decode cX2_sittersWhoMeet 29 = .ok (.goto (-25), 3) := by decide +kernel
theorem dX2_sittersWhoMeet_32 : decode cX2_sittersWhoMeet 32 = .ok (.iload_n 1, 1) := by decide +kernel
theorem dX2_sittersWhoMeet_33 : decode cX2_sittersWhoMeet 33 = .ok (.ireturn, 1) := by decide +kernel
theorem dX2_feesDue_0 : decode cX2_feesDue 0 = .ok (.iconst 0, 1) := by decide +kernel
theorem dX2_feesDue_1 : decode cX2_feesDue 1 = .ok (.istore_n 1, 1) := by decide +kernel
theorem dX2_feesDue_2 : decode cX2_feesDue 2 = .ok (.iconst 0, 1) := by decide +kernel
theorem dX2_feesDue_3 : decode cX2_feesDue 3 = .ok (.istore_n 2, 1) := by decide +kernel
theorem dX2_feesDue_4 : decode cX2_feesDue 4 = .ok (.iload_n 2, 1) := by decide +kernel
theorem dX2_feesDue_5 : decode cX2_feesDue 5 = .ok (.aload_n 0, 1) := by decide +kernel
theorem dX2_feesDue_6 : decode cX2_feesDue 6 = .ok (.getfield 55, 3) := by decide +kernel
theorem dX2_feesDue_9 : decode cX2_feesDue 9 = .ok (.if_icmp .ge 26, 3) := by decide +kernel
theorem dX2_feesDue_12 : decode cX2_feesDue 12 = .ok (.aload_n 0, 1) := by decide +kernel
theorem dX2_feesDue_13 : decode cX2_feesDue 13 = .ok (.iload_n 2, 1) := by decide +kernel
theorem dX2_feesDue_14 : decode cX2_feesDue 14 = .ok (.invokevirtual 73, 3) := by decide +kernel
theorem dX2_feesDue_17 : decode cX2_feesDue 17 = .ok (.ifCond .eq 12, 3) := by decide +kernel
theorem dX2_feesDue_20 : decode cX2_feesDue 20 = .ok (.iload_n 1, 1) := by decide +kernel
theorem dX2_feesDue_21 : decode cX2_feesDue 21 = .ok (.aload_n 0, 1) := by decide +kernel
theorem dX2_feesDue_22 : decode cX2_feesDue 22 = .ok (.getfield 25, 3) := by decide +kernel
theorem dX2_feesDue_25 : decode cX2_feesDue 25 = .ok (.iload_n 2, 1) := by decide +kernel
theorem dX2_feesDue_26 : decode cX2_feesDue 26 = .ok (.iaload, 1) := by decide +kernel
theorem dX2_feesDue_27 : decode cX2_feesDue 27 = .ok (.iadd, 1) := by decide +kernel
theorem dX2_feesDue_28 : decode cX2_feesDue 28 = .ok (.istore_n 1, 1) := by decide +kernel
theorem dX2_feesDue_29 : decode cX2_feesDue 29 = .ok (.iinc 2 1, 3) := by decide +kernel
theorem dX2_feesDue_32 : decode cX2_feesDue 32 = .ok (.goto (-28), 3) := by decide +kernel
theorem dX2_feesDue_35 : decode cX2_feesDue 35 = .ok (.iload_n 1, 1) := by decide +kernel
theorem dX2_feesDue_36 : decode cX2_feesDue 36 = .ok (.ireturn, 1) := by decide +kernel
theorem dX2_wheatOfAll_0 : decode cX2_wheatOfAll 0 = .ok (.aload_n 0, 1) := by decide +kernel
theorem dX2_wheatOfAll_1 : decode cX2_wheatOfAll 1 = .ok (.getfield 9, 3) := by decide +kernel
theorem dX2_wheatOfAll_4 : decode cX2_wheatOfAll 4 = .ok (.bipush 48, 2) := by decide +kernel
theorem dX2_wheatOfAll_6 : decode cX2_wheatOfAll 6 = .ok (.invokestatic 76, 3) := by decide +kernel
theorem dX2_wheatOfAll_9 : decode cX2_wheatOfAll 9 = .ok (.ireturn, 1) := by decide +kernel
theorem dX2_temperOfAll_0 : decode cX2_temperOfAll 0 = .ok (.aload_n 0, 1) := by decide +kernel
theorem dX2_temperOfAll_1 : decode cX2_temperOfAll 1 = .ok (.getfield 22, 3) := by decide +kernel
theorem dX2_temperOfAll_4 : decode cX2_temperOfAll 4 = .ok (.aload_n 0, 1) := by decide +kernel
theorem dX2_temperOfAll_5 : decode cX2_temperOfAll 5 = .ok (.getfield 55, 3) := by decide +kernel
theorem dX2_temperOfAll_8 : decode cX2_temperOfAll 8 = .ok (.invokestatic 76, 3) := by decide +kernel
theorem dX2_temperOfAll_11 : decode cX2_temperOfAll 11 = .ok (.ireturn, 1) := by decide +kernel
theorem dX2_countsFor_0 : decode cX2_countsFor 0 = .ok (.aload_n 0, 1) := by decide +kernel
theorem dX2_countsFor_1 : decode cX2_countsFor 1 = .ok (.getfield 34, 3) := by decide +kernel
theorem dX2_countsFor_4 : decode cX2_countsFor 4 = .ok (.iload_n 1, 1) := by decide +kernel
theorem dX2_countsFor_5 : decode cX2_countsFor 5 = .ok (.iaload, 1) := by decide +kernel
theorem dX2_countsFor_6 : decode cX2_countsFor 6 = .ok (.istore_n 2, 1) := by decide +kernel
theorem dX2_countsFor_7 : decode cX2_countsFor 7 = .ok (.aload_n 0, 1) := by decide +kernel
theorem dX2_countsFor_8 : decode cX2_countsFor 8 = .ok (.getfield 19, 3) := by decide +kernel
theorem dX2_countsFor_11 : decode cX2_countsFor 11 = .ok (.iload_n 2, 1) := by decide +kernel
theorem dX2_countsFor_12 : decode cX2_countsFor 12 = .ok (.iaload, 1) := by decide +kernel
theorem dX2_countsFor_13 : decode cX2_countsFor 13 = .ok (.aload_n 0, 1) := by decide +kernel
theorem dX2_countsFor_14 : decode cX2_countsFor 14 = .ok (.getfield 22, 3) := by decide +kernel
theorem dX2_countsFor_17 : decode cX2_countsFor 17 = .ok (.iload_n 2, 1) := by decide +kernel
theorem dX2_countsFor_18 : decode cX2_countsFor 18 = .ok (.iaload, 1) := by decide +kernel
theorem dX2_countsFor_19 : decode cX2_countsFor 19 = .ok (.aload_n 0, 1) := by decide +kernel
theorem dX2_countsFor_20 : decode cX2_countsFor 20 = .ok (.getfield 37, 3) := by decide +kernel
theorem dX2_countsFor_23 : decode cX2_countsFor 23 = .ok (.iload_n 1, 1) := by decide +kernel
theorem dX2_countsFor_24 : decode cX2_countsFor 24 = .ok (.iaload, 1) := by decide +kernel
theorem dX2_countsFor_25 : decode cX2_countsFor 25 = .ok (.invokestatic 80, 3) := by decide +kernel
theorem dX2_countsFor_28 : decode cX2_countsFor 28 = .ok (.ireturn, 1) := by decide +kernel
theorem dX2_scareOf_0 : decode cX2_scareOf 0 = .ok (.aload_n 0, 1) := by decide +kernel
theorem dX2_scareOf_1 : decode cX2_scareOf 1 = .ok (.getfield 34, 3) := by decide +kernel
theorem dX2_scareOf_4 : decode cX2_scareOf 4 = .ok (.iload_n 1, 1) := by decide +kernel
theorem dX2_scareOf_5 : decode cX2_scareOf 5 = .ok (.iaload, 1) := by decide +kernel
theorem dX2_scareOf_6 : decode cX2_scareOf 6 = .ok (.istore_n 3, 1) := by decide +kernel
theorem dX2_scareOf_7 : decode cX2_scareOf 7 = .ok (.aload_n 0, 1) := by decide +kernel
theorem dX2_scareOf_8 : decode cX2_scareOf 8 = .ok (.getfield 19, 3) := by decide +kernel
theorem dX2_scareOf_11 : decode cX2_scareOf 11 = .ok (.iload_n 3, 1) := by decide +kernel
theorem dX2_scareOf_12 : decode cX2_scareOf 12 = .ok (.iaload, 1) := by decide +kernel
theorem dX2_scareOf_13 : decode cX2_scareOf 13 = .ok (.aload_n 0, 1) := by decide +kernel
theorem dX2_scareOf_14 : decode cX2_scareOf 14 = .ok (.iload_n 1, 1) := by decide +kernel
theorem dX2_scareOf_15 : decode cX2_scareOf 15 = .ok (.invokevirtual 86, 3) := by decide +kernel
theorem dX2_scareOf_18 : decode cX2_scareOf 18 = .ok (.iload_n 2, 1) := by decide +kernel
theorem dX2_scareOf_19 : decode cX2_scareOf 19 = .ok (.invokestatic 89, 3) := by decide +kernel
theorem dX2_scareOf_22 : decode cX2_scareOf 22 = .ok (.ireturn, 1) := by decide +kernel
theorem dX3_init_0 : decode cX3_init 0 = .ok (.aload_n 0, 1) := by decide +kernel
theorem dX3_init_1 : decode cX3_init 1 = .ok (.invokespecial 3, 3) := by decide +kernel
theorem dX3_init_4 : decode cX3_init 4 = .ok (.aload_n 0, 1) := by decide +kernel
theorem dX3_init_5 : decode cX3_init 5 = .ok (.bipush 40, 2) := by decide +kernel
theorem dX3_init_7 : decode cX3_init 7 = .ok (.newarray .long, 2) := by decide +kernel
theorem dX3_init_9 : decode cX3_init 9 = .ok (.putfield 9, 3) := by decide +kernel
theorem dX3_init_12 : decode cX3_init 12 = .ok (.return_, 1) := by decide +kernel
theorem dX3_begin_0 : decode cX3_begin 0 = .ok (.aload_n 0, 1) := by decide +kernel
theorem dX3_begin_1 : decode cX3_begin 1 = .ok (.iload_n 1, 1) := by decide +kernel
theorem dX3_begin_2 : decode cX3_begin 2 = .ok (.putfield 15, 3) := by decide +kernel
theorem dX3_begin_5 : decode cX3_begin 5 = .ok (.aload_n 0, 1) := by decide +kernel
theorem dX3_begin_6 : decode cX3_begin 6 = .ok (.iload_n 1, 1) := by decide +kernel
theorem dX3_begin_7 : decode cX3_begin 7 = .ok (.ifCond .ne 7, 3) := by decide +kernel
theorem dX3_begin_10 : decode cX3_begin 10 = .ok (.iconst 0, 1) := by decide +kernel
theorem dX3_begin_11 : decode cX3_begin 11 = .ok (.goto 4, 3) := by decide +kernel
theorem dX3_begin_14 : decode cX3_begin 14 = .ok (.iload_n 2, 1) := by decide +kernel
theorem dX3_begin_15 : decode cX3_begin 15 = .ok (.putfield 19, 3) := by decide +kernel
theorem dX3_begin_18 : decode cX3_begin 18 = .ok (.aload_n 0, 1) := by decide +kernel
theorem dX3_begin_19 : decode cX3_begin 19 = .ok (.getfield 9, 3) := by decide +kernel
theorem dX3_begin_22 : decode cX3_begin 22 = .ok (.lconst 0, 1) := by decide +kernel
theorem dX3_begin_23 : decode cX3_begin 23 = .ok (.invokestatic 22, 3) := by decide +kernel
theorem dX3_begin_26 : decode cX3_begin 26 = .ok (.return_, 1) := by decide +kernel
theorem dX3_isMissing_0 : decode cX3_isMissing 0 = .ok (.aload_n 0, 1) := by decide +kernel
theorem dX3_isMissing_1 : decode cX3_isMissing 1 = .ok (.getfield 15, 3) := by decide +kernel
theorem dX3_isMissing_4 : decode cX3_isMissing 4 = .ok (.ifCond .ne 7, 3) := by decide +kernel
theorem dX3_isMissing_7 : decode cX3_isMissing 7 = .ok (.iconst 1, 1) := by decide +kernel
theorem dX3_isMissing_8 : decode cX3_isMissing 8 = .ok (.goto 4, 3) := by decide +kernel
theorem dX3_isMissing_11 : decode cX3_isMissing 11 = .ok (.iconst 0, 1) := by decide +kernel
theorem dX3_isMissing_12 : decode cX3_isMissing 12 = .ok (.ireturn, 1) := by decide +kernel
theorem dX3_hasRun_0 : decode cX3_hasRun 0 = .ok (.iload_n 1, 1) := by decide +kernel
theorem dX3_hasRun_1 : decode cX3_hasRun 1 = .ok (.ifCond .lt 29, 3) := by decide +kernel
theorem dX3_hasRun_4 : decode cX3_hasRun 4 = .ok (.iload_n 2, 1) := by decide +kernel
theorem dX3_hasRun_5 : decode cX3_hasRun 5 = .ok (.ifCond .lt 25, 3) := by decide +kernel
theorem dX3_hasRun_8 : decode cX3_hasRun 8 = .ok (.iload_n 1, 1) := by decide +kernel
theorem dX3_hasRun_9 : decode cX3_hasRun 9 = .ok (.aload_n 0, 1) := by decide +kernel
theorem dX3_hasRun_10 : decode cX3_hasRun 10 = .ok (.getfield 19, 3) := by decide +kernel
theorem dX3_hasRun_13 : decode cX3_hasRun 13 = .ok (.if_icmp .gt 17, 3) := by decide +kernel
theorem dX3_hasRun_16 : decode cX3_hasRun 16 = .ok (.iload_n 2, 1) := by decide +kernel
theorem dX3_hasRun_17 : decode cX3_hasRun 17 = .ok (.aload_n 0, 1) := by decide +kernel
theorem dX3_hasRun_18 : decode cX3_hasRun 18 = .ok (.getfield 19, 3) := by decide +kernel
theorem dX3_hasRun_21 : decode cX3_hasRun 21 = .ok (.iload_n 1, 1) := by decide +kernel
theorem dX3_hasRun_22 : decode cX3_hasRun 22 = .ok (.isub, 1) := by decide +kernel
theorem dX3_hasRun_23 : decode cX3_hasRun 23 = .ok (.if_icmp .gt 7, 3) := by decide +kernel
theorem dX3_hasRun_26 : decode cX3_hasRun 26 = .ok (.iconst 1, 1) := by decide +kernel
theorem dX3_hasRun_27 : decode cX3_hasRun 27 = .ok (.goto 4, 3) := by decide +kernel
theorem dX3_hasRun_30 : decode cX3_hasRun 30 = .ok (.iconst 0, 1) := by decide +kernel
theorem dX3_hasRun_31 : decode cX3_hasRun 31 = .ok (.ireturn, 1) := by decide +kernel
theorem dX3_put_0 : decode cX3_put 0 = .ok (.aload_n 0, 1) := by decide +kernel
theorem dX3_put_1 : decode cX3_put 1 = .ok (.getfield 9, 3) := by decide +kernel
theorem dX3_put_4 : decode cX3_put 4 = .ok (.iload_n 1, 1) := by decide +kernel
theorem dX3_put_5 : decode cX3_put 5 = .ok (.aload_n 0, 1) := by decide +kernel
theorem dX3_put_6 : decode cX3_put 6 = .ok (.lload_n 2, 1) := by decide +kernel
theorem dX3_put_7 : decode cX3_put 7 = .ok (.invokevirtual 28, 3) := by decide +kernel
theorem dX3_put_10 : decode cX3_put 10 = .ok (.lastore, 1) := by decide +kernel
theorem dX3_put_11 : decode cX3_put 11 = .ok (.return_, 1) := by decide +kernel
theorem dX3_cut_0 : decode cX3_cut 0 = .ok (.aload_n 0, 1) := by decide +kernel
theorem dX3_cut_1 : decode cX3_cut 1 = .ok (.getfield 15, 3) := by decide +kernel
theorem dX3_cut_4 : decode cX3_cut 4 = .ok (.lookupswitch 38 #[(8, 28), (16, 33)], 28) := by decide +kernel
theorem dX3_cut_32 : decode cX3_cut 32 = .ok (.lload_n 1, 1) := by decide +kernel
theorem dX3_cut_33 : decode cX3_cut 33 = .ok (.l2i, 1) := by decide +kernel
theorem dX3_cut_34 : decode cX3_cut 34 = .ok (.i2b, 1) := by decide +kernel
theorem dX3_cut_35 : decode cX3_cut 35 = .ok (.i2l, 1) := by decide +kernel
theorem dX3_cut_36 : decode cX3_cut 36 = .ok (.lreturn, 1) := by decide +kernel
theorem dX3_cut_37 : decode cX3_cut 37 = .ok (.lload_n 1, 1) := by decide +kernel
theorem dX3_cut_38 : decode cX3_cut 38 = .ok (.l2i, 1) := by decide +kernel
theorem dX3_cut_39 : decode cX3_cut 39 = .ok (.i2s, 1) := by decide +kernel
theorem dX3_cut_40 : decode cX3_cut 40 = .ok (.i2l, 1) := by decide +kernel
theorem dX3_cut_41 : decode cX3_cut 41 = .ok (.lreturn, 1) := by decide +kernel
theorem dX3_cut_42 : decode cX3_cut 42 = .ok (.lload_n 1, 1) := by decide +kernel
theorem dX3_cut_43 : decode cX3_cut 43 = .ok (.lreturn, 1) := by decide +kernel
theorem dJ0_length_8abf5_0 : decode cJ0_length_8abf5 0 = .ok (.aload_n 0, 1) := by decide +kernel
theorem dJ0_length_8abf5_1 : decode cJ0_length_8abf5 1 = .ok (.getfield 9, 3) := by decide +kernel
theorem dJ0_length_8abf5_4 : decode cJ0_length_8abf5 4 = .ok (.arraylength, 1) := by decide +kernel
theorem dJ0_length_8abf5_5 : decode cJ0_length_8abf5 5 = .ok (.aload_n 0, 1) := by decide +kernel
theorem dJ0_length_8abf5_6 : decode cJ0_length_8abf5 6 = .ok (.invokevirtual 335, 3) := by decide +kernel
theorem dJ0_length_8abf5_9 : decode cJ0_length_8abf5 9 = .ok (.ishr, 1) := by decide +kernel
theorem dJ0_length_8abf5_10 : decode cJ0_length_8abf5 10 = .ok (.ireturn, 1) := by decide +kernel
theorem dJ0_charAt_5068e_0 : decode cJ0_charAt_5068e 0 = .ok (.aload_n 0, 1) := by decide +kernel
theorem dJ0_charAt_5068e_1 : decode cJ0_charAt_5068e 1 = .ok (.invokevirtual 492, 3) := by decide +kernel
theorem dJ0_charAt_5068e_4 : decode cJ0_charAt_5068e 4 = .ok (.ifCond .eq 12, 3) := by decide +kernel
theorem dJ0_charAt_5068e_7 : decode cJ0_charAt_5068e 7 = .ok (.aload_n 0, 1) := by decide +kernel
theorem dJ0_charAt_5068e_8 : decode cJ0_charAt_5068e 8 = .ok (.getfield 9, 3) := by decide +kernel
theorem dJ0_charAt_5068e_11 : decode cJ0_charAt_5068e 11 = .ok (.iload_n 1, 1) := by decide +kernel
theorem dJ0_charAt_5068e_12 : decode cJ0_charAt_5068e 12 = .ok (.invokestatic 495, 3) := by decide +kernel
theorem dJ0_charAt_5068e_15 : decode cJ0_charAt_5068e 15 = .ok (.ireturn, 1) := by decide +kernel
theorem dJ0_charAt_5068e_16 : decode cJ0_charAt_5068e 16 = .ok (.aload_n 0, 1) := by decide +kernel
theorem dJ0_charAt_5068e_17 : decode cJ0_charAt_5068e 17 = .ok (.getfield 9, 3) := by decide +kernel
theorem dJ0_charAt_5068e_20 : decode cJ0_charAt_5068e 20 = .ok (.iload_n 1, 1) := by decide +kernel
theorem dJ0_charAt_5068e_21 : decode cJ0_charAt_5068e 21 = .ok (.invokestatic 498, 3) := by decide +kernel
theorem dJ0_charAt_5068e_24 : decode cJ0_charAt_5068e 24 = .ok (.ireturn, 1) := by decide +kernel
theorem dJ0_coder_7d493_0 : decode cJ0_coder_7d493 0 = .ok (.getstatic 38, 3) := by decide +kernel
theorem dJ0_coder_7d493_3 : decode cJ0_coder_7d493 3 = .ok (.ifCond .eq 10, 3) := by decide +kernel
theorem dJ0_coder_7d493_6 : decode cJ0_coder_7d493 6 = .ok (.aload_n 0, 1) := by decide +kernel
theorem dJ0_coder_7d493_7 : decode cJ0_coder_7d493 7 = .ok (.getfield 15, 3) := by decide +kernel
theorem dJ0_coder_7d493_10 : decode cJ0_coder_7d493 10 = .ok (.goto 4, 3) := by decide +kernel
theorem dJ0_coder_7d493_13 : decode cJ0_coder_7d493 13 = .ok (.iconst 1, 1) := by decide +kernel
theorem dJ0_coder_7d493_14 : decode cJ0_coder_7d493 14 = .ok (.ireturn, 1) := by decide +kernel
theorem dJ0_isLatin1_aae02_0 : decode cJ0_isLatin1_aae02 0 = .ok (.getstatic 38, 3) := by decide +kernel
theorem dJ0_isLatin1_aae02_3 : decode cJ0_isLatin1_aae02 3 = .ok (.ifCond .eq 14, 3) := by decide +kernel
theorem dJ0_isLatin1_aae02_6 : decode cJ0_isLatin1_aae02 6 = .ok (.aload_n 0, 1) := by decide +kernel
theorem dJ0_isLatin1_aae02_7 : decode cJ0_isLatin1_aae02 7 = .ok (.getfield 15, 3) := by decide +kernel
theorem dJ0_isLatin1_aae02_10 : decode cJ0_isLatin1_aae02 10 = .ok (.ifCond .ne 7, 3) := by decide +kernel
theorem dJ0_isLatin1_aae02_13 : decode cJ0_isLatin1_aae02 13 = .ok (.iconst 1, 1) := by decide +kernel
theorem dJ0_isLatin1_aae02_14 : decode cJ0_isLatin1_aae02 14 = .ok (.goto 4, 3) := by decide +kernel
theorem dJ0_isLatin1_aae02_17 : decode cJ0_isLatin1_aae02 17 = .ok (.iconst 0, 1) := by decide +kernel
theorem dJ0_isLatin1_aae02_18 : decode cJ0_isLatin1_aae02 18 = .ok (.ireturn, 1) := by decide +kernel
theorem dJ0_checkIndex_df160_0 : decode cJ0_checkIndex_df160 0 = .ok (.iload_n 0, 1) := by decide +kernel
theorem dJ0_checkIndex_df160_1 : decode cJ0_checkIndex_df160 1 = .ok (.iload_n 1, 1) := by decide +kernel
theorem dJ0_checkIndex_df160_2 : decode cJ0_checkIndex_df160 2 = .ok (.getstatic 1053, 3) := by decide +kernel
theorem dJ0_checkIndex_df160_5 : decode cJ0_checkIndex_df160 5 = .ok (.invokestatic 1059, 3) := by decide +kernel
theorem dJ0_checkIndex_df160_8 : decode cJ0_checkIndex_df160 8 = .ok (.pop, 1) := by decide +kernel
theorem dJ0_checkIndex_df160_9 : decode cJ0_checkIndex_df160 9 = .ok (.return_, 1) := by decide +kernel
theorem dJ1_charAt_3b067_0 : decode cJ1_charAt_3b067 0 = .ok (.iload_n 1, 1) := by decide +kernel
theorem dJ1_charAt_3b067_1 : decode cJ1_charAt_3b067 1 = .ok (.aload_n 0, 1) := by decide +kernel
theorem dJ1_charAt_3b067_2 : decode cJ1_charAt_3b067 2 = .ok (.arraylength, 1) := by decide +kernel
theorem dJ1_charAt_3b067_3 : decode cJ1_charAt_3b067 3 = .ok (.invokestatic 9, 3) := by decide +kernel
theorem dJ1_charAt_3b067_6 : decode cJ1_charAt_3b067 6 = .ok (.aload_n 0, 1) := by decide +kernel
theorem dJ1_charAt_3b067_7 : decode cJ1_charAt_3b067 7 = .ok (.iload_n 1, 1) := by decide +kernel
theorem dJ1_charAt_3b067_8 : decode cJ1_charAt_3b067 8 = .ok (.baload, 1) := by decide +kernel
theorem dJ1_charAt_3b067_9 : decode cJ1_charAt_3b067 9 = .ok (.sipush 255, 3) := by decide +kernel
theorem dJ1_charAt_3b067_12 : decode cJ1_charAt_3b067 12 = .ok (.iand, 1) := by decide +kernel
theorem dJ1_charAt_3b067_13 : decode cJ1_charAt_3b067 13 = .ok (.i2c, 1) := by decide +kernel
theorem dJ1_charAt_3b067_14 : decode cJ1_charAt_3b067 14 = .ok (.ireturn, 1) := by decide +kernel
theorem dJ3_checkIndex_8e157_0 : decode cJ3_checkIndex_8e157 0 = .ok (.iload_n 0, 1) := by decide +kernel
theorem dJ3_checkIndex_8e157_1 : decode cJ3_checkIndex_8e157 1 = .ok (.ifCond .lt 8, 3) := by decide +kernel
theorem dJ3_checkIndex_8e157_4 : decode cJ3_checkIndex_8e157 4 = .ok (.iload_n 0, 1) := by decide +kernel
theorem dJ3_checkIndex_8e157_5 : decode cJ3_checkIndex_8e157 5 = .ok (.iload_n 1, 1) := by decide +kernel
theorem dJ3_checkIndex_8e157_6 : decode cJ3_checkIndex_8e157 6 = .ok (.if_icmp .lt 10, 3) := by decide +kernel
theorem dJ3_checkIndex_8e157_9 : decode cJ3_checkIndex_8e157 9 = .ok (.aload_n 2, 1) := by decide +kernel
theorem dJ3_checkIndex_8e157_10 : decode cJ3_checkIndex_8e157 10 = .ok (.iload_n 0, 1) := by decide +kernel
theorem dJ3_checkIndex_8e157_11 : decode cJ3_checkIndex_8e157 11 = .ok (.iload_n 1, 1) := by decide +kernel
theorem dJ3_checkIndex_8e157_12 : decode cJ3_checkIndex_8e157 12 = .ok (.invokestatic 95, 3) := by decide +kernel
theorem dJ3_checkIndex_8e157_15 : decode cJ3_checkIndex_8e157 15 = .ok (.athrow, 1) := by decide +kernel
theorem dJ3_checkIndex_8e157_16 : decode cJ3_checkIndex_8e157 16 = .ok (.iload_n 0, 1) := by decide +kernel
theorem dJ3_checkIndex_8e157_17 : decode cJ3_checkIndex_8e157 17 = .ok (.ireturn, 1) := by decide +kernel
theorem dJ6_bitCount_0f7a4_0 : decode cJ6_bitCount_0f7a4 0 = .ok (.iload_n 0, 1) := by decide +kernel
theorem dJ6_bitCount_0f7a4_1 : decode cJ6_bitCount_0f7a4 1 = .ok (.iload_n 0, 1) := by decide +kernel
theorem dJ6_bitCount_0f7a4_2 : decode cJ6_bitCount_0f7a4 2 = .ok (.iconst 1, 1) := by decide +kernel
theorem dJ6_bitCount_0f7a4_3 : decode cJ6_bitCount_0f7a4 3 = .ok (.iushr, 1) := by decide +kernel
theorem dJ6_bitCount_0f7a4_4 : decode cJ6_bitCount_0f7a4 4 = .ok (.ldc_w 265, 3) := by decide +kernel
theorem dJ6_bitCount_0f7a4_7 : decode cJ6_bitCount_0f7a4 7 = .ok (.iand, 1) := by decide +kernel
theorem dJ6_bitCount_0f7a4_8 : decode cJ6_bitCount_0f7a4 8 = .ok (.isub, 1) := by decide +kernel
theorem dJ6_bitCount_0f7a4_9 : decode cJ6_bitCount_0f7a4 9 = .ok (.istore_n 0, 1) := by decide +kernel
theorem dJ6_bitCount_0f7a4_10 : decode cJ6_bitCount_0f7a4 10 = .ok (.iload_n 0, 1) := by decide +kernel
theorem dJ6_bitCount_0f7a4_11 : decode cJ6_bitCount_0f7a4 11 = .ok (.ldc_w 266, 3) := by decide +kernel
theorem dJ6_bitCount_0f7a4_14 : decode cJ6_bitCount_0f7a4 14 = .ok (.iand, 1) := by decide +kernel
theorem dJ6_bitCount_0f7a4_15 : decode cJ6_bitCount_0f7a4 15 = .ok (.iload_n 0, 1) := by decide +kernel
theorem dJ6_bitCount_0f7a4_16 : decode cJ6_bitCount_0f7a4 16 = .ok (.iconst 2, 1) := by decide +kernel
theorem dJ6_bitCount_0f7a4_17 : decode cJ6_bitCount_0f7a4 17 = .ok (.iushr, 1) := by decide +kernel
theorem dJ6_bitCount_0f7a4_18 : decode cJ6_bitCount_0f7a4 18 = .ok (.ldc_w 266, 3) := by decide +kernel
theorem dJ6_bitCount_0f7a4_21 : decode cJ6_bitCount_0f7a4 21 = .ok (.iand, 1) := by decide +kernel
theorem dJ6_bitCount_0f7a4_22 : decode cJ6_bitCount_0f7a4 22 = .ok (.iadd, 1) := by decide +kernel
theorem dJ6_bitCount_0f7a4_23 : decode cJ6_bitCount_0f7a4 23 = .ok (.istore_n 0, 1) := by decide +kernel
theorem dJ6_bitCount_0f7a4_24 : decode cJ6_bitCount_0f7a4 24 = .ok (.iload_n 0, 1) := by decide +kernel
theorem dJ6_bitCount_0f7a4_25 : decode cJ6_bitCount_0f7a4 25 = .ok (.iload_n 0, 1) := by decide +kernel
theorem dJ6_bitCount_0f7a4_26 : decode cJ6_bitCount_0f7a4 26 = .ok (.iconst 4, 1) := by decide +kernel
theorem dJ6_bitCount_0f7a4_27 : decode cJ6_bitCount_0f7a4 27 = .ok (.iushr, 1) := by decide +kernel
theorem dJ6_bitCount_0f7a4_28 : decode cJ6_bitCount_0f7a4 28 = .ok (.iadd, 1) := by decide +kernel
theorem dJ6_bitCount_0f7a4_29 : decode cJ6_bitCount_0f7a4 29 = .ok (.ldc_w 267, 3) := by decide +kernel
theorem dJ6_bitCount_0f7a4_32 : decode cJ6_bitCount_0f7a4 32 = .ok (.iand, 1) := by decide +kernel
theorem dJ6_bitCount_0f7a4_33 : decode cJ6_bitCount_0f7a4 33 = .ok (.istore_n 0, 1) := by decide +kernel
theorem dJ6_bitCount_0f7a4_34 : decode cJ6_bitCount_0f7a4 34 = .ok (.iload_n 0, 1) := by decide +kernel
theorem dJ6_bitCount_0f7a4_35 : decode cJ6_bitCount_0f7a4 35 = .ok (.iload_n 0, 1) := by decide +kernel
theorem dJ6_bitCount_0f7a4_36 : decode cJ6_bitCount_0f7a4 36 = .ok (.bipush 8, 2) := by decide +kernel
theorem dJ6_bitCount_0f7a4_38 : decode cJ6_bitCount_0f7a4 38 = .ok (.iushr, 1) := by decide +kernel
theorem dJ6_bitCount_0f7a4_39 : decode cJ6_bitCount_0f7a4 39 = .ok (.iadd, 1) := by decide +kernel
theorem dJ6_bitCount_0f7a4_40 : decode cJ6_bitCount_0f7a4 40 = .ok (.istore_n 0, 1) := by decide +kernel
theorem dJ6_bitCount_0f7a4_41 : decode cJ6_bitCount_0f7a4 41 = .ok (.iload_n 0, 1) := by decide +kernel
theorem dJ6_bitCount_0f7a4_42 : decode cJ6_bitCount_0f7a4 42 = .ok (.iload_n 0, 1) := by decide +kernel
theorem dJ6_bitCount_0f7a4_43 : decode cJ6_bitCount_0f7a4 43 = .ok (.bipush 16, 2) := by decide +kernel
theorem dJ6_bitCount_0f7a4_45 : decode cJ6_bitCount_0f7a4 45 = .ok (.iushr, 1) := by decide +kernel
theorem dJ6_bitCount_0f7a4_46 : decode cJ6_bitCount_0f7a4 46 = .ok (.iadd, 1) := by decide +kernel
theorem dJ6_bitCount_0f7a4_47 : decode cJ6_bitCount_0f7a4 47 = .ok (.istore_n 0, 1) := by decide +kernel
theorem dJ6_bitCount_0f7a4_48 : decode cJ6_bitCount_0f7a4 48 = .ok (.iload_n 0, 1) := by decide +kernel
theorem dJ6_bitCount_0f7a4_49 : decode cJ6_bitCount_0f7a4 49 = .ok (.bipush 63, 2) := by decide +kernel
theorem dJ6_bitCount_0f7a4_51 : decode cJ6_bitCount_0f7a4 51 = .ok (.iand, 1) := by decide +kernel
theorem dJ6_bitCount_0f7a4_52 : decode cJ6_bitCount_0f7a4 52 = .ok (.ireturn, 1) := by decide +kernel
theorem dJ7_fill_d0a16_0 : decode cJ7_fill_d0a16 0 = .ok (.iconst 0, 1) := by decide +kernel
theorem dJ7_fill_d0a16_1 : decode cJ7_fill_d0a16 1 = .ok (.istore_n 3, 1) := by decide +kernel
theorem dJ7_fill_d0a16_2 : decode cJ7_fill_d0a16 2 = .ok (.aload_n 0, 1) := by decide +kernel
theorem dJ7_fill_d0a16_3 : decode cJ7_fill_d0a16 3 = .ok (.arraylength, 1) := by decide +kernel
theorem dJ7_fill_d0a16_4 : decode cJ7_fill_d0a16 4 = .ok (.istore 4, 2) := by decide +kernel
theorem dJ7_fill_d0a16_6 : decode cJ7_fill_d0a16 6 = .ok (.iload_n 3, 1) := by decide +kernel
theorem dJ7_fill_d0a16_7 : decode cJ7_fill_d0a16 7 = .ok (.iload 4, 2) := by decide +kernel
theorem dJ7_fill_d0a16_9 : decode cJ7_fill_d0a16 9 = .ok (.if_icmp .ge 13, 3) := by decide +kernel
theorem dJ7_fill_d0a16_12 : decode cJ7_fill_d0a16 12 = .ok (.aload_n 0, 1) := by decide +kernel
theorem dJ7_fill_d0a16_13 : decode cJ7_fill_d0a16 13 = .ok (.iload_n 3, 1) := by decide +kernel
theorem dJ7_fill_d0a16_14 : decode cJ7_fill_d0a16 14 = .ok (.lload_n 1, 1) := by decide +kernel
theorem dJ7_fill_d0a16_15 : decode cJ7_fill_d0a16 15 = .ok (.lastore, 1) := by decide +kernel
theorem dJ7_fill_d0a16_16 : decode cJ7_fill_d0a16 16 = .ok (.iinc 3 1, 3) := by decide +kernel
theorem dJ7_fill_d0a16_19 : decode cJ7_fill_d0a16 19 = .ok (.goto (-13), 3) := by decide +kernel
theorem dJ7_fill_d0a16_22 : decode cJ7_fill_d0a16 22 = .ok (.return_, 1) := by decide +kernel
theorem dJ7_fill_53178_0 : decode cJ7_fill_53178 0 = .ok (.iconst 0, 1) := by decide +kernel
theorem dJ7_fill_53178_1 : decode cJ7_fill_53178 1 = .ok (.istore_n 2, 1) := by decide +kernel
theorem dJ7_fill_53178_2 : decode cJ7_fill_53178 2 = .ok (.aload_n 0, 1) := by decide +kernel
theorem dJ7_fill_53178_3 : decode cJ7_fill_53178 3 = .ok (.arraylength, 1) := by decide +kernel
theorem dJ7_fill_53178_4 : decode cJ7_fill_53178 4 = .ok (.istore_n 3, 1) := by decide +kernel
theorem dJ7_fill_53178_5 : decode cJ7_fill_53178 5 = .ok (.iload_n 2, 1) := by decide +kernel
theorem dJ7_fill_53178_6 : decode cJ7_fill_53178 6 = .ok (.iload_n 3, 1) := by decide +kernel
theorem dJ7_fill_53178_7 : decode cJ7_fill_53178 7 = .ok (.if_icmp .ge 13, 3) := by decide +kernel
theorem dJ7_fill_53178_10 : decode cJ7_fill_53178 10 = .ok (.aload_n 0, 1) := by decide +kernel
theorem dJ7_fill_53178_11 : decode cJ7_fill_53178 11 = .ok (.iload_n 2, 1) := by decide +kernel
theorem dJ7_fill_53178_12 : decode cJ7_fill_53178 12 = .ok (.iload_n 1, 1) := by decide +kernel
theorem dJ7_fill_53178_13 : decode cJ7_fill_53178 13 = .ok (.iastore, 1) := by decide +kernel
theorem dJ7_fill_53178_14 : decode cJ7_fill_53178 14 = .ok (.iinc 2 1, 3) := by decide +kernel
theorem dJ7_fill_53178_17 : decode cJ7_fill_53178 17 = .ok (.goto (-12), 3) := by decide +kernel
theorem dJ7_fill_53178_20 : decode cJ7_fill_53178 20 = .ok (.return_, 1) := by decide +kernel
