theorem dX6_init_0 : decode cX6_init 0 = .ok (.aload_n 0, 1) := by decide +kernel
theorem dX6_init_1 : decode cX6_init 1 = .ok (.invokespecial 1, 3) := by decide +kernel
theorem dX6_init_4 : decode cX6_init 4 = .ok (.aload_n 0, 1) := by decide +kernel
theorem dX6_init_5 : decode cX6_init 5 = .ok (.bipush 100, 2) := by decide +kernel
theorem dX6_init_7 : decode cX6_init 7 = .ok (.newarray .int, 2) := by decide +kernel
theorem dX6_init_9 : decode cX6_init 9 = .ok (.putfield 7, 3) := by decide +kernel
theorem dX6_init_12 : decode cX6_init 12 = .ok (.aload_n 0, 1) := by decide +kernel
theorem dX6_init_13 : decode cX6_init 13 = .ok (.bipush 100, 2) := by decide +kernel
theorem dX6_init_15 : decode cX6_init 15 = .ok (.newarray .int, 2) := by decide +kernel
theorem dX6_init_17 : decode cX6_init 17 = .ok (.putfield 13, 3) := by decide +kernel
theorem dX6_init_20 : decode cX6_init 20 = .ok (.aload_n 0, 1) := by decide +kernel
theorem dX6_init_21 : decode cX6_init 21 = .ok (.bipush 100, 2) := by decide +kernel
theorem dX6_init_23 : decode cX6_init 23 = .ok (.newarray .int, 2) := by decide +kernel
theorem dX6_init_25 : decode cX6_init 25 = .ok (.putfield 16, 3) := by decide +kernel
theorem dX6_init_28 : decode cX6_init 28 = .ok (.aload_n 0, 1) := by decide +kernel
theorem dX6_init_29 : decode cX6_init 29 = .ok (.bipush 100, 2) := by decide +kernel
theorem dX6_init_31 : decode cX6_init 31 = .ok (.newarray .int, 2) := by decide +kernel
theorem dX6_init_33 : decode cX6_init 33 = .ok (.putfield 19, 3) := by decide +kernel
theorem dX6_init_36 : decode cX6_init 36 = .ok (.aload_n 0, 1) := by decide +kernel
theorem dX6_init_37 : decode cX6_init 37 = .ok (.bipush 7, 2) := by decide +kernel
theorem dX6_init_39 : decode cX6_init 39 = .ok (.newarray .int, 2) := by decide +kernel
theorem dX6_init_41 : decode cX6_init 41 = .ok (.putfield 22, 3) := by decide +kernel
theorem dX6_init_44 : decode cX6_init 44 = .ok (.aload_n 0, 1) := by decide +kernel
theorem dX6_init_45 : decode cX6_init 45 = .ok (.bipush 48, 2) := by decide +kernel
theorem dX6_init_47 : decode cX6_init 47 = .ok (.newarray .int, 2) := by decide +kernel
theorem dX6_init_49 : decode cX6_init 49 = .ok (.putfield 25, 3) := by decide +kernel
theorem dX6_init_52 : decode cX6_init 52 = .ok (.aload_n 0, 1) := by decide +kernel
theorem dX6_init_53 : decode cX6_init 53 = .ok (.bipush 104, 2) := by decide +kernel
theorem dX6_init_55 : decode cX6_init 55 = .ok (.newarray .int, 2) := by decide +kernel
theorem dX6_init_57 : decode cX6_init 57 = .ok (.putfield 28, 3) := by decide +kernel
theorem dX6_init_60 : decode cX6_init 60 = .ok (.aload_n 0, 1) := by decide +kernel
theorem dX6_init_61 : decode cX6_init 61 = .ok (.bipush 6, 2) := by decide +kernel
theorem dX6_init_63 : decode cX6_init 63 = .ok (.newarray .int, 2) := by decide +kernel
theorem dX6_init_65 : decode cX6_init 65 = .ok (.putfield 31, 3) := by decide +kernel
theorem dX6_init_68 : decode cX6_init 68 = .ok (.aload_n 0, 1) := by decide +kernel
theorem dX6_init_69 : decode cX6_init 69 = .ok (.bipush 120, 2) := by decide +kernel
theorem dX6_init_71 : decode cX6_init 71 = .ok (.newarray .int, 2) := by decide +kernel
theorem dX6_init_73 : decode cX6_init 73 = .ok (.putfield 34, 3) := by decide +kernel
theorem dX6_init_76 : decode cX6_init 76 = .ok (.aload_n 0, 1) := by decide +kernel
theorem dX6_init_77 : decode cX6_init 77 = .ok (.iconst 4, 1) := by decide +kernel
theorem dX6_init_78 : decode cX6_init 78 = .ok (.newarray .int, 2) := by decide +kernel
theorem dX6_init_80 : decode cX6_init 80 = .ok (.putfield 37, 3) := by decide +kernel
theorem dX6_init_83 : decode cX6_init 83 = .ok (.aload_n 0, 1) := by decide +kernel
theorem dX6_init_84 : decode cX6_init 84 = .ok (.iconst 4, 1) := by decide +kernel
theorem dX6_init_85 : decode cX6_init 85 = .ok (.newarray .int, 2) := by decide +kernel
theorem dX6_init_87 : decode cX6_init 87 = .ok (.putfield 40, 3) := by decide +kernel
theorem dX6_init_90 : decode cX6_init 90 = .ok (.aload_n 0, 1) := by decide +kernel
theorem dX6_init_91 : decode cX6_init 91 = .ok (.sipush 160, 3) := by decide +kernel
theorem dX6_init_94 : decode cX6_init 94 = .ok (.newarray .long, 2) := by decide +kernel
theorem dX6_init_96 : decode cX6_init 96 = .ok (.putfield 43, 3) := by decide +kernel
theorem dX6_init_99 : decode cX6_init 99 = .ok (.aload_n 0, 1) := by decide +kernel
theorem dX6_init_100 : decode cX6_init 100 = .ok (.bipush 40, 2) := by decide +kernel
theorem dX6_init_102 : decode cX6_init 102 = .ok (.newarray .long, 2) := by decide +kernel
theorem dX6_init_104 : decode cX6_init 104 = .ok (.putfield 47, 3) := by decide +kernel
theorem dX6_init_107 : decode cX6_init 107 = .ok (.aload_n 0, 1) := by decide +kernel
theorem dX6_init_108 : decode cX6_init 108 = .ok (.getfield 7, 3) := by decide +kernel
theorem dX6_init_111 : decode cX6_init 111 = .ok (.iconst 3, 1) := by decide +kernel
theorem dX6_init_112 : decode cX6_init 112 = .ok (.iconst 3, 1) := by decide +kernel
theorem dX6_init_113 : decode cX6_init 113 = .ok (.iastore, 1) := by decide +kernel
theorem dX6_init_114 : decode cX6_init 114 = .ok (.iconst 0, 1) := by decide +kernel
theorem dX6_init_115 : decode cX6_init 115 = .ok (.istore_n 1, 1) := by decide +kernel
theorem dX6_init_116 : decode cX6_init 116 = .ok (.iload_n 1, 1) := by decide +kernel
theorem dX6_init_117 : decode cX6_init 117 = .ok (.bipush 48, 2) := by decide +kernel
theorem dX6_init_119 : decode cX6_init 119 = .ok (.if_icmp .ge 19, 3) := by decide +kernel
theorem dX6_init_122 : decode cX6_init 122 = .ok (.aload_n 0, 1) := by decide +kernel
theorem dX6_init_123 : decode cX6_init 123 = .ok (.getfield 7, 3) := by decide +kernel
theorem dX6_init_126 : decode cX6_init 126 = .ok (.iconst 4, 1) := by decide +kernel
theorem dX6_init_127 : decode cX6_init 127 = .ok (.iload_n 1, 1) := by decide +kernel
theorem dX6_init_128 : decode cX6_init 128 = .ok (.iadd, 1) := by decide +kernel
theorem dX6_init_129 : decode cX6_init 129 = .ok (.bipush 10, 2) := by decide +kernel
theorem dX6_init_131 : decode cX6_init 131 = .ok (.iastore, 1) := by decide +kernel
theorem dX6_init_132 : decode cX6_init 132 = .ok (.iinc 1 1, 3) := by decide +kernel
theorem dX6_init_135 : decode cX6_init 135 = .ok (.goto (-19), 3) := by decide +kernel
theorem dX6_init_138 : decode cX6_init 138 = .ok (.return_, 1) := by decide +kernel
theorem dX6_in_0 : decode cX6_in 0 = .ok (.lload_n 0, 1) := by decide +kernel
theorem dX6_in_1 : decode cX6_in 1 = .ok (.lload_n 2, 1) := by decide +kernel
theorem dX6_in_2 : decode cX6_in 2 = .ok (.lcmp, 1) := by decide +kernel
theorem dX6_in_3 : decode cX6_in 3 = .ok (.ifCond .lt 14, 3) := by decide +kernel
theorem dX6_in_6 : decode cX6_in 6 = .ok (.lload_n 0, 1) := by decide +kernel
theorem dX6_in_7 : decode cX6_in 7 = .ok (.lload 4, 2) := by decide +kernel
theorem dX6_in_9 : decode cX6_in 9 = .ok (.lcmp, 1) := by decide +kernel
theorem dX6_in_10 : decode cX6_in 10 = .ok (.ifCond .gt 7, 3) := by decide +kernel
theorem dX6_in_13 : decode cX6_in 13 = .ok (.iconst 1, 1) := by decide +kernel
theorem dX6_in_14 : decode cX6_in 14 = .ok (.goto 4, 3) := by decide +kernel
theorem dX6_in_17 : decode cX6_in 17 = .ok (.iconst 0, 1) := by decide +kernel
theorem dX6_in_18 : decode cX6_in 18 = .ok (.ireturn, 1) := by decide +kernel
theorem dX6_finds_0 : decode cX6_finds 0 = .ok (.aload_n 0, 1) := by decide +kernel
theorem dX6_finds_1 : decode cX6_finds 1 = .ok (.getfield 22, 3) := by decide +kernel
theorem dX6_finds_4 : decode cX6_finds 4 = .ok (.ldc 50, 2) := by decide +kernel
theorem dX6_finds_6 : decode cX6_finds 6 = .ok (.iload_n 1, 1) := by decide +kernel
theorem dX6_finds_7 : decode cX6_finds 7 = .ok (.isub, 1) := by decide +kernel
theorem dX6_finds_8 : decode cX6_finds 8 = .ok (.dup2, 1) := by decide +kernel
theorem dX6_finds_9 : decode cX6_finds 9 = .ok (.iaload, 1) := by decide +kernel
theorem dX6_finds_10 : decode cX6_finds 10 = .ok (.iconst 1, 1) := by decide +kernel
theorem dX6_finds_11 : decode cX6_finds 11 = .ok (.iadd, 1) := by decide +kernel
theorem dX6_finds_12 : decode cX6_finds 12 = .ok (.iastore, 1) := by decide +kernel
theorem dX6_finds_13 : decode cX6_finds 13 = .ok (.iload_n 1, 1) := by decide +kernel
theorem dX6_finds_14 : decode cX6_finds 14 = .ok (.ireturn, 1) := by decide +kernel
theorem dX6_saves_0 : decode cX6_saves 0 = .ok (.iconst 0, 1) := by decide +kernel
theorem dX6_saves_1 : decode cX6_saves 1 = .ok (.istore_n 1, 1) := by decide +kernel
theorem dX6_saves_2 : decode cX6_saves 2 = .ok (.iload_n 1, 1) := by decide +kernel
theorem dX6_saves_3 : decode cX6_saves 3 = .ok (.bipush 100, 2) := by decide +kernel
theorem dX6_saves_5 : decode cX6_saves 5 = .ok (.if_icmp .ge 21, 3) := by decide +kernel
theorem dX6_saves_8 : decode cX6_saves 8 = .ok (.aload_n 0, 1) := by decide +kernel
theorem dX6_saves_9 : decode cX6_saves 9 = .ok (.getfield 16, 3) := by decide +kernel
theorem dX6_saves_12 : decode cX6_saves 12 = .ok (.iload_n 1, 1) := by decide +kernel
theorem dX6_saves_13 : decode cX6_saves 13 = .ok (.aload_n 0, 1) := by decide +kernel
theorem dX6_saves_14 : decode cX6_saves 14 = .ok (.getfield 7, 3) := by decide +kernel
theorem dX6_saves_17 : decode cX6_saves 17 = .ok (.iload_n 1, 1) := by decide +kernel
theorem dX6_saves_18 : decode cX6_saves 18 = .ok (.iaload, 1) := by decide +kernel
theorem dX6_saves_19 : decode cX6_saves 19 = .ok (.iastore, 1) := by decide +kernel
theorem dX6_saves_20 : decode cX6_saves 20 = .ok (.iinc 1 1, 3) := by decide +kernel
theorem dX6_saves_23 : decode cX6_saves 23 = .ok (.goto (-21), 3) := by decide +kernel
theorem dX6_saves_26 : decode cX6_saves 26 = .ok (.return_, 1) := by decide +kernel
theorem dX6_putsBack_0 : decode cX6_putsBack 0 = .ok (.iconst 0, 1) := by decide +kernel
theorem dX6_putsBack_1 : decode cX6_putsBack 1 = .ok (.istore_n 1, 1) := by decide +kernel
theorem dX6_putsBack_2 : decode cX6_putsBack 2 = .ok (.iload_n 1, 1) := by decide +kernel
theorem dX6_putsBack_3 : decode cX6_putsBack 3 = .ok (.bipush 100, 2) := by decide +kernel
theorem dX6_putsBack_5 : decode cX6_putsBack 5 = .ok (.if_icmp .ge 21, 3) := by decide +kernel
theorem dX6_putsBack_8 : decode cX6_putsBack 8 = .ok (.aload_n 0, 1) := by decide +kernel
theorem dX6_putsBack_9 : decode cX6_putsBack 9 = .ok (.getfield 7, 3) := by decide +kernel
theorem dX6_putsBack_12 : decode cX6_putsBack 12 = .ok (.iload_n 1, 1) := by decide +kernel
theorem dX6_putsBack_13 : decode cX6_putsBack 13 = .ok (.aload_n 0, 1) := by decide +kernel
theorem dX6_putsBack_14 : decode cX6_putsBack 14 = .ok (.getfield 16, 3) := by decide +kernel
theorem dX6_putsBack_17 : decode cX6_putsBack 17 = .ok (.iload_n 1, 1) := by decide +kernel
theorem dX6_putsBack_18 : decode cX6_putsBack 18 = .ok (.iaload, 1) := by decide +kernel
theorem dX6_putsBack_19 : decode cX6_putsBack 19 = .ok (.iastore, 1) := by decide +kernel
theorem dX6_putsBack_20 : decode cX6_putsBack 20 = .ok (.iinc 1 1, 3) := by decide +kernel
theorem dX6_putsBack_23 : decode cX6_putsBack 23 = .ok (.goto (-21), 3) := by decide +kernel
theorem dX6_putsBack_26 : decode cX6_putsBack 26 = .ok (.return_, 1) := by decide +kernel
theorem dX6_laysAside_0 : decode cX6_laysAside 0 = .ok (.iconst 0, 1) := by decide +kernel
theorem dX6_laysAside_1 : decode cX6_laysAside 1 = .ok (.istore_n 1, 1) := by decide +kernel
theorem dX6_laysAside_2 : decode cX6_laysAside 2 = .ok (.iload_n 1, 1) := by decide +kernel
theorem dX6_laysAside_3 : decode cX6_laysAside 3 = .ok (.bipush 100, 2) := by decide +kernel
theorem dX6_laysAside_5 : decode cX6_laysAside 5 = .ok (.if_icmp .ge 21, 3) := by decide +kernel
theorem dX6_laysAside_8 : decode cX6_laysAside 8 = .ok (.aload_n 0, 1) := by decide +kernel
theorem dX6_laysAside_9 : decode cX6_laysAside 9 = .ok (.getfield 19, 3) := by decide +kernel
theorem dX6_laysAside_12 : decode cX6_laysAside 12 = .ok (.iload_n 1, 1) := by decide +kernel
theorem dX6_laysAside_13 : decode cX6_laysAside 13 = .ok (.aload_n 0, 1) := by decide +kernel
theorem dX6_laysAside_14 : decode cX6_laysAside 14 = .ok (.getfield 7, 3) := by decide +kernel
theorem dX6_laysAside_17 : decode cX6_laysAside 17 = .ok (.iload_n 1, 1) := by decide +kernel
theorem dX6_laysAside_18 : decode cX6_laysAside 18 = .ok (.iaload, 1) := by decide +kernel
theorem dX6_laysAside_19 : decode cX6_laysAside 19 = .ok (.iastore, 1) := by decide +kernel
theorem dX6_laysAside_20 : decode cX6_laysAside 20 = .ok (.iinc 1 1, 3) := by decide +kernel
theorem dX6_laysAside_23 : decode cX6_laysAside 23 = .ok (.goto (-21), 3) := by decide +kernel
theorem dX6_laysAside_26 : decode cX6_laysAside 26 = .ok (.return_, 1) := by decide +kernel
theorem dX6_takesBack_0 : decode cX6_takesBack 0 = .ok (.iconst 0, 1) := by decide +kernel
theorem dX6_takesBack_1 : decode cX6_takesBack 1 = .ok (.istore_n 2, 1) := by decide +kernel
theorem dX6_takesBack_2 : decode cX6_takesBack 2 = .ok (.iload_n 2, 1) := by decide +kernel
theorem dX6_takesBack_3 : decode cX6_takesBack 3 = .ok (.bipush 100, 2) := by decide +kernel
theorem dX6_takesBack_5 : decode cX6_takesBack 5 = .ok (.if_icmp .ge 21, 3) := by decide +kernel
theorem dX6_takesBack_8 : decode cX6_takesBack 8 = .ok (.aload_n 0, 1) := by decide +kernel
theorem dX6_takesBack_9 : decode cX6_takesBack 9 = .ok (.getfield 7, 3) := by decide +kernel
theorem dX6_takesBack_12 : decode cX6_takesBack 12 = .ok (.iload_n 2, 1) := by decide +kernel
theorem dX6_takesBack_13 : decode cX6_takesBack 13 = .ok (.aload_n 0, 1) := by decide +kernel
theorem dX6_takesBack_14 : decode cX6_takesBack 14 = .ok (.getfield 19, 3) := by decide +kernel
theorem dX6_takesBack_17 : decode cX6_takesBack 17 = .ok (.iload_n 2, 1) := by decide +kernel
theorem dX6_takesBack_18 : decode cX6_takesBack 18 = .ok (.iaload, 1) := by decide +kernel
theorem dX6_takesBack_19 : decode cX6_takesBack 19 = .ok (.iastore, 1) := by decide +kernel
theorem dX6_takesBack_20 : decode cX6_takesBack 20 = .ok (.iinc 2 1, 3) := by decide +kernel
theorem dX6_takesBack_23 : decode cX6_takesBack 23 = .ok (.goto (-21), 3) := by decide +kernel
theorem dX6_takesBack_26 : decode cX6_takesBack 26 = .ok (.iload_n 1, 1) := by decide +kernel
theorem dX6_takesBack_27 : decode cX6_takesBack 27 = .ok (.ireturn, 1) := by decide +kernel
theorem dX6_becomes_0 : decode cX6_becomes 0 = .ok (.aload_n 0, 1) := by decide +kernel
theorem dX6_becomes_1 : decode cX6_becomes 1 = .ok (.getfield 7, 3) := by decide +kernel
theorem dX6_becomes_4 : decode cX6_becomes 4 = .ok (.iload_n 1, 1) := by decide +kernel
theorem dX6_becomes_5 : decode cX6_becomes 5 = .ok (.iaload, 1) := by decide +kernel
theorem dX6_becomes_6 : decode cX6_becomes 6 = .ok (.istore_n 3, 1) := by decide +kernel
theorem dX6_becomes_7 : decode cX6_becomes 7 = .ok (.aload_n 0, 1) := by decide +kernel
theorem dX6_becomes_8 : decode cX6_becomes 8 = .ok (.getfield 7, 3) := by decide +kernel
theorem dX6_becomes_11 : decode cX6_becomes 11 = .ok (.iload_n 1, 1) := by decide +kernel
theorem dX6_becomes_12 : decode cX6_becomes 12 = .ok (.iload_n 2, 1) := by decide +kernel
theorem dX6_becomes_13 : decode cX6_becomes 13 = .ok (.iastore, 1) := by decide +kernel
theorem dX6_becomes_14 : decode cX6_becomes 14 = .ok (.iload_n 3, 1) := by decide +kernel
theorem dX6_becomes_15 : decode cX6_becomes 15 = .ok (.ireturn, 1) := by decide +kernel
theorem dX6_isCell_0 : decode cX6_isCell 0 = .ok (.iload_n 0, 1) := by decide +kernel
theorem dX6_isCell_1 : decode cX6_isCell 1 = .ok (.i2l, 1) := by decide +kernel
theorem dX6_isCell_2 : decode cX6_isCell 2 = .ok (.lconst 0, 1) := by decide +kernel
theorem dX6_isCell_3 : decode cX6_isCell 3 = .ok (.ldc2_w 51, 3) := by decide +kernel
theorem dX6_isCell_6 : decode cX6_isCell 6 = .ok (.invokestatic 53, 3) := by decide +kernel
theorem dX6_isCell_9 : decode cX6_isCell 9 = .ok (.ireturn, 1) := by decide +kernel
theorem dX6_isSitter_0 : decode cX6_isSitter 0 = .ok (.iload_n 1, 1) := by decide +kernel
theorem dX6_isSitter_1 : decode cX6_isSitter 1 = .ok (.i2l, 1) := by decide +kernel
theorem dX6_isSitter_2 : decode cX6_isSitter 2 = .ok (.lconst 0, 1) := by decide +kernel
theorem dX6_isSitter_3 : decode cX6_isSitter 3 = .ok (.aload_n 0, 1) := by decide +kernel
theorem dX6_isSitter_4 : decode cX6_isSitter 4 = .ok (.getfield 7, 3) := by decide +kernel
theorem dX6_isSitter_7 : decode cX6_isSitter 7 = .ok (.iconst 0, 1) := by decide +kernel
theorem dX6_isSitter_8 : decode cX6_isSitter 8 = .ok (.iaload, 1) := by decide +kernel
theorem dX6_isSitter_9 : decode cX6_isSitter 9 = .ok (.iconst 1, 1) := by decide +kernel
theorem dX6_isSitter_10 : decode cX6_isSitter 10 = .ok (.isub, 1) := by decide +kernel
theorem dX6_isSitter_11 : decode cX6_isSitter 11 = .ok (.i2l, 1) := by decide +kernel
theorem dX6_isSitter_12 : decode cX6_isSitter 12 = .ok (.invokestatic 53, 3) := by decide +kernel
theorem dX6_isSitter_15 : decode cX6_isSitter 15 = .ok (.ireturn, 1) := by decide +kernel
theorem dX6_isLikeness_0 : decode cX6_isLikeness 0 = .ok (.iload_n 1, 1) := by decide +kernel
theorem dX6_isLikeness_1 : decode cX6_isLikeness 1 = .ok (.i2l, 1) := by decide +kernel
theorem dX6_isLikeness_2 : decode cX6_isLikeness 2 = .ok (.lconst 0, 1) := by decide +kernel
theorem dX6_isLikeness_3 : decode cX6_isLikeness 3 = .ok (.aload_n 0, 1) := by decide +kernel
theorem dX6_isLikeness_4 : decode cX6_isLikeness 4 = .ok (.getfield 7, 3) := by decide +kernel
theorem dX6_isLikeness_7 : decode cX6_isLikeness 7 = .ok (.iconst 1, 1) := by decide +kernel
theorem dX6_isLikeness_8 : decode cX6_isLikeness 8 = .ok (.iaload, 1) := by decide +kernel
theorem dX6_isLikeness_9 : decode cX6_isLikeness 9 = .ok (.iconst 1, 1) := by decide +kernel
theorem dX6_isLikeness_10 : decode cX6_isLikeness 10 = .ok (.isub, 1) := by decide +kernel
theorem dX6_isLikeness_11 : decode cX6_isLikeness 11 = .ok (.i2l, 1) := by decide +kernel
theorem dX6_isLikeness_12 : decode cX6_isLikeness 12 = .ok (.invokestatic 53, 3) := by decide +kernel
theorem dX6_isLikeness_15 : decode cX6_isLikeness 15 = .ok (.ireturn, 1) := by decide +kernel
theorem dX6_isKind_0 : decode cX6_isKind 0 = .ok (.iload_n 0, 1) := by decide +kernel
theorem dX6_isKind_1 : decode cX6_isKind 1 = .ok (.i2l, 1) := by decide +kernel
theorem dX6_isKind_2 : decode cX6_isKind 2 = .ok (.lconst 0, 1) := by decide +kernel
theorem dX6_isKind_3 : decode cX6_isKind 3 = .ok (.ldc2_w 57, 3) := by decide +kernel
theorem dX6_isKind_6 : decode cX6_isKind 6 = .ok (.invokestatic 53, 3) := by decide +kernel
theorem dX6_isKind_9 : decode cX6_isKind 9 = .ok (.ireturn, 1) := by decide +kernel
theorem dX6_spotOf_0 : decode cX6_spotOf 0 = .ok (.bipush 52, 2) := by decide +kernel
theorem dX6_spotOf_2 : decode cX6_spotOf 2 = .ok (.iconst 4, 1) := by decide +kernel
theorem dX6_spotOf_3 : decode cX6_spotOf 3 = .ok (.iload_n 0, 1) := by decide +kernel
theorem dX6_spotOf_4 : decode cX6_spotOf 4 = .ok (.imul, 1) := by decide +kernel
theorem dX6_spotOf_5 : decode cX6_spotOf 5 = .ok (.iadd, 1) := by decide +kernel
theorem dX6_spotOf_6 : decode cX6_spotOf 6 = .ok (.iload_n 1, 1) := by decide +kernel
theorem dX6_spotOf_7 : decode cX6_spotOf 7 = .ok (.iadd, 1) := by decide +kernel
theorem dX6_spotOf_8 : decode cX6_spotOf 8 = .ok (.ireturn, 1) := by decide +kernel
theorem dX6_its_0 : decode cX6_its 0 = .ok (.aload_n 0, 1) := by decide +kernel
theorem dX6_its_1 : decode cX6_its 1 = .ok (.getfield 7, 3) := by decide +kernel
theorem dX6_its_4 : decode cX6_its 4 = .ok (.iload_n 1, 1) := by decide +kernel
theorem dX6_its_5 : decode cX6_its 5 = .ok (.iload_n 2, 1) := by decide +kernel
theorem dX6_its_6 : decode cX6_its 6 = .ok (.invokestatic 59, 3) := by decide +kernel
theorem dX6_its_9 : decode cX6_its 9 = .ok (.iaload, 1) := by decide +kernel
theorem dX6_its_10 : decode cX6_its 10 = .ok (.ireturn, 1) := by decide +kernel
theorem dX6_placeOf_0 : decode cX6_placeOf 0 = .ok (.bipush 76, 2) := by decide +kernel
theorem dX6_placeOf_2 : decode cX6_placeOf 2 = .ok (.iconst 3, 1) := by decide +kernel
theorem dX6_placeOf_3 : decode cX6_placeOf 3 = .ok (.iload_n 0, 1) := by decide +kernel
theorem dX6_placeOf_4 : decode cX6_placeOf 4 = .ok (.imul, 1) := by decide +kernel
theorem dX6_placeOf_5 : decode cX6_placeOf 5 = .ok (.iadd, 1) := by decide +kernel
theorem dX6_placeOf_6 : decode cX6_placeOf 6 = .ok (.iload_n 1, 1) := by decide +kernel
theorem dX6_placeOf_7 : decode cX6_placeOf 7 = .ok (.iadd, 1) := by decide +kernel
theorem dX6_placeOf_8 : decode cX6_placeOf 8 = .ok (.ireturn, 1) := by decide +kernel
theorem dX6_likes_0 : decode cX6_likes 0 = .ok (.aload_n 0, 1) := by decide +kernel
theorem dX6_likes_1 : decode cX6_likes 1 = .ok (.getfield 7, 3) := by decide +kernel
theorem dX6_likes_4 : decode cX6_likes 4 = .ok (.iload_n 1, 1) := by decide +kernel
theorem dX6_likes_5 : decode cX6_likes 5 = .ok (.iload_n 2, 1) := by decide +kernel
theorem dX6_likes_6 : decode cX6_likes 6 = .ok (.invokestatic 63, 3) := by decide +kernel
theorem dX6_likes_9 : decode cX6_likes 9 = .ok (.iaload, 1) := by decide +kernel
theorem dX6_likes_10 : decode cX6_likes 10 = .ok (.ireturn, 1) := by decide +kernel
theorem dX6_isThere_0 : decode cX6_isThere 0 = .ok (.aload_n 0, 1) := by decide +kernel
theorem dX6_isThere_1 : decode cX6_isThere 1 = .ok (.getfield 66, 3) := by decide +kernel
theorem dX6_isThere_4 : decode cX6_isThere 4 = .ok (.iload_n 1, 1) := by decide +kernel
theorem dX6_isThere_5 : decode cX6_isThere 5 = .ok (.ishr, 1) := by decide +kernel
theorem dX6_isThere_6 : decode cX6_isThere 6 = .ok (.iconst 1, 1) := by decide +kernel
theorem dX6_isThere_7 : decode cX6_isThere 7 = .ok (.iand, 1) := by decide +kernel
theorem dX6_isThere_8 : decode cX6_isThere 8 = .ok (.ifCond .ne 7, 3) := by decide +kernel
theorem dX6_isThere_11 : decode cX6_isThere 11 = .ok (.iconst 1, 1) := by decide +kernel
theorem dX6_isThere_12 : decode cX6_isThere 12 = .ok (.goto 4, 3) := by decide +kernel
theorem dX6_isThere_15 : decode cX6_isThere 15 = .ok (.iconst 0, 1) := by decide +kernel
theorem dX6_isThere_16 : decode cX6_isThere 16 = .ok (.ireturn, 1) := by decide +kernel
theorem dX6_far_0 : decode cX6_far 0 = .ok (.iload_n 0, 1) := by decide +kernel
theorem dX6_far_1 : decode cX6_far 1 = .ok (.bipush 8, 2) := by decide +kernel
theorem dX6_far_3 : decode cX6_far 3 = .ok (.idiv, 1) := by decide +kernel
theorem dX6_far_4 : decode cX6_far 4 = .ok (.iload_n 1, 1) := by decide +kernel
theorem dX6_far_5 : decode cX6_far 5 = .ok (.bipush 8, 2) := by decide +kernel
theorem dX6_far_7 : decode cX6_far 7 = .ok (.idiv, 1) := by decide +kernel
theorem dX6_far_8 : decode cX6_far 8 = .ok (.isub, 1) := by decide +kernel
theorem dX6_far_9 : decode cX6_far 9 = .ok (.istore_n 2, 1) := by decide +kernel
theorem dX6_far_10 : decode cX6_far 10 = .ok (.iload_n 0, 1) := by decide +kernel
theorem dX6_far_11 : decode cX6_far 11 = .ok (.bipush 8, 2) := by decide +kernel
theorem dX6_far_13 : decode cX6_far 13 = .ok (.irem, 1) := by decide +kernel
theorem dX6_far_14 : decode cX6_far 14 = .ok (.iload_n 1, 1) := by decide +kernel
theorem dX6_far_15 : decode cX6_far 15 = .ok (.bipush 8, 2) := by decide +kernel
theorem dX6_far_17 : decode cX6_far 17 = .ok (.irem, 1) := by decide +kernel
theorem dX6_far_18 : decode cX6_far 18 = .ok (.isub, 1) := by decide +kernel
theorem dX6_far_19 : decode cX6_far 19 = .ok (.istore_n 3, 1) := by decide +kernel
theorem dX6_far_20 : decode cX6_far 20 = .ok (.iload_n 2, 1) := by decide +kernel
theorem dX6_far_21 : decode cX6_far 21 = .ok (.ifCond .ge 8, 3) := by decide +kernel
theorem dX6_far_24 : decode cX6_far 24 = .ok (.iload_n 2, 1) := by decide +kernel
theorem dX6_far_25 : decode cX6_far 25 = .ok (.ineg, 1) := by decide +kernel
theorem dX6_far_26 : decode cX6_far 26 = .ok (.goto 4, 3) := by decide +kernel
theorem dX6_far_29 : decode cX6_far 29 = .ok (.iload_n 2, 1) := by decide +kernel
theorem dX6_far_30 : decode cX6_far 30 = .ok (.iload_n 3, 1) := by decide +kernel
theorem dX6_far_31 : decode cX6_far 31 = .ok (.ifCond .ge 8, 3) := by decide +kernel
theorem dX6_far_34 : decode cX6_far 34 = .ok (.iload_n 3, 1) := by decide +kernel
theorem dX6_far_35 : decode cX6_far 35 = .ok (.ineg, 1) := by decide +kernel
theorem dX6_far_36 : decode cX6_far 36 = .ok (.goto 4, 3) := by decide +kernel
theorem dX6_far_39 : decode cX6_far 39 = .ok (.iload_n 3, 1) := by decide +kernel
theorem dX6_far_40 : decode cX6_far 40 = .ok (.iadd, 1) := by decide +kernel
theorem dX6_far_41 : decode cX6_far 41 = .ok (.ireturn, 1) := by decide +kernel
theorem dX6_counts_0 : decode cX6_counts 0 = .ok (.aload_n 0, 1) := by decide +kernel
theorem dX6_counts_1 : decode cX6_counts 1 = .ok (.iload_n 1, 1) := by decide +kernel
theorem dX6_counts_2 : decode cX6_counts 2 = .ok (.iconst 1, 1) := by decide +kernel
theorem dX6_counts_3 : decode cX6_counts 3 = .ok (.invokevirtual 70, 3) := by decide +kernel
theorem dX6_counts_6 : decode cX6_counts 6 = .ok (.istore_n 2, 1) := by decide +kernel
theorem dX6_counts_7 : decode cX6_counts 7 = .ok (.aload_n 0, 1) := by decide +kernel
theorem dX6_counts_8 : decode cX6_counts 8 = .ok (.iload_n 2, 1) := by decide +kernel
theorem dX6_counts_9 : decode cX6_counts 9 = .ok (.iconst 1, 1) := by decide +kernel
theorem dX6_counts_10 : decode cX6_counts 10 = .ok (.invokevirtual 73, 3) := by decide +kernel
theorem dX6_counts_13 : decode cX6_counts 13 = .ok (.istore_n 3, 1) := by decide +kernel
theorem dX6_counts_14 : decode cX6_counts 14 = .ok (.aload_n 0, 1) := by decide +kernel
theorem dX6_counts_15 : decode cX6_counts 15 = .ok (.iload_n 1, 1) := by decide +kernel
theorem dX6_counts_16 : decode cX6_counts 16 = .ok (.iconst 2, 1) := by decide +kernel
theorem dX6_counts_17 : decode cX6_counts 17 = .ok (.invokevirtual 70, 3) := by decide +kernel
theorem dX6_counts_20 : decode cX6_counts 20 = .ok (.istore 4, 2) := by decide +kernel
theorem dX6_counts_22 : decode cX6_counts 22 = .ok (.iload_n 3, 1) := by decide +kernel
theorem dX6_counts_23 : decode cX6_counts 23 = .ok (.iload 4, 2) := by decide +kernel
theorem dX6_counts_25 : decode cX6_counts 25 = .ok (.iconst 4, 1) := by decide +kernel
theorem dX6_counts_26 : decode cX6_counts 26 = .ok (.idiv, 1) := by decide +kernel
theorem dX6_counts_27 : decode cX6_counts 27 = .ok (.if_icmp .le 12, 3) := by decide +kernel
theorem dX6_counts_30 : decode cX6_counts 30 = .ok (.iload_n 3, 1) := by decide +kernel
theorem dX6_counts_31 : decode cX6_counts 31 = .ok (.iload 4, 2) := by decide +kernel
theorem dX6_counts_33 : decode cX6_counts 33 = .ok (.iconst 4, 1) := by decide +kernel
theorem dX6_counts_34 : decode cX6_counts 34 = .ok (.idiv, 1) := by decide +kernel
theorem dX6_counts_35 : decode cX6_counts 35 = .ok (.isub, 1) := by decide +kernel
theorem dX6_counts_36 : decode cX6_counts 36 = .ok (.goto 4, 3) := by decide +kernel
theorem dX6_counts_39 : decode cX6_counts 39 = .ok (.iconst 0, 1) := by decide +kernel
theorem dX6_counts_40 : decode cX6_counts 40 = .ok (.istore 5, 2) := by decide +kernel
theorem dX6_counts_42 : decode cX6_counts 42 = .ok (.aload_n 0, 1) := by decide +kernel
theorem dX6_counts_43 : decode cX6_counts 43 = .ok (.iload_n 2, 1) := by decide +kernel
theorem dX6_counts_44 : decode cX6_counts 44 = .ok (.iconst 0, 1) := by decide +kernel
theorem dX6_counts_45 : decode cX6_counts 45 = .ok (.invokevirtual 73, 3) := by decide +kernel
theorem dX6_counts_48 : decode cX6_counts 48 = .ok (.tableswitch 80 1 5 #[36, 41, 46, 60, 67], 36) := by decide +kernel
theorem dX6_counts_84 : decode cX6_counts 84 = .ok (.iload 5, 2) := by decide +kernel
theorem dX6_counts_86 : decode cX6_counts 86 = .ok (.iconst 5, 1) := by decide +kernel
theorem dX6_counts_87 : decode cX6_counts 87 = .ok (.iadd, 1) := by decide +kernel
theorem dX6_counts_88 : decode cX6_counts 88 = .ok (.ireturn, 1) := by decide +kernel
theorem dX6_counts_89 : decode cX6_counts 89 = .ok (.iload 5, 2) := by decide +kernel
theorem dX6_counts_91 : decode cX6_counts 91 = .ok (.iconst 2, 1) := by decide +kernel
theorem dX6_counts_92 : decode cX6_counts 92 = .ok (.idiv, 1) := by decide +kernel
theorem dX6_counts_93 : decode cX6_counts 93 = .ok (.ireturn, 1) := by decide +kernel
theorem dX6_counts_94 : decode cX6_counts 94 = .ok (.iload 4, 2) := by decide +kernel
theorem dX6_counts_96 : decode cX6_counts 96 = .ok (.sipush 365, 3) := by decide +kernel
theorem dX6_counts_99 : decode cX6_counts 99 = .ok (.if_icmp .ge 7, 3) := by decide +kernel
theorem dX6_counts_102 : decode cX6_counts 102 = .ok (.iload_n 3, 1) := by decide +kernel
theorem dX6_counts_103 : decode cX6_counts 103 = .ok (.goto 4, 3) := by decide +kernel
theorem dX6_counts_106 : decode cX6_counts 106 = .ok (.iconst 0, 1) := by decide +kernel
theorem dX6_counts_107 : decode cX6_counts 107 = .ok (.ireturn, 1) := by decide +kernel
theorem dX6_counts_108 : decode cX6_counts 108 = .ok (.iconst 0, 1) := by decide +kernel
theorem dX6_counts_109 : decode cX6_counts 109 = .ok (.iload 5, 2) := by decide +kernel
theorem dX6_counts_111 : decode cX6_counts 111 = .ok (.iconst 2, 1) := by decide +kernel
theorem dX6_counts_112 : decode cX6_counts 112 = .ok (.idiv, 1) := by decide +kernel
theorem dX6_counts_113 : decode cX6_counts 113 = .ok (.isub, 1) := by decide +kernel
theorem dX6_counts_114 : decode cX6_counts 114 = .ok (.ireturn, 1) := by decide +kernel
theorem dX6_counts_115 : decode cX6_counts 115 = .ok (.iload 4, 2) := by decide +kernel
theorem dX6_counts_117 : decode cX6_counts 117 = .ok (.bipush 7, 2) := by decide +kernel
theorem dX6_counts_119 : decode cX6_counts 119 = .ok (.if_icmp .ge 7, 3) := by decide +kernel
theorem dX6_counts_122 : decode cX6_counts 122 = .ok (.iload_n 3, 1) := by decide +kernel
theorem dX6_counts_123 : decode cX6_counts 123 = .ok (.goto 4, 3) := by decide +kernel
theorem dX6_counts_126 : decode cX6_counts 126 = .ok (.iconst 0, 1) := by decide +kernel
theorem dX6_counts_127 : decode cX6_counts 127 = .ok (.ireturn, 1) := by decide +kernel
theorem dX6_counts_128 : decode cX6_counts 128 = .ok (.iload 5, 2) := by decide +kernel
theorem dX6_counts_130 : decode cX6_counts 130 = .ok (.ireturn, 1) := by decide +kernel
theorem dX6_atLeastNothing_0 : decode cX6_atLeastNothing 0 = .ok (.iload_n 0, 1) := by decide +kernel
theorem dX6_atLeastNothing_1 : decode cX6_atLeastNothing 1 = .ok (.ifCond .ge 7, 3) := by decide +kernel
theorem dX6_atLeastNothing_4 : decode cX6_atLeastNothing 4 = .ok (.iconst 0, 1) := by decide +kernel
theorem dX6_atLeastNothing_5 : decode cX6_atLeastNothing 5 = .ok (.goto 4, 3) := by decide +kernel
theorem dX6_atLeastNothing_8 : decode cX6_atLeastNothing 8 = .ok (.iload_n 0, 1) := by decide +kernel
theorem dX6_atLeastNothing_9 : decode cX6_atLeastNothing 9 = .ok (.ireturn, 1) := by decide +kernel
theorem dX6_scared_0 : decode cX6_scared 0 = .ok (.aload_n 0, 1) := by decide +kernel
theorem dX6_scared_1 : decode cX6_scared 1 = .ok (.iload_n 1, 1) := by decide +kernel
theorem dX6_scared_2 : decode cX6_scared 2 = .ok (.invokevirtual 76, 3) := by decide +kernel
theorem dX6_scared_5 : decode cX6_scared 5 = .ok (.istore_n 3, 1) := by decide +kernel
theorem dX6_scared_6 : decode cX6_scared 6 = .ok (.iload_n 3, 1) := by decide +kernel
theorem dX6_scared_7 : decode cX6_scared 7 = .ok (.iconst 3, 1) := by decide +kernel
theorem dX6_scared_8 : decode cX6_scared 8 = .ok (.iload_n 2, 1) := by decide +kernel
theorem dX6_scared_9 : decode cX6_scared 9 = .ok (.imul, 1) := by decide +kernel
theorem dX6_scared_10 : decode cX6_scared 10 = .ok (.isub, 1) := by decide +kernel
theorem dX6_scared_11 : decode cX6_scared 11 = .ok (.invokestatic 80, 3) := by decide +kernel
theorem dX6_scared_14 : decode cX6_scared 14 = .ok (.istore 4, 2) := by decide +kernel
theorem dX6_scared_16 : decode cX6_scared 16 = .ok (.aload_n 0, 1) := by decide +kernel
theorem dX6_scared_17 : decode cX6_scared 17 = .ok (.aload_n 0, 1) := by decide +kernel
theorem dX6_scared_18 : decode cX6_scared 18 = .ok (.iload_n 1, 1) := by decide +kernel
theorem dX6_scared_19 : decode cX6_scared 19 = .ok (.iconst 1, 1) := by decide +kernel
theorem dX6_scared_20 : decode cX6_scared 20 = .ok (.invokevirtual 70, 3) := by decide +kernel
theorem dX6_scared_23 : decode cX6_scared 23 = .ok (.iconst 0, 1) := by decide +kernel
theorem dX6_scared_24 : decode cX6_scared 24 = .ok (.invokevirtual 73, 3) := by decide +kernel
theorem dX6_scared_27 : decode cX6_scared 27 = .ok (.tableswitch 81 1 5 #[33, 40, 81, 48, 66], 33) := by decide +kernel
theorem dX6_scared_60 : decode cX6_scared 60 = .ok (.iload_n 3, 1) := by decide +kernel
theorem dX6_scared_61 : decode cX6_scared 61 = .ok (.iload_n 2, 1) := by decide +kernel
theorem dX6_scared_62 : decode cX6_scared 62 = .ok (.isub, 1) := by decide +kernel
theorem dX6_scared_63 : decode cX6_scared 63 = .ok (.invokestatic 80, 3) := by decide +kernel
theorem dX6_scared_66 : decode cX6_scared 66 = .ok (.ireturn, 1) := by decide +kernel
theorem dX6_scared_67 : decode cX6_scared 67 = .ok (.iload 4, 2) := by decide +kernel
theorem dX6_scared_69 : decode cX6_scared 69 = .ok (.iconst 1, 1) := by decide +kernel
theorem dX6_scared_70 : decode cX6_scared 70 = .ok (.isub, 1) := by decide +kernel
theorem dX6_scared_71 : decode cX6_scared 71 = .ok (.invokestatic 80, 3) := by decide +kernel
theorem dX6_scared_74 : decode cX6_scared 74 = .ok (.ireturn, 1) := by decide +kernel
theorem dX6_scared_75 : decode cX6_scared 75 = .ok (.iload_n 3, 1) := by decide +kernel
theorem dX6_scared_76 : decode cX6_scared 76 = .ok (.iconst 2, 1) := by decide +kernel
theorem dX6_scared_77 : decode cX6_scared 77 = .ok (.iload_n 2, 1) := by decide +kernel
theorem dX6_scared_78 : decode cX6_scared 78 = .ok (.imul, 1) := by decide +kernel
theorem dX6_scared_79 : decode cX6_scared 79 = .ok (.iadd, 1) := by decide +kernel
theorem dX6_scared_80 : decode cX6_scared 80 = .ok (.ifCond .ge 11, 3) := by decide +kernel
theorem dX6_scared_83 : decode cX6_scared 83 = .ok (.iload_n 3, 1) := by decide +kernel
theorem dX6_scared_84 : decode cX6_scared 84 = .ok (.iconst 2, 1) := by decide +kernel
theorem dX6_scared_85 : decode cX6_scared 85 = .ok (.iload_n 2, 1) := by decide +kernel
theorem dX6_scared_86 : decode cX6_scared 86 = .ok (.imul, 1) := by decide +kernel
theorem dX6_scared_87 : decode cX6_scared 87 = .ok (.iadd, 1) := by decide +kernel
theorem dX6_scared_88 : decode cX6_scared 88 = .ok (.goto 4, 3) := by decide +kernel
theorem dX6_scared_91 : decode cX6_scared 91 = .ok (.iconst 0, 1) := by decide +kernel
theorem dX6_scared_92 : decode cX6_scared 92 = .ok (.ireturn, 1) := by decide +kernel
theorem dX6_scared_93 : decode cX6_scared 93 = .ok (.iload_n 2, 1) := by decide +kernel
theorem dX6_scared_94 : decode cX6_scared 94 = .ok (.iconst 1, 1) := by decide +kernel
theorem dX6_scared_95 : decode cX6_scared 95 = .ok (.if_icmp .gt 10, 3) := by decide +kernel
theorem dX6_scared_98 : decode cX6_scared 98 = .ok (.iconst 2, 1) := by decide +kernel
theorem dX6_scared_99 : decode cX6_scared 99 = .ok (.iload 4, 2) := by decide +kernel
theorem dX6_scared_101 : decode cX6_scared 101 = .ok (.imul, 1) := by decide +kernel
theorem dX6_scared_102 : decode cX6_scared 102 = .ok (.goto 5, 3) := by decide +kernel
theorem dX6_scared_105 : decode cX6_scared 105 = .ok (.iload 4, 2) := by decide +kernel
theorem dX6_scared_107 : decode cX6_scared 107 = .ok (.ireturn, 1) := by decide +kernel
theorem dX6_scared_108 : decode cX6_scared 108 = .ok (.iload 4, 2) := by decide +kernel
theorem dX6_scared_110 : decode cX6_scared 110 = .ok (.ireturn, 1) := by decide +kernel
theorem dX6_fear_0 : decode cX6_fear 0 = .ok (.iconst 0, 1) := by decide +kernel
theorem dX6_fear_1 : decode cX6_fear 1 = .ok (.istore_n 2, 1) := by decide +kernel
theorem dX6_fear_2 : decode cX6_fear 2 = .ok (.iconst 0, 1) := by decide +kernel
theorem dX6_fear_3 : decode cX6_fear 3 = .ok (.istore_n 3, 1) := by decide +kernel
theorem dX6_fear_4 : decode cX6_fear 4 = .ok (.iload_n 3, 1) := by decide +kernel
theorem dX6_fear_5 : decode cX6_fear 5 = .ok (.aload_n 0, 1) := by decide +kernel
theorem dX6_fear_6 : decode cX6_fear 6 = .ok (.getfield 7, 3) := by decide +kernel
theorem dX6_fear_9 : decode cX6_fear 9 = .ok (.iconst 0, 1) := by decide +kernel
theorem dX6_fear_10 : decode cX6_fear 10 = .ok (.iaload, 1) := by decide +kernel
theorem dX6_fear_11 : decode cX6_fear 11 = .ok (.if_icmp .ge 106, 3) := by decide +kernel
theorem dX6_fear_14 : decode cX6_fear 14 = .ok (.sipush (-1000), 3) := by decide +kernel
theorem dX6_fear_17 : decode cX6_fear 17 = .ok (.istore 4, 2) := by decide +kernel
theorem dX6_fear_19 : decode cX6_fear 19 = .ok (.iconst 0, 1) := by decide +kernel
theorem dX6_fear_20 : decode cX6_fear 20 = .ok (.istore 5, 2) := by decide +kernel
theorem dX6_fear_22 : decode cX6_fear 22 = .ok (.iload 5, 2) := by decide +kernel
theorem dX6_fear_24 : decode cX6_fear 24 = .ok (.aload_n 0, 1) := by decide +kernel
theorem dX6_fear_25 : decode cX6_fear 25 = .ok (.getfield 7, 3) := by decide +kernel
theorem dX6_fear_28 : decode cX6_fear 28 = .ok (.iconst 1, 1) := by decide +kernel
theorem dX6_fear_29 : decode cX6_fear 29 = .ok (.iaload, 1) := by decide +kernel
theorem dX6_fear_30 : decode cX6_fear 30 = .ok (.if_icmp .ge 64, 3) := by decide +kernel
theorem dX6_fear_33 : decode cX6_fear 33 = .ok (.aload_n 0, 1) := by decide +kernel
theorem dX6_fear_34 : decode cX6_fear 34 = .ok (.iload 5, 2) := by decide +kernel
theorem dX6_fear_36 : decode cX6_fear 36 = .ok (.iconst 1, 1) := by decide +kernel
theorem dX6_fear_37 : decode cX6_fear 37 = .ok (.invokevirtual 70, 3) := by decide +kernel
theorem dX6_fear_40 : decode cX6_fear 40 = .ok (.iload_n 3, 1) := by decide +kernel
theorem dX6_fear_41 : decode cX6_fear 41 = .ok (.if_icmp .ne 47, 3) := by decide +kernel
theorem dX6_fear_44 : decode cX6_fear 44 = .ok (.aload_n 0, 1) := by decide +kernel
theorem dX6_fear_45 : decode cX6_fear 45 = .ok (.iload 5, 2) := by decide +kernel
theorem dX6_fear_47 : decode cX6_fear 47 = .ok (.invokevirtual 83, 3) := by decide +kernel
theorem dX6_fear_50 : decode cX6_fear 50 = .ok (.ifCond .eq 38, 3) := by decide +kernel
theorem dX6_fear_53 : decode cX6_fear 53 = .ok (.aload_n 0, 1) := by decide +kernel
theorem dX6_fear_54 : decode cX6_fear 54 = .ok (.iload 5, 2) := by decide +kernel
theorem dX6_fear_56 : decode cX6_fear 56 = .ok (.iload_n 1, 1) := by decide +kernel
theorem dX6_fear_57 : decode cX6_fear 57 = .ok (.aload_n 0, 1) := by decide +kernel
theorem dX6_fear_58 : decode cX6_fear 58 = .ok (.iload 5, 2) := by decide +kernel
theorem dX6_fear_60 : decode cX6_fear 60 = .ok (.iconst 0, 1) := by decide +kernel
theorem dX6_fear_61 : decode cX6_fear 61 = .ok (.invokevirtual 70, 3) := by decide +kernel
theorem dX6_fear_64 : decode cX6_fear 64 = .ok (.invokestatic 87, 3) := by decide +kernel
theorem dX6_fear_67 : decode cX6_fear 67 = .ok (.invokevirtual 90, 3) := by decide +kernel
theorem dX6_fear_70 : decode cX6_fear 70 = .ok (.istore 6, 2) := by decide +kernel
theorem dX6_fear_72 : decode cX6_fear 72 = .ok (.iload 6, 2) := by decide +kernel
theorem dX6_fear_74 : decode cX6_fear 74 = .ok (.iload 4, 2) := by decide +kernel
theorem dX6_fear_76 : decode cX6_fear 76 = .ok (.if_icmp .le 8, 3) := by decide +kernel
theorem dX6_fear_79 : decode cX6_fear 79 = .ok (.iload 6, 2) := by decide +kernel
theorem dX6_fear_81 : decode cX6_fear 81 = .ok (.goto 5, 3) := by decide +kernel
theorem dX6_fear_84 : decode cX6_fear 84 = .ok (.iload 4, 2) := by decide +kernel
theorem dX6_fear_86 : decode cX6_fear 86 = .ok (.istore 4, 2) := by decide +kernel
theorem dX6_fear_88 : decode cX6_fear 88 = .ok (.iinc 5 1, 3) := by decide +kernel
theorem dX6_fear_91 : decode cX6_fear 91 = .ok (.goto (-69), 3) := by decide +kernel
theorem dX6_fear_94 : decode cX6_fear 94 = .ok (.iload_n 2, 1) := by decide +kernel
theorem dX6_fear_95 : decode cX6_fear 95 = .ok (.iload 4, 2) := by decide +kernel
theorem dX6_fear_97 : decode cX6_fear 97 = .ok (.sipush (-1000), 3) := by decide +kernel
theorem dX6_fear_100 : decode cX6_fear 100 = .ok (.if_icmp .ne 7, 3) := by decide +kernel
theorem dX6_fear_103 : decode cX6_fear 103 = .ok (.iconst 0, 1) := by decide +kernel
theorem dX6_fear_104 : decode cX6_fear 104 = .ok (.goto 5, 3) := by decide +kernel
theorem dX6_fear_107 : decode cX6_fear 107 = .ok (.iload 4, 2) := by decide +kernel
theorem dX6_fear_109 : decode cX6_fear 109 = .ok (.iadd, 1) := by decide +kernel
theorem dX6_fear_110 : decode cX6_fear 110 = .ok (.istore_n 2, 1) := by decide +kernel
theorem dX6_fear_111 : decode cX6_fear 111 = .ok (.iinc 3 1, 3) := by decide +kernel
theorem dX6_fear_114 : decode cX6_fear 114 = .ok (.goto (-110), 3) := by decide +kernel
theorem dX6_fear_117 : decode cX6_fear 117 = .ok (.iload_n 2, 1) := by decide +kernel
theorem dX6_fear_118 : decode cX6_fear 118 = .ok (.ireturn, 1) := by decide +kernel
theorem dX6_wheat_0 : decode cX6_wheat 0 = .ok (.iload_n 1, 1) := by decide +kernel
theorem dX6_wheat_1 : decode cX6_wheat 1 = .ok (.invokestatic 93, 3) := by decide +kernel
theorem dX6_wheat_4 : decode cX6_wheat 4 = .ok (.ifCond .eq 26, 3) := by decide +kernel
theorem dX6_wheat_7 : decode cX6_wheat 7 = .ok (.iload_n 2, 1) := by decide +kernel
theorem dX6_wheat_8 : decode cX6_wheat 8 = .ok (.i2l, 1) := by decide +kernel
theorem dX6_wheat_9 : decode cX6_wheat 9 = .ok (.lconst 0, 1) := by decide +kernel
theorem dX6_wheat_10 : decode cX6_wheat 10 = .ok (.ldc2_w 96, 3) := by decide +kernel
theorem dX6_wheat_13 : decode cX6_wheat 13 = .ok (.invokestatic 53, 3) := by decide +kernel
theorem dX6_wheat_16 : decode cX6_wheat 16 = .ok (.ifCond .eq 14, 3) := by decide +kernel
theorem dX6_wheat_19 : decode cX6_wheat 19 = .ok (.aload_n 0, 1) := by decide +kernel
theorem dX6_wheat_20 : decode cX6_wheat 20 = .ok (.iconst 4, 1) := by decide +kernel
theorem dX6_wheat_21 : decode cX6_wheat 21 = .ok (.iload_n 1, 1) := by decide +kernel
theorem dX6_wheat_22 : decode cX6_wheat 22 = .ok (.iadd, 1) := by decide +kernel
theorem dX6_wheat_23 : decode cX6_wheat 23 = .ok (.iload_n 2, 1) := by decide +kernel
theorem dX6_wheat_24 : decode cX6_wheat 24 = .ok (.invokevirtual 98, 3) := by decide +kernel
theorem dX6_wheat_27 : decode cX6_wheat 27 = .ok (.goto 9, 3) := by decide +kernel
theorem dX6_wheat_30 : decode cX6_wheat 30 = .ok (.aload_n 0, 1) := by decide +kernel
theorem dX6_wheat_31 : decode cX6_wheat 31 = .ok (.ldc 50, 2) := by decide +kernel
theorem dX6_wheat_33 : decode cX6_wheat 33 = .ok (.invokevirtual 101, 3) := by decide +kernel
theorem dX6_wheat_36 : decode cX6_wheat 36 = .ok (.ireturn, 1) := by decide +kernel
theorem dX6_thoseAt_0 : decode cX6_thoseAt 0 = .ok (.iconst 0, 1) := by decide +kernel
theorem dX6_thoseAt_1 : decode cX6_thoseAt 1 = .ok (.istore_n 2, 1) := by decide +kernel
theorem dX6_thoseAt_2 : decode cX6_thoseAt 2 = .ok (.iconst 0, 1) := by decide +kernel
theorem dX6_thoseAt_3 : decode cX6_thoseAt 3 = .ok (.istore_n 3, 1) := by decide +kernel
theorem dX6_thoseAt_4 : decode cX6_thoseAt 4 = .ok (.iload_n 3, 1) := by decide +kernel
theorem dX6_thoseAt_5 : decode cX6_thoseAt 5 = .ok (.aload_n 0, 1) := by decide +kernel
theorem dX6_thoseAt_6 : decode cX6_thoseAt 6 = .ok (.getfield 7, 3) := by decide +kernel
theorem dX6_thoseAt_9 : decode cX6_thoseAt 9 = .ok (.iconst 1, 1) := by decide +kernel
theorem dX6_thoseAt_10 : decode cX6_thoseAt 10 = .ok (.iaload, 1) := by decide +kernel
theorem dX6_thoseAt_11 : decode cX6_thoseAt 11 = .ok (.if_icmp .ge 29, 3) := by decide +kernel
theorem dX6_thoseAt_14 : decode cX6_thoseAt 14 = .ok (.iload_n 2, 1) := by decide +kernel
theorem dX6_thoseAt_15 : decode cX6_thoseAt 15 = .ok (.aload_n 0, 1) := by decide +kernel
theorem dX6_thoseAt_16 : decode cX6_thoseAt 16 = .ok (.iload_n 3, 1) := by decide +kernel
theorem dX6_thoseAt_17 : decode cX6_thoseAt 17 = .ok (.iconst 0, 1) := by decide +kernel
theorem dX6_thoseAt_18 : decode cX6_thoseAt 18 = .ok (.invokevirtual 70, 3) := by decide +kernel
theorem dX6_thoseAt_21 : decode cX6_thoseAt 21 = .ok (.iload_n 1, 1) := by decide +kernel
theorem dX6_thoseAt_22 : decode cX6_thoseAt 22 = .ok (.if_icmp .ne 9, 3) := by decide +kernel
theorem dX6_thoseAt_25 : decode cX6_thoseAt 25 = .ok (.iconst 1, 1) := by decide +kernel
theorem dX6_thoseAt_26 : decode cX6_thoseAt 26 = .ok (.iload_n 3, 1) := by decide +kernel
theorem dX6_thoseAt_27 : decode cX6_thoseAt 27 = .ok (.ishl, 1) := by decide +kernel
theorem dX6_thoseAt_28 : decode cX6_thoseAt 28 = .ok (.goto 4, 3) := by decide +kernel
theorem dX6_thoseAt_31 : decode cX6_thoseAt 31 = .ok (.iconst 0, 1) := by decide +kernel
theorem dX6_thoseAt_32 : decode cX6_thoseAt 32 = .ok (.ior, 1) := by decide +kernel
theorem dX6_thoseAt_33 : decode cX6_thoseAt 33 = .ok (.istore_n 2, 1) := by decide +kernel
theorem dX6_thoseAt_34 : decode cX6_thoseAt 34 = .ok (.iinc 3 1, 3) := by decide +kernel
theorem dX6_thoseAt_37 : decode cX6_thoseAt 37 = .ok (.goto (-33), 3) := by decide +kernel
theorem dX6_thoseAt_40 : decode cX6_thoseAt 40 = .ok (.iload_n 2, 1) := by decide +kernel
theorem dX6_thoseAt_41 : decode cX6_thoseAt 41 = .ok (.ireturn, 1) := by decide +kernel
theorem dX6_cell_0 : decode cX6_cell 0 = .ok (.iload_n 1, 1) := by decide +kernel
theorem dX6_cell_1 : decode cX6_cell 1 = .ok (.invokestatic 93, 3) := by decide +kernel
theorem dX6_cell_4 : decode cX6_cell 4 = .ok (.ifCond .eq 15, 3) := by decide +kernel
theorem dX6_cell_7 : decode cX6_cell 7 = .ok (.iload_n 2, 1) := by decide +kernel
theorem dX6_cell_8 : decode cX6_cell 8 = .ok (.i2l, 1) := by decide +kernel
theorem dX6_cell_9 : decode cX6_cell 9 = .ok (.lconst 0, 1) := by decide +kernel
theorem dX6_cell_10 : decode cX6_cell 10 = .ok (.ldc2_w 104, 3) := by decide +kernel
theorem dX6_cell_13 : decode cX6_cell 13 = .ok (.invokestatic 53, 3) := by decide +kernel
theorem dX6_cell_16 : decode cX6_cell 16 = .ok (.ifCond .ne 10, 3) := by decide +kernel
theorem dX6_cell_19 : decode cX6_cell 19 = .ok (.aload_n 0, 1) := by decide +kernel
theorem dX6_cell_20 : decode cX6_cell 20 = .ok (.ldc 50, 2) := by decide +kernel
theorem dX6_cell_22 : decode cX6_cell 22 = .ok (.invokevirtual 101, 3) := by decide +kernel
theorem dX6_cell_25 : decode cX6_cell 25 = .ok (.ireturn, 1) := by decide +kernel
theorem dX6_cell_26 : decode cX6_cell 26 = .ok (.iload_n 2, 1) := by decide +kernel
theorem dX6_cell_27 : decode cX6_cell 27 = .ok (.ifCond .ne 14, 3) := by decide +kernel
theorem dX6_cell_30 : decode cX6_cell 30 = .ok (.aload_n 0, 1) := by decide +kernel
theorem dX6_cell_31 : decode cX6_cell 31 = .ok (.getfield 7, 3) := by decide +kernel
theorem dX6_cell_34 : decode cX6_cell 34 = .ok (.iconst 4, 1) := by decide +kernel
theorem dX6_cell_35 : decode cX6_cell 35 = .ok (.iload_n 1, 1) := by decide +kernel
theorem dX6_cell_36 : decode cX6_cell 36 = .ok (.iadd, 1) := by decide +kernel
theorem dX6_cell_37 : decode cX6_cell 37 = .ok (.iaload, 1) := by decide +kernel
theorem dX6_cell_38 : decode cX6_cell 38 = .ok (.goto 25, 3) := by decide +kernel
theorem dX6_cell_41 : decode cX6_cell 41 = .ok (.iload_n 2, 1) := by decide +kernel
theorem dX6_cell_42 : decode cX6_cell 42 = .ok (.iconst 1, 1) := by decide +kernel
theorem dX6_cell_43 : decode cX6_cell 43 = .ok (.if_icmp .ne 15, 3) := by decide +kernel
theorem dX6_cell_46 : decode cX6_cell 46 = .ok (.sipush 1000, 3) := by decide +kernel
theorem dX6_cell_49 : decode cX6_cell 49 = .ok (.aload_n 0, 1) := by decide +kernel
theorem dX6_cell_50 : decode cX6_cell 50 = .ok (.iload_n 1, 1) := by decide +kernel
theorem dX6_cell_51 : decode cX6_cell 51 = .ok (.invokevirtual 106, 3) := by decide +kernel
theorem dX6_cell_54 : decode cX6_cell 54 = .ok (.iadd, 1) := by decide +kernel
theorem dX6_cell_55 : decode cX6_cell 55 = .ok (.goto 8, 3) := by decide +kernel
theorem dX6_cell_58 : decode cX6_cell 58 = .ok (.aload_n 0, 1) := by decide +kernel
theorem dX6_cell_59 : decode cX6_cell 59 = .ok (.iload_n 1, 1) := by decide +kernel
theorem dX6_cell_60 : decode cX6_cell 60 = .ok (.invokevirtual 109, 3) := by decide +kernel
theorem dX6_cell_63 : decode cX6_cell 63 = .ok (.ireturn, 1) := by decide +kernel
theorem dX6_crows_0 : decode cX6_crows 0 = .ok (.iload_n 1, 1) := by decide +kernel
theorem dX6_crows_1 : decode cX6_crows 1 = .ok (.i2l, 1) := by decide +kernel
theorem dX6_crows_2 : decode cX6_crows 2 = .ok (.lconst 0, 1) := by decide +kernel
theorem dX6_crows_3 : decode cX6_crows 3 = .ok (.ldc2_w 112, 3) := by decide +kernel
theorem dX6_crows_6 : decode cX6_crows 6 = .ok (.invokestatic 53, 3) := by decide +kernel
theorem dX6_crows_9 : decode cX6_crows 9 = .ok (.ifCond .eq 12, 3) := by decide +kernel
theorem dX6_crows_12 : decode cX6_crows 12 = .ok (.aload_n 0, 1) := by decide +kernel
theorem dX6_crows_13 : decode cX6_crows 13 = .ok (.iconst 3, 1) := by decide +kernel
theorem dX6_crows_14 : decode cX6_crows 14 = .ok (.iload_n 1, 1) := by decide +kernel
theorem dX6_crows_15 : decode cX6_crows 15 = .ok (.invokevirtual 98, 3) := by decide +kernel
theorem dX6_crows_18 : decode cX6_crows 18 = .ok (.goto 9, 3) := by decide +kernel
theorem dX6_crows_21 : decode cX6_crows 21 = .ok (.aload_n 0, 1) := by decide +kernel
theorem dX6_crows_22 : decode cX6_crows 22 = .ok (.ldc 50, 2) := by decide +kernel
theorem dX6_crows_24 : decode cX6_crows 24 = .ok (.invokevirtual 101, 3) := by decide +kernel
theorem dX6_crows_27 : decode cX6_crows 27 = .ok (.ireturn, 1) := by decide +kernel
theorem dX6_adds_0 : decode cX6_adds 0 = .ok (.aload_n 0, 1) := by decide +kernel
theorem dX6_adds_1 : decode cX6_adds 1 = .ok (.getfield 7, 3) := by decide +kernel
theorem dX6_adds_4 : decode cX6_adds 4 = .ok (.iconst 0, 1) := by decide +kernel
theorem dX6_adds_5 : decode cX6_adds 5 = .ok (.iaload, 1) := by decide +kernel
theorem dX6_adds_6 : decode cX6_adds 6 = .ok (.istore_n 2, 1) := by decide +kernel
theorem dX6_adds_7 : decode cX6_adds 7 = .ok (.aload_n 0, 1) := by decide +kernel
theorem dX6_adds_8 : decode cX6_adds 8 = .ok (.getfield 7, 3) := by decide +kernel
theorem dX6_adds_11 : decode cX6_adds 11 = .ok (.iload_n 2, 1) := by decide +kernel
theorem dX6_adds_12 : decode cX6_adds 12 = .ok (.iconst 0, 1) := by decide +kernel
theorem dX6_adds_13 : decode cX6_adds 13 = .ok (.invokestatic 59, 3) := by decide +kernel
theorem dX6_adds_16 : decode cX6_adds 16 = .ok (.iload_n 1, 1) := by decide +kernel
theorem dX6_adds_17 : decode cX6_adds 17 = .ok (.iastore, 1) := by decide +kernel
theorem dX6_adds_18 : decode cX6_adds 18 = .ok (.aload_n 0, 1) := by decide +kernel
theorem dX6_adds_19 : decode cX6_adds 19 = .ok (.getfield 7, 3) := by decide +kernel
theorem dX6_adds_22 : decode cX6_adds 22 = .ok (.iload_n 2, 1) := by decide +kernel
theorem dX6_adds_23 : decode cX6_adds 23 = .ok (.iconst 1, 1) := by decide +kernel
theorem dX6_adds_24 : decode cX6_adds 24 = .ok (.invokestatic 59, 3) := by decide +kernel
theorem dX6_adds_27 : decode cX6_adds 27 = .ok (.bipush 10, 2) := by decide +kernel
theorem dX6_adds_29 : decode cX6_adds 29 = .ok (.iastore, 1) := by decide +kernel
theorem dX6_adds_30 : decode cX6_adds 30 = .ok (.aload_n 0, 1) := by decide +kernel
theorem dX6_adds_31 : decode cX6_adds 31 = .ok (.getfield 7, 3) := by decide +kernel
theorem dX6_adds_34 : decode cX6_adds 34 = .ok (.iload_n 2, 1) := by decide +kernel
theorem dX6_adds_35 : decode cX6_adds 35 = .ok (.iconst 2, 1) := by decide +kernel
theorem dX6_adds_36 : decode cX6_adds 36 = .ok (.invokestatic 59, 3) := by decide +kernel
theorem dX6_adds_39 : decode cX6_adds 39 = .ok (.iconst 5, 1) := by decide +kernel
theorem dX6_adds_40 : decode cX6_adds 40 = .ok (.iastore, 1) := by decide +kernel
theorem dX6_adds_41 : decode cX6_adds 41 = .ok (.aload_n 0, 1) := by decide +kernel
theorem dX6_adds_42 : decode cX6_adds 42 = .ok (.getfield 7, 3) := by decide +kernel
theorem dX6_adds_45 : decode cX6_adds 45 = .ok (.iload_n 2, 1) := by decide +kernel
theorem dX6_adds_46 : decode cX6_adds 46 = .ok (.iconst 3, 1) := by decide +kernel
theorem dX6_adds_47 : decode cX6_adds 47 = .ok (.invokestatic 59, 3) := by decide +kernel
theorem dX6_adds_50 : decode cX6_adds 50 = .ok (.aload_n 0, 1) := by decide +kernel
theorem dX6_adds_51 : decode cX6_adds 51 = .ok (.getfield 7, 3) := by decide +kernel
theorem dX6_adds_54 : decode cX6_adds 54 = .ok (.iconst 2, 1) := by decide +kernel
theorem dX6_adds_55 : decode cX6_adds 55 = .ok (.iaload, 1) := by decide +kernel
theorem dX6_adds_56 : decode cX6_adds 56 = .ok (.iastore, 1) := by decide +kernel
theorem dX6_adds_57 : decode cX6_adds 57 = .ok (.aload_n 0, 1) := by decide +kernel
theorem dX6_adds_58 : decode cX6_adds 58 = .ok (.getfield 7, 3) := by decide +kernel
theorem dX6_adds_61 : decode cX6_adds 61 = .ok (.iconst 0, 1) := by decide +kernel
theorem dX6_adds_62 : decode cX6_adds 62 = .ok (.dup2, 1) := by decide +kernel
theorem dX6_adds_63 : decode cX6_adds 63 = .ok (.iaload, 1) := by decide +kernel
theorem dX6_adds_64 : decode cX6_adds 64 = .ok (.iconst 1, 1) := by decide +kernel
theorem dX6_adds_65 : decode cX6_adds 65 = .ok (.iadd, 1) := by decide +kernel
theorem dX6_adds_66 : decode cX6_adds 66 = .ok (.iastore, 1) := by decide +kernel
theorem dX6_adds_67 : decode cX6_adds 67 = .ok (.iload_n 2, 1) := by decide +kernel
theorem dX6_adds_68 : decode cX6_adds 68 = .ok (.ireturn, 1) := by decide +kernel
theorem dX6_sitter_0 : decode cX6_sitter 0 = .ok (.iload_n 1, 1) := by decide +kernel
theorem dX6_sitter_1 : decode cX6_sitter 1 = .ok (.invokestatic 114, 3) := by decide +kernel
theorem dX6_sitter_4 : decode cX6_sitter 4 = .ok (.ifCond .ne 10, 3) := by decide +kernel
theorem dX6_sitter_7 : decode cX6_sitter 7 = .ok (.aload_n 0, 1) := by decide +kernel
theorem dX6_sitter_8 : decode cX6_sitter 8 = .ok (.ldc 50, 2) := by decide +kernel
theorem dX6_sitter_10 : decode cX6_sitter 10 = .ok (.invokevirtual 101, 3) := by decide +kernel
theorem dX6_sitter_13 : decode cX6_sitter 13 = .ok (.ireturn, 1) := by decide +kernel
theorem dX6_sitter_14 : decode cX6_sitter 14 = .ok (.aload_n 0, 1) := by decide +kernel
theorem dX6_sitter_15 : decode cX6_sitter 15 = .ok (.getfield 7, 3) := by decide +kernel
theorem dX6_sitter_18 : decode cX6_sitter 18 = .ok (.iconst 0, 1) := by decide +kernel
theorem dX6_sitter_19 : decode cX6_sitter 19 = .ok (.iaload, 1) := by decide +kernel
theorem dX6_sitter_20 : decode cX6_sitter 20 = .ok (.bipush 6, 2) := by decide +kernel
theorem dX6_sitter_22 : decode cX6_sitter 22 = .ok (.if_icmp .ne 12, 3) := by decide +kernel
theorem dX6_sitter_25 : decode cX6_sitter 25 = .ok (.aload_n 0, 1) := by decide +kernel
theorem dX6_sitter_26 : decode cX6_sitter 26 = .ok (.ldc 117, 2) := by decide +kernel
theorem dX6_sitter_28 : decode cX6_sitter 28 = .ok (.invokevirtual 101, 3) := by decide +kernel
theorem dX6_sitter_31 : decode cX6_sitter 31 = .ok (.goto 8, 3) := by decide +kernel
theorem dX6_sitter_34 : decode cX6_sitter 34 = .ok (.aload_n 0, 1) := by decide +kernel
theorem dX6_sitter_35 : decode cX6_sitter 35 = .ok (.iload_n 1, 1) := by decide +kernel
theorem dX6_sitter_36 : decode cX6_sitter 36 = .ok (.invokevirtual 118, 3) := by decide +kernel
theorem dX6_sitter_39 : decode cX6_sitter 39 = .ok (.ireturn, 1) := by decide +kernel
theorem dX6_likenessesOf_0 : decode cX6_likenessesOf 0 = .ok (.iconst 0, 1) := by decide +kernel
theorem dX6_likenessesOf_1 : decode cX6_likenessesOf 1 = .ok (.istore_n 2, 1) := by decide +kernel
theorem dX6_likenessesOf_2 : decode cX6_likenessesOf 2 = .ok (.iconst 0, 1) := by decide +kernel
theorem dX6_likenessesOf_3 : decode cX6_likenessesOf 3 = .ok (.istore_n 3, 1) := by decide +kernel
theorem dX6_likenessesOf_4 : decode cX6_likenessesOf 4 = .ok (.iload_n 3, 1) := by decide +kernel
theorem dX6_likenessesOf_5 : decode cX6_likenessesOf 5 = .ok (.aload_n 0, 1) := by decide +kernel
theorem dX6_likenessesOf_6 : decode cX6_likenessesOf 6 = .ok (.getfield 7, 3) := by decide +kernel
theorem dX6_likenessesOf_9 : decode cX6_likenessesOf 9 = .ok (.iconst 1, 1) := by decide +kernel
theorem dX6_likenessesOf_10 : decode cX6_likenessesOf 10 = .ok (.iaload, 1) := by decide +kernel
theorem dX6_likenessesOf_11 : decode cX6_likenessesOf 11 = .ok (.if_icmp .ge 35, 3) := by decide +kernel
theorem dX6_likenessesOf_14 : decode cX6_likenessesOf 14 = .ok (.iload_n 2, 1) := by decide +kernel
theorem dX6_likenessesOf_15 : decode cX6_likenessesOf 15 = .ok (.aload_n 0, 1) := by decide +kernel
theorem dX6_likenessesOf_16 : decode cX6_likenessesOf 16 = .ok (.iload_n 3, 1) := by decide +kernel
theorem dX6_likenessesOf_17 : decode cX6_likenessesOf 17 = .ok (.iconst 1, 1) := by decide +kernel
theorem dX6_likenessesOf_18 : decode cX6_likenessesOf 18 = .ok (.invokevirtual 70, 3) := by decide +kernel
theorem dX6_likenessesOf_21 : decode cX6_likenessesOf 21 = .ok (.iload_n 1, 1) := by decide +kernel
theorem dX6_likenessesOf_22 : decode cX6_likenessesOf 22 = .ok (.if_icmp .ne 15, 3) := by decide +kernel
theorem dX6_likenessesOf_25 : decode cX6_likenessesOf 25 = .ok (.aload_n 0, 1) := by decide +kernel
theorem dX6_likenessesOf_26 : decode cX6_likenessesOf 26 = .ok (.iload_n 3, 1) := by decide +kernel
theorem dX6_likenessesOf_27 : decode cX6_likenessesOf 27 = .ok (.invokevirtual 83, 3) := by decide +kernel
theorem dX6_likenessesOf_30 : decode cX6_likenessesOf 30 = .ok (.ifCond .eq 7, 3) := by decide +kernel
theorem dX6_likenessesOf_33 : decode cX6_likenessesOf 33 = .ok (.iconst 1, 1) := by decide +kernel
theorem dX6_likenessesOf_34 : decode cX6_likenessesOf 34 = .ok (.goto 4, 3) := by decide +kernel
theorem dX6_likenessesOf_37 : decode cX6_likenessesOf 37 = .ok (.iconst 0, 1) := by decide +kernel
theorem dX6_likenessesOf_38 : decode cX6_likenessesOf 38 = .ok (.iadd, 1) := by decide +kernel
theorem dX6_likenessesOf_39 : decode cX6_likenessesOf 39 = .ok (.istore_n 2, 1) := by decide +kernel
theorem dX6_likenessesOf_40 : decode cX6_likenessesOf 40 = .ok (.iinc 3 1, 3) := by decide +kernel
theorem dX6_likenessesOf_43 : decode cX6_likenessesOf 43 = .ok (.goto (-39), 3) := by decide +kernel
theorem dX6_likenessesOf_46 : decode cX6_likenessesOf 46 = .ok (.iload_n 2, 1) := by decide +kernel
theorem dX6_likenessesOf_47 : decode cX6_likenessesOf 47 = .ok (.ireturn, 1) := by decide +kernel
theorem dX6_areMet_0 : decode cX6_areMet 0 = .ok (.aload_n 0, 1) := by decide +kernel
theorem dX6_areMet_1 : decode cX6_areMet 1 = .ok (.iload_n 1, 1) := by decide +kernel
theorem dX6_areMet_2 : decode cX6_areMet 2 = .ok (.iconst 0, 1) := by decide +kernel
theorem dX6_areMet_3 : decode cX6_areMet 3 = .ok (.invokevirtual 70, 3) := by decide +kernel
theorem dX6_areMet_6 : decode cX6_areMet 6 = .ok (.istore_n 3, 1) := by decide +kernel
theorem dX6_areMet_7 : decode cX6_areMet 7 = .ok (.aload_n 0, 1) := by decide +kernel
theorem dX6_areMet_8 : decode cX6_areMet 8 = .ok (.iload_n 2, 1) := by decide +kernel
theorem dX6_areMet_9 : decode cX6_areMet 9 = .ok (.iconst 0, 1) := by decide +kernel
theorem dX6_areMet_10 : decode cX6_areMet 10 = .ok (.invokevirtual 70, 3) := by decide +kernel
theorem dX6_areMet_13 : decode cX6_areMet 13 = .ok (.istore 4, 2) := by decide +kernel
theorem dX6_areMet_15 : decode cX6_areMet 15 = .ok (.aload_n 0, 1) := by decide +kernel
theorem dX6_areMet_16 : decode cX6_areMet 16 = .ok (.iload_n 1, 1) := by decide +kernel
theorem dX6_areMet_17 : decode cX6_areMet 17 = .ok (.iconst 1, 1) := by decide +kernel
theorem dX6_areMet_18 : decode cX6_areMet 18 = .ok (.invokevirtual 70, 3) := by decide +kernel
theorem dX6_areMet_21 : decode cX6_areMet 21 = .ok (.aload_n 0, 1) := by decide +kernel
theorem dX6_areMet_22 : decode cX6_areMet 22 = .ok (.iload_n 2, 1) := by decide +kernel
theorem dX6_areMet_23 : decode cX6_areMet 23 = .ok (.iconst 1, 1) := by decide +kernel
theorem dX6_areMet_24 : decode cX6_areMet 24 = .ok (.invokevirtual 70, 3) := by decide +kernel
theorem dX6_areMet_27 : decode cX6_areMet 27 = .ok (.if_icmp .ne 31, 3) := by decide +kernel
theorem dX6_areMet_30 : decode cX6_areMet 30 = .ok (.iload_n 3, 1) := by decide +kernel
theorem dX6_areMet_31 : decode cX6_areMet 31 = .ok (.bipush 8, 2) := by decide +kernel
theorem dX6_areMet_33 : decode cX6_areMet 33 = .ok (.idiv, 1) := by decide +kernel
theorem dX6_areMet_34 : decode cX6_areMet 34 = .ok (.iload 4, 2) := by decide +kernel
theorem dX6_areMet_36 : decode cX6_areMet 36 = .ok (.bipush 8, 2) := by decide +kernel
theorem dX6_areMet_38 : decode cX6_areMet 38 = .ok (.idiv, 1) := by decide +kernel
theorem dX6_areMet_39 : decode cX6_areMet 39 = .ok (.if_icmp .eq 15, 3) := by decide +kernel
theorem dX6_areMet_42 : decode cX6_areMet 42 = .ok (.iload_n 3, 1) := by decide +kernel
theorem dX6_areMet_43 : decode cX6_areMet 43 = .ok (.bipush 8, 2) := by decide +kernel
theorem dX6_areMet_45 : decode cX6_areMet 45 = .ok (.irem, 1) := by decide +kernel
theorem dX6_areMet_46 : decode cX6_areMet 46 = .ok (.iload 4, 2) := by decide +kernel
theorem dX6_areMet_48 : decode cX6_areMet 48 = .ok (.bipush 8, 2) := by decide +kernel
theorem dX6_areMet_50 : decode cX6_areMet 50 = .ok (.irem, 1) := by decide +kernel
theorem dX6_areMet_51 : decode cX6_areMet 51 = .ok (.if_icmp .ne 7, 3) := by decide +kernel
theorem dX6_areMet_54 : decode cX6_areMet 54 = .ok (.iconst 1, 1) := by decide +kernel
theorem dX6_areMet_55 : decode cX6_areMet 55 = .ok (.goto 4, 3) := by decide +kernel
theorem dX6_areMet_58 : decode cX6_areMet 58 = .ok (.iconst 0, 1) := by decide +kernel
theorem dX6_areMet_59 : decode cX6_areMet 59 = .ok (.ireturn, 1) := by decide +kernel
theorem dX6_meets_0 : decode cX6_meets 0 = .ok (.iconst 0, 1) := by decide +kernel
theorem dX6_meets_1 : decode cX6_meets 1 = .ok (.istore_n 2, 1) := by decide +kernel
theorem dX6_meets_2 : decode cX6_meets 2 = .ok (.iconst 0, 1) := by decide +kernel
theorem dX6_meets_3 : decode cX6_meets 3 = .ok (.istore_n 3, 1) := by decide +kernel
theorem dX6_meets_4 : decode cX6_meets 4 = .ok (.iload_n 3, 1) := by decide +kernel
theorem dX6_meets_5 : decode cX6_meets 5 = .ok (.aload_n 0, 1) := by decide +kernel
theorem dX6_meets_6 : decode cX6_meets 6 = .ok (.getfield 7, 3) := by decide +kernel
theorem dX6_meets_9 : decode cX6_meets 9 = .ok (.iconst 1, 1) := by decide +kernel
theorem dX6_meets_10 : decode cX6_meets 10 = .ok (.iaload, 1) := by decide +kernel
theorem dX6_meets_11 : decode cX6_meets 11 = .ok (.if_icmp .ge 69, 3) := by decide +kernel
theorem dX6_meets_14 : decode cX6_meets 14 = .ok (.iconst 0, 1) := by decide +kernel
theorem dX6_meets_15 : decode cX6_meets 15 = .ok (.istore 4, 2) := by decide +kernel
theorem dX6_meets_17 : decode cX6_meets 17 = .ok (.iload 4, 2) := by decide +kernel
theorem dX6_meets_19 : decode cX6_meets 19 = .ok (.iload_n 3, 1) := by decide +kernel
theorem dX6_meets_20 : decode cX6_meets 20 = .ok (.if_icmp .ge 54, 3) := by decide +kernel
theorem dX6_meets_23 : decode cX6_meets 23 = .ok (.iload_n 2, 1) := by decide +kernel
theorem dX6_meets_24 : decode cX6_meets 24 = .ok (.aload_n 0, 1) := by decide +kernel
theorem dX6_meets_25 : decode cX6_meets 25 = .ok (.iload_n 3, 1) := by decide +kernel
theorem dX6_meets_26 : decode cX6_meets 26 = .ok (.iconst 1, 1) := by decide +kernel
theorem dX6_meets_27 : decode cX6_meets 27 = .ok (.invokevirtual 70, 3) := by decide +kernel
theorem dX6_meets_30 : decode cX6_meets 30 = .ok (.iload_n 1, 1) := by decide +kernel
theorem dX6_meets_31 : decode cX6_meets 31 = .ok (.if_icmp .ne 34, 3) := by decide +kernel
theorem dX6_meets_34 : decode cX6_meets 34 = .ok (.aload_n 0, 1) := by decide +kernel
theorem dX6_meets_35 : decode cX6_meets 35 = .ok (.iload_n 3, 1) := by decide +kernel
theorem dX6_meets_36 : decode cX6_meets 36 = .ok (.iload 4, 2) := by decide +kernel
theorem dX6_meets_38 : decode cX6_meets 38 = .ok (.invokevirtual 121, 3) := by decide +kernel
theorem dX6_meets_41 : decode cX6_meets 41 = .ok (.ifCond .eq 24, 3) := by decide +kernel
theorem dX6_meets_44 : decode cX6_meets 44 = .ok (.aload_n 0, 1) := by decide +kernel
theorem dX6_meets_45 : decode cX6_meets 45 = .ok (.iload_n 3, 1) := by decide +kernel
theorem dX6_meets_46 : decode cX6_meets 46 = .ok (.invokevirtual 83, 3) := by decide +kernel
theorem dX6_meets_49 : decode cX6_meets 49 = .ok (.ifCond .eq 16, 3) := by decide +kernel
theorem dX6_meets_52 : decode cX6_meets 52 = .ok (.aload_n 0, 1) := by decide +kernel
theorem dX6_meets_53 : decode cX6_meets 53 = .ok (.iload 4, 2) := by decide +kernel
theorem dX6_meets_55 : decode cX6_meets 55 = .ok (.invokevirtual 83, 3) := by decide +kernel
theorem dX6_meets_58 : decode cX6_meets 58 = .ok (.ifCond .eq 7, 3) := by decide +kernel
theorem dX6_meets_61 : decode cX6_meets 61 = .ok (.iconst 1, 1) := by decide +kernel
theorem dX6_meets_62 : decode cX6_meets 62 = .ok (.goto 4, 3) := by decide +kernel
theorem dX6_meets_65 : decode cX6_meets 65 = .ok (.iconst 0, 1) := by decide +kernel
theorem dX6_meets_66 : decode cX6_meets 66 = .ok (.iadd, 1) := by decide +kernel
theorem dX6_meets_67 : decode cX6_meets 67 = .ok (.istore_n 2, 1) := by decide +kernel
theorem dX6_meets_68 : decode cX6_meets 68 = .ok (.iinc 4 1, 3) := by decide +kernel
theorem dX6_meets_71 : decode cX6_meets 71 = .ok (.goto (-54), 3) := by decide +kernel
theorem dX6_meets_74 : decode cX6_meets 74 = .ok (.iinc 3 1, 3) := by decide +kernel
theorem dX6_meets_77 : decode cX6_meets 77 = .ok (.goto (-73), 3) := by decide +kernel
theorem dX6_meets_80 : decode cX6_meets 80 = .ok (.iload_n 2, 1) := by decide +kernel
theorem dX6_meets_81 : decode cX6_meets 81 = .ok (.ireturn, 1) := by decide +kernel
theorem dX6_of_0 : decode cX6_of 0 = .ok (.aload_n 0, 1) := by decide +kernel
theorem dX6_of_1 : decode cX6_of 1 = .ok (.iload_n 1, 1) := by decide +kernel
theorem dX6_of_2 : decode cX6_of 2 = .ok (.invokevirtual 125, 3) := by decide +kernel
theorem dX6_of_5 : decode cX6_of 5 = .ok (.ifCond .eq 15, 3) := by decide +kernel
theorem dX6_of_8 : decode cX6_of 8 = .ok (.iload_n 2, 1) := by decide +kernel
theorem dX6_of_9 : decode cX6_of 9 = .ok (.i2l, 1) := by decide +kernel
theorem dX6_of_10 : decode cX6_of 10 = .ok (.lconst 0, 1) := by decide +kernel
theorem dX6_of_11 : decode cX6_of 11 = .ok (.ldc2_w 57, 3) := by decide +kernel
theorem dX6_of_14 : decode cX6_of 14 = .ok (.invokestatic 53, 3) := by decide +kernel
theorem dX6_of_17 : decode cX6_of 17 = .ok (.ifCond .ne 10, 3) := by decide +kernel
theorem dX6_of_20 : decode cX6_of 20 = .ok (.aload_n 0, 1) := by decide +kernel
theorem dX6_of_21 : decode cX6_of 21 = .ok (.ldc 50, 2) := by decide +kernel
theorem dX6_of_23 : decode cX6_of 23 = .ok (.invokevirtual 101, 3) := by decide +kernel
theorem dX6_of_26 : decode cX6_of 26 = .ok (.ireturn, 1) := by decide +kernel
theorem dX6_of_27 : decode cX6_of 27 = .ok (.iload_n 2, 1) := by decide +kernel
theorem dX6_of_28 : decode cX6_of 28 = .ok (.iconst 4, 1) := by decide +kernel
theorem dX6_of_29 : decode cX6_of 29 = .ok (.if_icmp .ge 12, 3) := by decide +kernel
theorem dX6_of_32 : decode cX6_of 32 = .ok (.aload_n 0, 1) := by decide +kernel
theorem dX6_of_33 : decode cX6_of 33 = .ok (.iload_n 1, 1) := by decide +kernel
theorem dX6_of_34 : decode cX6_of 34 = .ok (.iload_n 2, 1) := by decide +kernel
theorem dX6_of_35 : decode cX6_of 35 = .ok (.invokevirtual 73, 3) := by decide +kernel
theorem dX6_of_38 : decode cX6_of 38 = .ok (.goto 21, 3) := by decide +kernel
theorem dX6_of_41 : decode cX6_of 41 = .ok (.iload_n 2, 1) := by decide +kernel
theorem dX6_of_42 : decode cX6_of 42 = .ok (.iconst 4, 1) := by decide +kernel
theorem dX6_of_43 : decode cX6_of 43 = .ok (.if_icmp .ne 11, 3) := by decide +kernel
theorem dX6_of_46 : decode cX6_of 46 = .ok (.aload_n 0, 1) := by decide +kernel
theorem dX6_of_47 : decode cX6_of 47 = .ok (.iload_n 1, 1) := by decide +kernel
theorem dX6_of_48 : decode cX6_of 48 = .ok (.invokevirtual 128, 3) := by decide +kernel
theorem dX6_of_51 : decode cX6_of 51 = .ok (.goto 8, 3) := by decide +kernel
theorem dX6_of_54 : decode cX6_of 54 = .ok (.aload_n 0, 1) := by decide +kernel
theorem dX6_of_55 : decode cX6_of 55 = .ok (.iload_n 1, 1) := by decide +kernel
theorem dX6_of_56 : decode cX6_of 56 = .ok (.invokevirtual 131, 3) := by decide +kernel
theorem dX6_of_59 : decode cX6_of 59 = .ok (.ireturn, 1) := by decide +kernel
theorem dX6_set_0 : decode cX6_set 0 = .ok (.iload_n 2, 1) := by decide +kernel
theorem dX6_set_1 : decode cX6_set 1 = .ok (.iconst 1, 1) := by decide +kernel
theorem dX6_set_2 : decode cX6_set 2 = .ok (.if_icmp .ne 15, 3) := by decide +kernel
theorem dX6_set_5 : decode cX6_set 5 = .ok (.iload_n 3, 1) := by decide +kernel
theorem dX6_set_6 : decode cX6_set 6 = .ok (.i2l, 1) := by decide +kernel
theorem dX6_set_7 : decode cX6_set 7 = .ok (.lconst 0, 1) := by decide +kernel
theorem dX6_set_8 : decode cX6_set 8 = .ok (.ldc2_w 134, 3) := by decide +kernel
theorem dX6_set_11 : decode cX6_set 11 = .ok (.invokestatic 53, 3) := by decide +kernel
theorem dX6_set_14 : decode cX6_set 14 = .ok (.goto 25, 3) := by decide +kernel
theorem dX6_set_17 : decode cX6_set 17 = .ok (.iload_n 2, 1) := by decide +kernel
theorem dX6_set_18 : decode cX6_set 18 = .ok (.iconst 2, 1) := by decide +kernel
theorem dX6_set_19 : decode cX6_set 19 = .ok (.if_icmp .ne 19, 3) := by decide +kernel
theorem dX6_set_22 : decode cX6_set 22 = .ok (.iload_n 3, 1) := by decide +kernel
theorem dX6_set_23 : decode cX6_set 23 = .ok (.i2l, 1) := by decide +kernel
theorem dX6_set_24 : decode cX6_set 24 = .ok (.lconst 0, 1) := by decide +kernel
theorem dX6_set_25 : decode cX6_set 25 = .ok (.ldc2_w 96, 3) := by decide +kernel
theorem dX6_set_28 : decode cX6_set 28 = .ok (.invokestatic 53, 3) := by decide +kernel
theorem dX6_set_31 : decode cX6_set 31 = .ok (.ifCond .eq 7, 3) := by decide +kernel
theorem dX6_set_34 : decode cX6_set 34 = .ok (.iconst 1, 1) := by decide +kernel
theorem dX6_set_35 : decode cX6_set 35 = .ok (.goto 4, 3) := by decide +kernel
theorem dX6_set_38 : decode cX6_set 38 = .ok (.iconst 0, 1) := by decide +kernel
theorem dX6_set_39 : decode cX6_set 39 = .ok (.istore 4, 2) := by decide +kernel
theorem dX6_set_41 : decode cX6_set 41 = .ok (.aload_n 0, 1) := by decide +kernel
theorem dX6_set_42 : decode cX6_set 42 = .ok (.iload_n 1, 1) := by decide +kernel
theorem dX6_set_43 : decode cX6_set 43 = .ok (.invokevirtual 125, 3) := by decide +kernel
theorem dX6_set_46 : decode cX6_set 46 = .ok (.ifCond .eq 21, 3) := by decide +kernel
theorem dX6_set_49 : decode cX6_set 49 = .ok (.iload 4, 2) := by decide +kernel
theorem dX6_set_51 : decode cX6_set 51 = .ok (.ifCond .eq 16, 3) := by decide +kernel
theorem dX6_set_54 : decode cX6_set 54 = .ok (.aload_n 0, 1) := by decide +kernel
theorem dX6_set_55 : decode cX6_set 55 = .ok (.iload_n 1, 1) := by decide +kernel
theorem dX6_set_56 : decode cX6_set 56 = .ok (.iload_n 2, 1) := by decide +kernel
theorem dX6_set_57 : decode cX6_set 57 = .ok (.invokestatic 59, 3) := by decide +kernel
theorem dX6_set_60 : decode cX6_set 60 = .ok (.iload_n 3, 1) := by decide +kernel
theorem dX6_set_61 : decode cX6_set 61 = .ok (.invokevirtual 98, 3) := by decide +kernel
theorem dX6_set_64 : decode cX6_set 64 = .ok (.goto 9, 3) := by decide +kernel
theorem dX6_set_67 : decode cX6_set 67 = .ok (.aload_n 0, 1) := by decide +kernel
theorem dX6_set_68 : decode cX6_set 68 = .ok (.ldc 50, 2) := by decide +kernel
theorem dX6_set_70 : decode cX6_set 70 = .ok (.invokevirtual 101, 3) := by decide +kernel
theorem dX6_set_73 : decode cX6_set 73 = .ok (.ireturn, 1) := by decide +kernel
theorem dX6_turn_0 : decode cX6_turn 0 = .ok (.aload_n 0, 1) := by decide +kernel
theorem dX6_turn_1 : decode cX6_turn 1 = .ok (.iload_n 1, 1) := by decide +kernel
theorem dX6_turn_2 : decode cX6_turn 2 = .ok (.invokevirtual 125, 3) := by decide +kernel
theorem dX6_turn_5 : decode cX6_turn 5 = .ok (.ifCond .eq 23, 3) := by decide +kernel
theorem dX6_turn_8 : decode cX6_turn 8 = .ok (.iload_n 2, 1) := by decide +kernel
theorem dX6_turn_9 : decode cX6_turn 9 = .ok (.invokestatic 114, 3) := by decide +kernel
theorem dX6_turn_12 : decode cX6_turn 12 = .ok (.ifCond .eq 16, 3) := by decide +kernel
theorem dX6_turn_15 : decode cX6_turn 15 = .ok (.aload_n 0, 1) := by decide +kernel
theorem dX6_turn_16 : decode cX6_turn 16 = .ok (.iload_n 1, 1) := by decide +kernel
theorem dX6_turn_17 : decode cX6_turn 17 = .ok (.iconst 0, 1) := by decide +kernel
theorem dX6_turn_18 : decode cX6_turn 18 = .ok (.invokestatic 59, 3) := by decide +kernel
theorem dX6_turn_21 : decode cX6_turn 21 = .ok (.iload_n 2, 1) := by decide +kernel
theorem dX6_turn_22 : decode cX6_turn 22 = .ok (.invokevirtual 98, 3) := by decide +kernel
theorem dX6_turn_25 : decode cX6_turn 25 = .ok (.goto 9, 3) := by decide +kernel
theorem dX6_turn_28 : decode cX6_turn 28 = .ok (.aload_n 0, 1) := by decide +kernel
theorem dX6_turn_29 : decode cX6_turn 29 = .ok (.ldc 50, 2) := by decide +kernel
theorem dX6_turn_31 : decode cX6_turn 31 = .ok (.invokevirtual 101, 3) := by decide +kernel
theorem dX6_turn_34 : decode cX6_turn 34 = .ok (.ireturn, 1) := by decide +kernel
theorem dX6_isUnder_0 : decode cX6_isUnder 0 = .ok (.iload_n 1, 1) := by decide +kernel
theorem dX6_isUnder_1 : decode cX6_isUnder 1 = .ok (.ifCond .eq 20, 3) := by decide +kernel
theorem dX6_isUnder_4 : decode cX6_isUnder 4 = .ok (.iload_n 0, 1) := by decide +kernel
theorem dX6_isUnder_5 : decode cX6_isUnder 5 = .ok (.iload_n 1, 1) := by decide +kernel
theorem dX6_isUnder_6 : decode cX6_isUnder 6 = .ok (.if_icmp .eq 15, 3) := by decide +kernel
theorem dX6_isUnder_9 : decode cX6_isUnder 9 = .ok (.iload_n 0, 1) := by decide +kernel
theorem dX6_isUnder_10 : decode cX6_isUnder 10 = .ok (.iconst 3, 1) := by decide +kernel
theorem dX6_isUnder_11 : decode cX6_isUnder 11 = .ok (.if_icmp .le 14, 3) := by decide +kernel
theorem dX6_isUnder_14 : decode cX6_isUnder 14 = .ok (.iload_n 0, 1) := by decide +kernel
theorem dX6_isUnder_15 : decode cX6_isUnder 15 = .ok (.iconst 2, 1) := by decide +kernel
theorem dX6_isUnder_16 : decode cX6_isUnder 16 = .ok (.isub, 1) := by decide +kernel
theorem dX6_isUnder_17 : decode cX6_isUnder 17 = .ok (.iload_n 1, 1) := by decide +kernel
theorem dX6_isUnder_18 : decode cX6_isUnder 18 = .ok (.if_icmp .ne 7, 3) := by decide +kernel
theorem dX6_isUnder_21 : decode cX6_isUnder 21 = .ok (.iconst 1, 1) := by decide +kernel
theorem dX6_isUnder_22 : decode cX6_isUnder 22 = .ok (.goto 4, 3) := by decide +kernel
theorem dX6_isUnder_25 : decode cX6_isUnder 25 = .ok (.iconst 0, 1) := by decide +kernel
theorem dX6_isUnder_26 : decode cX6_isUnder 26 = .ok (.ireturn, 1) := by decide +kernel
theorem dX6_as_0 : decode cX6_as 0 = .ok (.aload_n 0, 1) := by decide +kernel
theorem dX6_as_1 : decode cX6_as 1 = .ok (.iload_n 1, 1) := by decide +kernel
theorem dX6_as_2 : decode cX6_as 2 = .ok (.invokevirtual 125, 3) := by decide +kernel
theorem dX6_as_5 : decode cX6_as 5 = .ok (.ifCond .eq 10, 3) := by decide +kernel
theorem dX6_as_8 : decode cX6_as 8 = .ok (.iload_n 2, 1) := by decide +kernel
theorem dX6_as_9 : decode cX6_as 9 = .ok (.invokestatic 114, 3) := by decide +kernel
theorem dX6_as_12 : decode cX6_as 12 = .ok (.ifCond .ne 10, 3) := by decide +kernel
theorem dX6_as_15 : decode cX6_as 15 = .ok (.aload_n 0, 1) := by decide +kernel
theorem dX6_as_16 : decode cX6_as 16 = .ok (.ldc 50, 2) := by decide +kernel
theorem dX6_as_18 : decode cX6_as 18 = .ok (.invokevirtual 101, 3) := by decide +kernel
theorem dX6_as_21 : decode cX6_as 21 = .ok (.ireturn, 1) := by decide +kernel
theorem dX6_as_22 : decode cX6_as 22 = .ok (.aload_n 0, 1) := by decide +kernel
theorem dX6_as_23 : decode cX6_as 23 = .ok (.iload_n 1, 1) := by decide +kernel
theorem dX6_as_24 : decode cX6_as 24 = .ok (.iconst 0, 1) := by decide +kernel
theorem dX6_as_25 : decode cX6_as 25 = .ok (.invokevirtual 73, 3) := by decide +kernel
theorem dX6_as_28 : decode cX6_as 28 = .ok (.iload_n 2, 1) := by decide +kernel
theorem dX6_as_29 : decode cX6_as 29 = .ok (.invokestatic 136, 3) := by decide +kernel
theorem dX6_as_32 : decode cX6_as 32 = .ok (.ifCond .eq 12, 3) := by decide +kernel
theorem dX6_as_35 : decode cX6_as 35 = .ok (.aload_n 0, 1) := by decide +kernel
theorem dX6_as_36 : decode cX6_as 36 = .ok (.iload_n 1, 1) := by decide +kernel
theorem dX6_as_37 : decode cX6_as 37 = .ok (.iconst 1, 1) := by decide +kernel
theorem dX6_as_38 : decode cX6_as 38 = .ok (.invokevirtual 73, 3) := by decide +kernel
theorem dX6_as_41 : decode cX6_as 41 = .ok (.goto 9, 3) := by decide +kernel
theorem dX6_as_44 : decode cX6_as 44 = .ok (.aload_n 0, 1) := by decide +kernel
theorem dX6_as_45 : decode cX6_as 45 = .ok (.ldc 139, 2) := by decide +kernel
theorem dX6_as_47 : decode cX6_as 47 = .ok (.invokevirtual 101, 3) := by decide +kernel
theorem dX6_as_50 : decode cX6_as 50 = .ok (.ireturn, 1) := by decide +kernel
theorem dX6_puts_0 : decode cX6_puts 0 = .ok (.aload_n 0, 1) := by decide +kernel
theorem dX6_puts_1 : decode cX6_puts 1 = .ok (.getfield 7, 3) := by decide +kernel
theorem dX6_puts_4 : decode cX6_puts 4 = .ok (.iconst 1, 1) := by decide +kernel
theorem dX6_puts_5 : decode cX6_puts 5 = .ok (.iaload, 1) := by decide +kernel
theorem dX6_puts_6 : decode cX6_puts 6 = .ok (.istore_n 3, 1) := by decide +kernel
theorem dX6_puts_7 : decode cX6_puts 7 = .ok (.aload_n 0, 1) := by decide +kernel
theorem dX6_puts_8 : decode cX6_puts 8 = .ok (.getfield 7, 3) := by decide +kernel
theorem dX6_puts_11 : decode cX6_puts 11 = .ok (.iload_n 3, 1) := by decide +kernel
theorem dX6_puts_12 : decode cX6_puts 12 = .ok (.iconst 0, 1) := by decide +kernel
theorem dX6_puts_13 : decode cX6_puts 13 = .ok (.invokestatic 63, 3) := by decide +kernel
theorem dX6_puts_16 : decode cX6_puts 16 = .ok (.iload_n 2, 1) := by decide +kernel
theorem dX6_puts_17 : decode cX6_puts 17 = .ok (.iastore, 1) := by decide +kernel
theorem dX6_puts_18 : decode cX6_puts 18 = .ok (.aload_n 0, 1) := by decide +kernel
theorem dX6_puts_19 : decode cX6_puts 19 = .ok (.getfield 7, 3) := by decide +kernel
theorem dX6_puts_22 : decode cX6_puts 22 = .ok (.iload_n 3, 1) := by decide +kernel
theorem dX6_puts_23 : decode cX6_puts 23 = .ok (.iconst 1, 1) := by decide +kernel
theorem dX6_puts_24 : decode cX6_puts 24 = .ok (.invokestatic 63, 3) := by decide +kernel
theorem dX6_puts_27 : decode cX6_puts 27 = .ok (.iload_n 1, 1) := by decide +kernel
theorem dX6_puts_28 : decode cX6_puts 28 = .ok (.iastore, 1) := by decide +kernel
theorem dX6_puts_29 : decode cX6_puts 29 = .ok (.aload_n 0, 1) := by decide +kernel
theorem dX6_puts_30 : decode cX6_puts 30 = .ok (.getfield 7, 3) := by decide +kernel
theorem dX6_puts_33 : decode cX6_puts 33 = .ok (.iload_n 3, 1) := by decide +kernel
theorem dX6_puts_34 : decode cX6_puts 34 = .ok (.iconst 2, 1) := by decide +kernel
theorem dX6_puts_35 : decode cX6_puts 35 = .ok (.invokestatic 63, 3) := by decide +kernel
theorem dX6_puts_38 : decode cX6_puts 38 = .ok (.iconst 0, 1) := by decide +kernel
theorem dX6_puts_39 : decode cX6_puts 39 = .ok (.iastore, 1) := by decide +kernel
theorem dX6_puts_40 : decode cX6_puts 40 = .ok (.aload_n 0, 1) := by decide +kernel
theorem dX6_puts_41 : decode cX6_puts 41 = .ok (.getfield 7, 3) := by decide +kernel
theorem dX6_puts_44 : decode cX6_puts 44 = .ok (.iconst 1, 1) := by decide +kernel
theorem dX6_puts_45 : decode cX6_puts 45 = .ok (.dup2, 1) := by decide +kernel
theorem dX6_puts_46 : decode cX6_puts 46 = .ok (.iaload, 1) := by decide +kernel
theorem dX6_puts_47 : decode cX6_puts 47 = .ok (.iconst 1, 1) := by decide +kernel
theorem dX6_puts_48 : decode cX6_puts 48 = .ok (.iadd, 1) := by decide +kernel
theorem dX6_puts_49 : decode cX6_puts 49 = .ok (.iastore, 1) := by decide +kernel
theorem dX6_puts_50 : decode cX6_puts 50 = .ok (.iload_n 3, 1) := by decide +kernel
theorem dX6_puts_51 : decode cX6_puts 51 = .ok (.ireturn, 1) := by decide +kernel
theorem dX6_likeness_0 : decode cX6_likeness 0 = .ok (.aload_n 0, 1) := by decide +kernel
theorem dX6_likeness_1 : decode cX6_likeness 1 = .ok (.iload_n 1, 1) := by decide +kernel
theorem dX6_likeness_2 : decode cX6_likeness 2 = .ok (.invokevirtual 125, 3) := by decide +kernel
theorem dX6_likeness_5 : decode cX6_likeness 5 = .ok (.ifCond .eq 10, 3) := by decide +kernel
theorem dX6_likeness_8 : decode cX6_likeness 8 = .ok (.iload_n 2, 1) := by decide +kernel
theorem dX6_likeness_9 : decode cX6_likeness 9 = .ok (.invokestatic 93, 3) := by decide +kernel
theorem dX6_likeness_12 : decode cX6_likeness 12 = .ok (.ifCond .ne 10, 3) := by decide +kernel
theorem dX6_likeness_15 : decode cX6_likeness 15 = .ok (.aload_n 0, 1) := by decide +kernel
theorem dX6_likeness_16 : decode cX6_likeness 16 = .ok (.ldc 50, 2) := by decide +kernel
theorem dX6_likeness_18 : decode cX6_likeness 18 = .ok (.invokevirtual 101, 3) := by decide +kernel
theorem dX6_likeness_21 : decode cX6_likeness 21 = .ok (.ireturn, 1) := by decide +kernel
theorem dX6_likeness_22 : decode cX6_likeness 22 = .ok (.aload_n 0, 1) := by decide +kernel
theorem dX6_likeness_23 : decode cX6_likeness 23 = .ok (.getfield 7, 3) := by decide +kernel
theorem dX6_likeness_26 : decode cX6_likeness 26 = .ok (.iconst 1, 1) := by decide +kernel
theorem dX6_likeness_27 : decode cX6_likeness 27 = .ok (.iaload, 1) := by decide +kernel
theorem dX6_likeness_28 : decode cX6_likeness 28 = .ok (.bipush 8, 2) := by decide +kernel
theorem dX6_likeness_30 : decode cX6_likeness 30 = .ok (.if_icmp .ne 12, 3) := by decide +kernel
theorem dX6_likeness_33 : decode cX6_likeness 33 = .ok (.aload_n 0, 1) := by decide +kernel
theorem dX6_likeness_34 : decode cX6_likeness 34 = .ok (.ldc 117, 2) := by decide +kernel
theorem dX6_likeness_36 : decode cX6_likeness 36 = .ok (.invokevirtual 101, 3) := by decide +kernel
theorem dX6_likeness_39 : decode cX6_likeness 39 = .ok (.goto 9, 3) := by decide +kernel
theorem dX6_likeness_42 : decode cX6_likeness 42 = .ok (.aload_n 0, 1) := by decide +kernel
theorem dX6_likeness_43 : decode cX6_likeness 43 = .ok (.iload_n 1, 1) := by decide +kernel
theorem dX6_likeness_44 : decode cX6_likeness 44 = .ok (.iload_n 2, 1) := by decide +kernel
theorem dX6_likeness_45 : decode cX6_likeness 45 = .ok (.invokevirtual 140, 3) := by decide +kernel
theorem dX6_likeness_48 : decode cX6_likeness 48 = .ok (.ireturn, 1) := by decide +kernel
theorem dX6_told_0 : decode cX6_told 0 = .ok (.aload_n 0, 1) := by decide +kernel
theorem dX6_told_1 : decode cX6_told 1 = .ok (.iload_n 1, 1) := by decide +kernel
theorem dX6_told_2 : decode cX6_told 2 = .ok (.invokevirtual 143, 3) := by decide +kernel
theorem dX6_told_5 : decode cX6_told 5 = .ok (.ifCond .eq 15, 3) := by decide +kernel
theorem dX6_told_8 : decode cX6_told 8 = .ok (.iload_n 2, 1) := by decide +kernel
theorem dX6_told_9 : decode cX6_told 9 = .ok (.i2l, 1) := by decide +kernel
theorem dX6_told_10 : decode cX6_told 10 = .ok (.lconst 0, 1) := by decide +kernel
theorem dX6_told_11 : decode cX6_told 11 = .ok (.ldc2_w 146, 3) := by decide +kernel
theorem dX6_told_14 : decode cX6_told 14 = .ok (.invokestatic 53, 3) := by decide +kernel
theorem dX6_told_17 : decode cX6_told 17 = .ok (.ifCond .ne 10, 3) := by decide +kernel
theorem dX6_told_20 : decode cX6_told 20 = .ok (.aload_n 0, 1) := by decide +kernel
theorem dX6_told_21 : decode cX6_told 21 = .ok (.ldc 50, 2) := by decide +kernel
theorem dX6_told_23 : decode cX6_told 23 = .ok (.invokevirtual 101, 3) := by decide +kernel
theorem dX6_told_26 : decode cX6_told 26 = .ok (.ireturn, 1) := by decide +kernel
theorem dX6_told_27 : decode cX6_told 27 = .ok (.iload_n 2, 1) := by decide +kernel
theorem dX6_told_28 : decode cX6_told 28 = .ok (.iconst 3, 1) := by decide +kernel
theorem dX6_told_29 : decode cX6_told 29 = .ok (.if_icmp .ge 12, 3) := by decide +kernel
theorem dX6_told_32 : decode cX6_told 32 = .ok (.aload_n 0, 1) := by decide +kernel
theorem dX6_told_33 : decode cX6_told 33 = .ok (.iload_n 1, 1) := by decide +kernel
theorem dX6_told_34 : decode cX6_told 34 = .ok (.iload_n 2, 1) := by decide +kernel
theorem dX6_told_35 : decode cX6_told 35 = .ok (.invokevirtual 70, 3) := by decide +kernel
theorem dX6_told_38 : decode cX6_told 38 = .ok (.goto 26, 3) := by decide +kernel
theorem dX6_told_41 : decode cX6_told 41 = .ok (.sipush 1000, 3) := by decide +kernel
theorem dX6_told_44 : decode cX6_told 44 = .ok (.iload_n 2, 1) := by decide +kernel
theorem dX6_told_45 : decode cX6_told 45 = .ok (.iconst 3, 1) := by decide +kernel
theorem dX6_told_46 : decode cX6_told 46 = .ok (.if_icmp .ne 11, 3) := by decide +kernel
theorem dX6_told_49 : decode cX6_told 49 = .ok (.aload_n 0, 1) := by decide +kernel
theorem dX6_told_50 : decode cX6_told 50 = .ok (.iload_n 1, 1) := by decide +kernel
theorem dX6_told_51 : decode cX6_told 51 = .ok (.invokevirtual 76, 3) := by decide +kernel
theorem dX6_told_54 : decode cX6_told 54 = .ok (.goto 9, 3) := by decide +kernel
theorem dX6_told_57 : decode cX6_told 57 = .ok (.aload_n 0, 1) := by decide +kernel
theorem dX6_told_58 : decode cX6_told 58 = .ok (.iload_n 1, 1) := by decide +kernel
theorem dX6_told_59 : decode cX6_told 59 = .ok (.iconst 0, 1) := by decide +kernel
theorem dX6_told_60 : decode cX6_told 60 = .ok (.invokevirtual 90, 3) := by decide +kernel
theorem dX6_told_63 : decode cX6_told 63 = .ok (.iadd, 1) := by decide +kernel
theorem dX6_told_64 : decode cX6_told 64 = .ok (.ireturn, 1) := by decide +kernel
theorem dX6_place_0 : decode cX6_place 0 = .ok (.iload_n 2, 1) := by decide +kernel
theorem dX6_place_1 : decode cX6_place 1 = .ok (.ifCond .ne 10, 3) := by decide +kernel
theorem dX6_place_4 : decode cX6_place 4 = .ok (.iload_n 3, 1) := by decide +kernel
theorem dX6_place_5 : decode cX6_place 5 = .ok (.invokestatic 93, 3) := by decide +kernel
theorem dX6_place_8 : decode cX6_place 8 = .ok (.goto 38, 3) := by decide +kernel
theorem dX6_place_11 : decode cX6_place 11 = .ok (.iload_n 2, 1) := by decide +kernel
theorem dX6_place_12 : decode cX6_place 12 = .ok (.iconst 1, 1) := by decide +kernel
theorem dX6_place_13 : decode cX6_place 13 = .ok (.if_icmp .ne 11, 3) := by decide +kernel
theorem dX6_place_16 : decode cX6_place 16 = .ok (.aload_n 0, 1) := by decide +kernel
theorem dX6_place_17 : decode cX6_place 17 = .ok (.iload_n 3, 1) := by decide +kernel
theorem dX6_place_18 : decode cX6_place 18 = .ok (.invokevirtual 125, 3) := by decide +kernel
theorem dX6_place_21 : decode cX6_place 21 = .ok (.goto 25, 3) := by decide +kernel
theorem dX6_place_24 : decode cX6_place 24 = .ok (.iload_n 2, 1) := by decide +kernel
theorem dX6_place_25 : decode cX6_place 25 = .ok (.iconst 2, 1) := by decide +kernel
theorem dX6_place_26 : decode cX6_place 26 = .ok (.if_icmp .ne 19, 3) := by decide +kernel
theorem dX6_place_29 : decode cX6_place 29 = .ok (.iload_n 3, 1) := by decide +kernel
theorem dX6_place_30 : decode cX6_place 30 = .ok (.i2l, 1) := by decide +kernel
theorem dX6_place_31 : decode cX6_place 31 = .ok (.lconst 0, 1) := by decide +kernel
theorem dX6_place_32 : decode cX6_place 32 = .ok (.ldc2_w 148, 3) := by decide +kernel
theorem dX6_place_35 : decode cX6_place 35 = .ok (.invokestatic 53, 3) := by decide +kernel
theorem dX6_place_38 : decode cX6_place 38 = .ok (.ifCond .eq 7, 3) := by decide +kernel
theorem dX6_place_41 : decode cX6_place 41 = .ok (.iconst 1, 1) := by decide +kernel
theorem dX6_place_42 : decode cX6_place 42 = .ok (.goto 4, 3) := by decide +kernel
theorem dX6_place_45 : decode cX6_place 45 = .ok (.iconst 0, 1) := by decide +kernel
theorem dX6_place_46 : decode cX6_place 46 = .ok (.istore 4, 2) := by decide +kernel
theorem dX6_place_48 : decode cX6_place 48 = .ok (.aload_n 0, 1) := by decide +kernel
theorem dX6_place_49 : decode cX6_place 49 = .ok (.iload_n 1, 1) := by decide +kernel
theorem dX6_place_50 : decode cX6_place 50 = .ok (.invokevirtual 143, 3) := by decide +kernel
theorem dX6_place_53 : decode cX6_place 53 = .ok (.ifCond .eq 21, 3) := by decide +kernel
theorem dX6_place_56 : decode cX6_place 56 = .ok (.iload 4, 2) := by decide +kernel
theorem dX6_place_58 : decode cX6_place 58 = .ok (.ifCond .eq 16, 3) := by decide +kernel
theorem dX6_place_61 : decode cX6_place 61 = .ok (.aload_n 0, 1) := by decide +kernel
theorem dX6_place_62 : decode cX6_place 62 = .ok (.iload_n 1, 1) := by decide +kernel
theorem dX6_place_63 : decode cX6_place 63 = .ok (.iload_n 2, 1) := by decide +kernel
theorem dX6_place_64 : decode cX6_place 64 = .ok (.invokestatic 63, 3) := by decide +kernel
theorem dX6_place_67 : decode cX6_place 67 = .ok (.iload_n 3, 1) := by decide +kernel
theorem dX6_place_68 : decode cX6_place 68 = .ok (.invokevirtual 98, 3) := by decide +kernel
theorem dX6_place_71 : decode cX6_place 71 = .ok (.goto 9, 3) := by decide +kernel
theorem dX6_place_74 : decode cX6_place 74 = .ok (.aload_n 0, 1) := by decide +kernel
theorem dX6_place_75 : decode cX6_place 75 = .ok (.ldc 50, 2) := by decide +kernel
theorem dX6_place_77 : decode cX6_place 77 = .ok (.invokevirtual 101, 3) := by decide +kernel
theorem dX6_place_80 : decode cX6_place 80 = .ok (.ireturn, 1) := by decide +kernel
theorem dX6_scares_0 : decode cX6_scares 0 = .ok (.aload_n 0, 1) := by decide +kernel
theorem dX6_scares_1 : decode cX6_scares 1 = .ok (.iload_n 1, 1) := by decide +kernel
theorem dX6_scares_2 : decode cX6_scares 2 = .ok (.invokevirtual 143, 3) := by decide +kernel
theorem dX6_scares_5 : decode cX6_scares 5 = .ok (.ifCond .eq 28, 3) := by decide +kernel
theorem dX6_scares_8 : decode cX6_scares 8 = .ok (.iload_n 2, 1) := by decide +kernel
theorem dX6_scares_9 : decode cX6_scares 9 = .ok (.i2l, 1) := by decide +kernel
theorem dX6_scares_10 : decode cX6_scares 10 = .ok (.lconst 0, 1) := by decide +kernel
theorem dX6_scares_11 : decode cX6_scares 11 = .ok (.ldc2_w 150, 3) := by decide +kernel
theorem dX6_scares_14 : decode cX6_scares 14 = .ok (.invokestatic 53, 3) := by decide +kernel
theorem dX6_scares_17 : decode cX6_scares 17 = .ok (.ifCond .eq 16, 3) := by decide +kernel
theorem dX6_scares_20 : decode cX6_scares 20 = .ok (.sipush 1000, 3) := by decide +kernel
theorem dX6_scares_23 : decode cX6_scares 23 = .ok (.aload_n 0, 1) := by decide +kernel
theorem dX6_scares_24 : decode cX6_scares 24 = .ok (.iload_n 1, 1) := by decide +kernel
theorem dX6_scares_25 : decode cX6_scares 25 = .ok (.iload_n 2, 1) := by decide +kernel
theorem dX6_scares_26 : decode cX6_scares 26 = .ok (.invokevirtual 90, 3) := by decide +kernel
theorem dX6_scares_29 : decode cX6_scares 29 = .ok (.iadd, 1) := by decide +kernel
theorem dX6_scares_30 : decode cX6_scares 30 = .ok (.goto 9, 3) := by decide +kernel
theorem dX6_scares_33 : decode cX6_scares 33 = .ok (.aload_n 0, 1) := by decide +kernel
theorem dX6_scares_34 : decode cX6_scares 34 = .ok (.ldc 50, 2) := by decide +kernel
theorem dX6_scares_36 : decode cX6_scares 36 = .ok (.invokevirtual 101, 3) := by decide +kernel
theorem dX6_scares_39 : decode cX6_scares 39 = .ok (.ireturn, 1) := by decide +kernel
theorem dX6_fearBy_0 : decode cX6_fearBy 0 = .ok (.iconst 0, 1) := by decide +kernel
theorem dX6_fearBy_1 : decode cX6_fearBy 1 = .ok (.istore_n 2, 1) := by decide +kernel
theorem dX6_fearBy_2 : decode cX6_fearBy 2 = .ok (.iload_n 2, 1) := by decide +kernel
theorem dX6_fearBy_3 : decode cX6_fearBy 3 = .ok (.aload_n 0, 1) := by decide +kernel
theorem dX6_fearBy_4 : decode cX6_fearBy 4 = .ok (.getfield 7, 3) := by decide +kernel
theorem dX6_fearBy_7 : decode cX6_fearBy 7 = .ok (.iconst 0, 1) := by decide +kernel
theorem dX6_fearBy_8 : decode cX6_fearBy 8 = .ok (.iaload, 1) := by decide +kernel
theorem dX6_fearBy_9 : decode cX6_fearBy 9 = .ok (.if_icmp .ge 18, 3) := by decide +kernel
theorem dX6_fearBy_12 : decode cX6_fearBy 12 = .ok (.aload_n 0, 1) := by decide +kernel
theorem dX6_fearBy_13 : decode cX6_fearBy 13 = .ok (.getfield 31, 3) := by decide +kernel
theorem dX6_fearBy_16 : decode cX6_fearBy 16 = .ok (.iload_n 2, 1) := by decide +kernel
theorem dX6_fearBy_17 : decode cX6_fearBy 17 = .ok (.sipush (-1000), 3) := by decide +kernel
theorem dX6_fearBy_20 : decode cX6_fearBy 20 = .ok (.iastore, 1) := by decide +kernel
theorem dX6_fearBy_21 : decode cX6_fearBy 21 = .ok (.iinc 2 1, 3) := by decide +kernel
theorem dX6_fearBy_24 : decode cX6_fearBy 24 = .ok (.goto (-22), 3) := by decide +kernel
theorem dX6_fearBy_27 : decode cX6_fearBy 27 = .ok (.iconst 0, 1) := by decide +kernel
theorem dX6_fearBy_28 : decode cX6_fearBy 28 = .ok (.istore_n 2, 1) := by decide +kernel
theorem dX6_fearBy_29 : decode cX6_fearBy 29 = .ok (.iload_n 2, 1) := by decide +kernel
theorem dX6_fearBy_30 : decode cX6_fearBy 30 = .ok (.aload_n 0, 1) := by decide +kernel
theorem dX6_fearBy_31 : decode cX6_fearBy 31 = .ok (.getfield 7, 3) := by decide +kernel
theorem dX6_fearBy_34 : decode cX6_fearBy 34 = .ok (.iconst 1, 1) := by decide +kernel
theorem dX6_fearBy_35 : decode cX6_fearBy 35 = .ok (.iaload, 1) := by decide +kernel
theorem dX6_fearBy_36 : decode cX6_fearBy 36 = .ok (.if_icmp .ge 75, 3) := by decide +kernel
theorem dX6_fearBy_39 : decode cX6_fearBy 39 = .ok (.aload_n 0, 1) := by decide +kernel
theorem dX6_fearBy_40 : decode cX6_fearBy 40 = .ok (.iload_n 2, 1) := by decide +kernel
theorem dX6_fearBy_41 : decode cX6_fearBy 41 = .ok (.invokevirtual 83, 3) := by decide +kernel
theorem dX6_fearBy_44 : decode cX6_fearBy 44 = .ok (.ifCond .eq 61, 3) := by decide +kernel
theorem dX6_fearBy_47 : decode cX6_fearBy 47 = .ok (.aload_n 0, 1) := by decide +kernel
theorem dX6_fearBy_48 : decode cX6_fearBy 48 = .ok (.getfield 28, 3) := by decide +kernel
theorem dX6_fearBy_51 : decode cX6_fearBy 51 = .ok (.bipush 13, 2) := by decide +kernel
theorem dX6_fearBy_53 : decode cX6_fearBy 53 = .ok (.iload_n 2, 1) := by decide +kernel
theorem dX6_fearBy_54 : decode cX6_fearBy 54 = .ok (.imul, 1) := by decide +kernel
theorem dX6_fearBy_55 : decode cX6_fearBy 55 = .ok (.iload_n 1, 1) := by decide +kernel
theorem dX6_fearBy_56 : decode cX6_fearBy 56 = .ok (.aload_n 0, 1) := by decide +kernel
theorem dX6_fearBy_57 : decode cX6_fearBy 57 = .ok (.iload_n 2, 1) := by decide +kernel
theorem dX6_fearBy_58 : decode cX6_fearBy 58 = .ok (.iconst 0, 1) := by decide +kernel
theorem dX6_fearBy_59 : decode cX6_fearBy 59 = .ok (.invokevirtual 70, 3) := by decide +kernel
theorem dX6_fearBy_62 : decode cX6_fearBy 62 = .ok (.invokestatic 87, 3) := by decide +kernel
theorem dX6_fearBy_65 : decode cX6_fearBy 65 = .ok (.iadd, 1) := by decide +kernel
theorem dX6_fearBy_66 : decode cX6_fearBy 66 = .ok (.iaload, 1) := by decide +kernel
theorem dX6_fearBy_67 : decode cX6_fearBy 67 = .ok (.istore_n 3, 1) := by decide +kernel
theorem dX6_fearBy_68 : decode cX6_fearBy 68 = .ok (.aload_n 0, 1) := by decide +kernel
theorem dX6_fearBy_69 : decode cX6_fearBy 69 = .ok (.iload_n 2, 1) := by decide +kernel
theorem dX6_fearBy_70 : decode cX6_fearBy 70 = .ok (.iconst 1, 1) := by decide +kernel
theorem dX6_fearBy_71 : decode cX6_fearBy 71 = .ok (.invokevirtual 70, 3) := by decide +kernel
theorem dX6_fearBy_74 : decode cX6_fearBy 74 = .ok (.istore 4, 2) := by decide +kernel
theorem dX6_fearBy_76 : decode cX6_fearBy 76 = .ok (.aload_n 0, 1) := by decide +kernel
theorem dX6_fearBy_77 : decode cX6_fearBy 77 = .ok (.getfield 31, 3) := by decide +kernel
theorem dX6_fearBy_80 : decode cX6_fearBy 80 = .ok (.iload 4, 2) := by decide +kernel
theorem dX6_fearBy_82 : decode cX6_fearBy 82 = .ok (.iload_n 3, 1) := by decide +kernel
theorem dX6_fearBy_83 : decode cX6_fearBy 83 = .ok (.aload_n 0, 1) := by decide +kernel
theorem dX6_fearBy_84 : decode cX6_fearBy 84 = .ok (.getfield 31, 3) := by decide +kernel
theorem dX6_fearBy_87 : decode cX6_fearBy 87 = .ok (.iload 4, 2) := by decide +kernel
theorem dX6_fearBy_89 : decode cX6_fearBy 89 = .ok (.iaload, 1) := by decide +kernel
theorem dX6_fearBy_90 : decode cX6_fearBy 90 = .ok (.if_icmp .le 7, 3) := by decide +kernel
theorem dX6_fearBy_93 : decode cX6_fearBy 93 = .ok (.iload_n 3, 1) := by decide +kernel
theorem dX6_fearBy_94 : decode cX6_fearBy 94 = .ok (.goto 10, 3) := by decide +kernel
theorem dX6_fearBy_97 : decode cX6_fearBy 97 = .ok (.aload_n 0, 1) := by decide +kernel
theorem dX6_fearBy_98 : decode cX6_fearBy 98 = .ok (.getfield 31, 3) := by decide +kernel
theorem dX6_fearBy_101 : decode cX6_fearBy 101 = .ok (.iload 4, 2) := by decide +kernel
theorem dX6_fearBy_103 : decode cX6_fearBy 103 = .ok (.iaload, 1) := by decide +kernel
theorem dX6_fearBy_104 : decode cX6_fearBy 104 = .ok (.iastore, 1) := by decide +kernel
theorem dX6_fearBy_105 : decode cX6_fearBy 105 = .ok (.iinc 2 1, 3) := by decide +kernel
theorem dX6_fearBy_108 : decode cX6_fearBy 108 = .ok (.goto (-79), 3) := by decide +kernel
theorem dX6_fearBy_111 : decode cX6_fearBy 111 = .ok (.iconst 0, 1) := by decide +kernel
theorem dX6_fearBy_112 : decode cX6_fearBy 112 = .ok (.istore_n 2, 1) := by decide +kernel
theorem dX6_fearBy_113 : decode cX6_fearBy 113 = .ok (.iconst 0, 1) := by decide +kernel
theorem dX6_fearBy_114 : decode cX6_fearBy 114 = .ok (.istore_n 3, 1) := by decide +kernel
theorem dX6_fearBy_115 : decode cX6_fearBy 115 = .ok (.iload_n 3, 1) := by decide +kernel
theorem dX6_fearBy_116 : decode cX6_fearBy 116 = .ok (.aload_n 0, 1) := by decide +kernel
theorem dX6_fearBy_117 : decode cX6_fearBy 117 = .ok (.getfield 7, 3) := by decide +kernel
theorem dX6_fearBy_120 : decode cX6_fearBy 120 = .ok (.iconst 0, 1) := by decide +kernel
theorem dX6_fearBy_121 : decode cX6_fearBy 121 = .ok (.iaload, 1) := by decide +kernel
theorem dX6_fearBy_122 : decode cX6_fearBy 122 = .ok (.if_icmp .ge 34, 3) := by decide +kernel
theorem dX6_fearBy_125 : decode cX6_fearBy 125 = .ok (.iload_n 2, 1) := by decide +kernel
theorem dX6_fearBy_126 : decode cX6_fearBy 126 = .ok (.aload_n 0, 1) := by decide +kernel
theorem dX6_fearBy_127 : decode cX6_fearBy 127 = .ok (.getfield 31, 3) := by decide +kernel
theorem dX6_fearBy_130 : decode cX6_fearBy 130 = .ok (.iload_n 3, 1) := by decide +kernel
theorem dX6_fearBy_131 : decode cX6_fearBy 131 = .ok (.iaload, 1) := by decide +kernel
theorem dX6_fearBy_132 : decode cX6_fearBy 132 = .ok (.sipush (-1000), 3) := by decide +kernel
theorem dX6_fearBy_135 : decode cX6_fearBy 135 = .ok (.if_icmp .ne 7, 3) := by decide +kernel
theorem dX6_fearBy_138 : decode cX6_fearBy 138 = .ok (.iconst 0, 1) := by decide +kernel
theorem dX6_fearBy_139 : decode cX6_fearBy 139 = .ok (.goto 9, 3) := by decide +kernel
theorem dX6_fearBy_142 : decode cX6_fearBy 142 = .ok (.aload_n 0, 1) := by decide +kernel
theorem dX6_fearBy_143 : decode cX6_fearBy 143 = .ok (.getfield 31, 3) := by decide +kernel
theorem dX6_fearBy_146 : decode cX6_fearBy 146 = .ok (.iload_n 3, 1) := by decide +kernel
theorem dX6_fearBy_147 : decode cX6_fearBy 147 = .ok (.iaload, 1) := by decide +kernel
theorem dX6_fearBy_148 : decode cX6_fearBy 148 = .ok (.iadd, 1) := by decide +kernel
theorem dX6_fearBy_149 : decode cX6_fearBy 149 = .ok (.istore_n 2, 1) := by decide +kernel
theorem dX6_fearBy_150 : decode cX6_fearBy 150 = .ok (.iinc 3 1, 3) := by decide +kernel
theorem dX6_fearBy_153 : decode cX6_fearBy 153 = .ok (.goto (-38), 3) := by decide +kernel
theorem dX6_fearBy_156 : decode cX6_fearBy 156 = .ok (.iload_n 2, 1) := by decide +kernel
theorem dX6_fearBy_157 : decode cX6_fearBy 157 = .ok (.ireturn, 1) := by decide +kernel
theorem dX6_fearsNow_0 : decode cX6_fearsNow 0 = .ok (.iconst 0, 1) := by decide +kernel
theorem dX6_fearsNow_1 : decode cX6_fearsNow 1 = .ok (.istore_n 1, 1) := by decide +kernel
theorem dX6_fearsNow_2 : decode cX6_fearsNow 2 = .ok (.iload_n 1, 1) := by decide +kernel
theorem dX6_fearsNow_3 : decode cX6_fearsNow 3 = .ok (.bipush 13, 2) := by decide +kernel
theorem dX6_fearsNow_5 : decode cX6_fearsNow 5 = .ok (.aload_n 0, 1) := by decide +kernel
theorem dX6_fearsNow_6 : decode cX6_fearsNow 6 = .ok (.getfield 7, 3) := by decide +kernel
theorem dX6_fearsNow_9 : decode cX6_fearsNow 9 = .ok (.iconst 1, 1) := by decide +kernel
theorem dX6_fearsNow_10 : decode cX6_fearsNow 10 = .ok (.iaload, 1) := by decide +kernel
theorem dX6_fearsNow_11 : decode cX6_fearsNow 11 = .ok (.imul, 1) := by decide +kernel
theorem dX6_fearsNow_12 : decode cX6_fearsNow 12 = .ok (.if_icmp .ge 27, 3) := by decide +kernel
theorem dX6_fearsNow_15 : decode cX6_fearsNow 15 = .ok (.aload_n 0, 1) := by decide +kernel
theorem dX6_fearsNow_16 : decode cX6_fearsNow 16 = .ok (.getfield 28, 3) := by decide +kernel
theorem dX6_fearsNow_19 : decode cX6_fearsNow 19 = .ok (.iload_n 1, 1) := by decide +kernel
theorem dX6_fearsNow_20 : decode cX6_fearsNow 20 = .ok (.aload_n 0, 1) := by decide +kernel
theorem dX6_fearsNow_21 : decode cX6_fearsNow 21 = .ok (.iload_n 1, 1) := by decide +kernel
theorem dX6_fearsNow_22 : decode cX6_fearsNow 22 = .ok (.bipush 13, 2) := by decide +kernel
theorem dX6_fearsNow_24 : decode cX6_fearsNow 24 = .ok (.idiv, 1) := by decide +kernel
theorem dX6_fearsNow_25 : decode cX6_fearsNow 25 = .ok (.iload_n 1, 1) := by decide +kernel
theorem dX6_fearsNow_26 : decode cX6_fearsNow 26 = .ok (.bipush 13, 2) := by decide +kernel
theorem dX6_fearsNow_28 : decode cX6_fearsNow 28 = .ok (.irem, 1) := by decide +kernel
theorem dX6_fearsNow_29 : decode cX6_fearsNow 29 = .ok (.invokevirtual 90, 3) := by decide +kernel
theorem dX6_fearsNow_32 : decode cX6_fearsNow 32 = .ok (.iastore, 1) := by decide +kernel
theorem dX6_fearsNow_33 : decode cX6_fearsNow 33 = .ok (.iinc 1 1, 3) := by decide +kernel
theorem dX6_fearsNow_36 : decode cX6_fearsNow 36 = .ok (.goto (-34), 3) := by decide +kernel
theorem dX6_fearsNow_39 : decode cX6_fearsNow 39 = .ok (.iconst 0, 1) := by decide +kernel
theorem dX6_fearsNow_40 : decode cX6_fearsNow 40 = .ok (.istore_n 1, 1) := by decide +kernel
theorem dX6_fearsNow_41 : decode cX6_fearsNow 41 = .ok (.iload_n 1, 1) := by decide +kernel
theorem dX6_fearsNow_42 : decode cX6_fearsNow 42 = .ok (.bipush 48, 2) := by decide +kernel
theorem dX6_fearsNow_44 : decode cX6_fearsNow 44 = .ok (.if_icmp .ge 20, 3) := by decide +kernel
theorem dX6_fearsNow_47 : decode cX6_fearsNow 47 = .ok (.aload_n 0, 1) := by decide +kernel
theorem dX6_fearsNow_48 : decode cX6_fearsNow 48 = .ok (.getfield 25, 3) := by decide +kernel
theorem dX6_fearsNow_51 : decode cX6_fearsNow 51 = .ok (.iload_n 1, 1) := by decide +kernel
theorem dX6_fearsNow_52 : decode cX6_fearsNow 52 = .ok (.aload_n 0, 1) := by decide +kernel
theorem dX6_fearsNow_53 : decode cX6_fearsNow 53 = .ok (.iload_n 1, 1) := by decide +kernel
theorem dX6_fearsNow_54 : decode cX6_fearsNow 54 = .ok (.invokevirtual 152, 3) := by decide +kernel
theorem dX6_fearsNow_57 : decode cX6_fearsNow 57 = .ok (.iastore, 1) := by decide +kernel
theorem dX6_fearsNow_58 : decode cX6_fearsNow 58 = .ok (.iinc 1 1, 3) := by decide +kernel
theorem dX6_fearsNow_61 : decode cX6_fearsNow 61 = .ok (.goto (-20), 3) := by decide +kernel
theorem dX6_fearsNow_64 : decode cX6_fearsNow 64 = .ok (.return_, 1) := by decide +kernel
theorem dX6_landsAt_0 : decode cX6_landsAt 0 = .ok (.iconst (-1), 1) := by decide +kernel
theorem dX6_landsAt_1 : decode cX6_landsAt 1 = .ok (.istore_n 1, 1) := by decide +kernel
theorem dX6_landsAt_2 : decode cX6_landsAt 2 = .ok (.iconst 0, 1) := by decide +kernel
theorem dX6_landsAt_3 : decode cX6_landsAt 3 = .ok (.istore_n 2, 1) := by decide +kernel
theorem dX6_landsAt_4 : decode cX6_landsAt 4 = .ok (.iload_n 2, 1) := by decide +kernel
theorem dX6_landsAt_5 : decode cX6_landsAt 5 = .ok (.bipush 48, 2) := by decide +kernel
theorem dX6_landsAt_7 : decode cX6_landsAt 7 = .ok (.if_icmp .ge 84, 3) := by decide +kernel
theorem dX6_landsAt_10 : decode cX6_landsAt 10 = .ok (.aload_n 0, 1) := by decide +kernel
theorem dX6_landsAt_11 : decode cX6_landsAt 11 = .ok (.getfield 7, 3) := by decide +kernel
theorem dX6_landsAt_14 : decode cX6_landsAt 14 = .ok (.iconst 4, 1) := by decide +kernel
theorem dX6_landsAt_15 : decode cX6_landsAt 15 = .ok (.iload_n 2, 1) := by decide +kernel
theorem dX6_landsAt_16 : decode cX6_landsAt 16 = .ok (.iadd, 1) := by decide +kernel
theorem dX6_landsAt_17 : decode cX6_landsAt 17 = .ok (.iaload, 1) := by decide +kernel
theorem dX6_landsAt_18 : decode cX6_landsAt 18 = .ok (.ifCond .le 18, 3) := by decide +kernel
theorem dX6_landsAt_21 : decode cX6_landsAt 21 = .ok (.aload_n 0, 1) := by decide +kernel
theorem dX6_landsAt_22 : decode cX6_landsAt 22 = .ok (.getfield 25, 3) := by decide +kernel
theorem dX6_landsAt_25 : decode cX6_landsAt 25 = .ok (.iload_n 2, 1) := by decide +kernel
theorem dX6_landsAt_26 : decode cX6_landsAt 26 = .ok (.iaload, 1) := by decide +kernel
theorem dX6_landsAt_27 : decode cX6_landsAt 27 = .ok (.bipush 20, 2) := by decide +kernel
theorem dX6_landsAt_29 : decode cX6_landsAt 29 = .ok (.if_icmp .ge 7, 3) := by decide +kernel
theorem dX6_landsAt_32 : decode cX6_landsAt 32 = .ok (.iconst 1, 1) := by decide +kernel
theorem dX6_landsAt_33 : decode cX6_landsAt 33 = .ok (.goto 4, 3) := by decide +kernel
theorem dX6_landsAt_36 : decode cX6_landsAt 36 = .ok (.iconst 0, 1) := by decide +kernel
theorem dX6_landsAt_37 : decode cX6_landsAt 37 = .ok (.istore_n 3, 1) := by decide +kernel
theorem dX6_landsAt_38 : decode cX6_landsAt 38 = .ok (.iload_n 3, 1) := by decide +kernel
theorem dX6_landsAt_39 : decode cX6_landsAt 39 = .ok (.ifCond .eq 44, 3) := by decide +kernel
theorem dX6_landsAt_42 : decode cX6_landsAt 42 = .ok (.iload_n 1, 1) := by decide +kernel
theorem dX6_landsAt_43 : decode cX6_landsAt 43 = .ok (.ifCond .lt 36, 3) := by decide +kernel
theorem dX6_landsAt_46 : decode cX6_landsAt 46 = .ok (.aload_n 0, 1) := by decide +kernel
theorem dX6_landsAt_47 : decode cX6_landsAt 47 = .ok (.getfield 7, 3) := by decide +kernel
theorem dX6_landsAt_50 : decode cX6_landsAt 50 = .ok (.iconst 4, 1) := by decide +kernel
theorem dX6_landsAt_51 : decode cX6_landsAt 51 = .ok (.iload_n 2, 1) := by decide +kernel
theorem dX6_landsAt_52 : decode cX6_landsAt 52 = .ok (.iadd, 1) := by decide +kernel
theorem dX6_landsAt_53 : decode cX6_landsAt 53 = .ok (.iaload, 1) := by decide +kernel
theorem dX6_landsAt_54 : decode cX6_landsAt 54 = .ok (.aload_n 0, 1) := by decide +kernel
theorem dX6_landsAt_55 : decode cX6_landsAt 55 = .ok (.getfield 25, 3) := by decide +kernel
theorem dX6_landsAt_58 : decode cX6_landsAt 58 = .ok (.iload_n 2, 1) := by decide +kernel
theorem dX6_landsAt_59 : decode cX6_landsAt 59 = .ok (.iaload, 1) := by decide +kernel
theorem dX6_landsAt_60 : decode cX6_landsAt 60 = .ok (.isub, 1) := by decide +kernel
theorem dX6_landsAt_61 : decode cX6_landsAt 61 = .ok (.aload_n 0, 1) := by decide +kernel
theorem dX6_landsAt_62 : decode cX6_landsAt 62 = .ok (.getfield 7, 3) := by decide +kernel
theorem dX6_landsAt_65 : decode cX6_landsAt 65 = .ok (.iconst 4, 1) := by decide +kernel
theorem dX6_landsAt_66 : decode cX6_landsAt 66 = .ok (.iload_n 1, 1) := by decide +kernel
theorem dX6_landsAt_67 : decode cX6_landsAt 67 = .ok (.iadd, 1) := by decide +kernel
theorem dX6_landsAt_68 : decode cX6_landsAt 68 = .ok (.iaload, 1) := by decide +kernel
theorem dX6_landsAt_69 : decode cX6_landsAt 69 = .ok (.aload_n 0, 1) := by decide +kernel
theorem dX6_landsAt_70 : decode cX6_landsAt 70 = .ok (.getfield 25, 3) := by decide +kernel
theorem dX6_landsAt_73 : decode cX6_landsAt 73 = .ok (.iload_n 1, 1) := by decide +kernel
theorem dX6_landsAt_74 : decode cX6_landsAt 74 = .ok (.iaload, 1) := by decide +kernel
theorem dX6_landsAt_75 : decode cX6_landsAt 75 = .ok (.isub, 1) := by decide +kernel
theorem dX6_landsAt_76 : decode cX6_landsAt 76 = .ok (.if_icmp .le 7, 3) := by decide +kernel
theorem dX6_landsAt_79 : decode cX6_landsAt 79 = .ok (.iload_n 2, 1) := by decide +kernel
theorem dX6_landsAt_80 : decode cX6_landsAt 80 = .ok (.goto 4, 3) := by decide +kernel
theorem dX6_landsAt_83 : decode cX6_landsAt 83 = .ok (.iload_n 1, 1) := by decide +kernel
theorem dX6_landsAt_84 : decode cX6_landsAt 84 = .ok (.istore_n 1, 1) := by decide +kernel
theorem dX6_landsAt_85 : decode cX6_landsAt 85 = .ok (.iinc 2 1, 3) := by decide +kernel
theorem dX6_landsAt_88 : decode cX6_landsAt 88 = .ok (.goto (-84), 3) := by decide +kernel
theorem dX6_landsAt_91 : decode cX6_landsAt 91 = .ok (.iload_n 1, 1) := by decide +kernel
theorem dX6_landsAt_92 : decode cX6_landsAt 92 = .ok (.ireturn, 1) := by decide +kernel
theorem dX6_lands_0 : decode cX6_lands 0 = .ok (.aload_n 0, 1) := by decide +kernel
theorem dX6_lands_1 : decode cX6_lands 1 = .ok (.invokevirtual 155, 3) := by decide +kernel
theorem dX6_lands_4 : decode cX6_lands 4 = .ok (.aload_n 0, 1) := by decide +kernel
theorem dX6_lands_5 : decode cX6_lands 5 = .ok (.invokevirtual 158, 3) := by decide +kernel
theorem dX6_lands_8 : decode cX6_lands 8 = .ok (.istore_n 1, 1) := by decide +kernel
theorem dX6_lands_9 : decode cX6_lands 9 = .ok (.iload_n 1, 1) := by decide +kernel
theorem dX6_lands_10 : decode cX6_lands 10 = .ok (.ifCond .ge 12, 3) := by decide +kernel
theorem dX6_lands_13 : decode cX6_lands 13 = .ok (.aload_n 0, 1) := by decide +kernel
theorem dX6_lands_14 : decode cX6_lands 14 = .ok (.ldc 162, 2) := by decide +kernel
theorem dX6_lands_16 : decode cX6_lands 16 = .ok (.invokevirtual 101, 3) := by decide +kernel
theorem dX6_lands_19 : decode cX6_lands 19 = .ok (.goto 4, 3) := by decide +kernel
theorem dX6_lands_22 : decode cX6_lands 22 = .ok (.iload_n 1, 1) := by decide +kernel
theorem dX6_lands_23 : decode cX6_lands 23 = .ok (.ireturn, 1) := by decide +kernel
theorem dX6_day_0 : decode cX6_day 0 = .ok (.iconst 0, 1) := by decide +kernel
theorem dX6_day_1 : decode cX6_day 1 = .ok (.istore_n 1, 1) := by decide +kernel
theorem dX6_day_2 : decode cX6_day 2 = .ok (.aload_n 0, 1) := by decide +kernel
theorem dX6_day_3 : decode cX6_day 3 = .ok (.getfield 7, 3) := by decide +kernel
theorem dX6_day_6 : decode cX6_day 6 = .ok (.iconst 3, 1) := by decide +kernel
theorem dX6_day_7 : decode cX6_day 7 = .ok (.iaload, 1) := by decide +kernel
theorem dX6_day_8 : decode cX6_day 8 = .ok (.ifCond .le 7, 3) := by decide +kernel
theorem dX6_day_11 : decode cX6_day 11 = .ok (.aload_n 0, 1) := by decide +kernel
theorem dX6_day_12 : decode cX6_day 12 = .ok (.invokevirtual 155, 3) := by decide +kernel
theorem dX6_day_15 : decode cX6_day 15 = .ok (.iconst 0, 1) := by decide +kernel
theorem dX6_day_16 : decode cX6_day 16 = .ok (.istore_n 2, 1) := by decide +kernel
theorem dX6_day_17 : decode cX6_day 17 = .ok (.iload_n 2, 1) := by decide +kernel
theorem dX6_day_18 : decode cX6_day 18 = .ok (.aload_n 0, 1) := by decide +kernel
theorem dX6_day_19 : decode cX6_day 19 = .ok (.getfield 7, 3) := by decide +kernel
theorem dX6_day_22 : decode cX6_day 22 = .ok (.iconst 3, 1) := by decide +kernel
theorem dX6_day_23 : decode cX6_day 23 = .ok (.iaload, 1) := by decide +kernel
theorem dX6_day_24 : decode cX6_day 24 = .ok (.if_icmp .ge 62, 3) := by decide +kernel
theorem dX6_day_27 : decode cX6_day 27 = .ok (.aload_n 0, 1) := by decide +kernel
theorem dX6_day_28 : decode cX6_day 28 = .ok (.invokevirtual 158, 3) := by decide +kernel
theorem dX6_day_31 : decode cX6_day 31 = .ok (.istore_n 3, 1) := by decide +kernel
theorem dX6_day_32 : decode cX6_day 32 = .ok (.iload_n 3, 1) := by decide +kernel
theorem dX6_day_33 : decode cX6_day 33 = .ok (.ifCond .lt 47, 3) := by decide +kernel
theorem dX6_day_36 : decode cX6_day 36 = .ok (.aload_n 0, 1) := by decide +kernel
theorem dX6_day_37 : decode cX6_day 37 = .ok (.getfield 7, 3) := by decide +kernel
theorem dX6_day_40 : decode cX6_day 40 = .ok (.iconst 4, 1) := by decide +kernel
theorem dX6_day_41 : decode cX6_day 41 = .ok (.iload_n 3, 1) := by decide +kernel
theorem dX6_day_42 : decode cX6_day 42 = .ok (.iadd, 1) := by decide +kernel
theorem dX6_day_43 : decode cX6_day 43 = .ok (.iaload, 1) := by decide +kernel
theorem dX6_day_44 : decode cX6_day 44 = .ok (.iconst 2, 1) := by decide +kernel
theorem dX6_day_45 : decode cX6_day 45 = .ok (.if_icmp .ge 14, 3) := by decide +kernel
theorem dX6_day_48 : decode cX6_day 48 = .ok (.aload_n 0, 1) := by decide +kernel
theorem dX6_day_49 : decode cX6_day 49 = .ok (.getfield 7, 3) := by decide +kernel
theorem dX6_day_52 : decode cX6_day 52 = .ok (.iconst 4, 1) := by decide +kernel
theorem dX6_day_53 : decode cX6_day 53 = .ok (.iload_n 3, 1) := by decide +kernel
theorem dX6_day_54 : decode cX6_day 54 = .ok (.iadd, 1) := by decide +kernel
theorem dX6_day_55 : decode cX6_day 55 = .ok (.iaload, 1) := by decide +kernel
theorem dX6_day_56 : decode cX6_day 56 = .ok (.goto 4, 3) := by decide +kernel
theorem dX6_day_59 : decode cX6_day 59 = .ok (.iconst 2, 1) := by decide +kernel
theorem dX6_day_60 : decode cX6_day 60 = .ok (.istore 4, 2) := by decide +kernel
theorem dX6_day_62 : decode cX6_day 62 = .ok (.aload_n 0, 1) := by decide +kernel
theorem dX6_day_63 : decode cX6_day 63 = .ok (.getfield 7, 3) := by decide +kernel
theorem dX6_day_66 : decode cX6_day 66 = .ok (.iconst 4, 1) := by decide +kernel
theorem dX6_day_67 : decode cX6_day 67 = .ok (.iload_n 3, 1) := by decide +kernel
theorem dX6_day_68 : decode cX6_day 68 = .ok (.iadd, 1) := by decide +kernel
theorem dX6_day_69 : decode cX6_day 69 = .ok (.dup2, 1) := by decide +kernel
theorem dX6_day_70 : decode cX6_day 70 = .ok (.iaload, 1) := by decide +kernel
theorem dX6_day_71 : decode cX6_day 71 = .ok (.iload 4, 2) := by decide +kernel
theorem dX6_day_73 : decode cX6_day 73 = .ok (.isub, 1) := by decide +kernel
theorem dX6_day_74 : decode cX6_day 74 = .ok (.iastore, 1) := by decide +kernel
theorem dX6_day_75 : decode cX6_day 75 = .ok (.iload_n 1, 1) := by decide +kernel
theorem dX6_day_76 : decode cX6_day 76 = .ok (.iload 4, 2) := by decide +kernel
theorem dX6_day_78 : decode cX6_day 78 = .ok (.iadd, 1) := by decide +kernel
theorem dX6_day_79 : decode cX6_day 79 = .ok (.istore_n 1, 1) := by decide +kernel
theorem dX6_day_80 : decode cX6_day 80 = .ok (.iinc 2 1, 3) := by decide +kernel
theorem dX6_day_83 : decode cX6_day 83 = .ok (.goto (-66), 3) := by decide +kernel
theorem dX6_day_86 : decode cX6_day 86 = .ok (.iconst 0, 1) := by decide +kernel
theorem dX6_day_87 : decode cX6_day 87 = .ok (.istore_n 2, 1) := by decide +kernel
theorem dX6_day_88 : decode cX6_day 88 = .ok (.iload_n 2, 1) := by decide +kernel
theorem dX6_day_89 : decode cX6_day 89 = .ok (.aload_n 0, 1) := by decide +kernel
theorem dX6_day_90 : decode cX6_day 90 = .ok (.getfield 7, 3) := by decide +kernel
theorem dX6_day_93 : decode cX6_day 93 = .ok (.iconst 0, 1) := by decide +kernel
theorem dX6_day_94 : decode cX6_day 94 = .ok (.iaload, 1) := by decide +kernel
theorem dX6_day_95 : decode cX6_day 95 = .ok (.if_icmp .ge 34, 3) := by decide +kernel
theorem dX6_day_98 : decode cX6_day 98 = .ok (.aload_n 0, 1) := by decide +kernel
theorem dX6_day_99 : decode cX6_day 99 = .ok (.getfield 7, 3) := by decide +kernel
theorem dX6_day_102 : decode cX6_day 102 = .ok (.iload_n 2, 1) := by decide +kernel
theorem dX6_day_103 : decode cX6_day 103 = .ok (.iconst 1, 1) := by decide +kernel
theorem dX6_day_104 : decode cX6_day 104 = .ok (.invokestatic 59, 3) := by decide +kernel
theorem dX6_day_107 : decode cX6_day 107 = .ok (.aload_n 0, 1) := by decide +kernel
theorem dX6_day_108 : decode cX6_day 108 = .ok (.iload_n 2, 1) := by decide +kernel
theorem dX6_day_109 : decode cX6_day 109 = .ok (.iconst 1, 1) := by decide +kernel
theorem dX6_day_110 : decode cX6_day 110 = .ok (.invokevirtual 73, 3) := by decide +kernel
theorem dX6_day_113 : decode cX6_day 113 = .ok (.aload_n 0, 1) := by decide +kernel
theorem dX6_day_114 : decode cX6_day 114 = .ok (.iload_n 2, 1) := by decide +kernel
theorem dX6_day_115 : decode cX6_day 115 = .ok (.invokevirtual 131, 3) := by decide +kernel
theorem dX6_day_118 : decode cX6_day 118 = .ok (.isub, 1) := by decide +kernel
theorem dX6_day_119 : decode cX6_day 119 = .ok (.invokestatic 80, 3) := by decide +kernel
theorem dX6_day_122 : decode cX6_day 122 = .ok (.iastore, 1) := by decide +kernel
theorem dX6_day_123 : decode cX6_day 123 = .ok (.iinc 2 1, 3) := by decide +kernel
theorem dX6_day_126 : decode cX6_day 126 = .ok (.goto (-38), 3) := by decide +kernel
theorem dX6_day_129 : decode cX6_day 129 = .ok (.iconst 0, 1) := by decide +kernel
theorem dX6_day_130 : decode cX6_day 130 = .ok (.istore_n 2, 1) := by decide +kernel
theorem dX6_day_131 : decode cX6_day 131 = .ok (.iload_n 2, 1) := by decide +kernel
theorem dX6_day_132 : decode cX6_day 132 = .ok (.aload_n 0, 1) := by decide +kernel
theorem dX6_day_133 : decode cX6_day 133 = .ok (.getfield 7, 3) := by decide +kernel
theorem dX6_day_136 : decode cX6_day 136 = .ok (.iconst 1, 1) := by decide +kernel
theorem dX6_day_137 : decode cX6_day 137 = .ok (.iaload, 1) := by decide +kernel
theorem dX6_day_138 : decode cX6_day 138 = .ok (.if_icmp .ge 39, 3) := by decide +kernel
theorem dX6_day_141 : decode cX6_day 141 = .ok (.aload_n 0, 1) := by decide +kernel
theorem dX6_day_142 : decode cX6_day 142 = .ok (.getfield 7, 3) := by decide +kernel
theorem dX6_day_145 : decode cX6_day 145 = .ok (.iload_n 2, 1) := by decide +kernel
theorem dX6_day_146 : decode cX6_day 146 = .ok (.iconst 2, 1) := by decide +kernel
theorem dX6_day_147 : decode cX6_day 147 = .ok (.invokestatic 63, 3) := by decide +kernel
theorem dX6_day_150 : decode cX6_day 150 = .ok (.dup2, 1) := by decide +kernel
theorem dX6_day_151 : decode cX6_day 151 = .ok (.iaload, 1) := by decide +kernel
theorem dX6_day_152 : decode cX6_day 152 = .ok (.aload_n 0, 1) := by decide +kernel
theorem dX6_day_153 : decode cX6_day 153 = .ok (.iload_n 2, 1) := by decide +kernel
theorem dX6_day_154 : decode cX6_day 154 = .ok (.iconst 2, 1) := by decide +kernel
theorem dX6_day_155 : decode cX6_day 155 = .ok (.invokevirtual 70, 3) := by decide +kernel
theorem dX6_day_158 : decode cX6_day 158 = .ok (.sipush 9999, 3) := by decide +kernel
theorem dX6_day_161 : decode cX6_day 161 = .ok (.if_icmp .ge 7, 3) := by decide +kernel
theorem dX6_day_164 : decode cX6_day 164 = .ok (.iconst 1, 1) := by decide +kernel
theorem dX6_day_165 : decode cX6_day 165 = .ok (.goto 4, 3) := by decide +kernel
theorem dX6_day_168 : decode cX6_day 168 = .ok (.iconst 0, 1) := by decide +kernel
theorem dX6_day_169 : decode cX6_day 169 = .ok (.iadd, 1) := by decide +kernel
theorem dX6_day_170 : decode cX6_day 170 = .ok (.iastore, 1) := by decide +kernel
theorem dX6_day_171 : decode cX6_day 171 = .ok (.iinc 2 1, 3) := by decide +kernel
theorem dX6_day_174 : decode cX6_day 174 = .ok (.goto (-43), 3) := by decide +kernel
theorem dX6_day_177 : decode cX6_day 177 = .ok (.aload_n 0, 1) := by decide +kernel
theorem dX6_day_178 : decode cX6_day 178 = .ok (.getfield 7, 3) := by decide +kernel
theorem dX6_day_181 : decode cX6_day 181 = .ok (.iconst 2, 1) := by decide +kernel
theorem dX6_day_182 : decode cX6_day 182 = .ok (.dup2, 1) := by decide +kernel
theorem dX6_day_183 : decode cX6_day 183 = .ok (.iaload, 1) := by decide +kernel
theorem dX6_day_184 : decode cX6_day 184 = .ok (.iconst 1, 1) := by decide +kernel
theorem dX6_day_185 : decode cX6_day 185 = .ok (.iadd, 1) := by decide +kernel
theorem dX6_day_186 : decode cX6_day 186 = .ok (.iastore, 1) := by decide +kernel
theorem dX6_day_187 : decode cX6_day 187 = .ok (.iload_n 1, 1) := by decide +kernel
theorem dX6_day_188 : decode cX6_day 188 = .ok (.ireturn, 1) := by decide +kernel
theorem dX6_daysGo_0 : decode cX6_daysGo 0 = .ok (.iconst 0, 1) := by decide +kernel
theorem dX6_daysGo_1 : decode cX6_daysGo 1 = .ok (.istore_n 2, 1) := by decide +kernel
theorem dX6_daysGo_2 : decode cX6_daysGo 2 = .ok (.iconst 0, 1) := by decide +kernel
theorem dX6_daysGo_3 : decode cX6_daysGo 3 = .ok (.istore_n 3, 1) := by decide +kernel
theorem dX6_daysGo_4 : decode cX6_daysGo 4 = .ok (.iload_n 3, 1) := by decide +kernel
theorem dX6_daysGo_5 : decode cX6_daysGo 5 = .ok (.iload_n 1, 1) := by decide +kernel
theorem dX6_daysGo_6 : decode cX6_daysGo 6 = .ok (.if_icmp .ge 16, 3) := by decide +kernel
theorem dX6_daysGo_9 : decode cX6_daysGo 9 = .ok (.iload_n 2, 1) := by decide +kernel
theorem dX6_daysGo_10 : decode cX6_daysGo 10 = .ok (.aload_n 0, 1) := by decide +kernel
theorem dX6_daysGo_11 : decode cX6_daysGo 11 = .ok (.invokevirtual 163, 3) := by decide +kernel
theorem dX6_daysGo_14 : decode cX6_daysGo 14 = .ok (.iadd, 1) := by decide +kernel
theorem dX6_daysGo_15 : decode cX6_daysGo 15 = .ok (.istore_n 2, 1) := by decide +kernel
theorem dX6_daysGo_16 : decode cX6_daysGo 16 = .ok (.iinc 3 1, 3) := by decide +kernel
theorem dX6_daysGo_19 : decode cX6_daysGo 19 = .ok (.goto (-15), 3) := by decide +kernel
theorem dX6_daysGo_22 : decode cX6_daysGo 22 = .ok (.iload_n 2, 1) := by decide +kernel
theorem dX6_daysGo_23 : decode cX6_daysGo 23 = .ok (.ireturn, 1) := by decide +kernel
theorem dX6_days_0 : decode cX6_days 0 = .ok (.iload_n 1, 1) := by decide +kernel
theorem dX6_days_1 : decode cX6_days 1 = .ok (.i2l, 1) := by decide +kernel
theorem dX6_days_2 : decode cX6_days 2 = .ok (.lconst 1, 1) := by decide +kernel
theorem dX6_days_3 : decode cX6_days 3 = .ok (.ldc2_w 166, 3) := by decide +kernel
theorem dX6_days_6 : decode cX6_days 6 = .ok (.invokestatic 53, 3) := by decide +kernel
theorem dX6_days_9 : decode cX6_days 9 = .ok (.ifCond .ne 10, 3) := by decide +kernel
theorem dX6_days_12 : decode cX6_days 12 = .ok (.aload_n 0, 1) := by decide +kernel
theorem dX6_days_13 : decode cX6_days 13 = .ok (.ldc 50, 2) := by decide +kernel
theorem dX6_days_15 : decode cX6_days 15 = .ok (.invokevirtual 101, 3) := by decide +kernel
theorem dX6_days_18 : decode cX6_days 18 = .ok (.ireturn, 1) := by decide +kernel
theorem dX6_days_19 : decode cX6_days 19 = .ok (.aload_n 0, 1) := by decide +kernel
theorem dX6_days_20 : decode cX6_days 20 = .ok (.getfield 7, 3) := by decide +kernel
theorem dX6_days_23 : decode cX6_days 23 = .ok (.iconst 2, 1) := by decide +kernel
theorem dX6_days_24 : decode cX6_days 24 = .ok (.iaload, 1) := by decide +kernel
theorem dX6_days_25 : decode cX6_days 25 = .ok (.iload_n 1, 1) := by decide +kernel
theorem dX6_days_26 : decode cX6_days 26 = .ok (.iadd, 1) := by decide +kernel
theorem dX6_days_27 : decode cX6_days 27 = .ok (.sipush 9999, 3) := by decide +kernel
theorem dX6_days_30 : decode cX6_days 30 = .ok (.if_icmp .le 12, 3) := by decide +kernel
theorem dX6_days_33 : decode cX6_days 33 = .ok (.aload_n 0, 1) := by decide +kernel
theorem dX6_days_34 : decode cX6_days 34 = .ok (.ldc 168, 2) := by decide +kernel
theorem dX6_days_36 : decode cX6_days 36 = .ok (.invokevirtual 101, 3) := by decide +kernel
theorem dX6_days_39 : decode cX6_days 39 = .ok (.goto 8, 3) := by decide +kernel
theorem dX6_days_42 : decode cX6_days 42 = .ok (.aload_n 0, 1) := by decide +kernel
theorem dX6_days_43 : decode cX6_days 43 = .ok (.iload_n 1, 1) := by decide +kernel
theorem dX6_days_44 : decode cX6_days 44 = .ok (.invokevirtual 169, 3) := by decide +kernel
theorem dX6_days_47 : decode cX6_days 47 = .ok (.ireturn, 1) := by decide +kernel
theorem dX6_wheatAll_0 : decode cX6_wheatAll 0 = .ok (.iconst 0, 1) := by decide +kernel
theorem dX6_wheatAll_1 : decode cX6_wheatAll 1 = .ok (.istore_n 1, 1) := by decide +kernel
theorem dX6_wheatAll_2 : decode cX6_wheatAll 2 = .ok (.iconst 0, 1) := by decide +kernel
theorem dX6_wheatAll_3 : decode cX6_wheatAll 3 = .ok (.istore_n 2, 1) := by decide +kernel
theorem dX6_wheatAll_4 : decode cX6_wheatAll 4 = .ok (.iload_n 2, 1) := by decide +kernel
theorem dX6_wheatAll_5 : decode cX6_wheatAll 5 = .ok (.bipush 48, 2) := by decide +kernel
theorem dX6_wheatAll_7 : decode cX6_wheatAll 7 = .ok (.if_icmp .ge 20, 3) := by decide +kernel
theorem dX6_wheatAll_10 : decode cX6_wheatAll 10 = .ok (.iload_n 1, 1) := by decide +kernel
theorem dX6_wheatAll_11 : decode cX6_wheatAll 11 = .ok (.aload_n 0, 1) := by decide +kernel
theorem dX6_wheatAll_12 : decode cX6_wheatAll 12 = .ok (.getfield 7, 3) := by decide +kernel
theorem dX6_wheatAll_15 : decode cX6_wheatAll 15 = .ok (.iconst 4, 1) := by decide +kernel
theorem dX6_wheatAll_16 : decode cX6_wheatAll 16 = .ok (.iload_n 2, 1) := by decide +kernel
theorem dX6_wheatAll_17 : decode cX6_wheatAll 17 = .ok (.iadd, 1) := by decide +kernel
theorem dX6_wheatAll_18 : decode cX6_wheatAll 18 = .ok (.iaload, 1) := by decide +kernel
theorem dX6_wheatAll_19 : decode cX6_wheatAll 19 = .ok (.iadd, 1) := by decide +kernel
theorem dX6_wheatAll_20 : decode cX6_wheatAll 20 = .ok (.istore_n 1, 1) := by decide +kernel
theorem dX6_wheatAll_21 : decode cX6_wheatAll 21 = .ok (.iinc 2 1, 3) := by decide +kernel
theorem dX6_wheatAll_24 : decode cX6_wheatAll 24 = .ok (.goto (-20), 3) := by decide +kernel
theorem dX6_wheatAll_27 : decode cX6_wheatAll 27 = .ok (.iload_n 1, 1) := by decide +kernel
theorem dX6_wheatAll_28 : decode cX6_wheatAll 28 = .ok (.ireturn, 1) := by decide +kernel
theorem dX6_fees_0 : decode cX6_fees 0 = .ok (.iconst 0, 1) := by decide +kernel
theorem dX6_fees_1 : decode cX6_fees 1 = .ok (.istore_n 1, 1) := by decide +kernel
theorem dX6_fees_2 : decode cX6_fees 2 = .ok (.iconst 0, 1) := by decide +kernel
theorem dX6_fees_3 : decode cX6_fees 3 = .ok (.istore_n 2, 1) := by decide +kernel
theorem dX6_fees_4 : decode cX6_fees 4 = .ok (.iload_n 2, 1) := by decide +kernel
theorem dX6_fees_5 : decode cX6_fees 5 = .ok (.aload_n 0, 1) := by decide +kernel
theorem dX6_fees_6 : decode cX6_fees 6 = .ok (.getfield 7, 3) := by decide +kernel
theorem dX6_fees_9 : decode cX6_fees 9 = .ok (.iconst 0, 1) := by decide +kernel
theorem dX6_fees_10 : decode cX6_fees 10 = .ok (.iaload, 1) := by decide +kernel
theorem dX6_fees_11 : decode cX6_fees 11 = .ok (.if_icmp .ge 30, 3) := by decide +kernel
theorem dX6_fees_14 : decode cX6_fees 14 = .ok (.iload_n 1, 1) := by decide +kernel
theorem dX6_fees_15 : decode cX6_fees 15 = .ok (.aload_n 0, 1) := by decide +kernel
theorem dX6_fees_16 : decode cX6_fees 16 = .ok (.iload_n 2, 1) := by decide +kernel
theorem dX6_fees_17 : decode cX6_fees 17 = .ok (.invokevirtual 128, 3) := by decide +kernel
theorem dX6_fees_20 : decode cX6_fees 20 = .ok (.ifCond .le 12, 3) := by decide +kernel
theorem dX6_fees_23 : decode cX6_fees 23 = .ok (.aload_n 0, 1) := by decide +kernel
theorem dX6_fees_24 : decode cX6_fees 24 = .ok (.iload_n 2, 1) := by decide +kernel
theorem dX6_fees_25 : decode cX6_fees 25 = .ok (.iconst 2, 1) := by decide +kernel
theorem dX6_fees_26 : decode cX6_fees 26 = .ok (.invokevirtual 73, 3) := by decide +kernel
theorem dX6_fees_29 : decode cX6_fees 29 = .ok (.goto 4, 3) := by decide +kernel
theorem dX6_fees_32 : decode cX6_fees 32 = .ok (.iconst 0, 1) := by decide +kernel
theorem dX6_fees_33 : decode cX6_fees 33 = .ok (.iadd, 1) := by decide +kernel
theorem dX6_fees_34 : decode cX6_fees 34 = .ok (.istore_n 1, 1) := by decide +kernel
theorem dX6_fees_35 : decode cX6_fees 35 = .ok (.iinc 2 1, 3) := by decide +kernel
theorem dX6_fees_38 : decode cX6_fees 38 = .ok (.goto (-34), 3) := by decide +kernel
theorem dX6_fees_41 : decode cX6_fees 41 = .ok (.iload_n 1, 1) := by decide +kernel
theorem dX6_fees_42 : decode cX6_fees 42 = .ok (.ireturn, 1) := by decide +kernel
theorem dX6_feared_0 : decode cX6_feared 0 = .ok (.iconst 0, 1) := by decide +kernel
theorem dX6_feared_1 : decode cX6_feared 1 = .ok (.istore_n 1, 1) := by decide +kernel
theorem dX6_feared_2 : decode cX6_feared 2 = .ok (.iconst 0, 1) := by decide +kernel
theorem dX6_feared_3 : decode cX6_feared 3 = .ok (.istore_n 2, 1) := by decide +kernel
theorem dX6_feared_4 : decode cX6_feared 4 = .ok (.iload_n 2, 1) := by decide +kernel
theorem dX6_feared_5 : decode cX6_feared 5 = .ok (.bipush 48, 2) := by decide +kernel
theorem dX6_feared_7 : decode cX6_feared 7 = .ok (.if_icmp .ge 27, 3) := by decide +kernel
theorem dX6_feared_10 : decode cX6_feared 10 = .ok (.iload_n 1, 1) := by decide +kernel
theorem dX6_feared_11 : decode cX6_feared 11 = .ok (.aload_n 0, 1) := by decide +kernel
theorem dX6_feared_12 : decode cX6_feared 12 = .ok (.iload_n 2, 1) := by decide +kernel
theorem dX6_feared_13 : decode cX6_feared 13 = .ok (.invokevirtual 106, 3) := by decide +kernel
theorem dX6_feared_16 : decode cX6_feared 16 = .ok (.bipush 20, 2) := by decide +kernel
theorem dX6_feared_18 : decode cX6_feared 18 = .ok (.if_icmp .lt 7, 3) := by decide +kernel
theorem dX6_feared_21 : decode cX6_feared 21 = .ok (.iconst 1, 1) := by decide +kernel
theorem dX6_feared_22 : decode cX6_feared 22 = .ok (.goto 4, 3) := by decide +kernel
theorem dX6_feared_25 : decode cX6_feared 25 = .ok (.iconst 0, 1) := by decide +kernel
theorem dX6_feared_26 : decode cX6_feared 26 = .ok (.iadd, 1) := by decide +kernel
theorem dX6_feared_27 : decode cX6_feared 27 = .ok (.istore_n 1, 1) := by decide +kernel
theorem dX6_feared_28 : decode cX6_feared 28 = .ok (.iinc 2 1, 3) := by decide +kernel
theorem dX6_feared_31 : decode cX6_feared 31 = .ok (.goto (-27), 3) := by decide +kernel
theorem dX6_feared_34 : decode cX6_feared 34 = .ok (.iload_n 1, 1) := by decide +kernel
theorem dX6_feared_35 : decode cX6_feared 35 = .ok (.ireturn, 1) := by decide +kernel
theorem dX6_meeting_0 : decode cX6_meeting 0 = .ok (.iconst 0, 1) := by decide +kernel
theorem dX6_meeting_1 : decode cX6_meeting 1 = .ok (.istore_n 1, 1) := by decide +kernel
theorem dX6_meeting_2 : decode cX6_meeting 2 = .ok (.iconst 0, 1) := by decide +kernel
theorem dX6_meeting_3 : decode cX6_meeting 3 = .ok (.istore_n 2, 1) := by decide +kernel
theorem dX6_meeting_4 : decode cX6_meeting 4 = .ok (.iload_n 2, 1) := by decide +kernel
theorem dX6_meeting_5 : decode cX6_meeting 5 = .ok (.aload_n 0, 1) := by decide +kernel
theorem dX6_meeting_6 : decode cX6_meeting 6 = .ok (.getfield 7, 3) := by decide +kernel
theorem dX6_meeting_9 : decode cX6_meeting 9 = .ok (.iconst 0, 1) := by decide +kernel
theorem dX6_meeting_10 : decode cX6_meeting 10 = .ok (.iaload, 1) := by decide +kernel
theorem dX6_meeting_11 : decode cX6_meeting 11 = .ok (.if_icmp .ge 27, 3) := by decide +kernel
theorem dX6_meeting_14 : decode cX6_meeting 14 = .ok (.iload_n 1, 1) := by decide +kernel
theorem dX6_meeting_15 : decode cX6_meeting 15 = .ok (.aload_n 0, 1) := by decide +kernel
theorem dX6_meeting_16 : decode cX6_meeting 16 = .ok (.iload_n 2, 1) := by decide +kernel
theorem dX6_meeting_17 : decode cX6_meeting 17 = .ok (.invokevirtual 131, 3) := by decide +kernel
theorem dX6_meeting_20 : decode cX6_meeting 20 = .ok (.ifCond .le 9, 3) := by decide +kernel
theorem dX6_meeting_23 : decode cX6_meeting 23 = .ok (.iconst 1, 1) := by decide +kernel
theorem dX6_meeting_24 : decode cX6_meeting 24 = .ok (.iload_n 2, 1) := by decide +kernel
theorem dX6_meeting_25 : decode cX6_meeting 25 = .ok (.ishl, 1) := by decide +kernel
theorem dX6_meeting_26 : decode cX6_meeting 26 = .ok (.goto 4, 3) := by decide +kernel
theorem dX6_meeting_29 : decode cX6_meeting 29 = .ok (.iconst 0, 1) := by decide +kernel
theorem dX6_meeting_30 : decode cX6_meeting 30 = .ok (.ior, 1) := by decide +kernel
theorem dX6_meeting_31 : decode cX6_meeting 31 = .ok (.istore_n 1, 1) := by decide +kernel
theorem dX6_meeting_32 : decode cX6_meeting 32 = .ok (.iinc 2 1, 3) := by decide +kernel
theorem dX6_meeting_35 : decode cX6_meeting 35 = .ok (.goto (-31), 3) := by decide +kernel
theorem dX6_meeting_38 : decode cX6_meeting 38 = .ok (.iload_n 1, 1) := by decide +kernel
theorem dX6_meeting_39 : decode cX6_meeting 39 = .ok (.ireturn, 1) := by decide +kernel
theorem dX6_now_0 : decode cX6_now 0 = .ok (.iload_n 1, 1) := by decide +kernel
theorem dX6_now_1 : decode cX6_now 1 = .ok (.tableswitch 68 0 5 #[39, 39, 48, 53, 58, 63], 39) := by decide +kernel
theorem dX6_now_40 : decode cX6_now 40 = .ok (.aload_n 0, 1) := by decide +kernel
theorem dX6_now_41 : decode cX6_now 41 = .ok (.getfield 7, 3) := by decide +kernel
theorem dX6_now_44 : decode cX6_now 44 = .ok (.iconst 2, 1) := by decide +kernel
theorem dX6_now_45 : decode cX6_now 45 = .ok (.iload_n 1, 1) := by decide +kernel
theorem dX6_now_46 : decode cX6_now 46 = .ok (.iadd, 1) := by decide +kernel
theorem dX6_now_47 : decode cX6_now 47 = .ok (.iaload, 1) := by decide +kernel
theorem dX6_now_48 : decode cX6_now 48 = .ok (.ireturn, 1) := by decide +kernel
theorem dX6_now_49 : decode cX6_now 49 = .ok (.aload_n 0, 1) := by decide +kernel
theorem dX6_now_50 : decode cX6_now 50 = .ok (.invokevirtual 172, 3) := by decide +kernel
theorem dX6_now_53 : decode cX6_now 53 = .ok (.ireturn, 1) := by decide +kernel
theorem dX6_now_54 : decode cX6_now 54 = .ok (.aload_n 0, 1) := by decide +kernel
theorem dX6_now_55 : decode cX6_now 55 = .ok (.invokevirtual 175, 3) := by decide +kernel
theorem dX6_now_58 : decode cX6_now 58 = .ok (.ireturn, 1) := by decide +kernel
theorem dX6_now_59 : decode cX6_now 59 = .ok (.aload_n 0, 1) := by decide +kernel
theorem dX6_now_60 : decode cX6_now 60 = .ok (.invokevirtual 178, 3) := by decide +kernel
theorem dX6_now_63 : decode cX6_now 63 = .ok (.ireturn, 1) := by decide +kernel
theorem dX6_now_64 : decode cX6_now 64 = .ok (.aload_n 0, 1) := by decide +kernel
theorem dX6_now_65 : decode cX6_now 65 = .ok (.invokevirtual 181, 3) := by decide +kernel
theorem dX6_now_68 : decode cX6_now 68 = .ok (.ireturn, 1) := by decide +kernel
theorem dX6_now_69 : decode cX6_now 69 = .ok (.aload_n 0, 1) := by decide +kernel
theorem dX6_now_70 : decode cX6_now 70 = .ok (.ldc 50, 2) := by decide +kernel
theorem dX6_now_72 : decode cX6_now 72 = .ok (.invokevirtual 101, 3) := by decide +kernel
theorem dX6_now_75 : decode cX6_now 75 = .ok (.ireturn, 1) := by decide +kernel
theorem dX6_on_0 : decode cX6_on 0 = .ok (.iload_n 1, 1) := by decide +kernel
theorem dX6_on_1 : decode cX6_on 1 = .ok (.invokestatic 93, 3) := by decide +kernel
theorem dX6_on_4 : decode cX6_on 4 = .ok (.ifCond .eq 15, 3) := by decide +kernel
theorem dX6_on_7 : decode cX6_on 7 = .ok (.iload_n 2, 1) := by decide +kernel
theorem dX6_on_8 : decode cX6_on 8 = .ok (.i2l, 1) := by decide +kernel
theorem dX6_on_9 : decode cX6_on 9 = .ok (.lconst 0, 1) := by decide +kernel
theorem dX6_on_10 : decode cX6_on 10 = .ok (.ldc2_w 166, 3) := by decide +kernel
theorem dX6_on_13 : decode cX6_on 13 = .ok (.invokestatic 53, 3) := by decide +kernel
theorem dX6_on_16 : decode cX6_on 16 = .ok (.ifCond .ne 10, 3) := by decide +kernel
theorem dX6_on_19 : decode cX6_on 19 = .ok (.aload_n 0, 1) := by decide +kernel
theorem dX6_on_20 : decode cX6_on 20 = .ok (.ldc 50, 2) := by decide +kernel
theorem dX6_on_22 : decode cX6_on 22 = .ok (.invokevirtual 101, 3) := by decide +kernel
theorem dX6_on_25 : decode cX6_on 25 = .ok (.ireturn, 1) := by decide +kernel
theorem dX6_on_26 : decode cX6_on 26 = .ok (.aload_n 0, 1) := by decide +kernel
theorem dX6_on_27 : decode cX6_on 27 = .ok (.invokevirtual 184, 3) := by decide +kernel
theorem dX6_on_30 : decode cX6_on 30 = .ok (.aload_n 0, 1) := by decide +kernel
theorem dX6_on_31 : decode cX6_on 31 = .ok (.iload_n 2, 1) := by decide +kernel
theorem dX6_on_32 : decode cX6_on 32 = .ok (.invokevirtual 169, 3) := by decide +kernel
theorem dX6_on_35 : decode cX6_on 35 = .ok (.istore_n 3, 1) := by decide +kernel
theorem dX6_on_36 : decode cX6_on 36 = .ok (.aload_n 0, 1) := by decide +kernel
theorem dX6_on_37 : decode cX6_on 37 = .ok (.aload_n 0, 1) := by decide +kernel
theorem dX6_on_38 : decode cX6_on 38 = .ok (.getfield 7, 3) := by decide +kernel
theorem dX6_on_41 : decode cX6_on 41 = .ok (.iconst 4, 1) := by decide +kernel
theorem dX6_on_42 : decode cX6_on 42 = .ok (.iload_n 1, 1) := by decide +kernel
theorem dX6_on_43 : decode cX6_on 43 = .ok (.iadd, 1) := by decide +kernel
theorem dX6_on_44 : decode cX6_on 44 = .ok (.iaload, 1) := by decide +kernel
theorem dX6_on_45 : decode cX6_on 45 = .ok (.invokevirtual 187, 3) := by decide +kernel
theorem dX6_on_48 : decode cX6_on 48 = .ok (.ireturn, 1) := by decide +kernel
theorem dX6_eatenOn_0 : decode cX6_eatenOn 0 = .ok (.aload_n 0, 1) := by decide +kernel
theorem dX6_eatenOn_1 : decode cX6_eatenOn 1 = .ok (.invokevirtual 184, 3) := by decide +kernel
theorem dX6_eatenOn_4 : decode cX6_eatenOn 4 = .ok (.aload_n 0, 1) := by decide +kernel
theorem dX6_eatenOn_5 : decode cX6_eatenOn 5 = .ok (.aload_n 0, 1) := by decide +kernel
theorem dX6_eatenOn_6 : decode cX6_eatenOn 6 = .ok (.iload_n 1, 1) := by decide +kernel
theorem dX6_eatenOn_7 : decode cX6_eatenOn 7 = .ok (.invokevirtual 169, 3) := by decide +kernel
theorem dX6_eatenOn_10 : decode cX6_eatenOn 10 = .ok (.invokevirtual 187, 3) := by decide +kernel
theorem dX6_eatenOn_13 : decode cX6_eatenOn 13 = .ok (.ireturn, 1) := by decide +kernel
theorem dX6_eaten_0 : decode cX6_eaten 0 = .ok (.iload_n 1, 1) := by decide +kernel
theorem dX6_eaten_1 : decode cX6_eaten 1 = .ok (.i2l, 1) := by decide +kernel
theorem dX6_eaten_2 : decode cX6_eaten 2 = .ok (.lconst 0, 1) := by decide +kernel
theorem dX6_eaten_3 : decode cX6_eaten 3 = .ok (.ldc2_w 166, 3) := by decide +kernel
theorem dX6_eaten_6 : decode cX6_eaten 6 = .ok (.invokestatic 53, 3) := by decide +kernel
theorem dX6_eaten_9 : decode cX6_eaten 9 = .ok (.ifCond .eq 11, 3) := by decide +kernel
theorem dX6_eaten_12 : decode cX6_eaten 12 = .ok (.aload_n 0, 1) := by decide +kernel
theorem dX6_eaten_13 : decode cX6_eaten 13 = .ok (.iload_n 1, 1) := by decide +kernel
theorem dX6_eaten_14 : decode cX6_eaten 14 = .ok (.invokevirtual 190, 3) := by decide +kernel
theorem dX6_eaten_17 : decode cX6_eaten 17 = .ok (.goto 9, 3) := by decide +kernel
theorem dX6_eaten_20 : decode cX6_eaten 20 = .ok (.aload_n 0, 1) := by decide +kernel
theorem dX6_eaten_21 : decode cX6_eaten 21 = .ok (.ldc 50, 2) := by decide +kernel
theorem dX6_eaten_23 : decode cX6_eaten 23 = .ok (.invokevirtual 101, 3) := by decide +kernel
theorem dX6_eaten_26 : decode cX6_eaten 26 = .ok (.ireturn, 1) := by decide +kernel
theorem dX6_first_0 : decode cX6_first 0 = .ok (.iload_n 1, 1) := by decide +kernel
theorem dX6_first_1 : decode cX6_first 1 = .ok (.invokestatic 93, 3) := by decide +kernel
theorem dX6_first_4 : decode cX6_first 4 = .ok (.ifCond .ne 10, 3) := by decide +kernel
theorem dX6_first_7 : decode cX6_first 7 = .ok (.aload_n 0, 1) := by decide +kernel
theorem dX6_first_8 : decode cX6_first 8 = .ok (.ldc 50, 2) := by decide +kernel
theorem dX6_first_10 : decode cX6_first 10 = .ok (.invokevirtual 101, 3) := by decide +kernel
theorem dX6_first_13 : decode cX6_first 13 = .ok (.ireturn, 1) := by decide +kernel
theorem dX6_first_14 : decode cX6_first 14 = .ok (.aload_n 0, 1) := by decide +kernel
theorem dX6_first_15 : decode cX6_first 15 = .ok (.getfield 7, 3) := by decide +kernel
theorem dX6_first_18 : decode cX6_first 18 = .ok (.iconst 4, 1) := by decide +kernel
theorem dX6_first_19 : decode cX6_first 19 = .ok (.iload_n 1, 1) := by decide +kernel
theorem dX6_first_20 : decode cX6_first 20 = .ok (.iadd, 1) := by decide +kernel
theorem dX6_first_21 : decode cX6_first 21 = .ok (.iaload, 1) := by decide +kernel
theorem dX6_first_22 : decode cX6_first 22 = .ok (.istore_n 2, 1) := by decide +kernel
theorem dX6_first_23 : decode cX6_first 23 = .ok (.aload_n 0, 1) := by decide +kernel
theorem dX6_first_24 : decode cX6_first 24 = .ok (.invokevirtual 184, 3) := by decide +kernel
theorem dX6_first_27 : decode cX6_first 27 = .ok (.iconst 0, 1) := by decide +kernel
theorem dX6_first_28 : decode cX6_first 28 = .ok (.istore_n 3, 1) := by decide +kernel
theorem dX6_first_29 : decode cX6_first 29 = .ok (.iload_n 3, 1) := by decide +kernel
theorem dX6_first_30 : decode cX6_first 30 = .ok (.bipush 60, 2) := by decide +kernel
theorem dX6_first_32 : decode cX6_first 32 = .ok (.if_icmp .gt 27, 3) := by decide +kernel
theorem dX6_first_35 : decode cX6_first 35 = .ok (.aload_n 0, 1) := by decide +kernel
theorem dX6_first_36 : decode cX6_first 36 = .ok (.getfield 7, 3) := by decide +kernel
theorem dX6_first_39 : decode cX6_first 39 = .ok (.iconst 4, 1) := by decide +kernel
theorem dX6_first_40 : decode cX6_first 40 = .ok (.iload_n 1, 1) := by decide +kernel
theorem dX6_first_41 : decode cX6_first 41 = .ok (.iadd, 1) := by decide +kernel
theorem dX6_first_42 : decode cX6_first 42 = .ok (.iaload, 1) := by decide +kernel
theorem dX6_first_43 : decode cX6_first 43 = .ok (.iload_n 2, 1) := by decide +kernel
theorem dX6_first_44 : decode cX6_first 44 = .ok (.if_icmp .ne 15, 3) := by decide +kernel
theorem dX6_first_47 : decode cX6_first 47 = .ok (.aload_n 0, 1) := by decide +kernel
theorem dX6_first_48 : decode cX6_first 48 = .ok (.invokevirtual 163, 3) := by decide +kernel
theorem dX6_first_51 : decode cX6_first 51 = .ok (.istore 4, 2) := by decide +kernel
theorem dX6_first_53 : decode cX6_first 53 = .ok (.iinc 3 1, 3) := by decide +kernel
theorem dX6_first_56 : decode cX6_first 56 = .ok (.goto (-27), 3) := by decide +kernel
theorem dX6_first_59 : decode cX6_first 59 = .ok (.aload_n 0, 1) := by decide +kernel
theorem dX6_first_60 : decode cX6_first 60 = .ok (.iload_n 3, 1) := by decide +kernel
theorem dX6_first_61 : decode cX6_first 61 = .ok (.invokevirtual 187, 3) := by decide +kernel
theorem dX6_first_64 : decode cX6_first 64 = .ok (.istore 4, 2) := by decide +kernel
theorem dX6_first_66 : decode cX6_first 66 = .ok (.iload 4, 2) := by decide +kernel
theorem dX6_first_68 : decode cX6_first 68 = .ok (.bipush 60, 2) := by decide +kernel
theorem dX6_first_70 : decode cX6_first 70 = .ok (.if_icmp .le 12, 3) := by decide +kernel
theorem dX6_first_73 : decode cX6_first 73 = .ok (.aload_n 0, 1) := by decide +kernel
theorem dX6_first_74 : decode cX6_first 74 = .ok (.ldc 162, 2) := by decide +kernel
theorem dX6_first_76 : decode cX6_first 76 = .ok (.invokevirtual 101, 3) := by decide +kernel
theorem dX6_first_79 : decode cX6_first 79 = .ok (.goto 5, 3) := by decide +kernel
theorem dX6_first_82 : decode cX6_first 82 = .ok (.iload 4, 2) := by decide +kernel
theorem dX6_first_84 : decode cX6_first 84 = .ok (.ireturn, 1) := by decide +kernel
theorem dX6_isSoon_0 : decode cX6_isSoon 0 = .ok (.iload_n 0, 1) := by decide +kernel
theorem dX6_isSoon_1 : decode cX6_isSoon 1 = .ok (.i2l, 1) := by decide +kernel
theorem dX6_isSoon_2 : decode cX6_isSoon 2 = .ok (.lconst 1, 1) := by decide +kernel
theorem dX6_isSoon_3 : decode cX6_isSoon 3 = .ok (.ldc2_w 112, 3) := by decide +kernel
theorem dX6_isSoon_6 : decode cX6_isSoon 6 = .ok (.invokestatic 53, 3) := by decide +kernel
theorem dX6_isSoon_9 : decode cX6_isSoon 9 = .ok (.ireturn, 1) := by decide +kernel
theorem dX6_leastBy_0 : decode cX6_leastBy 0 = .ok (.aload_n 0, 1) := by decide +kernel
theorem dX6_leastBy_1 : decode cX6_leastBy 1 = .ok (.getfield 7, 3) := by decide +kernel
theorem dX6_leastBy_4 : decode cX6_leastBy 4 = .ok (.iload_n 1, 1) := by decide +kernel
theorem dX6_leastBy_5 : decode cX6_leastBy 5 = .ok (.iaload, 1) := by decide +kernel
theorem dX6_leastBy_6 : decode cX6_leastBy 6 = .ok (.istore 4, 2) := by decide +kernel
theorem dX6_leastBy_8 : decode cX6_leastBy 8 = .ok (.iconst 0, 1) := by decide +kernel
theorem dX6_leastBy_9 : decode cX6_leastBy 9 = .ok (.istore 5, 2) := by decide +kernel
theorem dX6_leastBy_11 : decode cX6_leastBy 11 = .ok (.iconst (-1), 1) := by decide +kernel
theorem dX6_leastBy_12 : decode cX6_leastBy 12 = .ok (.istore 6, 2) := by decide +kernel
theorem dX6_leastBy_14 : decode cX6_leastBy 14 = .ok (.iconst 0, 1) := by decide +kernel
theorem dX6_leastBy_15 : decode cX6_leastBy 15 = .ok (.istore 7, 2) := by decide +kernel
theorem dX6_leastBy_17 : decode cX6_leastBy 17 = .ok (.iload 7, 2) := by decide +kernel
theorem dX6_leastBy_19 : decode cX6_leastBy 19 = .ok (.iload_n 2, 1) := by decide +kernel
theorem dX6_leastBy_20 : decode cX6_leastBy 20 = .ok (.if_icmp .ge 66, 3) := by decide +kernel
theorem dX6_leastBy_23 : decode cX6_leastBy 23 = .ok (.aload_n 0, 1) := by decide +kernel
theorem dX6_leastBy_24 : decode cX6_leastBy 24 = .ok (.getfield 7, 3) := by decide +kernel
theorem dX6_leastBy_27 : decode cX6_leastBy 27 = .ok (.iload_n 1, 1) := by decide +kernel
theorem dX6_leastBy_28 : decode cX6_leastBy 28 = .ok (.iload 7, 2) := by decide +kernel
theorem dX6_leastBy_30 : decode cX6_leastBy 30 = .ok (.iastore, 1) := by decide +kernel
theorem dX6_leastBy_31 : decode cX6_leastBy 31 = .ok (.aload_n 0, 1) := by decide +kernel
theorem dX6_leastBy_32 : decode cX6_leastBy 32 = .ok (.iload_n 3, 1) := by decide +kernel
theorem dX6_leastBy_33 : decode cX6_leastBy 33 = .ok (.invokevirtual 190, 3) := by decide +kernel
theorem dX6_leastBy_36 : decode cX6_leastBy 36 = .ok (.istore 8, 2) := by decide +kernel
theorem dX6_leastBy_38 : decode cX6_leastBy 38 = .ok (.iload 6, 2) := by decide +kernel
theorem dX6_leastBy_40 : decode cX6_leastBy 40 = .ok (.ifCond .lt 10, 3) := by decide +kernel
theorem dX6_leastBy_43 : decode cX6_leastBy 43 = .ok (.iload 8, 2) := by decide +kernel
theorem dX6_leastBy_45 : decode cX6_leastBy 45 = .ok (.iload 6, 2) := by decide +kernel
theorem dX6_leastBy_47 : decode cX6_leastBy 47 = .ok (.if_icmp .ge 8, 3) := by decide +kernel
theorem dX6_leastBy_50 : decode cX6_leastBy 50 = .ok (.iload 7, 2) := by decide +kernel
theorem dX6_leastBy_52 : decode cX6_leastBy 52 = .ok (.goto 5, 3) := by decide +kernel
theorem dX6_leastBy_55 : decode cX6_leastBy 55 = .ok (.iload 5, 2) := by decide +kernel
theorem dX6_leastBy_57 : decode cX6_leastBy 57 = .ok (.istore 5, 2) := by decide +kernel
theorem dX6_leastBy_59 : decode cX6_leastBy 59 = .ok (.iload 6, 2) := by decide +kernel
theorem dX6_leastBy_61 : decode cX6_leastBy 61 = .ok (.ifCond .lt 10, 3) := by decide +kernel
theorem dX6_leastBy_64 : decode cX6_leastBy 64 = .ok (.iload 8, 2) := by decide +kernel
theorem dX6_leastBy_66 : decode cX6_leastBy 66 = .ok (.iload 6, 2) := by decide +kernel
theorem dX6_leastBy_68 : decode cX6_leastBy 68 = .ok (.if_icmp .ge 8, 3) := by decide +kernel
theorem dX6_leastBy_71 : decode cX6_leastBy 71 = .ok (.iload 8, 2) := by decide +kernel
theorem dX6_leastBy_73 : decode cX6_leastBy 73 = .ok (.goto 5, 3) := by decide +kernel
theorem dX6_leastBy_76 : decode cX6_leastBy 76 = .ok (.iload 6, 2) := by decide +kernel
theorem dX6_leastBy_78 : decode cX6_leastBy 78 = .ok (.istore 6, 2) := by decide +kernel
theorem dX6_leastBy_80 : decode cX6_leastBy 80 = .ok (.iinc 7 1, 3) := by decide +kernel
theorem dX6_leastBy_83 : decode cX6_leastBy 83 = .ok (.goto (-66), 3) := by decide +kernel
theorem dX6_leastBy_86 : decode cX6_leastBy 86 = .ok (.aload_n 0, 1) := by decide +kernel
theorem dX6_leastBy_87 : decode cX6_leastBy 87 = .ok (.getfield 7, 3) := by decide +kernel
theorem dX6_leastBy_90 : decode cX6_leastBy 90 = .ok (.iload_n 1, 1) := by decide +kernel
theorem dX6_leastBy_91 : decode cX6_leastBy 91 = .ok (.iload 4, 2) := by decide +kernel
theorem dX6_leastBy_93 : decode cX6_leastBy 93 = .ok (.iastore, 1) := by decide +kernel
theorem dX6_leastBy_94 : decode cX6_leastBy 94 = .ok (.iload 5, 2) := by decide +kernel
theorem dX6_leastBy_96 : decode cX6_leastBy 96 = .ok (.ireturn, 1) := by decide +kernel
theorem dX6_spot_0 : decode cX6_spot 0 = .ok (.aload_n 0, 1) := by decide +kernel
theorem dX6_spot_1 : decode cX6_spot 1 = .ok (.iload_n 1, 1) := by decide +kernel
theorem dX6_spot_2 : decode cX6_spot 2 = .ok (.invokevirtual 143, 3) := by decide +kernel
theorem dX6_spot_5 : decode cX6_spot 5 = .ok (.ifCond .eq 25, 3) := by decide +kernel
theorem dX6_spot_8 : decode cX6_spot 8 = .ok (.iload_n 2, 1) := by decide +kernel
theorem dX6_spot_9 : decode cX6_spot 9 = .ok (.invokestatic 193, 3) := by decide +kernel
theorem dX6_spot_12 : decode cX6_spot 12 = .ok (.ifCond .eq 18, 3) := by decide +kernel
theorem dX6_spot_15 : decode cX6_spot 15 = .ok (.aload_n 0, 1) := by decide +kernel
theorem dX6_spot_16 : decode cX6_spot 16 = .ok (.iload_n 1, 1) := by decide +kernel
theorem dX6_spot_17 : decode cX6_spot 17 = .ok (.iconst 0, 1) := by decide +kernel
theorem dX6_spot_18 : decode cX6_spot 18 = .ok (.invokestatic 63, 3) := by decide +kernel
theorem dX6_spot_21 : decode cX6_spot 21 = .ok (.bipush 48, 2) := by decide +kernel
theorem dX6_spot_23 : decode cX6_spot 23 = .ok (.iload_n 2, 1) := by decide +kernel
theorem dX6_spot_24 : decode cX6_spot 24 = .ok (.invokevirtual 196, 3) := by decide +kernel
theorem dX6_spot_27 : decode cX6_spot 27 = .ok (.goto 9, 3) := by decide +kernel
theorem dX6_spot_30 : decode cX6_spot 30 = .ok (.aload_n 0, 1) := by decide +kernel
theorem dX6_spot_31 : decode cX6_spot 31 = .ok (.ldc 50, 2) := by decide +kernel
theorem dX6_spot_33 : decode cX6_spot 33 = .ok (.invokevirtual 101, 3) := by decide +kernel
theorem dX6_spot_36 : decode cX6_spot 36 = .ok (.ireturn, 1) := by decide +kernel
theorem dX6_whose_0 : decode cX6_whose 0 = .ok (.aload_n 0, 1) := by decide +kernel
theorem dX6_whose_1 : decode cX6_whose 1 = .ok (.iload_n 1, 1) := by decide +kernel
theorem dX6_whose_2 : decode cX6_whose 2 = .ok (.invokevirtual 143, 3) := by decide +kernel
theorem dX6_whose_5 : decode cX6_whose 5 = .ok (.ifCond .eq 29, 3) := by decide +kernel
theorem dX6_whose_8 : decode cX6_whose 8 = .ok (.iload_n 2, 1) := by decide +kernel
theorem dX6_whose_9 : decode cX6_whose 9 = .ok (.invokestatic 193, 3) := by decide +kernel
theorem dX6_whose_12 : decode cX6_whose 12 = .ok (.ifCond .eq 22, 3) := by decide +kernel
theorem dX6_whose_15 : decode cX6_whose 15 = .ok (.aload_n 0, 1) := by decide +kernel
theorem dX6_whose_16 : decode cX6_whose 16 = .ok (.iload_n 1, 1) := by decide +kernel
theorem dX6_whose_17 : decode cX6_whose 17 = .ok (.iconst 1, 1) := by decide +kernel
theorem dX6_whose_18 : decode cX6_whose 18 = .ok (.invokestatic 63, 3) := by decide +kernel
theorem dX6_whose_21 : decode cX6_whose 21 = .ok (.aload_n 0, 1) := by decide +kernel
theorem dX6_whose_22 : decode cX6_whose 22 = .ok (.getfield 7, 3) := by decide +kernel
theorem dX6_whose_25 : decode cX6_whose 25 = .ok (.iconst 0, 1) := by decide +kernel
theorem dX6_whose_26 : decode cX6_whose 26 = .ok (.iaload, 1) := by decide +kernel
theorem dX6_whose_27 : decode cX6_whose 27 = .ok (.iload_n 2, 1) := by decide +kernel
theorem dX6_whose_28 : decode cX6_whose 28 = .ok (.invokevirtual 196, 3) := by decide +kernel
theorem dX6_whose_31 : decode cX6_whose 31 = .ok (.goto 9, 3) := by decide +kernel
theorem dX6_whose_34 : decode cX6_whose 34 = .ok (.aload_n 0, 1) := by decide +kernel
theorem dX6_whose_35 : decode cX6_whose 35 = .ok (.ldc 50, 2) := by decide +kernel
theorem dX6_whose_37 : decode cX6_whose 37 = .ok (.invokevirtual 101, 3) := by decide +kernel
theorem dX6_whose_40 : decode cX6_whose 40 = .ok (.ireturn, 1) := by decide +kernel
theorem dX6_kind_0 : decode cX6_kind 0 = .ok (.aload_n 0, 1) := by decide +kernel
theorem dX6_kind_1 : decode cX6_kind 1 = .ok (.iload_n 1, 1) := by decide +kernel
theorem dX6_kind_2 : decode cX6_kind 2 = .ok (.invokevirtual 125, 3) := by decide +kernel
theorem dX6_kind_5 : decode cX6_kind 5 = .ok (.ifCond .eq 25, 3) := by decide +kernel
theorem dX6_kind_8 : decode cX6_kind 8 = .ok (.iload_n 2, 1) := by decide +kernel
theorem dX6_kind_9 : decode cX6_kind 9 = .ok (.invokestatic 193, 3) := by decide +kernel
theorem dX6_kind_12 : decode cX6_kind 12 = .ok (.ifCond .eq 18, 3) := by decide +kernel
theorem dX6_kind_15 : decode cX6_kind 15 = .ok (.aload_n 0, 1) := by decide +kernel
theorem dX6_kind_16 : decode cX6_kind 16 = .ok (.iload_n 1, 1) := by decide +kernel
theorem dX6_kind_17 : decode cX6_kind 17 = .ok (.iconst 0, 1) := by decide +kernel
theorem dX6_kind_18 : decode cX6_kind 18 = .ok (.invokestatic 59, 3) := by decide +kernel
theorem dX6_kind_21 : decode cX6_kind 21 = .ok (.bipush 6, 2) := by decide +kernel
theorem dX6_kind_23 : decode cX6_kind 23 = .ok (.iload_n 2, 1) := by decide +kernel
theorem dX6_kind_24 : decode cX6_kind 24 = .ok (.invokevirtual 196, 3) := by decide +kernel
theorem dX6_kind_27 : decode cX6_kind 27 = .ok (.goto 9, 3) := by decide +kernel
theorem dX6_kind_30 : decode cX6_kind 30 = .ok (.aload_n 0, 1) := by decide +kernel
theorem dX6_kind_31 : decode cX6_kind 31 = .ok (.ldc 50, 2) := by decide +kernel
theorem dX6_kind_33 : decode cX6_kind 33 = .ok (.invokevirtual 101, 3) := by decide +kernel
theorem dX6_kind_36 : decode cX6_kind 36 = .ok (.ireturn, 1) := by decide +kernel
theorem dX6_temper_0 : decode cX6_temper 0 = .ok (.aload_n 0, 1) := by decide +kernel
theorem dX6_temper_1 : decode cX6_temper 1 = .ok (.iload_n 1, 1) := by decide +kernel
theorem dX6_temper_2 : decode cX6_temper 2 = .ok (.invokevirtual 125, 3) := by decide +kernel
theorem dX6_temper_5 : decode cX6_temper 5 = .ok (.ifCond .eq 25, 3) := by decide +kernel
theorem dX6_temper_8 : decode cX6_temper 8 = .ok (.iload_n 2, 1) := by decide +kernel
theorem dX6_temper_9 : decode cX6_temper 9 = .ok (.invokestatic 193, 3) := by decide +kernel
theorem dX6_temper_12 : decode cX6_temper 12 = .ok (.ifCond .eq 18, 3) := by decide +kernel
theorem dX6_temper_15 : decode cX6_temper 15 = .ok (.aload_n 0, 1) := by decide +kernel
theorem dX6_temper_16 : decode cX6_temper 16 = .ok (.iload_n 1, 1) := by decide +kernel
theorem dX6_temper_17 : decode cX6_temper 17 = .ok (.iconst 1, 1) := by decide +kernel
theorem dX6_temper_18 : decode cX6_temper 18 = .ok (.invokestatic 59, 3) := by decide +kernel
theorem dX6_temper_21 : decode cX6_temper 21 = .ok (.bipush 31, 2) := by decide +kernel
theorem dX6_temper_23 : decode cX6_temper 23 = .ok (.iload_n 2, 1) := by decide +kernel
theorem dX6_temper_24 : decode cX6_temper 24 = .ok (.invokevirtual 196, 3) := by decide +kernel
theorem dX6_temper_27 : decode cX6_temper 27 = .ok (.goto 9, 3) := by decide +kernel
theorem dX6_temper_30 : decode cX6_temper 30 = .ok (.aload_n 0, 1) := by decide +kernel
theorem dX6_temper_31 : decode cX6_temper 31 = .ok (.ldc 50, 2) := by decide +kernel
theorem dX6_temper_33 : decode cX6_temper 33 = .ok (.invokevirtual 101, 3) := by decide +kernel
theorem dX6_temper_36 : decode cX6_temper 36 = .ok (.ireturn, 1) := by decide +kernel
theorem dX6_ones_0 : decode cX6_ones 0 = .ok (.iconst 0, 1) := by decide +kernel
theorem dX6_ones_1 : decode cX6_ones 1 = .ok (.istore_n 1, 1) := by decide +kernel
theorem dX6_ones_2 : decode cX6_ones 2 = .ok (.iload_n 0, 1) := by decide +kernel
theorem dX6_ones_3 : decode cX6_ones 3 = .ok (.istore_n 2, 1) := by decide +kernel
theorem dX6_ones_4 : decode cX6_ones 4 = .ok (.iload_n 2, 1) := by decide +kernel
theorem dX6_ones_5 : decode cX6_ones 5 = .ok (.ifCond .eq 15, 3) := by decide +kernel
theorem dX6_ones_8 : decode cX6_ones 8 = .ok (.iinc 1 1, 3) := by decide +kernel
theorem dX6_ones_11 : decode cX6_ones 11 = .ok (.iload_n 2, 1) := by decide +kernel
theorem dX6_ones_12 : decode cX6_ones 12 = .ok (.iload_n 2, 1) := by decide +kernel
theorem dX6_ones_13 : decode cX6_ones 13 = .ok (.iconst 1, 1) := by decide +kernel
theorem dX6_ones_14 : decode cX6_ones 14 = .ok (.isub, 1) := by decide +kernel
theorem dX6_ones_15 : decode cX6_ones 15 = .ok (.iand, 1) := by decide +kernel
theorem dX6_ones_16 : decode cX6_ones 16 = .ok (.istore_n 2, 1) := by decide +kernel
theorem dX6_ones_17 : decode cX6_ones 17 = .ok (.goto (-13), 3) := by decide +kernel
theorem dX6_ones_20 : decode cX6_ones 20 = .ok (.iload_n 1, 1) := by decide +kernel
theorem dX6_ones_21 : decode cX6_ones 21 = .ok (.ireturn, 1) := by decide +kernel
theorem dX6_eatenWithout_0 : decode cX6_eatenWithout 0 = .ok (.aload_n 0, 1) := by decide +kernel
theorem dX6_eatenWithout_1 : decode cX6_eatenWithout 1 = .ok (.iload_n 1, 1) := by decide +kernel
theorem dX6_eatenWithout_2 : decode cX6_eatenWithout 2 = .ok (.putfield 66, 3) := by decide +kernel
theorem dX6_eatenWithout_5 : decode cX6_eatenWithout 5 = .ok (.aload_n 0, 1) := by decide +kernel
theorem dX6_eatenWithout_6 : decode cX6_eatenWithout 6 = .ok (.iload_n 2, 1) := by decide +kernel
theorem dX6_eatenWithout_7 : decode cX6_eatenWithout 7 = .ok (.invokevirtual 190, 3) := by decide +kernel
theorem dX6_eatenWithout_10 : decode cX6_eatenWithout 10 = .ok (.istore_n 3, 1) := by decide +kernel
theorem dX6_eatenWithout_11 : decode cX6_eatenWithout 11 = .ok (.aload_n 0, 1) := by decide +kernel
theorem dX6_eatenWithout_12 : decode cX6_eatenWithout 12 = .ok (.iconst 0, 1) := by decide +kernel
theorem dX6_eatenWithout_13 : decode cX6_eatenWithout 13 = .ok (.putfield 66, 3) := by decide +kernel
theorem dX6_eatenWithout_16 : decode cX6_eatenWithout 16 = .ok (.iload_n 3, 1) := by decide +kernel
theorem dX6_eatenWithout_17 : decode cX6_eatenWithout 17 = .ok (.ireturn, 1) := by decide +kernel
theorem dX6_keep_0 : decode cX6_keep 0 = .ok (.iload_n 1, 1) := by decide +kernel
theorem dX6_keep_1 : decode cX6_keep 1 = .ok (.i2l, 1) := by decide +kernel
theorem dX6_keep_2 : decode cX6_keep 2 = .ok (.lconst 1, 1) := by decide +kernel
theorem dX6_keep_3 : decode cX6_keep 3 = .ok (.ldc2_w 200, 3) := by decide +kernel
theorem dX6_keep_6 : decode cX6_keep 6 = .ok (.invokestatic 53, 3) := by decide +kernel
theorem dX6_keep_9 : decode cX6_keep 9 = .ok (.ifCond .ne 10, 3) := by decide +kernel
theorem dX6_keep_12 : decode cX6_keep 12 = .ok (.aload_n 0, 1) := by decide +kernel
theorem dX6_keep_13 : decode cX6_keep 13 = .ok (.ldc 50, 2) := by decide +kernel
theorem dX6_keep_15 : decode cX6_keep 15 = .ok (.invokevirtual 101, 3) := by decide +kernel
theorem dX6_keep_18 : decode cX6_keep 18 = .ok (.ireturn, 1) := by decide +kernel
theorem dX6_keep_19 : decode cX6_keep 19 = .ok (.iconst 1, 1) := by decide +kernel
theorem dX6_keep_20 : decode cX6_keep 20 = .ok (.aload_n 0, 1) := by decide +kernel
theorem dX6_keep_21 : decode cX6_keep 21 = .ok (.getfield 7, 3) := by decide +kernel
theorem dX6_keep_24 : decode cX6_keep 24 = .ok (.iconst 1, 1) := by decide +kernel
theorem dX6_keep_25 : decode cX6_keep 25 = .ok (.iaload, 1) := by decide +kernel
theorem dX6_keep_26 : decode cX6_keep 26 = .ok (.ishl, 1) := by decide +kernel
theorem dX6_keep_27 : decode cX6_keep 27 = .ok (.iconst 1, 1) := by decide +kernel
theorem dX6_keep_28 : decode cX6_keep 28 = .ok (.isub, 1) := by decide +kernel
theorem dX6_keep_29 : decode cX6_keep 29 = .ok (.istore_n 2, 1) := by decide +kernel
theorem dX6_keep_30 : decode cX6_keep 30 = .ok (.iload_n 2, 1) := by decide +kernel
theorem dX6_keep_31 : decode cX6_keep 31 = .ok (.istore_n 3, 1) := by decide +kernel
theorem dX6_keep_32 : decode cX6_keep 32 = .ok (.aload_n 0, 1) := by decide +kernel
theorem dX6_keep_33 : decode cX6_keep 33 = .ok (.iload_n 1, 1) := by decide +kernel
theorem dX6_keep_34 : decode cX6_keep 34 = .ok (.invokevirtual 190, 3) := by decide +kernel
theorem dX6_keep_37 : decode cX6_keep 37 = .ok (.istore 4, 2) := by decide +kernel
theorem dX6_keep_39 : decode cX6_keep 39 = .ok (.iconst 0, 1) := by decide +kernel
theorem dX6_keep_40 : decode cX6_keep 40 = .ok (.istore 5, 2) := by decide +kernel
theorem dX6_keep_42 : decode cX6_keep 42 = .ok (.iload 5, 2) := by decide +kernel
theorem dX6_keep_44 : decode cX6_keep 44 = .ok (.iload_n 2, 1) := by decide +kernel
theorem dX6_keep_45 : decode cX6_keep 45 = .ok (.if_icmp .ge 44, 3) := by decide +kernel
theorem dX6_keep_48 : decode cX6_keep 48 = .ok (.iload 5, 2) := by decide +kernel
theorem dX6_keep_50 : decode cX6_keep 50 = .ok (.invokestatic 202, 3) := by decide +kernel
theorem dX6_keep_53 : decode cX6_keep 53 = .ok (.iload_n 3, 1) := by decide +kernel
theorem dX6_keep_54 : decode cX6_keep 54 = .ok (.invokestatic 202, 3) := by decide +kernel
theorem dX6_keep_57 : decode cX6_keep 57 = .ok (.if_icmp .ge 24, 3) := by decide +kernel
theorem dX6_keep_60 : decode cX6_keep 60 = .ok (.aload_n 0, 1) := by decide +kernel
theorem dX6_keep_61 : decode cX6_keep 61 = .ok (.iload_n 2, 1) := by decide +kernel
theorem dX6_keep_62 : decode cX6_keep 62 = .ok (.iload 5, 2) := by decide +kernel
theorem dX6_keep_64 : decode cX6_keep 64 = .ok (.iconst (-1), 1) := by decide +kernel
theorem dX6_keep_65 : decode cX6_keep 65 = .ok (.ixor, 1) := by decide +kernel
theorem dX6_keep_66 : decode cX6_keep 66 = .ok (.iand, 1) := by decide +kernel
theorem dX6_keep_67 : decode cX6_keep 67 = .ok (.iload_n 1, 1) := by decide +kernel
theorem dX6_keep_68 : decode cX6_keep 68 = .ok (.invokevirtual 205, 3) := by decide +kernel
theorem dX6_keep_71 : decode cX6_keep 71 = .ok (.iload 4, 2) := by decide +kernel
theorem dX6_keep_73 : decode cX6_keep 73 = .ok (.if_icmp .gt 8, 3) := by decide +kernel
theorem dX6_keep_76 : decode cX6_keep 76 = .ok (.iload 5, 2) := by decide +kernel
theorem dX6_keep_78 : decode cX6_keep 78 = .ok (.goto 4, 3) := by decide +kernel
theorem dX6_keep_81 : decode cX6_keep 81 = .ok (.iload_n 3, 1) := by decide +kernel
theorem dX6_keep_82 : decode cX6_keep 82 = .ok (.istore_n 3, 1) := by decide +kernel
theorem dX6_keep_83 : decode cX6_keep 83 = .ok (.iinc 5 1, 3) := by decide +kernel
theorem dX6_keep_86 : decode cX6_keep 86 = .ok (.goto (-44), 3) := by decide +kernel
theorem dX6_keep_89 : decode cX6_keep 89 = .ok (.iload_n 3, 1) := by decide +kernel
theorem dX6_keep_90 : decode cX6_keep 90 = .ok (.ireturn, 1) := by decide +kernel
theorem dX6_worth_0 : decode cX6_worth 0 = .ok (.iload_n 1, 1) := by decide +kernel
theorem dX6_worth_1 : decode cX6_worth 1 = .ok (.invokestatic 193, 3) := by decide +kernel
theorem dX6_worth_4 : decode cX6_worth 4 = .ok (.ifCond .ne 10, 3) := by decide +kernel
theorem dX6_worth_7 : decode cX6_worth 7 = .ok (.aload_n 0, 1) := by decide +kernel
theorem dX6_worth_8 : decode cX6_worth 8 = .ok (.ldc 50, 2) := by decide +kernel
theorem dX6_worth_10 : decode cX6_worth 10 = .ok (.invokevirtual 101, 3) := by decide +kernel
theorem dX6_worth_13 : decode cX6_worth 13 = .ok (.ireturn, 1) := by decide +kernel
theorem dX6_worth_14 : decode cX6_worth 14 = .ok (.iconst (-1), 1) := by decide +kernel
theorem dX6_worth_15 : decode cX6_worth 15 = .ok (.istore_n 2, 1) := by decide +kernel
theorem dX6_worth_16 : decode cX6_worth 16 = .ok (.aload_n 0, 1) := by decide +kernel
theorem dX6_worth_17 : decode cX6_worth 17 = .ok (.iload_n 1, 1) := by decide +kernel
theorem dX6_worth_18 : decode cX6_worth 18 = .ok (.invokevirtual 190, 3) := by decide +kernel
theorem dX6_worth_21 : decode cX6_worth 21 = .ok (.istore_n 3, 1) := by decide +kernel
theorem dX6_worth_22 : decode cX6_worth 22 = .ok (.iconst 0, 1) := by decide +kernel
theorem dX6_worth_23 : decode cX6_worth 23 = .ok (.istore 4, 2) := by decide +kernel
theorem dX6_worth_25 : decode cX6_worth 25 = .ok (.iload 4, 2) := by decide +kernel
theorem dX6_worth_27 : decode cX6_worth 27 = .ok (.aload_n 0, 1) := by decide +kernel
theorem dX6_worth_28 : decode cX6_worth 28 = .ok (.getfield 7, 3) := by decide +kernel
theorem dX6_worth_31 : decode cX6_worth 31 = .ok (.iconst 0, 1) := by decide +kernel
theorem dX6_worth_32 : decode cX6_worth 32 = .ok (.iaload, 1) := by decide +kernel
theorem dX6_worth_33 : decode cX6_worth 33 = .ok (.if_icmp .ge 92, 3) := by decide +kernel
theorem dX6_worth_36 : decode cX6_worth 36 = .ok (.iconst 0, 1) := by decide +kernel
theorem dX6_worth_37 : decode cX6_worth 37 = .ok (.istore 5, 2) := by decide +kernel
theorem dX6_worth_39 : decode cX6_worth 39 = .ok (.iconst 0, 1) := by decide +kernel
theorem dX6_worth_40 : decode cX6_worth 40 = .ok (.istore 6, 2) := by decide +kernel
theorem dX6_worth_42 : decode cX6_worth 42 = .ok (.iload 6, 2) := by decide +kernel
theorem dX6_worth_44 : decode cX6_worth 44 = .ok (.aload_n 0, 1) := by decide +kernel
theorem dX6_worth_45 : decode cX6_worth 45 = .ok (.getfield 7, 3) := by decide +kernel
theorem dX6_worth_48 : decode cX6_worth 48 = .ok (.iconst 1, 1) := by decide +kernel
theorem dX6_worth_49 : decode cX6_worth 49 = .ok (.iaload, 1) := by decide +kernel
theorem dX6_worth_50 : decode cX6_worth 50 = .ok (.if_icmp .ge 34, 3) := by decide +kernel
theorem dX6_worth_53 : decode cX6_worth 53 = .ok (.iload 5, 2) := by decide +kernel
theorem dX6_worth_55 : decode cX6_worth 55 = .ok (.aload_n 0, 1) := by decide +kernel
theorem dX6_worth_56 : decode cX6_worth 56 = .ok (.iload 6, 2) := by decide +kernel
theorem dX6_worth_58 : decode cX6_worth 58 = .ok (.iconst 1, 1) := by decide +kernel
theorem dX6_worth_59 : decode cX6_worth 59 = .ok (.invokevirtual 70, 3) := by decide +kernel
theorem dX6_worth_62 : decode cX6_worth 62 = .ok (.iload 4, 2) := by decide +kernel
theorem dX6_worth_64 : decode cX6_worth 64 = .ok (.if_icmp .ne 10, 3) := by decide +kernel
theorem dX6_worth_67 : decode cX6_worth 67 = .ok (.iconst 1, 1) := by decide +kernel
theorem dX6_worth_68 : decode cX6_worth 68 = .ok (.iload 6, 2) := by decide +kernel
theorem dX6_worth_70 : decode cX6_worth 70 = .ok (.ishl, 1) := by decide +kernel
theorem dX6_worth_71 : decode cX6_worth 71 = .ok (.goto 4, 3) := by decide +kernel
theorem dX6_worth_74 : decode cX6_worth 74 = .ok (.iconst 0, 1) := by decide +kernel
theorem dX6_worth_75 : decode cX6_worth 75 = .ok (.ior, 1) := by decide +kernel
theorem dX6_worth_76 : decode cX6_worth 76 = .ok (.istore 5, 2) := by decide +kernel
theorem dX6_worth_78 : decode cX6_worth 78 = .ok (.iinc 6 1, 3) := by decide +kernel
theorem dX6_worth_81 : decode cX6_worth 81 = .ok (.goto (-39), 3) := by decide +kernel
theorem dX6_worth_84 : decode cX6_worth 84 = .ok (.aload_n 0, 1) := by decide +kernel
theorem dX6_worth_85 : decode cX6_worth 85 = .ok (.iload 5, 2) := by decide +kernel
theorem dX6_worth_87 : decode cX6_worth 87 = .ok (.iload_n 1, 1) := by decide +kernel
theorem dX6_worth_88 : decode cX6_worth 88 = .ok (.invokevirtual 205, 3) := by decide +kernel
theorem dX6_worth_91 : decode cX6_worth 91 = .ok (.istore 6, 2) := by decide +kernel
theorem dX6_worth_93 : decode cX6_worth 93 = .ok (.iload 6, 2) := by decide +kernel
theorem dX6_worth_95 : decode cX6_worth 95 = .ok (.iload_n 3, 1) := by decide +kernel
theorem dX6_worth_96 : decode cX6_worth 96 = .ok (.if_icmp .le 8, 3) := by decide +kernel
theorem dX6_worth_99 : decode cX6_worth 99 = .ok (.iload 4, 2) := by decide +kernel
theorem dX6_worth_101 : decode cX6_worth 101 = .ok (.goto 4, 3) := by decide +kernel
theorem dX6_worth_104 : decode cX6_worth 104 = .ok (.iload_n 2, 1) := by decide +kernel
theorem dX6_worth_105 : decode cX6_worth 105 = .ok (.istore_n 2, 1) := by decide +kernel
theorem dX6_worth_106 : decode cX6_worth 106 = .ok (.iload 6, 2) := by decide +kernel
theorem dX6_worth_108 : decode cX6_worth 108 = .ok (.iload_n 3, 1) := by decide +kernel
theorem dX6_worth_109 : decode cX6_worth 109 = .ok (.if_icmp .le 8, 3) := by decide +kernel
theorem dX6_worth_112 : decode cX6_worth 112 = .ok (.iload 6, 2) := by decide +kernel
theorem dX6_worth_114 : decode cX6_worth 114 = .ok (.goto 4, 3) := by decide +kernel
theorem dX6_worth_117 : decode cX6_worth 117 = .ok (.iload_n 3, 1) := by decide +kernel
theorem dX6_worth_118 : decode cX6_worth 118 = .ok (.istore_n 3, 1) := by decide +kernel
theorem dX6_worth_119 : decode cX6_worth 119 = .ok (.iinc 4 1, 3) := by decide +kernel
theorem dX6_worth_122 : decode cX6_worth 122 = .ok (.goto (-97), 3) := by decide +kernel
theorem dX6_worth_125 : decode cX6_worth 125 = .ok (.iload_n 2, 1) := by decide +kernel
theorem dX6_worth_126 : decode cX6_worth 126 = .ok (.ifCond .ge 12, 3) := by decide +kernel
theorem dX6_worth_129 : decode cX6_worth 129 = .ok (.aload_n 0, 1) := by decide +kernel
theorem dX6_worth_130 : decode cX6_worth 130 = .ok (.ldc 162, 2) := by decide +kernel
theorem dX6_worth_132 : decode cX6_worth 132 = .ok (.invokevirtual 101, 3) := by decide +kernel
theorem dX6_worth_135 : decode cX6_worth 135 = .ok (.goto 4, 3) := by decide +kernel
theorem dX6_worth_138 : decode cX6_worth 138 = .ok (.iload_n 2, 1) := by decide +kernel
theorem dX6_worth_139 : decode cX6_worth 139 = .ok (.ireturn, 1) := by decide +kernel
theorem dX6_apart_0 : decode cX6_apart 0 = .ok (.aload_n 0, 1) := by decide +kernel
theorem dX6_apart_1 : decode cX6_apart 1 = .ok (.iload_n 1, 1) := by decide +kernel
theorem dX6_apart_2 : decode cX6_apart 2 = .ok (.invokevirtual 143, 3) := by decide +kernel
theorem dX6_apart_5 : decode cX6_apart 5 = .ok (.ifCond .ne 10, 3) := by decide +kernel
theorem dX6_apart_8 : decode cX6_apart 8 = .ok (.aload_n 0, 1) := by decide +kernel
theorem dX6_apart_9 : decode cX6_apart 9 = .ok (.ldc 50, 2) := by decide +kernel
theorem dX6_apart_11 : decode cX6_apart 11 = .ok (.invokevirtual 101, 3) := by decide +kernel
theorem dX6_apart_14 : decode cX6_apart 14 = .ok (.ireturn, 1) := by decide +kernel
theorem dX6_apart_15 : decode cX6_apart 15 = .ok (.iload_n 1, 1) := by decide +kernel
theorem dX6_apart_16 : decode cX6_apart 16 = .ok (.iconst 0, 1) := by decide +kernel
theorem dX6_apart_17 : decode cX6_apart 17 = .ok (.invokestatic 63, 3) := by decide +kernel
theorem dX6_apart_20 : decode cX6_apart 20 = .ok (.istore_n 2, 1) := by decide +kernel
theorem dX6_apart_21 : decode cX6_apart 21 = .ok (.aload_n 0, 1) := by decide +kernel
theorem dX6_apart_22 : decode cX6_apart 22 = .ok (.getfield 7, 3) := by decide +kernel
theorem dX6_apart_25 : decode cX6_apart 25 = .ok (.iload_n 2, 1) := by decide +kernel
theorem dX6_apart_26 : decode cX6_apart 26 = .ok (.iaload, 1) := by decide +kernel
theorem dX6_apart_27 : decode cX6_apart 27 = .ok (.istore_n 3, 1) := by decide +kernel
theorem dX6_apart_28 : decode cX6_apart 28 = .ok (.iconst (-1), 1) := by decide +kernel
theorem dX6_apart_29 : decode cX6_apart 29 = .ok (.istore 4, 2) := by decide +kernel
theorem dX6_apart_31 : decode cX6_apart 31 = .ok (.iconst 0, 1) := by decide +kernel
theorem dX6_apart_32 : decode cX6_apart 32 = .ok (.istore 5, 2) := by decide +kernel
theorem dX6_apart_34 : decode cX6_apart 34 = .ok (.iconst 0, 1) := by decide +kernel
theorem dX6_apart_35 : decode cX6_apart 35 = .ok (.istore 6, 2) := by decide +kernel
theorem dX6_apart_37 : decode cX6_apart 37 = .ok (.iload 6, 2) := by decide +kernel
theorem dX6_apart_39 : decode cX6_apart 39 = .ok (.bipush 48, 2) := by decide +kernel
theorem dX6_apart_41 : decode cX6_apart 41 = .ok (.if_icmp .ge 76, 3) := by decide +kernel
theorem dX6_apart_44 : decode cX6_apart 44 = .ok (.aload_n 0, 1) := by decide +kernel
theorem dX6_apart_45 : decode cX6_apart 45 = .ok (.getfield 7, 3) := by decide +kernel
theorem dX6_apart_48 : decode cX6_apart 48 = .ok (.iload_n 2, 1) := by decide +kernel
theorem dX6_apart_49 : decode cX6_apart 49 = .ok (.iload 6, 2) := by decide +kernel
theorem dX6_apart_51 : decode cX6_apart 51 = .ok (.iastore, 1) := by decide +kernel
theorem dX6_apart_52 : decode cX6_apart 52 = .ok (.bipush 100, 2) := by decide +kernel
theorem dX6_apart_54 : decode cX6_apart 54 = .ok (.aload_n 0, 1) := by decide +kernel
theorem dX6_apart_55 : decode cX6_apart 55 = .ok (.aload_n 0, 1) := by decide +kernel
theorem dX6_apart_56 : decode cX6_apart 56 = .ok (.iload_n 1, 1) := by decide +kernel
theorem dX6_apart_57 : decode cX6_apart 57 = .ok (.iconst 1, 1) := by decide +kernel
theorem dX6_apart_58 : decode cX6_apart 58 = .ok (.invokevirtual 70, 3) := by decide +kernel
theorem dX6_apart_61 : decode cX6_apart 61 = .ok (.invokevirtual 131, 3) := by decide +kernel
theorem dX6_apart_64 : decode cX6_apart 64 = .ok (.imul, 1) := by decide +kernel
theorem dX6_apart_65 : decode cX6_apart 65 = .ok (.iload 6, 2) := by decide +kernel
theorem dX6_apart_67 : decode cX6_apart 67 = .ok (.iload_n 3, 1) := by decide +kernel
theorem dX6_apart_68 : decode cX6_apart 68 = .ok (.invokestatic 87, 3) := by decide +kernel
theorem dX6_apart_71 : decode cX6_apart 71 = .ok (.iadd, 1) := by decide +kernel
theorem dX6_apart_72 : decode cX6_apart 72 = .ok (.istore 7, 2) := by decide +kernel
theorem dX6_apart_74 : decode cX6_apart 74 = .ok (.iload 4, 2) := by decide +kernel
theorem dX6_apart_76 : decode cX6_apart 76 = .ok (.ifCond .lt 10, 3) := by decide +kernel
theorem dX6_apart_79 : decode cX6_apart 79 = .ok (.iload 7, 2) := by decide +kernel
theorem dX6_apart_81 : decode cX6_apart 81 = .ok (.iload 5, 2) := by decide +kernel
theorem dX6_apart_83 : decode cX6_apart 83 = .ok (.if_icmp .ge 8, 3) := by decide +kernel
theorem dX6_apart_86 : decode cX6_apart 86 = .ok (.iload 6, 2) := by decide +kernel
theorem dX6_apart_88 : decode cX6_apart 88 = .ok (.goto 5, 3) := by decide +kernel
theorem dX6_apart_91 : decode cX6_apart 91 = .ok (.iload 4, 2) := by decide +kernel
theorem dX6_apart_93 : decode cX6_apart 93 = .ok (.istore 4, 2) := by decide +kernel
theorem dX6_apart_95 : decode cX6_apart 95 = .ok (.iload 4, 2) := by decide +kernel
theorem dX6_apart_97 : decode cX6_apart 97 = .ok (.iload 6, 2) := by decide +kernel
theorem dX6_apart_99 : decode cX6_apart 99 = .ok (.if_icmp .ne 8, 3) := by decide +kernel
theorem dX6_apart_102 : decode cX6_apart 102 = .ok (.iload 7, 2) := by decide +kernel
theorem dX6_apart_104 : decode cX6_apart 104 = .ok (.goto 5, 3) := by decide +kernel
theorem dX6_apart_107 : decode cX6_apart 107 = .ok (.iload 5, 2) := by decide +kernel
theorem dX6_apart_109 : decode cX6_apart 109 = .ok (.istore 5, 2) := by decide +kernel
theorem dX6_apart_111 : decode cX6_apart 111 = .ok (.iinc 6 1, 3) := by decide +kernel
theorem dX6_apart_114 : decode cX6_apart 114 = .ok (.goto (-77), 3) := by decide +kernel
theorem dX6_apart_117 : decode cX6_apart 117 = .ok (.aload_n 0, 1) := by decide +kernel
theorem dX6_apart_118 : decode cX6_apart 118 = .ok (.getfield 7, 3) := by decide +kernel
theorem dX6_apart_121 : decode cX6_apart 121 = .ok (.iload_n 2, 1) := by decide +kernel
theorem dX6_apart_122 : decode cX6_apart 122 = .ok (.iload_n 3, 1) := by decide +kernel
theorem dX6_apart_123 : decode cX6_apart 123 = .ok (.iastore, 1) := by decide +kernel
theorem dX6_apart_124 : decode cX6_apart 124 = .ok (.iload 4, 2) := by decide +kernel
theorem dX6_apart_126 : decode cX6_apart 126 = .ok (.ireturn, 1) := by decide +kernel
theorem dX6_swapped_0 : decode cX6_swapped 0 = .ok (.aload_n 0, 1) := by decide +kernel
theorem dX6_swapped_1 : decode cX6_swapped 1 = .ok (.iload_n 1, 1) := by decide +kernel
theorem dX6_swapped_2 : decode cX6_swapped 2 = .ok (.iconst 0, 1) := by decide +kernel
theorem dX6_swapped_3 : decode cX6_swapped 3 = .ok (.invokevirtual 70, 3) := by decide +kernel
theorem dX6_swapped_6 : decode cX6_swapped 6 = .ok (.istore 4, 2) := by decide +kernel
theorem dX6_swapped_8 : decode cX6_swapped 8 = .ok (.aload_n 0, 1) := by decide +kernel
theorem dX6_swapped_9 : decode cX6_swapped 9 = .ok (.iload_n 2, 1) := by decide +kernel
theorem dX6_swapped_10 : decode cX6_swapped 10 = .ok (.iconst 0, 1) := by decide +kernel
theorem dX6_swapped_11 : decode cX6_swapped 11 = .ok (.invokevirtual 70, 3) := by decide +kernel
theorem dX6_swapped_14 : decode cX6_swapped 14 = .ok (.istore 5, 2) := by decide +kernel
theorem dX6_swapped_16 : decode cX6_swapped 16 = .ok (.aload_n 0, 1) := by decide +kernel
theorem dX6_swapped_17 : decode cX6_swapped 17 = .ok (.getfield 7, 3) := by decide +kernel
theorem dX6_swapped_20 : decode cX6_swapped 20 = .ok (.iload_n 1, 1) := by decide +kernel
theorem dX6_swapped_21 : decode cX6_swapped 21 = .ok (.iconst 0, 1) := by decide +kernel
theorem dX6_swapped_22 : decode cX6_swapped 22 = .ok (.invokestatic 63, 3) := by decide +kernel
theorem dX6_swapped_25 : decode cX6_swapped 25 = .ok (.iload 5, 2) := by decide +kernel
theorem dX6_swapped_27 : decode cX6_swapped 27 = .ok (.iastore, 1) := by decide +kernel
theorem dX6_swapped_28 : decode cX6_swapped 28 = .ok (.aload_n 0, 1) := by decide +kernel
theorem dX6_swapped_29 : decode cX6_swapped 29 = .ok (.getfield 7, 3) := by decide +kernel
theorem dX6_swapped_32 : decode cX6_swapped 32 = .ok (.iload_n 2, 1) := by decide +kernel
theorem dX6_swapped_33 : decode cX6_swapped 33 = .ok (.iconst 0, 1) := by decide +kernel
theorem dX6_swapped_34 : decode cX6_swapped 34 = .ok (.invokestatic 63, 3) := by decide +kernel
theorem dX6_swapped_37 : decode cX6_swapped 37 = .ok (.iload 4, 2) := by decide +kernel
theorem dX6_swapped_39 : decode cX6_swapped 39 = .ok (.iastore, 1) := by decide +kernel
theorem dX6_swapped_40 : decode cX6_swapped 40 = .ok (.aload_n 0, 1) := by decide +kernel
theorem dX6_swapped_41 : decode cX6_swapped 41 = .ok (.iload_n 3, 1) := by decide +kernel
theorem dX6_swapped_42 : decode cX6_swapped 42 = .ok (.invokevirtual 190, 3) := by decide +kernel
theorem dX6_swapped_45 : decode cX6_swapped 45 = .ok (.istore 6, 2) := by decide +kernel
theorem dX6_swapped_47 : decode cX6_swapped 47 = .ok (.aload_n 0, 1) := by decide +kernel
theorem dX6_swapped_48 : decode cX6_swapped 48 = .ok (.getfield 7, 3) := by decide +kernel
theorem dX6_swapped_51 : decode cX6_swapped 51 = .ok (.iload_n 1, 1) := by decide +kernel
theorem dX6_swapped_52 : decode cX6_swapped 52 = .ok (.iconst 0, 1) := by decide +kernel
theorem dX6_swapped_53 : decode cX6_swapped 53 = .ok (.invokestatic 63, 3) := by decide +kernel
theorem dX6_swapped_56 : decode cX6_swapped 56 = .ok (.iload 4, 2) := by decide +kernel
theorem dX6_swapped_58 : decode cX6_swapped 58 = .ok (.iastore, 1) := by decide +kernel
theorem dX6_swapped_59 : decode cX6_swapped 59 = .ok (.aload_n 0, 1) := by decide +kernel
theorem dX6_swapped_60 : decode cX6_swapped 60 = .ok (.getfield 7, 3) := by decide +kernel
theorem dX6_swapped_63 : decode cX6_swapped 63 = .ok (.iload_n 2, 1) := by decide +kernel
theorem dX6_swapped_64 : decode cX6_swapped 64 = .ok (.iconst 0, 1) := by decide +kernel
theorem dX6_swapped_65 : decode cX6_swapped 65 = .ok (.invokestatic 63, 3) := by decide +kernel
theorem dX6_swapped_68 : decode cX6_swapped 68 = .ok (.iload 5, 2) := by decide +kernel
theorem dX6_swapped_70 : decode cX6_swapped 70 = .ok (.iastore, 1) := by decide +kernel
theorem dX6_swapped_71 : decode cX6_swapped 71 = .ok (.iload 6, 2) := by decide +kernel
theorem dX6_swapped_73 : decode cX6_swapped 73 = .ok (.ireturn, 1) := by decide +kernel
theorem dX6_swap_0 : decode cX6_swap 0 = .ok (.iload_n 1, 1) := by decide +kernel
theorem dX6_swap_1 : decode cX6_swap 1 = .ok (.invokestatic 193, 3) := by decide +kernel
theorem dX6_swap_4 : decode cX6_swap 4 = .ok (.ifCond .ne 10, 3) := by decide +kernel
theorem dX6_swap_7 : decode cX6_swap 7 = .ok (.aload_n 0, 1) := by decide +kernel
theorem dX6_swap_8 : decode cX6_swap 8 = .ok (.ldc 50, 2) := by decide +kernel
theorem dX6_swap_10 : decode cX6_swap 10 = .ok (.invokevirtual 101, 3) := by decide +kernel
theorem dX6_swap_13 : decode cX6_swap 13 = .ok (.ireturn, 1) := by decide +kernel
theorem dX6_swap_14 : decode cX6_swap 14 = .ok (.iconst (-1), 1) := by decide +kernel
theorem dX6_swap_15 : decode cX6_swap 15 = .ok (.istore_n 2, 1) := by decide +kernel
theorem dX6_swap_16 : decode cX6_swap 16 = .ok (.aload_n 0, 1) := by decide +kernel
theorem dX6_swap_17 : decode cX6_swap 17 = .ok (.iload_n 1, 1) := by decide +kernel
theorem dX6_swap_18 : decode cX6_swap 18 = .ok (.invokevirtual 190, 3) := by decide +kernel
theorem dX6_swap_21 : decode cX6_swap 21 = .ok (.istore_n 3, 1) := by decide +kernel
theorem dX6_swap_22 : decode cX6_swap 22 = .ok (.iconst 0, 1) := by decide +kernel
theorem dX6_swap_23 : decode cX6_swap 23 = .ok (.istore 4, 2) := by decide +kernel
theorem dX6_swap_25 : decode cX6_swap 25 = .ok (.iload 4, 2) := by decide +kernel
theorem dX6_swap_27 : decode cX6_swap 27 = .ok (.aload_n 0, 1) := by decide +kernel
theorem dX6_swap_28 : decode cX6_swap 28 = .ok (.getfield 7, 3) := by decide +kernel
theorem dX6_swap_31 : decode cX6_swap 31 = .ok (.iconst 1, 1) := by decide +kernel
theorem dX6_swap_32 : decode cX6_swap 32 = .ok (.iaload, 1) := by decide +kernel
theorem dX6_swap_33 : decode cX6_swap 33 = .ok (.if_icmp .ge 75, 3) := by decide +kernel
theorem dX6_swap_36 : decode cX6_swap 36 = .ok (.iload 4, 2) := by decide +kernel
theorem dX6_swap_38 : decode cX6_swap 38 = .ok (.iconst 1, 1) := by decide +kernel
theorem dX6_swap_39 : decode cX6_swap 39 = .ok (.iadd, 1) := by decide +kernel
theorem dX6_swap_40 : decode cX6_swap 40 = .ok (.istore 5, 2) := by decide +kernel
theorem dX6_swap_42 : decode cX6_swap 42 = .ok (.iload 5, 2) := by decide +kernel
theorem dX6_swap_44 : decode cX6_swap 44 = .ok (.aload_n 0, 1) := by decide +kernel
theorem dX6_swap_45 : decode cX6_swap 45 = .ok (.getfield 7, 3) := by decide +kernel
theorem dX6_swap_48 : decode cX6_swap 48 = .ok (.iconst 1, 1) := by decide +kernel
theorem dX6_swap_49 : decode cX6_swap 49 = .ok (.iaload, 1) := by decide +kernel
theorem dX6_swap_50 : decode cX6_swap 50 = .ok (.if_icmp .ge 52, 3) := by decide +kernel
theorem dX6_swap_53 : decode cX6_swap 53 = .ok (.aload_n 0, 1) := by decide +kernel
theorem dX6_swap_54 : decode cX6_swap 54 = .ok (.iload 4, 2) := by decide +kernel
theorem dX6_swap_56 : decode cX6_swap 56 = .ok (.iload 5, 2) := by decide +kernel
theorem dX6_swap_58 : decode cX6_swap 58 = .ok (.iload_n 1, 1) := by decide +kernel
theorem dX6_swap_59 : decode cX6_swap 59 = .ok (.invokevirtual 208, 3) := by decide +kernel
theorem dX6_swap_62 : decode cX6_swap 62 = .ok (.istore 6, 2) := by decide +kernel
theorem dX6_swap_64 : decode cX6_swap 64 = .ok (.iload 6, 2) := by decide +kernel
theorem dX6_swap_66 : decode cX6_swap 66 = .ok (.iload_n 3, 1) := by decide +kernel
theorem dX6_swap_67 : decode cX6_swap 67 = .ok (.if_icmp .ge 14, 3) := by decide +kernel
theorem dX6_swap_70 : decode cX6_swap 70 = .ok (.bipush 10, 2) := by decide +kernel
theorem dX6_swap_72 : decode cX6_swap 72 = .ok (.iload 4, 2) := by decide +kernel
theorem dX6_swap_74 : decode cX6_swap 74 = .ok (.imul, 1) := by decide +kernel
theorem dX6_swap_75 : decode cX6_swap 75 = .ok (.iload 5, 2) := by decide +kernel
theorem dX6_swap_77 : decode cX6_swap 77 = .ok (.iadd, 1) := by decide +kernel
theorem dX6_swap_78 : decode cX6_swap 78 = .ok (.goto 4, 3) := by decide +kernel
theorem dX6_swap_81 : decode cX6_swap 81 = .ok (.iload_n 2, 1) := by decide +kernel
theorem dX6_swap_82 : decode cX6_swap 82 = .ok (.istore_n 2, 1) := by decide +kernel
theorem dX6_swap_83 : decode cX6_swap 83 = .ok (.iload 6, 2) := by decide +kernel
theorem dX6_swap_85 : decode cX6_swap 85 = .ok (.iload_n 3, 1) := by decide +kernel
theorem dX6_swap_86 : decode cX6_swap 86 = .ok (.if_icmp .ge 8, 3) := by decide +kernel
theorem dX6_swap_89 : decode cX6_swap 89 = .ok (.iload 6, 2) := by decide +kernel
theorem dX6_swap_91 : decode cX6_swap 91 = .ok (.goto 4, 3) := by decide +kernel
theorem dX6_swap_94 : decode cX6_swap 94 = .ok (.iload_n 3, 1) := by decide +kernel
theorem dX6_swap_95 : decode cX6_swap 95 = .ok (.istore_n 3, 1) := by decide +kernel
theorem dX6_swap_96 : decode cX6_swap 96 = .ok (.iinc 5 1, 3) := by decide +kernel
theorem dX6_swap_99 : decode cX6_swap 99 = .ok (.goto (-57), 3) := by decide +kernel
theorem dX6_swap_102 : decode cX6_swap 102 = .ok (.iinc 4 1, 3) := by decide +kernel
theorem dX6_swap_105 : decode cX6_swap 105 = .ok (.goto (-80), 3) := by decide +kernel
theorem dX6_swap_108 : decode cX6_swap 108 = .ok (.iload_n 2, 1) := by decide +kernel
theorem dX6_swap_109 : decode cX6_swap 109 = .ok (.ifCond .ge 12, 3) := by decide +kernel
theorem dX6_swap_112 : decode cX6_swap 112 = .ok (.aload_n 0, 1) := by decide +kernel
theorem dX6_swap_113 : decode cX6_swap 113 = .ok (.ldc 162, 2) := by decide +kernel
theorem dX6_swap_115 : decode cX6_swap 115 = .ok (.invokevirtual 101, 3) := by decide +kernel
theorem dX6_swap_118 : decode cX6_swap 118 = .ok (.goto 4, 3) := by decide +kernel
theorem dX6_swap_121 : decode cX6_swap 121 = .ok (.iload_n 2, 1) := by decide +kernel
theorem dX6_swap_122 : decode cX6_swap 122 = .ok (.ireturn, 1) := by decide +kernel
theorem dX6_feed_0 : decode cX6_feed 0 = .ok (.iload_n 2, 1) := by decide +kernel
theorem dX6_feed_1 : decode cX6_feed 1 = .ok (.i2l, 1) := by decide +kernel
theorem dX6_feed_2 : decode cX6_feed 2 = .ok (.lconst 1, 1) := by decide +kernel
theorem dX6_feed_3 : decode cX6_feed 3 = .ok (.ldc2_w 146, 3) := by decide +kernel
theorem dX6_feed_6 : decode cX6_feed 6 = .ok (.invokestatic 53, 3) := by decide +kernel
theorem dX6_feed_9 : decode cX6_feed 9 = .ok (.ifCond .ne 10, 3) := by decide +kernel
theorem dX6_feed_12 : decode cX6_feed 12 = .ok (.aload_n 0, 1) := by decide +kernel
theorem dX6_feed_13 : decode cX6_feed 13 = .ok (.ldc 50, 2) := by decide +kernel
theorem dX6_feed_15 : decode cX6_feed 15 = .ok (.invokevirtual 101, 3) := by decide +kernel
theorem dX6_feed_18 : decode cX6_feed 18 = .ok (.ireturn, 1) := by decide +kernel
theorem dX6_feed_19 : decode cX6_feed 19 = .ok (.aload_n 0, 1) := by decide +kernel
theorem dX6_feed_20 : decode cX6_feed 20 = .ok (.getfield 211, 3) := by decide +kernel
theorem dX6_feed_23 : decode cX6_feed 23 = .ok (.iload_n 2, 1) := by decide +kernel
theorem dX6_feed_24 : decode cX6_feed 24 = .ok (.iadd, 1) := by decide +kernel
theorem dX6_feed_25 : decode cX6_feed 25 = .ok (.bipush 120, 2) := by decide +kernel
theorem dX6_feed_27 : decode cX6_feed 27 = .ok (.if_icmp .le 10, 3) := by decide +kernel
theorem dX6_feed_30 : decode cX6_feed 30 = .ok (.aload_n 0, 1) := by decide +kernel
theorem dX6_feed_31 : decode cX6_feed 31 = .ok (.ldc 117, 2) := by decide +kernel
theorem dX6_feed_33 : decode cX6_feed 33 = .ok (.invokevirtual 101, 3) := by decide +kernel
theorem dX6_feed_36 : decode cX6_feed 36 = .ok (.ireturn, 1) := by decide +kernel
theorem dX6_feed_37 : decode cX6_feed 37 = .ok (.iload_n 2, 1) := by decide +kernel
theorem dX6_feed_38 : decode cX6_feed 38 = .ok (.iconst 1, 1) := by decide +kernel
theorem dX6_feed_39 : decode cX6_feed 39 = .ok (.isub, 1) := by decide +kernel
theorem dX6_feed_40 : decode cX6_feed 40 = .ok (.istore_n 3, 1) := by decide +kernel
theorem dX6_feed_41 : decode cX6_feed 41 = .ok (.iload_n 3, 1) := by decide +kernel
theorem dX6_feed_42 : decode cX6_feed 42 = .ok (.ifCond .lt 38, 3) := by decide +kernel
theorem dX6_feed_45 : decode cX6_feed 45 = .ok (.aload_n 0, 1) := by decide +kernel
theorem dX6_feed_46 : decode cX6_feed 46 = .ok (.getfield 34, 3) := by decide +kernel
theorem dX6_feed_49 : decode cX6_feed 49 = .ok (.aload_n 0, 1) := by decide +kernel
theorem dX6_feed_50 : decode cX6_feed 50 = .ok (.getfield 211, 3) := by decide +kernel
theorem dX6_feed_53 : decode cX6_feed 53 = .ok (.iload_n 1, 1) := by decide +kernel
theorem dX6_feed_54 : decode cX6_feed 54 = .ok (.bipush 8, 2) := by decide +kernel
theorem dX6_feed_56 : decode cX6_feed 56 = .ok (.iload_n 3, 1) := by decide +kernel
theorem dX6_feed_57 : decode cX6_feed 57 = .ok (.imul, 1) := by decide +kernel
theorem dX6_feed_58 : decode cX6_feed 58 = .ok (.ishr, 1) := by decide +kernel
theorem dX6_feed_59 : decode cX6_feed 59 = .ok (.sipush 255, 3) := by decide +kernel
theorem dX6_feed_62 : decode cX6_feed 62 = .ok (.iand, 1) := by decide +kernel
theorem dX6_feed_63 : decode cX6_feed 63 = .ok (.iastore, 1) := by decide +kernel
theorem dX6_feed_64 : decode cX6_feed 64 = .ok (.aload_n 0, 1) := by decide +kernel
theorem dX6_feed_65 : decode cX6_feed 65 = .ok (.dup, 1) := by decide +kernel
theorem dX6_feed_66 : decode cX6_feed 66 = .ok (.getfield 211, 3) := by decide +kernel
theorem dX6_feed_69 : decode cX6_feed 69 = .ok (.iconst 1, 1) := by decide +kernel
theorem dX6_feed_70 : decode cX6_feed 70 = .ok (.iadd, 1) := by decide +kernel
theorem dX6_feed_71 : decode cX6_feed 71 = .ok (.putfield 211, 3) := by decide +kernel
theorem dX6_feed_74 : decode cX6_feed 74 = .ok (.iinc 3 (-1), 3) := by decide +kernel
theorem dX6_feed_77 : decode cX6_feed 77 = .ok (.goto (-36), 3) := by decide +kernel
theorem dX6_feed_80 : decode cX6_feed 80 = .ok (.aload_n 0, 1) := by decide +kernel
theorem dX6_feed_81 : decode cX6_feed 81 = .ok (.getfield 211, 3) := by decide +kernel
theorem dX6_feed_84 : decode cX6_feed 84 = .ok (.ireturn, 1) := by decide +kernel
theorem dX6_wipe_0 : decode cX6_wipe 0 = .ok (.aload_n 0, 1) := by decide +kernel
theorem dX6_wipe_1 : decode cX6_wipe 1 = .ok (.getfield 211, 3) := by decide +kernel
theorem dX6_wipe_4 : decode cX6_wipe 4 = .ok (.istore_n 1, 1) := by decide +kernel
theorem dX6_wipe_5 : decode cX6_wipe 5 = .ok (.aload_n 0, 1) := by decide +kernel
theorem dX6_wipe_6 : decode cX6_wipe 6 = .ok (.iconst 0, 1) := by decide +kernel
theorem dX6_wipe_7 : decode cX6_wipe 7 = .ok (.putfield 211, 3) := by decide +kernel
theorem dX6_wipe_10 : decode cX6_wipe 10 = .ok (.iload_n 1, 1) := by decide +kernel
theorem dX6_wipe_11 : decode cX6_wipe 11 = .ok (.ireturn, 1) := by decide +kernel
theorem dX6_byteAt_0 : decode cX6_byteAt 0 = .ok (.iload_n 1, 1) := by decide +kernel
theorem dX6_byteAt_1 : decode cX6_byteAt 1 = .ok (.aload_n 0, 1) := by decide +kernel
theorem dX6_byteAt_2 : decode cX6_byteAt 2 = .ok (.getfield 211, 3) := by decide +kernel
theorem dX6_byteAt_5 : decode cX6_byteAt 5 = .ok (.if_icmp .ge 12, 3) := by decide +kernel
theorem dX6_byteAt_8 : decode cX6_byteAt 8 = .ok (.aload_n 0, 1) := by decide +kernel
theorem dX6_byteAt_9 : decode cX6_byteAt 9 = .ok (.getfield 34, 3) := by decide +kernel
theorem dX6_byteAt_12 : decode cX6_byteAt 12 = .ok (.iload_n 1, 1) := by decide +kernel
theorem dX6_byteAt_13 : decode cX6_byteAt 13 = .ok (.iaload, 1) := by decide +kernel
theorem dX6_byteAt_14 : decode cX6_byteAt 14 = .ok (.goto 4, 3) := by decide +kernel
theorem dX6_byteAt_17 : decode cX6_byteAt 17 = .ok (.iconst (-1), 1) := by decide +kernel
theorem dX6_byteAt_18 : decode cX6_byteAt 18 = .ok (.ireturn, 1) := by decide +kernel
theorem dX6_isLetter_0 : decode cX6_isLetter 0 = .ok (.iload_n 0, 1) := by decide +kernel
theorem dX6_isLetter_1 : decode cX6_isLetter 1 = .ok (.i2l, 1) := by decide +kernel
theorem dX6_isLetter_2 : decode cX6_isLetter 2 = .ok (.ldc2_w 214, 3) := by decide +kernel
theorem dX6_isLetter_5 : decode cX6_isLetter 5 = .ok (.ldc2_w 216, 3) := by decide +kernel
theorem dX6_isLetter_8 : decode cX6_isLetter 8 = .ok (.invokestatic 53, 3) := by decide +kernel
theorem dX6_isLetter_11 : decode cX6_isLetter 11 = .ok (.ireturn, 1) := by decide +kernel
theorem dX6_isDigit_0 : decode cX6_isDigit 0 = .ok (.iload_n 0, 1) := by decide +kernel
theorem dX6_isDigit_1 : decode cX6_isDigit 1 = .ok (.i2l, 1) := by decide +kernel
theorem dX6_isDigit_2 : decode cX6_isDigit 2 = .ok (.ldc2_w 218, 3) := by decide +kernel
theorem dX6_isDigit_5 : decode cX6_isDigit 5 = .ok (.ldc2_w 220, 3) := by decide +kernel
theorem dX6_isDigit_8 : decode cX6_isDigit 8 = .ok (.invokestatic 53, 3) := by decide +kernel
theorem dX6_isDigit_11 : decode cX6_isDigit 11 = .ok (.ireturn, 1) := by decide +kernel
theorem dX6_token_0 : decode cX6_token 0 = .ok (.aload_n 0, 1) := by decide +kernel
theorem dX6_token_1 : decode cX6_token 1 = .ok (.aload_n 0, 1) := by decide +kernel
theorem dX6_token_2 : decode cX6_token 2 = .ok (.getfield 222, 3) := by decide +kernel
theorem dX6_token_5 : decode cX6_token 5 = .ok (.putfield 225, 3) := by decide +kernel
theorem dX6_token_8 : decode cX6_token 8 = .ok (.aload_n 0, 1) := by decide +kernel
theorem dX6_token_9 : decode cX6_token 9 = .ok (.aload_n 0, 1) := by decide +kernel
theorem dX6_token_10 : decode cX6_token 10 = .ok (.getfield 225, 3) := by decide +kernel
theorem dX6_token_13 : decode cX6_token 13 = .ok (.invokevirtual 228, 3) := by decide +kernel
theorem dX6_token_16 : decode cX6_token 16 = .ok (.bipush 32, 2) := by decide +kernel
theorem dX6_token_18 : decode cX6_token 18 = .ok (.if_icmp .ne 16, 3) := by decide +kernel
theorem dX6_token_21 : decode cX6_token 21 = .ok (.aload_n 0, 1) := by decide +kernel
theorem dX6_token_22 : decode cX6_token 22 = .ok (.dup, 1) := by decide +kernel
theorem dX6_token_23 : decode cX6_token 23 = .ok (.getfield 225, 3) := by decide +kernel
theorem dX6_token_26 : decode cX6_token 26 = .ok (.iconst 1, 1) := by decide +kernel
theorem dX6_token_27 : decode cX6_token 27 = .ok (.iadd, 1) := by decide +kernel
theorem dX6_token_28 : decode cX6_token 28 = .ok (.putfield 225, 3) := by decide +kernel
theorem dX6_token_31 : decode cX6_token 31 = .ok (.goto (-23), 3) := by decide +kernel
theorem dX6_token_34 : decode cX6_token 34 = .ok (.aload_n 0, 1) := by decide +kernel
theorem dX6_token_35 : decode cX6_token 35 = .ok (.aload_n 0, 1) := by decide +kernel
theorem dX6_token_36 : decode cX6_token 36 = .ok (.getfield 225, 3) := by decide +kernel
theorem dX6_token_39 : decode cX6_token 39 = .ok (.invokevirtual 228, 3) := by decide +kernel
theorem dX6_token_42 : decode cX6_token 42 = .ok (.invokestatic 231, 3) := by decide +kernel
theorem dX6_token_45 : decode cX6_token 45 = .ok (.istore_n 1, 1) := by decide +kernel
theorem dX6_token_46 : decode cX6_token 46 = .ok (.aload_n 0, 1) := by decide +kernel
theorem dX6_token_47 : decode cX6_token 47 = .ok (.aload_n 0, 1) := by decide +kernel
theorem dX6_token_48 : decode cX6_token 48 = .ok (.getfield 225, 3) := by decide +kernel
theorem dX6_token_51 : decode cX6_token 51 = .ok (.invokevirtual 228, 3) := by decide +kernel
theorem dX6_token_54 : decode cX6_token 54 = .ok (.invokestatic 234, 3) := by decide +kernel
theorem dX6_token_57 : decode cX6_token 57 = .ok (.istore_n 2, 1) := by decide +kernel
theorem dX6_token_58 : decode cX6_token 58 = .ok (.aload_n 0, 1) := by decide +kernel
theorem dX6_token_59 : decode cX6_token 59 = .ok (.aload_n 0, 1) := by decide +kernel
theorem dX6_token_60 : decode cX6_token 60 = .ok (.getfield 225, 3) := by decide +kernel
theorem dX6_token_63 : decode cX6_token 63 = .ok (.aload_n 0, 1) := by decide +kernel
theorem dX6_token_64 : decode cX6_token 64 = .ok (.getfield 211, 3) := by decide +kernel
theorem dX6_token_67 : decode cX6_token 67 = .ok (.if_icmp .ge 12, 3) := by decide +kernel
theorem dX6_token_70 : decode cX6_token 70 = .ok (.aload_n 0, 1) := by decide +kernel
theorem dX6_token_71 : decode cX6_token 71 = .ok (.getfield 225, 3) := by decide +kernel
theorem dX6_token_74 : decode cX6_token 74 = .ok (.iconst 1, 1) := by decide +kernel
theorem dX6_token_75 : decode cX6_token 75 = .ok (.iadd, 1) := by decide +kernel
theorem dX6_token_76 : decode cX6_token 76 = .ok (.goto 7, 3) := by decide +kernel
theorem dX6_token_79 : decode cX6_token 79 = .ok (.aload_n 0, 1) := by decide +kernel
theorem dX6_token_80 : decode cX6_token 80 = .ok (.getfield 225, 3) := by decide +kernel
theorem dX6_token_83 : decode cX6_token 83 = .ok (.putfield 222, 3) := by decide +kernel
theorem dX6_token_86 : decode cX6_token 86 = .ok (.iload_n 1, 1) := by decide +kernel
theorem dX6_token_87 : decode cX6_token 87 = .ok (.ifCond .eq 17, 3) := by decide +kernel
theorem dX6_token_90 : decode cX6_token 90 = .ok (.aload_n 0, 1) := by decide +kernel
theorem dX6_token_91 : decode cX6_token 91 = .ok (.aload_n 0, 1) := by decide +kernel
theorem dX6_token_92 : decode cX6_token 92 = .ok (.getfield 222, 3) := by decide +kernel
theorem dX6_token_95 : decode cX6_token 95 = .ok (.invokevirtual 228, 3) := by decide +kernel
theorem dX6_token_98 : decode cX6_token 98 = .ok (.invokestatic 231, 3) := by decide +kernel
theorem dX6_token_101 : decode cX6_token 101 = .ok (.ifCond .ne 21, 3) := by decide +kernel
theorem dX6_token_104 : decode cX6_token 104 = .ok (.iload_n 2, 1) := by decide +kernel
theorem dX6_token_105 : decode cX6_token 105 = .ok (.ifCond .eq 30, 3) := by decide +kernel
theorem dX6_token_108 : decode cX6_token 108 = .ok (.aload_n 0, 1) := by decide +kernel
theorem dX6_token_109 : decode cX6_token 109 = .ok (.aload_n 0, 1) := by decide +kernel
theorem dX6_token_110 : decode cX6_token 110 = .ok (.getfield 222, 3) := by decide +kernel
theorem dX6_token_113 : decode cX6_token 113 = .ok (.invokevirtual 228, 3) := by decide +kernel
theorem dX6_token_116 : decode cX6_token 116 = .ok (.invokestatic 234, 3) := by decide +kernel
theorem dX6_token_119 : decode cX6_token 119 = .ok (.ifCond .eq 16, 3) := by decide +kernel
theorem dX6_token_122 : decode cX6_token 122 = .ok (.aload_n 0, 1) := by decide +kernel
theorem dX6_token_123 : decode cX6_token 123 = .ok (.dup, 1) := by decide +kernel
theorem dX6_token_124 : decode cX6_token 124 = .ok (.getfield 222, 3) := by decide +kernel
theorem dX6_token_127 : decode cX6_token 127 = .ok (.iconst 1, 1) := by decide +kernel
theorem dX6_token_128 : decode cX6_token 128 = .ok (.iadd, 1) := by decide +kernel
theorem dX6_token_129 : decode cX6_token 129 = .ok (.putfield 222, 3) := by decide +kernel
theorem dX6_token_132 : decode cX6_token 132 = .ok (.goto (-46), 3) := by decide +kernel
theorem dX6_token_135 : decode cX6_token 135 = .ok (.return_, 1) := by decide +kernel
theorem dX6_must_0 : decode cX6_must 0 = .ok (.aload_n 0, 1) := by decide +kernel
theorem dX6_must_1 : decode cX6_must 1 = .ok (.aload_n 0, 1) := by decide +kernel
theorem dX6_must_2 : decode cX6_must 2 = .ok (.getfield 237, 3) := by decide +kernel
theorem dX6_must_5 : decode cX6_must 5 = .ok (.ifCond .ne 7, 3) := by decide +kernel
theorem dX6_must_8 : decode cX6_must 8 = .ok (.iload_n 1, 1) := by decide +kernel
theorem dX6_must_9 : decode cX6_must 9 = .ok (.ifCond .ne 7, 3) := by decide +kernel
theorem dX6_must_12 : decode cX6_must 12 = .ok (.iconst 1, 1) := by decide +kernel
theorem dX6_must_13 : decode cX6_must 13 = .ok (.goto 4, 3) := by decide +kernel
theorem dX6_must_16 : decode cX6_must 16 = .ok (.iconst 0, 1) := by decide +kernel
theorem dX6_must_17 : decode cX6_must 17 = .ok (.putfield 237, 3) := by decide +kernel
theorem dX6_must_20 : decode cX6_must 20 = .ok (.aload_n 0, 1) := by decide +kernel
theorem dX6_must_21 : decode cX6_must 21 = .ok (.getfield 237, 3) := by decide +kernel
theorem dX6_must_24 : decode cX6_must 24 = .ok (.ifCond .ne 7, 3) := by decide +kernel
theorem dX6_must_27 : decode cX6_must 27 = .ok (.aload_n 0, 1) := by decide +kernel
theorem dX6_must_28 : decode cX6_must 28 = .ok (.invokevirtual 241, 3) := by decide +kernel
theorem dX6_must_31 : decode cX6_must 31 = .ok (.return_, 1) := by decide +kernel
theorem dX6_word_0 : decode cX6_word 0 = .ok (.lconst 0, 1) := by decide +kernel
theorem dX6_word_1 : decode cX6_word 1 = .ok (.lstore_n 1, 1) := by decide +kernel
theorem dX6_word_2 : decode cX6_word 2 = .ok (.aload_n 0, 1) := by decide +kernel
theorem dX6_word_3 : decode cX6_word 3 = .ok (.getfield 225, 3) := by decide +kernel
theorem dX6_word_6 : decode cX6_word 6 = .ok (.istore_n 3, 1) := by decide +kernel
theorem dX6_word_7 : decode cX6_word 7 = .ok (.iload_n 3, 1) := by decide +kernel
theorem dX6_word_8 : decode cX6_word 8 = .ok (.aload_n 0, 1) := by decide +kernel
theorem dX6_word_9 : decode cX6_word 9 = .ok (.getfield 222, 3) := by decide +kernel
theorem dX6_word_12 : decode cX6_word 12 = .ok (.if_icmp .ge 38, 3) := by decide +kernel
theorem dX6_word_15 : decode cX6_word 15 = .ok (.lload_n 1, 1) := by decide +kernel
theorem dX6_word_16 : decode cX6_word 16 = .ok (.ldc2_w 244, 3) := by decide +kernel
theorem dX6_word_19 : decode cX6_word 19 = .ok (.lcmp, 1) := by decide +kernel
theorem dX6_word_20 : decode cX6_word 20 = .ok (.ifCond .le 7, 3) := by decide +kernel
theorem dX6_word_23 : decode cX6_word 23 = .ok (.lload_n 1, 1) := by decide +kernel
theorem dX6_word_24 : decode cX6_word 24 = .ok (.goto 19, 3) := by decide +kernel
theorem dX6_word_27 : decode cX6_word 27 = .ok (.ldc2_w 246, 3) := by decide +kernel
theorem dX6_word_30 : decode cX6_word 30 = .ok (.lload_n 1, 1) := by decide +kernel
theorem dX6_word_31 : decode cX6_word 31 = .ok (.lmul, 1) := by decide +kernel
theorem dX6_word_32 : decode cX6_word 32 = .ok (.aload_n 0, 1) := by decide +kernel
theorem dX6_word_33 : decode cX6_word 33 = .ok (.getfield 34, 3) := by decide +kernel
theorem dX6_word_36 : decode cX6_word 36 = .ok (.iload_n 3, 1) := by decide +kernel
theorem dX6_word_37 : decode cX6_word 37 = .ok (.iaload, 1) := by decide +kernel
theorem dX6_word_38 : decode cX6_word 38 = .ok (.bipush 96, 2) := by decide +kernel
theorem dX6_word_40 : decode cX6_word 40 = .ok (.isub, 1) := by decide +kernel
theorem dX6_word_41 : decode cX6_word 41 = .ok (.i2l, 1) := by decide +kernel
theorem dX6_word_42 : decode cX6_word 42 = .ok (.ladd, 1) := by decide +kernel
theorem dX6_word_43 : decode cX6_word 43 = .ok (.lstore_n 1, 1) := by decide +kernel
theorem dX6_word_44 : decode cX6_word 44 = .ok (.iinc 3 1, 3) := by decide +kernel
theorem dX6_word_47 : decode cX6_word 47 = .ok (.goto (-40), 3) := by decide +kernel
theorem dX6_word_50 : decode cX6_word 50 = .ok (.aload_n 0, 1) := by decide +kernel
theorem dX6_word_51 : decode cX6_word 51 = .ok (.getfield 237, 3) := by decide +kernel
theorem dX6_word_54 : decode cX6_word 54 = .ok (.ifCond .ne 17, 3) := by decide +kernel
theorem dX6_word_57 : decode cX6_word 57 = .ok (.aload_n 0, 1) := by decide +kernel
theorem dX6_word_58 : decode cX6_word 58 = .ok (.aload_n 0, 1) := by decide +kernel
theorem dX6_word_59 : decode cX6_word 59 = .ok (.getfield 225, 3) := by decide +kernel
theorem dX6_word_62 : decode cX6_word 62 = .ok (.invokevirtual 228, 3) := by decide +kernel
theorem dX6_word_65 : decode cX6_word 65 = .ok (.invokestatic 231, 3) := by decide +kernel
theorem dX6_word_68 : decode cX6_word 68 = .ok (.ifCond .ne 7, 3) := by decide +kernel
theorem dX6_word_71 : decode cX6_word 71 = .ok (.lconst 0, 1) := by decide +kernel
theorem dX6_word_72 : decode cX6_word 72 = .ok (.goto 4, 3) := by decide +kernel
theorem dX6_word_75 : decode cX6_word 75 = .ok (.lload_n 1, 1) := by decide +kernel
theorem dX6_word_76 : decode cX6_word 76 = .ok (.lreturn, 1) := by decide +kernel
theorem dX6_number_0 : decode cX6_number 0 = .ok (.aload_n 0, 1) := by decide +kernel
theorem dX6_number_1 : decode cX6_number 1 = .ok (.getfield 237, 3) := by decide +kernel
theorem dX6_number_4 : decode cX6_number 4 = .ok (.ifCond .eq 4, 3) := by decide +kernel
theorem dX6_number_7 : decode cX6_number 7 = .ok (.return_, 1) := by decide +kernel
theorem dX6_number_8 : decode cX6_number 8 = .ok (.aload_n 0, 1) := by decide +kernel
theorem dX6_number_9 : decode cX6_number 9 = .ok (.aload_n 0, 1) := by decide +kernel
theorem dX6_number_10 : decode cX6_number 10 = .ok (.getfield 225, 3) := by decide +kernel
theorem dX6_number_13 : decode cX6_number 13 = .ok (.invokevirtual 228, 3) := by decide +kernel
theorem dX6_number_16 : decode cX6_number 16 = .ok (.invokestatic 234, 3) := by decide +kernel
theorem dX6_number_19 : decode cX6_number 19 = .ok (.istore_n 3, 1) := by decide +kernel
theorem dX6_number_20 : decode cX6_number 20 = .ok (.iconst 0, 1) := by decide +kernel
theorem dX6_number_21 : decode cX6_number 21 = .ok (.istore 4, 2) := by decide +kernel
theorem dX6_number_23 : decode cX6_number 23 = .ok (.aload_n 0, 1) := by decide +kernel
theorem dX6_number_24 : decode cX6_number 24 = .ok (.getfield 225, 3) := by decide +kernel
theorem dX6_number_27 : decode cX6_number 27 = .ok (.istore 5, 2) := by decide +kernel
theorem dX6_number_29 : decode cX6_number 29 = .ok (.iload 5, 2) := by decide +kernel
theorem dX6_number_31 : decode cX6_number 31 = .ok (.aload_n 0, 1) := by decide +kernel
theorem dX6_number_32 : decode cX6_number 32 = .ok (.getfield 222, 3) := by decide +kernel
theorem dX6_number_35 : decode cX6_number 35 = .ok (.if_icmp .ge 44, 3) := by decide +kernel
theorem dX6_number_38 : decode cX6_number 38 = .ok (.iload_n 3, 1) := by decide +kernel
theorem dX6_number_39 : decode cX6_number 39 = .ok (.ifCond .eq 40, 3) := by decide +kernel
theorem dX6_number_42 : decode cX6_number 42 = .ok (.iload 4, 2) := by decide +kernel
theorem dX6_number_44 : decode cX6_number 44 = .ok (.sipush 999, 3) := by decide +kernel
theorem dX6_number_47 : decode cX6_number 47 = .ok (.if_icmp .le 8, 3) := by decide +kernel
theorem dX6_number_50 : decode cX6_number 50 = .ok (.iload 4, 2) := by decide +kernel
theorem dX6_number_52 : decode cX6_number 52 = .ok (.goto 19, 3) := by decide +kernel
theorem dX6_number_55 : decode cX6_number 55 = .ok (.bipush 10, 2) := by decide +kernel
theorem dX6_number_57 : decode cX6_number 57 = .ok (.iload 4, 2) := by decide +kernel
theorem dX6_number_59 : decode cX6_number 59 = .ok (.imul, 1) := by decide +kernel
theorem dX6_number_60 : decode cX6_number 60 = .ok (.aload_n 0, 1) := by decide +kernel
theorem dX6_number_61 : decode cX6_number 61 = .ok (.getfield 34, 3) := by decide +kernel
theorem dX6_number_64 : decode cX6_number 64 = .ok (.iload 5, 2) := by decide +kernel
theorem dX6_number_66 : decode cX6_number 66 = .ok (.iaload, 1) := by decide +kernel
theorem dX6_number_67 : decode cX6_number 67 = .ok (.iadd, 1) := by decide +kernel
theorem dX6_number_68 : decode cX6_number 68 = .ok (.bipush 48, 2) := by decide +kernel
theorem dX6_number_70 : decode cX6_number 70 = .ok (.isub, 1) := by decide +kernel
theorem dX6_number_71 : decode cX6_number 71 = .ok (.istore 4, 2) := by decide +kernel
theorem dX6_number_73 : decode cX6_number 73 = .ok (.iinc 5 1, 3) := by decide +kernel
theorem dX6_number_76 : decode cX6_number 76 = .ok (.goto (-47), 3) := by decide +kernel
theorem dX6_number_79 : decode cX6_number 79 = .ok (.aload_n 0, 1) := by decide +kernel
theorem dX6_number_80 : decode cX6_number 80 = .ok (.iload 4, 2) := by decide +kernel
theorem dX6_number_82 : decode cX6_number 82 = .ok (.putfield 248, 3) := by decide +kernel
theorem dX6_number_85 : decode cX6_number 85 = .ok (.aload_n 0, 1) := by decide +kernel
theorem dX6_number_86 : decode cX6_number 86 = .ok (.iload_n 3, 1) := by decide +kernel
theorem dX6_number_87 : decode cX6_number 87 = .ok (.ifCond .eq 20, 3) := by decide +kernel
theorem dX6_number_90 : decode cX6_number 90 = .ok (.iload 4, 2) := by decide +kernel
theorem dX6_number_92 : decode cX6_number 92 = .ok (.i2l, 1) := by decide +kernel
theorem dX6_number_93 : decode cX6_number 93 = .ok (.iload_n 1, 1) := by decide +kernel
theorem dX6_number_94 : decode cX6_number 94 = .ok (.i2l, 1) := by decide +kernel
theorem dX6_number_95 : decode cX6_number 95 = .ok (.iload_n 2, 1) := by decide +kernel
theorem dX6_number_96 : decode cX6_number 96 = .ok (.i2l, 1) := by decide +kernel
theorem dX6_number_97 : decode cX6_number 97 = .ok (.invokestatic 53, 3) := by decide +kernel
theorem dX6_number_100 : decode cX6_number 100 = .ok (.ifCond .eq 7, 3) := by decide +kernel
theorem dX6_number_103 : decode cX6_number 103 = .ok (.iconst 1, 1) := by decide +kernel
theorem dX6_number_104 : decode cX6_number 104 = .ok (.goto 4, 3) := by decide +kernel
theorem dX6_number_107 : decode cX6_number 107 = .ok (.iconst 0, 1) := by decide +kernel
theorem dX6_number_108 : decode cX6_number 108 = .ok (.invokevirtual 251, 3) := by decide +kernel
theorem dX6_number_111 : decode cX6_number 111 = .ok (.return_, 1) := by decide +kernel
theorem dX6_kindHere_0 : decode cX6_kindHere 0 = .ok (.aload_n 0, 1) := by decide +kernel
theorem dX6_kindHere_1 : decode cX6_kindHere 1 = .ok (.invokevirtual 255, 3) := by decide +kernel
theorem dX6_kindHere_4 : decode cX6_kindHere 4 = .ok (.lstore_n 1, 1) := by decide +kernel
theorem dX6_kindHere_5 : decode cX6_kindHere 5 = .ok (.lload_n 1, 1) := by decide +kernel
theorem dX6_kindHere_6 : decode cX6_kindHere 6 = .ok (.ldc2_w 259, 3) := by decide +kernel
theorem dX6_kindHere_9 : decode cX6_kindHere 9 = .ok (.lcmp, 1) := by decide +kernel
theorem dX6_kindHere_10 : decode cX6_kindHere 10 = .ok (.ifCond .ne 7, 3) := by decide +kernel
theorem dX6_kindHere_13 : decode cX6_kindHere 13 = .ok (.iconst 0, 1) := by decide +kernel
theorem dX6_kindHere_14 : decode cX6_kindHere 14 = .ok (.goto 64, 3) := by decide +kernel
theorem dX6_kindHere_17 : decode cX6_kindHere 17 = .ok (.lload_n 1, 1) := by decide +kernel
theorem dX6_kindHere_18 : decode cX6_kindHere 18 = .ok (.ldc2_w 261, 3) := by decide +kernel
theorem dX6_kindHere_21 : decode cX6_kindHere 21 = .ok (.lcmp, 1) := by decide +kernel
theorem dX6_kindHere_22 : decode cX6_kindHere 22 = .ok (.ifCond .ne 7, 3) := by decide +kernel
theorem dX6_kindHere_25 : decode cX6_kindHere 25 = .ok (.iconst 1, 1) := by decide +kernel
theorem dX6_kindHere_26 : decode cX6_kindHere 26 = .ok (.goto 52, 3) := by decide +kernel
theorem dX6_kindHere_29 : decode cX6_kindHere 29 = .ok (.lload_n 1, 1) := by decide +kernel
theorem dX6_kindHere_30 : decode cX6_kindHere 30 = .ok (.ldc2_w 263, 3) := by decide +kernel
theorem dX6_kindHere_33 : decode cX6_kindHere 33 = .ok (.lcmp, 1) := by decide +kernel
theorem dX6_kindHere_34 : decode cX6_kindHere 34 = .ok (.ifCond .ne 7, 3) := by decide +kernel
theorem dX6_kindHere_37 : decode cX6_kindHere 37 = .ok (.iconst 2, 1) := by decide +kernel
theorem dX6_kindHere_38 : decode cX6_kindHere 38 = .ok (.goto 40, 3) := by decide +kernel
theorem dX6_kindHere_41 : decode cX6_kindHere 41 = .ok (.lload_n 1, 1) := by decide +kernel
theorem dX6_kindHere_42 : decode cX6_kindHere 42 = .ok (.ldc2_w 265, 3) := by decide +kernel
theorem dX6_kindHere_45 : decode cX6_kindHere 45 = .ok (.lcmp, 1) := by decide +kernel
theorem dX6_kindHere_46 : decode cX6_kindHere 46 = .ok (.ifCond .ne 7, 3) := by decide +kernel
theorem dX6_kindHere_49 : decode cX6_kindHere 49 = .ok (.iconst 3, 1) := by decide +kernel
theorem dX6_kindHere_50 : decode cX6_kindHere 50 = .ok (.goto 28, 3) := by decide +kernel
theorem dX6_kindHere_53 : decode cX6_kindHere 53 = .ok (.lload_n 1, 1) := by decide +kernel
theorem dX6_kindHere_54 : decode cX6_kindHere 54 = .ok (.ldc2_w 267, 3) := by decide +kernel
theorem dX6_kindHere_57 : decode cX6_kindHere 57 = .ok (.lcmp, 1) := by decide +kernel
theorem dX6_kindHere_58 : decode cX6_kindHere 58 = .ok (.ifCond .ne 7, 3) := by decide +kernel
theorem dX6_kindHere_61 : decode cX6_kindHere 61 = .ok (.iconst 4, 1) := by decide +kernel
theorem dX6_kindHere_62 : decode cX6_kindHere 62 = .ok (.goto 16, 3) := by decide +kernel
theorem dX6_kindHere_65 : decode cX6_kindHere 65 = .ok (.lload_n 1, 1) := by decide +kernel
theorem dX6_kindHere_66 : decode cX6_kindHere 66 = .ok (.ldc2_w 269, 3) := by decide +kernel
theorem dX6_kindHere_69 : decode cX6_kindHere 69 = .ok (.lcmp, 1) := by decide +kernel
theorem dX6_kindHere_70 : decode cX6_kindHere 70 = .ok (.ifCond .ne 7, 3) := by decide +kernel
theorem dX6_kindHere_73 : decode cX6_kindHere 73 = .ok (.iconst 5, 1) := by decide +kernel
theorem dX6_kindHere_74 : decode cX6_kindHere 74 = .ok (.goto 4, 3) := by decide +kernel
theorem dX6_kindHere_77 : decode cX6_kindHere 77 = .ok (.iconst (-1), 1) := by decide +kernel
theorem dX6_kindHere_78 : decode cX6_kindHere 78 = .ok (.ireturn, 1) := by decide +kernel
theorem dX6_sitterItem_0 : decode cX6_sitterItem 0 = .ok (.aload_n 0, 1) := by decide +kernel
theorem dX6_sitterItem_1 : decode cX6_sitterItem 1 = .ok (.aload_n 0, 1) := by decide +kernel
theorem dX6_sitterItem_2 : decode cX6_sitterItem 2 = .ok (.getfield 7, 3) := by decide +kernel
theorem dX6_sitterItem_5 : decode cX6_sitterItem 5 = .ok (.iconst 0, 1) := by decide +kernel
theorem dX6_sitterItem_6 : decode cX6_sitterItem 6 = .ok (.iaload, 1) := by decide +kernel
theorem dX6_sitterItem_7 : decode cX6_sitterItem 7 = .ok (.bipush 6, 2) := by decide +kernel
theorem dX6_sitterItem_9 : decode cX6_sitterItem 9 = .ok (.if_icmp .ge 7, 3) := by decide +kernel
theorem dX6_sitterItem_12 : decode cX6_sitterItem 12 = .ok (.iconst 1, 1) := by decide +kernel
theorem dX6_sitterItem_13 : decode cX6_sitterItem 13 = .ok (.goto 4, 3) := by decide +kernel
theorem dX6_sitterItem_16 : decode cX6_sitterItem 16 = .ok (.iconst 0, 1) := by decide +kernel
theorem dX6_sitterItem_17 : decode cX6_sitterItem 17 = .ok (.invokevirtual 251, 3) := by decide +kernel
theorem dX6_sitterItem_20 : decode cX6_sitterItem 20 = .ok (.aload_n 0, 1) := by decide +kernel
theorem dX6_sitterItem_21 : decode cX6_sitterItem 21 = .ok (.getfield 237, 3) := by decide +kernel
theorem dX6_sitterItem_24 : decode cX6_sitterItem 24 = .ok (.ifCond .eq 4, 3) := by decide +kernel
theorem dX6_sitterItem_27 : decode cX6_sitterItem 27 = .ok (.return_, 1) := by decide +kernel
theorem dX6_sitterItem_28 : decode cX6_sitterItem 28 = .ok (.aload_n 0, 1) := by decide +kernel
theorem dX6_sitterItem_29 : decode cX6_sitterItem 29 = .ok (.iload_n 1, 1) := by decide +kernel
theorem dX6_sitterItem_30 : decode cX6_sitterItem 30 = .ok (.invokevirtual 118, 3) := by decide +kernel
theorem dX6_sitterItem_33 : decode cX6_sitterItem 33 = .ok (.istore_n 2, 1) := by decide +kernel
theorem dX6_sitterItem_34 : decode cX6_sitterItem 34 = .ok (.aload_n 0, 1) := by decide +kernel
theorem dX6_sitterItem_35 : decode cX6_sitterItem 35 = .ok (.invokevirtual 255, 3) := by decide +kernel
theorem dX6_sitterItem_38 : decode cX6_sitterItem 38 = .ok (.ldc2_w 271, 3) := by decide +kernel
theorem dX6_sitterItem_41 : decode cX6_sitterItem 41 = .ok (.lcmp, 1) := by decide +kernel
theorem dX6_sitterItem_42 : decode cX6_sitterItem 42 = .ok (.ifCond .ne 29, 3) := by decide +kernel
theorem dX6_sitterItem_45 : decode cX6_sitterItem 45 = .ok (.aload_n 0, 1) := by decide +kernel
theorem dX6_sitterItem_46 : decode cX6_sitterItem 46 = .ok (.iconst 1, 1) := by decide +kernel
theorem dX6_sitterItem_47 : decode cX6_sitterItem 47 = .ok (.invokevirtual 251, 3) := by decide +kernel
theorem dX6_sitterItem_50 : decode cX6_sitterItem 50 = .ok (.aload_n 0, 1) := by decide +kernel
theorem dX6_sitterItem_51 : decode cX6_sitterItem 51 = .ok (.iconst 0, 1) := by decide +kernel
theorem dX6_sitterItem_52 : decode cX6_sitterItem 52 = .ok (.bipush 30, 2) := by decide +kernel
theorem dX6_sitterItem_54 : decode cX6_sitterItem 54 = .ok (.invokevirtual 273, 3) := by decide +kernel
theorem dX6_sitterItem_57 : decode cX6_sitterItem 57 = .ok (.aload_n 0, 1) := by decide +kernel
theorem dX6_sitterItem_58 : decode cX6_sitterItem 58 = .ok (.getfield 7, 3) := by decide +kernel
theorem dX6_sitterItem_61 : decode cX6_sitterItem 61 = .ok (.iload_n 2, 1) := by decide +kernel
theorem dX6_sitterItem_62 : decode cX6_sitterItem 62 = .ok (.iconst 1, 1) := by decide +kernel
theorem dX6_sitterItem_63 : decode cX6_sitterItem 63 = .ok (.invokestatic 59, 3) := by decide +kernel
theorem dX6_sitterItem_66 : decode cX6_sitterItem 66 = .ok (.aload_n 0, 1) := by decide +kernel
theorem dX6_sitterItem_67 : decode cX6_sitterItem 67 = .ok (.getfield 248, 3) := by decide +kernel
theorem dX6_sitterItem_70 : decode cX6_sitterItem 70 = .ok (.iastore, 1) := by decide +kernel
theorem dX6_sitterItem_71 : decode cX6_sitterItem 71 = .ok (.aload_n 0, 1) := by decide +kernel
theorem dX6_sitterItem_72 : decode cX6_sitterItem 72 = .ok (.invokevirtual 255, 3) := by decide +kernel
theorem dX6_sitterItem_75 : decode cX6_sitterItem 75 = .ok (.ldc2_w 277, 3) := by decide +kernel
theorem dX6_sitterItem_78 : decode cX6_sitterItem 78 = .ok (.lcmp, 1) := by decide +kernel
theorem dX6_sitterItem_79 : decode cX6_sitterItem 79 = .ok (.ifCond .ne 29, 3) := by decide +kernel
theorem dX6_sitterItem_82 : decode cX6_sitterItem 82 = .ok (.aload_n 0, 1) := by decide +kernel
theorem dX6_sitterItem_83 : decode cX6_sitterItem 83 = .ok (.iconst 1, 1) := by decide +kernel
theorem dX6_sitterItem_84 : decode cX6_sitterItem 84 = .ok (.invokevirtual 251, 3) := by decide +kernel
theorem dX6_sitterItem_87 : decode cX6_sitterItem 87 = .ok (.aload_n 0, 1) := by decide +kernel
theorem dX6_sitterItem_88 : decode cX6_sitterItem 88 = .ok (.iconst 0, 1) := by decide +kernel
theorem dX6_sitterItem_89 : decode cX6_sitterItem 89 = .ok (.bipush 99, 2) := by decide +kernel
theorem dX6_sitterItem_91 : decode cX6_sitterItem 91 = .ok (.invokevirtual 273, 3) := by decide +kernel
theorem dX6_sitterItem_94 : decode cX6_sitterItem 94 = .ok (.aload_n 0, 1) := by decide +kernel
theorem dX6_sitterItem_95 : decode cX6_sitterItem 95 = .ok (.getfield 7, 3) := by decide +kernel
theorem dX6_sitterItem_98 : decode cX6_sitterItem 98 = .ok (.iload_n 2, 1) := by decide +kernel
theorem dX6_sitterItem_99 : decode cX6_sitterItem 99 = .ok (.iconst 2, 1) := by decide +kernel
theorem dX6_sitterItem_100 : decode cX6_sitterItem 100 = .ok (.invokestatic 59, 3) := by decide +kernel
theorem dX6_sitterItem_103 : decode cX6_sitterItem 103 = .ok (.aload_n 0, 1) := by decide +kernel
theorem dX6_sitterItem_104 : decode cX6_sitterItem 104 = .ok (.getfield 248, 3) := by decide +kernel
theorem dX6_sitterItem_107 : decode cX6_sitterItem 107 = .ok (.iastore, 1) := by decide +kernel
theorem dX6_sitterItem_108 : decode cX6_sitterItem 108 = .ok (.return_, 1) := by decide +kernel
theorem dX6_likenessItem_0 : decode cX6_likenessItem 0 = .ok (.aload_n 0, 1) := by decide +kernel
theorem dX6_likenessItem_1 : decode cX6_likenessItem 1 = .ok (.aload_n 0, 1) := by decide +kernel
theorem dX6_likenessItem_2 : decode cX6_likenessItem 2 = .ok (.getfield 7, 3) := by decide +kernel
theorem dX6_likenessItem_5 : decode cX6_likenessItem 5 = .ok (.iconst 1, 1) := by decide +kernel
theorem dX6_likenessItem_6 : decode cX6_likenessItem 6 = .ok (.iaload, 1) := by decide +kernel
theorem dX6_likenessItem_7 : decode cX6_likenessItem 7 = .ok (.bipush 8, 2) := by decide +kernel
theorem dX6_likenessItem_9 : decode cX6_likenessItem 9 = .ok (.if_icmp .ge 7, 3) := by decide +kernel
theorem dX6_likenessItem_12 : decode cX6_likenessItem 12 = .ok (.iconst 1, 1) := by decide +kernel
theorem dX6_likenessItem_13 : decode cX6_likenessItem 13 = .ok (.goto 4, 3) := by decide +kernel
theorem dX6_likenessItem_16 : decode cX6_likenessItem 16 = .ok (.iconst 0, 1) := by decide +kernel
theorem dX6_likenessItem_17 : decode cX6_likenessItem 17 = .ok (.invokevirtual 251, 3) := by decide +kernel
theorem dX6_likenessItem_20 : decode cX6_likenessItem 20 = .ok (.aload_n 0, 1) := by decide +kernel
theorem dX6_likenessItem_21 : decode cX6_likenessItem 21 = .ok (.iconst 0, 1) := by decide +kernel
theorem dX6_likenessItem_22 : decode cX6_likenessItem 22 = .ok (.aload_n 0, 1) := by decide +kernel
theorem dX6_likenessItem_23 : decode cX6_likenessItem 23 = .ok (.getfield 7, 3) := by decide +kernel
theorem dX6_likenessItem_26 : decode cX6_likenessItem 26 = .ok (.iconst 0, 1) := by decide +kernel
theorem dX6_likenessItem_27 : decode cX6_likenessItem 27 = .ok (.iaload, 1) := by decide +kernel
theorem dX6_likenessItem_28 : decode cX6_likenessItem 28 = .ok (.iconst 1, 1) := by decide +kernel
theorem dX6_likenessItem_29 : decode cX6_likenessItem 29 = .ok (.isub, 1) := by decide +kernel
theorem dX6_likenessItem_30 : decode cX6_likenessItem 30 = .ok (.invokevirtual 273, 3) := by decide +kernel
theorem dX6_likenessItem_33 : decode cX6_likenessItem 33 = .ok (.aload_n 0, 1) := by decide +kernel
theorem dX6_likenessItem_34 : decode cX6_likenessItem 34 = .ok (.getfield 248, 3) := by decide +kernel
theorem dX6_likenessItem_37 : decode cX6_likenessItem 37 = .ok (.istore_n 1, 1) := by decide +kernel
theorem dX6_likenessItem_38 : decode cX6_likenessItem 38 = .ok (.aload_n 0, 1) := by decide +kernel
theorem dX6_likenessItem_39 : decode cX6_likenessItem 39 = .ok (.aload_n 0, 1) := by decide +kernel
theorem dX6_likenessItem_40 : decode cX6_likenessItem 40 = .ok (.invokevirtual 255, 3) := by decide +kernel
theorem dX6_likenessItem_43 : decode cX6_likenessItem 43 = .ok (.ldc2_w 279, 3) := by decide +kernel
theorem dX6_likenessItem_46 : decode cX6_likenessItem 46 = .ok (.lcmp, 1) := by decide +kernel
theorem dX6_likenessItem_47 : decode cX6_likenessItem 47 = .ok (.ifCond .ne 7, 3) := by decide +kernel
theorem dX6_likenessItem_50 : decode cX6_likenessItem 50 = .ok (.iconst 1, 1) := by decide +kernel
theorem dX6_likenessItem_51 : decode cX6_likenessItem 51 = .ok (.goto 4, 3) := by decide +kernel
theorem dX6_likenessItem_54 : decode cX6_likenessItem 54 = .ok (.iconst 0, 1) := by decide +kernel
theorem dX6_likenessItem_55 : decode cX6_likenessItem 55 = .ok (.invokevirtual 251, 3) := by decide +kernel
theorem dX6_likenessItem_58 : decode cX6_likenessItem 58 = .ok (.aload_n 0, 1) := by decide +kernel
theorem dX6_likenessItem_59 : decode cX6_likenessItem 59 = .ok (.iconst 0, 1) := by decide +kernel
theorem dX6_likenessItem_60 : decode cX6_likenessItem 60 = .ok (.bipush 47, 2) := by decide +kernel
theorem dX6_likenessItem_62 : decode cX6_likenessItem 62 = .ok (.invokevirtual 273, 3) := by decide +kernel
theorem dX6_likenessItem_65 : decode cX6_likenessItem 65 = .ok (.aload_n 0, 1) := by decide +kernel
theorem dX6_likenessItem_66 : decode cX6_likenessItem 66 = .ok (.getfield 237, 3) := by decide +kernel
theorem dX6_likenessItem_69 : decode cX6_likenessItem 69 = .ok (.ifCond .ne 13, 3) := by decide +kernel
theorem dX6_likenessItem_72 : decode cX6_likenessItem 72 = .ok (.aload_n 0, 1) := by decide +kernel
theorem dX6_likenessItem_73 : decode cX6_likenessItem 73 = .ok (.iload_n 1, 1) := by decide +kernel
theorem dX6_likenessItem_74 : decode cX6_likenessItem 74 = .ok (.aload_n 0, 1) := by decide +kernel
theorem dX6_likenessItem_75 : decode cX6_likenessItem 75 = .ok (.getfield 248, 3) := by decide +kernel
theorem dX6_likenessItem_78 : decode cX6_likenessItem 78 = .ok (.invokevirtual 140, 3) := by decide +kernel
theorem dX6_likenessItem_81 : decode cX6_likenessItem 81 = .ok (.istore_n 2, 1) := by decide +kernel
theorem dX6_likenessItem_82 : decode cX6_likenessItem 82 = .ok (.return_, 1) := by decide +kernel
theorem dX6_wheatItem_0 : decode cX6_wheatItem 0 = .ok (.aload_n 0, 1) := by decide +kernel
theorem dX6_wheatItem_1 : decode cX6_wheatItem 1 = .ok (.iconst 1, 1) := by decide +kernel
theorem dX6_wheatItem_2 : decode cX6_wheatItem 2 = .ok (.invokevirtual 251, 3) := by decide +kernel
theorem dX6_wheatItem_5 : decode cX6_wheatItem 5 = .ok (.aload_n 0, 1) := by decide +kernel
theorem dX6_wheatItem_6 : decode cX6_wheatItem 6 = .ok (.iconst 0, 1) := by decide +kernel
theorem dX6_wheatItem_7 : decode cX6_wheatItem 7 = .ok (.bipush 47, 2) := by decide +kernel
theorem dX6_wheatItem_9 : decode cX6_wheatItem 9 = .ok (.invokevirtual 273, 3) := by decide +kernel
theorem dX6_wheatItem_12 : decode cX6_wheatItem 12 = .ok (.aload_n 0, 1) := by decide +kernel
theorem dX6_wheatItem_13 : decode cX6_wheatItem 13 = .ok (.getfield 248, 3) := by decide +kernel
theorem dX6_wheatItem_16 : decode cX6_wheatItem 16 = .ok (.istore_n 1, 1) := by decide +kernel
theorem dX6_wheatItem_17 : decode cX6_wheatItem 17 = .ok (.aload_n 0, 1) := by decide +kernel
theorem dX6_wheatItem_18 : decode cX6_wheatItem 18 = .ok (.iconst 0, 1) := by decide +kernel
theorem dX6_wheatItem_19 : decode cX6_wheatItem 19 = .ok (.bipush 99, 2) := by decide +kernel
theorem dX6_wheatItem_21 : decode cX6_wheatItem 21 = .ok (.invokevirtual 273, 3) := by decide +kernel
theorem dX6_wheatItem_24 : decode cX6_wheatItem 24 = .ok (.aload_n 0, 1) := by decide +kernel
theorem dX6_wheatItem_25 : decode cX6_wheatItem 25 = .ok (.getfield 248, 3) := by decide +kernel
theorem dX6_wheatItem_28 : decode cX6_wheatItem 28 = .ok (.istore_n 2, 1) := by decide +kernel
theorem dX6_wheatItem_29 : decode cX6_wheatItem 29 = .ok (.iload_n 1, 1) := by decide +kernel
theorem dX6_wheatItem_30 : decode cX6_wheatItem 30 = .ok (.istore_n 3, 1) := by decide +kernel
theorem dX6_wheatItem_31 : decode cX6_wheatItem 31 = .ok (.aload_n 0, 1) := by decide +kernel
theorem dX6_wheatItem_32 : decode cX6_wheatItem 32 = .ok (.invokevirtual 255, 3) := by decide +kernel
theorem dX6_wheatItem_35 : decode cX6_wheatItem 35 = .ok (.ldc2_w 281, 3) := by decide +kernel
theorem dX6_wheatItem_38 : decode cX6_wheatItem 38 = .ok (.lcmp, 1) := by decide +kernel
theorem dX6_wheatItem_39 : decode cX6_wheatItem 39 = .ok (.ifCond .ne 20, 3) := by decide +kernel
theorem dX6_wheatItem_42 : decode cX6_wheatItem 42 = .ok (.aload_n 0, 1) := by decide +kernel
theorem dX6_wheatItem_43 : decode cX6_wheatItem 43 = .ok (.iconst 1, 1) := by decide +kernel
theorem dX6_wheatItem_44 : decode cX6_wheatItem 44 = .ok (.invokevirtual 251, 3) := by decide +kernel
theorem dX6_wheatItem_47 : decode cX6_wheatItem 47 = .ok (.aload_n 0, 1) := by decide +kernel
theorem dX6_wheatItem_48 : decode cX6_wheatItem 48 = .ok (.iload_n 1, 1) := by decide +kernel
theorem dX6_wheatItem_49 : decode cX6_wheatItem 49 = .ok (.bipush 47, 2) := by decide +kernel
theorem dX6_wheatItem_51 : decode cX6_wheatItem 51 = .ok (.invokevirtual 273, 3) := by decide +kernel
theorem dX6_wheatItem_54 : decode cX6_wheatItem 54 = .ok (.aload_n 0, 1) := by decide +kernel
theorem dX6_wheatItem_55 : decode cX6_wheatItem 55 = .ok (.getfield 248, 3) := by decide +kernel
theorem dX6_wheatItem_58 : decode cX6_wheatItem 58 = .ok (.istore_n 3, 1) := by decide +kernel
theorem dX6_wheatItem_59 : decode cX6_wheatItem 59 = .ok (.iload_n 1, 1) := by decide +kernel
theorem dX6_wheatItem_60 : decode cX6_wheatItem 60 = .ok (.istore 4, 2) := by decide +kernel
theorem dX6_wheatItem_62 : decode cX6_wheatItem 62 = .ok (.iload 4, 2) := by decide +kernel
theorem dX6_wheatItem_64 : decode cX6_wheatItem 64 = .ok (.iload_n 3, 1) := by decide +kernel
theorem dX6_wheatItem_65 : decode cX6_wheatItem 65 = .ok (.if_icmp .gt 26, 3) := by decide +kernel
theorem dX6_wheatItem_68 : decode cX6_wheatItem 68 = .ok (.aload_n 0, 1) := by decide +kernel
theorem dX6_wheatItem_69 : decode cX6_wheatItem 69 = .ok (.getfield 237, 3) := by decide +kernel
theorem dX6_wheatItem_72 : decode cX6_wheatItem 72 = .ok (.ifCond .ne 19, 3) := by decide +kernel
theorem dX6_wheatItem_75 : decode cX6_wheatItem 75 = .ok (.aload_n 0, 1) := by decide +kernel
theorem dX6_wheatItem_76 : decode cX6_wheatItem 76 = .ok (.getfield 7, 3) := by decide +kernel
theorem dX6_wheatItem_79 : decode cX6_wheatItem 79 = .ok (.iconst 4, 1) := by decide +kernel
theorem dX6_wheatItem_80 : decode cX6_wheatItem 80 = .ok (.iload 4, 2) := by decide +kernel
theorem dX6_wheatItem_82 : decode cX6_wheatItem 82 = .ok (.iadd, 1) := by decide +kernel
theorem dX6_wheatItem_83 : decode cX6_wheatItem 83 = .ok (.iload_n 2, 1) := by decide +kernel
theorem dX6_wheatItem_84 : decode cX6_wheatItem 84 = .ok (.iastore, 1) := by decide +kernel
theorem dX6_wheatItem_85 : decode cX6_wheatItem 85 = .ok (.iinc 4 1, 3) := by decide +kernel
theorem dX6_wheatItem_88 : decode cX6_wheatItem 88 = .ok (.goto (-26), 3) := by decide +kernel
theorem dX6_wheatItem_91 : decode cX6_wheatItem 91 = .ok (.return_, 1) := by decide +kernel
theorem dX6_item_0 : decode cX6_item 0 = .ok (.aload_n 0, 1) := by decide +kernel
theorem dX6_item_1 : decode cX6_item 1 = .ok (.invokevirtual 283, 3) := by decide +kernel
theorem dX6_item_4 : decode cX6_item 4 = .ok (.istore_n 1, 1) := by decide +kernel
theorem dX6_item_5 : decode cX6_item 5 = .ok (.aload_n 0, 1) := by decide +kernel
theorem dX6_item_6 : decode cX6_item 6 = .ok (.invokevirtual 255, 3) := by decide +kernel
theorem dX6_item_9 : decode cX6_item 9 = .ok (.lstore_n 2, 1) := by decide +kernel
theorem dX6_item_10 : decode cX6_item 10 = .ok (.iload_n 1, 1) := by decide +kernel
theorem dX6_item_11 : decode cX6_item 11 = .ok (.ifCond .lt 11, 3) := by decide +kernel
theorem dX6_item_14 : decode cX6_item 14 = .ok (.aload_n 0, 1) := by decide +kernel
theorem dX6_item_15 : decode cX6_item 15 = .ok (.iload_n 1, 1) := by decide +kernel
theorem dX6_item_16 : decode cX6_item 16 = .ok (.invokevirtual 286, 3) := by decide +kernel
theorem dX6_item_19 : decode cX6_item 19 = .ok (.goto 83, 3) := by decide +kernel
theorem dX6_item_22 : decode cX6_item 22 = .ok (.lload_n 2, 1) := by decide +kernel
theorem dX6_item_23 : decode cX6_item 23 = .ok (.ldc2_w 290, 3) := by decide +kernel
theorem dX6_item_26 : decode cX6_item 26 = .ok (.lcmp, 1) := by decide +kernel
theorem dX6_item_27 : decode cX6_item 27 = .ok (.ifCond .ne 10, 3) := by decide +kernel
theorem dX6_item_30 : decode cX6_item 30 = .ok (.aload_n 0, 1) := by decide +kernel
theorem dX6_item_31 : decode cX6_item 31 = .ok (.invokevirtual 292, 3) := by decide +kernel
theorem dX6_item_34 : decode cX6_item 34 = .ok (.goto 68, 3) := by decide +kernel
theorem dX6_item_37 : decode cX6_item 37 = .ok (.lload_n 2, 1) := by decide +kernel
theorem dX6_item_38 : decode cX6_item 38 = .ok (.ldc2_w 295, 3) := by decide +kernel
theorem dX6_item_41 : decode cX6_item 41 = .ok (.lcmp, 1) := by decide +kernel
theorem dX6_item_42 : decode cX6_item 42 = .ok (.ifCond .ne 10, 3) := by decide +kernel
theorem dX6_item_45 : decode cX6_item 45 = .ok (.aload_n 0, 1) := by decide +kernel
theorem dX6_item_46 : decode cX6_item 46 = .ok (.invokevirtual 297, 3) := by decide +kernel
theorem dX6_item_49 : decode cX6_item 49 = .ok (.goto 53, 3) := by decide +kernel
theorem dX6_item_52 : decode cX6_item 52 = .ok (.aload_n 0, 1) := by decide +kernel
theorem dX6_item_53 : decode cX6_item 53 = .ok (.lload_n 2, 1) := by decide +kernel
theorem dX6_item_54 : decode cX6_item 54 = .ok (.ldc2_w 300, 3) := by decide +kernel
theorem dX6_item_57 : decode cX6_item 57 = .ok (.lcmp, 1) := by decide +kernel
theorem dX6_item_58 : decode cX6_item 58 = .ok (.ifCond .ne 7, 3) := by decide +kernel
theorem dX6_item_61 : decode cX6_item 61 = .ok (.iconst 1, 1) := by decide +kernel
theorem dX6_item_62 : decode cX6_item 62 = .ok (.goto 4, 3) := by decide +kernel
theorem dX6_item_65 : decode cX6_item 65 = .ok (.iconst 0, 1) := by decide +kernel
theorem dX6_item_66 : decode cX6_item 66 = .ok (.invokevirtual 251, 3) := by decide +kernel
theorem dX6_item_69 : decode cX6_item 69 = .ok (.aload_n 0, 1) := by decide +kernel
theorem dX6_item_70 : decode cX6_item 70 = .ok (.iconst 0, 1) := by decide +kernel
theorem dX6_item_71 : decode cX6_item 71 = .ok (.bipush 20, 2) := by decide +kernel
theorem dX6_item_73 : decode cX6_item 73 = .ok (.invokevirtual 273, 3) := by decide +kernel
theorem dX6_item_76 : decode cX6_item 76 = .ok (.aload_n 0, 1) := by decide +kernel
theorem dX6_item_77 : decode cX6_item 77 = .ok (.getfield 7, 3) := by decide +kernel
theorem dX6_item_80 : decode cX6_item 80 = .ok (.iconst 3, 1) := by decide +kernel
theorem dX6_item_81 : decode cX6_item 81 = .ok (.aload_n 0, 1) := by decide +kernel
theorem dX6_item_82 : decode cX6_item 82 = .ok (.getfield 237, 3) := by decide +kernel
theorem dX6_item_85 : decode cX6_item 85 = .ok (.ifCond .eq 12, 3) := by decide +kernel
theorem dX6_item_88 : decode cX6_item 88 = .ok (.aload_n 0, 1) := by decide +kernel
theorem dX6_item_89 : decode cX6_item 89 = .ok (.getfield 7, 3) := by decide +kernel
theorem dX6_item_92 : decode cX6_item 92 = .ok (.iconst 3, 1) := by decide +kernel
theorem dX6_item_93 : decode cX6_item 93 = .ok (.iaload, 1) := by decide +kernel
theorem dX6_item_94 : decode cX6_item 94 = .ok (.goto 7, 3) := by decide +kernel
theorem dX6_item_97 : decode cX6_item 97 = .ok (.aload_n 0, 1) := by decide +kernel
theorem dX6_item_98 : decode cX6_item 98 = .ok (.getfield 248, 3) := by decide +kernel
theorem dX6_item_101 : decode cX6_item 101 = .ok (.iastore, 1) := by decide +kernel
theorem dX6_item_102 : decode cX6_item 102 = .ok (.return_, 1) := by decide +kernel
theorem dX6_plain_0 : decode cX6_plain 0 = .ok (.aload_n 0, 1) := by decide +kernel
theorem dX6_plain_1 : decode cX6_plain 1 = .ok (.invokevirtual 302, 3) := by decide +kernel
theorem dX6_plain_4 : decode cX6_plain 4 = .ok (.aload_n 0, 1) := by decide +kernel
theorem dX6_plain_5 : decode cX6_plain 5 = .ok (.iconst 0, 1) := by decide +kernel
theorem dX6_plain_6 : decode cX6_plain 6 = .ok (.putfield 237, 3) := by decide +kernel
theorem dX6_plain_9 : decode cX6_plain 9 = .ok (.aload_n 0, 1) := by decide +kernel
theorem dX6_plain_10 : decode cX6_plain 10 = .ok (.iconst 0, 1) := by decide +kernel
theorem dX6_plain_11 : decode cX6_plain 11 = .ok (.putfield 222, 3) := by decide +kernel
theorem dX6_plain_14 : decode cX6_plain 14 = .ok (.aload_n 0, 1) := by decide +kernel
theorem dX6_plain_15 : decode cX6_plain 15 = .ok (.invokevirtual 241, 3) := by decide +kernel
theorem dX6_plain_18 : decode cX6_plain 18 = .ok (.iconst 1, 1) := by decide +kernel
theorem dX6_plain_19 : decode cX6_plain 19 = .ok (.istore_n 1, 1) := by decide +kernel
theorem dX6_plain_20 : decode cX6_plain 20 = .ok (.aload_n 0, 1) := by decide +kernel
theorem dX6_plain_21 : decode cX6_plain 21 = .ok (.invokevirtual 305, 3) := by decide +kernel
theorem dX6_plain_24 : decode cX6_plain 24 = .ok (.aload_n 0, 1) := by decide +kernel
theorem dX6_plain_25 : decode cX6_plain 25 = .ok (.getfield 237, 3) := by decide +kernel
theorem dX6_plain_28 : decode cX6_plain 28 = .ok (.ifCond .ne 31, 3) := by decide +kernel
theorem dX6_plain_31 : decode cX6_plain 31 = .ok (.aload_n 0, 1) := by decide +kernel
theorem dX6_plain_32 : decode cX6_plain 32 = .ok (.aload_n 0, 1) := by decide +kernel
theorem dX6_plain_33 : decode cX6_plain 33 = .ok (.getfield 225, 3) := by decide +kernel
theorem dX6_plain_36 : decode cX6_plain 36 = .ok (.invokevirtual 228, 3) := by decide +kernel
theorem dX6_plain_39 : decode cX6_plain 39 = .ok (.bipush 59, 2) := by decide +kernel
theorem dX6_plain_41 : decode cX6_plain 41 = .ok (.if_icmp .ne 18, 3) := by decide +kernel
theorem dX6_plain_44 : decode cX6_plain 44 = .ok (.aload_n 0, 1) := by decide +kernel
theorem dX6_plain_45 : decode cX6_plain 45 = .ok (.iconst 1, 1) := by decide +kernel
theorem dX6_plain_46 : decode cX6_plain 46 = .ok (.invokevirtual 251, 3) := by decide +kernel
theorem dX6_plain_49 : decode cX6_plain 49 = .ok (.aload_n 0, 1) := by decide +kernel
theorem dX6_plain_50 : decode cX6_plain 50 = .ok (.invokevirtual 305, 3) := by decide +kernel
theorem dX6_plain_53 : decode cX6_plain 53 = .ok (.iinc 1 1, 3) := by decide +kernel
theorem dX6_plain_56 : decode cX6_plain 56 = .ok (.goto (-32), 3) := by decide +kernel
theorem dX6_plain_59 : decode cX6_plain 59 = .ok (.aload_n 0, 1) := by decide +kernel
theorem dX6_plain_60 : decode cX6_plain 60 = .ok (.aload_n 0, 1) := by decide +kernel
theorem dX6_plain_61 : decode cX6_plain 61 = .ok (.getfield 237, 3) := by decide +kernel
theorem dX6_plain_64 : decode cX6_plain 64 = .ok (.ifCond .ne 14, 3) := by decide +kernel
theorem dX6_plain_67 : decode cX6_plain 67 = .ok (.aload_n 0, 1) := by decide +kernel
theorem dX6_plain_68 : decode cX6_plain 68 = .ok (.getfield 225, 3) := by decide +kernel
theorem dX6_plain_71 : decode cX6_plain 71 = .ok (.aload_n 0, 1) := by decide +kernel
theorem dX6_plain_72 : decode cX6_plain 72 = .ok (.getfield 211, 3) := by decide +kernel
theorem dX6_plain_75 : decode cX6_plain 75 = .ok (.if_icmp .ge 7, 3) := by decide +kernel
theorem dX6_plain_78 : decode cX6_plain 78 = .ok (.iconst 1, 1) := by decide +kernel
theorem dX6_plain_79 : decode cX6_plain 79 = .ok (.goto 4, 3) := by decide +kernel
theorem dX6_plain_82 : decode cX6_plain 82 = .ok (.iconst 0, 1) := by decide +kernel
theorem dX6_plain_83 : decode cX6_plain 83 = .ok (.putfield 237, 3) := by decide +kernel
theorem dX6_plain_86 : decode cX6_plain 86 = .ok (.aload_n 0, 1) := by decide +kernel
theorem dX6_plain_87 : decode cX6_plain 87 = .ok (.getfield 237, 3) := by decide +kernel
theorem dX6_plain_90 : decode cX6_plain 90 = .ok (.ifCond .eq 7, 3) := by decide +kernel
theorem dX6_plain_93 : decode cX6_plain 93 = .ok (.aload_n 0, 1) := by decide +kernel
theorem dX6_plain_94 : decode cX6_plain 94 = .ok (.invokevirtual 308, 3) := by decide +kernel
theorem dX6_plain_97 : decode cX6_plain 97 = .ok (.aload_n 0, 1) := by decide +kernel
theorem dX6_plain_98 : decode cX6_plain 98 = .ok (.iconst 0, 1) := by decide +kernel
theorem dX6_plain_99 : decode cX6_plain 99 = .ok (.putfield 211, 3) := by decide +kernel
theorem dX6_plain_102 : decode cX6_plain 102 = .ok (.aload_n 0, 1) := by decide +kernel
theorem dX6_plain_103 : decode cX6_plain 103 = .ok (.getfield 237, 3) := by decide +kernel
theorem dX6_plain_106 : decode cX6_plain 106 = .ok (.ifCond .eq 12, 3) := by decide +kernel
theorem dX6_plain_109 : decode cX6_plain 109 = .ok (.iconst (-1), 1) := by decide +kernel
theorem dX6_plain_110 : decode cX6_plain 110 = .ok (.aload_n 0, 1) := by decide +kernel
theorem dX6_plain_111 : decode cX6_plain 111 = .ok (.getfield 225, 3) := by decide +kernel
theorem dX6_plain_114 : decode cX6_plain 114 = .ok (.isub, 1) := by decide +kernel
theorem dX6_plain_115 : decode cX6_plain 115 = .ok (.goto 4, 3) := by decide +kernel
theorem dX6_plain_118 : decode cX6_plain 118 = .ok (.iload_n 1, 1) := by decide +kernel
theorem dX6_plain_119 : decode cX6_plain 119 = .ok (.ireturn, 1) := by decide +kernel
theorem dX6_isOne_0 : decode cX6_isOne 0 = .ok (.iload_n 0, 1) := by decide +kernel
theorem dX6_isOne_1 : decode cX6_isOne 1 = .ok (.i2l, 1) := by decide +kernel
theorem dX6_isOne_2 : decode cX6_isOne 2 = .ok (.lconst 0, 1) := by decide +kernel
theorem dX6_isOne_3 : decode cX6_isOne 3 = .ok (.ldc2_w 311, 3) := by decide +kernel
theorem dX6_isOne_6 : decode cX6_isOne 6 = .ok (.invokestatic 53, 3) := by decide +kernel
theorem dX6_isOne_9 : decode cX6_isOne 9 = .ok (.ireturn, 1) := by decide +kernel
theorem dX6_sheet_0 : decode cX6_sheet 0 = .ok (.iload_n 1, 1) := by decide +kernel
theorem dX6_sheet_1 : decode cX6_sheet 1 = .ok (.invokestatic 313, 3) := by decide +kernel
theorem dX6_sheet_4 : decode cX6_sheet 4 = .ok (.ifCond .eq 25, 3) := by decide +kernel
theorem dX6_sheet_7 : decode cX6_sheet 7 = .ok (.iload_n 2, 1) := by decide +kernel
theorem dX6_sheet_8 : decode cX6_sheet 8 = .ok (.ifCond .eq 28, 3) := by decide +kernel
theorem dX6_sheet_11 : decode cX6_sheet 11 = .ok (.iload_n 2, 1) := by decide +kernel
theorem dX6_sheet_12 : decode cX6_sheet 12 = .ok (.bipush 8, 2) := by decide +kernel
theorem dX6_sheet_14 : decode cX6_sheet 14 = .ok (.if_icmp .eq 22, 3) := by decide +kernel
theorem dX6_sheet_17 : decode cX6_sheet 17 = .ok (.iload_n 2, 1) := by decide +kernel
theorem dX6_sheet_18 : decode cX6_sheet 18 = .ok (.bipush 16, 2) := by decide +kernel
theorem dX6_sheet_20 : decode cX6_sheet 20 = .ok (.if_icmp .eq 16, 3) := by decide +kernel
theorem dX6_sheet_23 : decode cX6_sheet 23 = .ok (.iload_n 2, 1) := by decide +kernel
theorem dX6_sheet_24 : decode cX6_sheet 24 = .ok (.bipush 64, 2) := by decide +kernel
theorem dX6_sheet_26 : decode cX6_sheet 26 = .ok (.if_icmp .eq 10, 3) := by decide +kernel
theorem dX6_sheet_29 : decode cX6_sheet 29 = .ok (.aload_n 0, 1) := by decide +kernel
theorem dX6_sheet_30 : decode cX6_sheet 30 = .ok (.ldc 50, 2) := by decide +kernel
theorem dX6_sheet_32 : decode cX6_sheet 32 = .ok (.invokevirtual 101, 3) := by decide +kernel
theorem dX6_sheet_35 : decode cX6_sheet 35 = .ok (.ireturn, 1) := by decide +kernel
theorem dX6_sheet_36 : decode cX6_sheet 36 = .ok (.iload_n 3, 1) := by decide +kernel
theorem dX6_sheet_37 : decode cX6_sheet 37 = .ok (.ifCond .ge 11, 3) := by decide +kernel
theorem dX6_sheet_40 : decode cX6_sheet 40 = .ok (.aload_n 0, 1) := by decide +kernel
theorem dX6_sheet_41 : decode cX6_sheet 41 = .ok (.ldc_w 316, 3) := by decide +kernel
theorem dX6_sheet_44 : decode cX6_sheet 44 = .ok (.invokevirtual 101, 3) := by decide +kernel
theorem dX6_sheet_47 : decode cX6_sheet 47 = .ok (.ireturn, 1) := by decide +kernel
theorem dX6_sheet_48 : decode cX6_sheet 48 = .ok (.iload_n 3, 1) := by decide +kernel
theorem dX6_sheet_49 : decode cX6_sheet 49 = .ok (.bipush 40, 2) := by decide +kernel
theorem dX6_sheet_51 : decode cX6_sheet 51 = .ok (.if_icmp .le 10, 3) := by decide +kernel
theorem dX6_sheet_54 : decode cX6_sheet 54 = .ok (.aload_n 0, 1) := by decide +kernel
theorem dX6_sheet_55 : decode cX6_sheet 55 = .ok (.ldc 50, 2) := by decide +kernel
theorem dX6_sheet_57 : decode cX6_sheet 57 = .ok (.invokevirtual 101, 3) := by decide +kernel
theorem dX6_sheet_60 : decode cX6_sheet 60 = .ok (.ireturn, 1) := by decide +kernel
theorem dX6_sheet_61 : decode cX6_sheet 61 = .ok (.aload_n 0, 1) := by decide +kernel
theorem dX6_sheet_62 : decode cX6_sheet 62 = .ok (.getfield 37, 3) := by decide +kernel
theorem dX6_sheet_65 : decode cX6_sheet 65 = .ok (.iload_n 1, 1) := by decide +kernel
theorem dX6_sheet_66 : decode cX6_sheet 66 = .ok (.iload_n 2, 1) := by decide +kernel
theorem dX6_sheet_67 : decode cX6_sheet 67 = .ok (.iastore, 1) := by decide +kernel
theorem dX6_sheet_68 : decode cX6_sheet 68 = .ok (.aload_n 0, 1) := by decide +kernel
theorem dX6_sheet_69 : decode cX6_sheet 69 = .ok (.getfield 40, 3) := by decide +kernel
theorem dX6_sheet_72 : decode cX6_sheet 72 = .ok (.iload_n 1, 1) := by decide +kernel
theorem dX6_sheet_73 : decode cX6_sheet 73 = .ok (.iload_n 2, 1) := by decide +kernel
theorem dX6_sheet_74 : decode cX6_sheet 74 = .ok (.ifCond .ne 7, 3) := by decide +kernel
theorem dX6_sheet_77 : decode cX6_sheet 77 = .ok (.iconst 0, 1) := by decide +kernel
theorem dX6_sheet_78 : decode cX6_sheet 78 = .ok (.goto 4, 3) := by decide +kernel
theorem dX6_sheet_81 : decode cX6_sheet 81 = .ok (.iload_n 3, 1) := by decide +kernel
theorem dX6_sheet_82 : decode cX6_sheet 82 = .ok (.iastore, 1) := by decide +kernel
theorem dX6_sheet_83 : decode cX6_sheet 83 = .ok (.iconst 0, 1) := by decide +kernel
theorem dX6_sheet_84 : decode cX6_sheet 84 = .ok (.istore 4, 2) := by decide +kernel
theorem dX6_sheet_86 : decode cX6_sheet 86 = .ok (.iload 4, 2) := by decide +kernel
theorem dX6_sheet_88 : decode cX6_sheet 88 = .ok (.bipush 40, 2) := by decide +kernel
theorem dX6_sheet_90 : decode cX6_sheet 90 = .ok (.if_icmp .ge 22, 3) := by decide +kernel
theorem dX6_sheet_93 : decode cX6_sheet 93 = .ok (.aload_n 0, 1) := by decide +kernel
theorem dX6_sheet_94 : decode cX6_sheet 94 = .ok (.getfield 43, 3) := by decide +kernel
theorem dX6_sheet_97 : decode cX6_sheet 97 = .ok (.bipush 40, 2) := by decide +kernel
theorem dX6_sheet_99 : decode cX6_sheet 99 = .ok (.iload_n 1, 1) := by decide +kernel
theorem dX6_sheet_100 : decode cX6_sheet 100 = .ok (.imul, 1) := by decide +kernel
theorem dX6_sheet_101 : decode cX6_sheet 101 = .ok (.iload 4, 2) := by decide +kernel
theorem dX6_sheet_103 : decode cX6_sheet 103 = .ok (.iadd, 1) := by decide +kernel
theorem dX6_sheet_104 : decode cX6_sheet 104 = .ok (.lconst 0, 1) := by decide +kernel
theorem dX6_sheet_105 : decode cX6_sheet 105 = .ok (.lastore, 1) := by decide +kernel
theorem dX6_sheet_106 : decode cX6_sheet 106 = .ok (.iinc 4 1, 3) := by decide +kernel
theorem dX6_sheet_109 : decode cX6_sheet 109 = .ok (.goto (-23), 3) := by decide +kernel
theorem dX6_sheet_112 : decode cX6_sheet 112 = .ok (.aload_n 0, 1) := by decide +kernel
theorem dX6_sheet_113 : decode cX6_sheet 113 = .ok (.getfield 40, 3) := by decide +kernel
theorem dX6_sheet_116 : decode cX6_sheet 116 = .ok (.iload_n 1, 1) := by decide +kernel
theorem dX6_sheet_117 : decode cX6_sheet 117 = .ok (.iaload, 1) := by decide +kernel
theorem dX6_sheet_118 : decode cX6_sheet 118 = .ok (.ireturn, 1) := by decide +kernel
theorem dX6_narrowed_0 : decode cX6_narrowed 0 = .ok (.iload_n 0, 1) := by decide +kernel
theorem dX6_narrowed_1 : decode cX6_narrowed 1 = .ok (.bipush 8, 2) := by decide +kernel
theorem dX6_narrowed_3 : decode cX6_narrowed 3 = .ok (.if_icmp .ne 10, 3) := by decide +kernel
theorem dX6_narrowed_6 : decode cX6_narrowed 6 = .ok (.lload_n 1, 1) := by decide +kernel
theorem dX6_narrowed_7 : decode cX6_narrowed 7 = .ok (.l2i, 1) := by decide +kernel
theorem dX6_narrowed_8 : decode cX6_narrowed 8 = .ok (.i2b, 1) := by decide +kernel
theorem dX6_narrowed_9 : decode cX6_narrowed 9 = .ok (.i2l, 1) := by decide +kernel
theorem dX6_narrowed_10 : decode cX6_narrowed 10 = .ok (.goto 17, 3) := by decide +kernel
theorem dX6_narrowed_13 : decode cX6_narrowed 13 = .ok (.iload_n 0, 1) := by decide +kernel
theorem dX6_narrowed_14 : decode cX6_narrowed 14 = .ok (.bipush 16, 2) := by decide +kernel
theorem dX6_narrowed_16 : decode cX6_narrowed 16 = .ok (.if_icmp .ne 10, 3) := by decide +kernel
theorem dX6_narrowed_19 : decode cX6_narrowed 19 = .ok (.lload_n 1, 1) := by decide +kernel
theorem dX6_narrowed_20 : decode cX6_narrowed 20 = .ok (.l2i, 1) := by decide +kernel
theorem dX6_narrowed_21 : decode cX6_narrowed 21 = .ok (.i2s, 1) := by decide +kernel
theorem dX6_narrowed_22 : decode cX6_narrowed 22 = .ok (.i2l, 1) := by decide +kernel
theorem dX6_narrowed_23 : decode cX6_narrowed 23 = .ok (.goto 4, 3) := by decide +kernel
theorem dX6_narrowed_26 : decode cX6_narrowed 26 = .ok (.lload_n 1, 1) := by decide +kernel
theorem dX6_narrowed_27 : decode cX6_narrowed 27 = .ok (.lreturn, 1) := by decide +kernel
theorem dX6_wrongSheet_0 : decode cX6_wrongSheet 0 = .ok (.iload_n 1, 1) := by decide +kernel
theorem dX6_wrongSheet_1 : decode cX6_wrongSheet 1 = .ok (.invokestatic 313, 3) := by decide +kernel
theorem dX6_wrongSheet_4 : decode cX6_wrongSheet 4 = .ok (.ifCond .ne 8, 3) := by decide +kernel
theorem dX6_wrongSheet_7 : decode cX6_wrongSheet 7 = .ok (.ldc 50, 2) := by decide +kernel
theorem dX6_wrongSheet_9 : decode cX6_wrongSheet 9 = .ok (.goto 19, 3) := by decide +kernel
theorem dX6_wrongSheet_12 : decode cX6_wrongSheet 12 = .ok (.aload_n 0, 1) := by decide +kernel
theorem dX6_wrongSheet_13 : decode cX6_wrongSheet 13 = .ok (.getfield 37, 3) := by decide +kernel
theorem dX6_wrongSheet_16 : decode cX6_wrongSheet 16 = .ok (.iload_n 1, 1) := by decide +kernel
theorem dX6_wrongSheet_17 : decode cX6_wrongSheet 17 = .ok (.iaload, 1) := by decide +kernel
theorem dX6_wrongSheet_18 : decode cX6_wrongSheet 18 = .ok (.ifCond .ne 9, 3) := by decide +kernel
theorem dX6_wrongSheet_21 : decode cX6_wrongSheet 21 = .ok (.ldc_w 317, 3) := by decide +kernel
theorem dX6_wrongSheet_24 : decode cX6_wrongSheet 24 = .ok (.goto 4, 3) := by decide +kernel
theorem dX6_wrongSheet_27 : decode cX6_wrongSheet 27 = .ok (.iconst 0, 1) := by decide +kernel
theorem dX6_wrongSheet_28 : decode cX6_wrongSheet 28 = .ok (.ireturn, 1) := by decide +kernel
theorem dX6_write_0 : decode cX6_write 0 = .ok (.aload_n 0, 1) := by decide +kernel
theorem dX6_write_1 : decode cX6_write 1 = .ok (.iload_n 1, 1) := by decide +kernel
theorem dX6_write_2 : decode cX6_write 2 = .ok (.invokevirtual 318, 3) := by decide +kernel
theorem dX6_write_5 : decode cX6_write 5 = .ok (.istore 5, 2) := by decide +kernel
theorem dX6_write_7 : decode cX6_write 7 = .ok (.iload 5, 2) := by decide +kernel
theorem dX6_write_9 : decode cX6_write 9 = .ok (.ifCond .eq 11, 3) := by decide +kernel
theorem dX6_write_12 : decode cX6_write 12 = .ok (.aload_n 0, 1) := by decide +kernel
theorem dX6_write_13 : decode cX6_write 13 = .ok (.iload 5, 2) := by decide +kernel
theorem dX6_write_15 : decode cX6_write 15 = .ok (.invokevirtual 101, 3) := by decide +kernel
theorem dX6_write_18 : decode cX6_write 18 = .ok (.i2l, 1) := by decide +kernel
theorem dX6_write_19 : decode cX6_write 19 = .ok (.lreturn, 1) := by decide +kernel
theorem dX6_write_20 : decode cX6_write 20 = .ok (.iload_n 2, 1) := by decide +kernel
theorem dX6_write_21 : decode cX6_write 21 = .ok (.i2l, 1) := by decide +kernel
theorem dX6_write_22 : decode cX6_write 22 = .ok (.lconst 0, 1) := by decide +kernel
theorem dX6_write_23 : decode cX6_write 23 = .ok (.aload_n 0, 1) := by decide +kernel
theorem dX6_write_24 : decode cX6_write 24 = .ok (.getfield 40, 3) := by decide +kernel
theorem dX6_write_27 : decode cX6_write 27 = .ok (.iload_n 1, 1) := by decide +kernel
theorem dX6_write_28 : decode cX6_write 28 = .ok (.iaload, 1) := by decide +kernel
theorem dX6_write_29 : decode cX6_write 29 = .ok (.iconst 1, 1) := by decide +kernel
theorem dX6_write_30 : decode cX6_write 30 = .ok (.isub, 1) := by decide +kernel
theorem dX6_write_31 : decode cX6_write 31 = .ok (.i2l, 1) := by decide +kernel
theorem dX6_write_32 : decode cX6_write 32 = .ok (.invokestatic 53, 3) := by decide +kernel
theorem dX6_write_35 : decode cX6_write 35 = .ok (.ifCond .ne 11, 3) := by decide +kernel
theorem dX6_write_38 : decode cX6_write 38 = .ok (.aload_n 0, 1) := by decide +kernel
theorem dX6_write_39 : decode cX6_write 39 = .ok (.ldc 50, 2) := by decide +kernel
theorem dX6_write_41 : decode cX6_write 41 = .ok (.invokevirtual 101, 3) := by decide +kernel
theorem dX6_write_44 : decode cX6_write 44 = .ok (.i2l, 1) := by decide +kernel
theorem dX6_write_45 : decode cX6_write 45 = .ok (.lreturn, 1) := by decide +kernel
theorem dX6_write_46 : decode cX6_write 46 = .ok (.aload_n 0, 1) := by decide +kernel
theorem dX6_write_47 : decode cX6_write 47 = .ok (.getfield 43, 3) := by decide +kernel
theorem dX6_write_50 : decode cX6_write 50 = .ok (.bipush 40, 2) := by decide +kernel
theorem dX6_write_52 : decode cX6_write 52 = .ok (.iload_n 1, 1) := by decide +kernel
theorem dX6_write_53 : decode cX6_write 53 = .ok (.imul, 1) := by decide +kernel
theorem dX6_write_54 : decode cX6_write 54 = .ok (.iload_n 2, 1) := by decide +kernel
theorem dX6_write_55 : decode cX6_write 55 = .ok (.iadd, 1) := by decide +kernel
theorem dX6_write_56 : decode cX6_write 56 = .ok (.laload, 1) := by decide +kernel
theorem dX6_write_57 : decode cX6_write 57 = .ok (.lstore 6, 2) := by decide +kernel
theorem dX6_write_59 : decode cX6_write 59 = .ok (.aload_n 0, 1) := by decide +kernel
theorem dX6_write_60 : decode cX6_write 60 = .ok (.getfield 43, 3) := by decide +kernel
theorem dX6_write_63 : decode cX6_write 63 = .ok (.bipush 40, 2) := by decide +kernel
theorem dX6_write_65 : decode cX6_write 65 = .ok (.iload_n 1, 1) := by decide +kernel
theorem dX6_write_66 : decode cX6_write 66 = .ok (.imul, 1) := by decide +kernel
theorem dX6_write_67 : decode cX6_write 67 = .ok (.iload_n 2, 1) := by decide +kernel
theorem dX6_write_68 : decode cX6_write 68 = .ok (.iadd, 1) := by decide +kernel
theorem dX6_write_69 : decode cX6_write 69 = .ok (.aload_n 0, 1) := by decide +kernel
theorem dX6_write_70 : decode cX6_write 70 = .ok (.getfield 37, 3) := by decide +kernel
theorem dX6_write_73 : decode cX6_write 73 = .ok (.iload_n 1, 1) := by decide +kernel
theorem dX6_write_74 : decode cX6_write 74 = .ok (.iaload, 1) := by decide +kernel
theorem dX6_write_75 : decode cX6_write 75 = .ok (.lload_n 3, 1) := by decide +kernel
theorem dX6_write_76 : decode cX6_write 76 = .ok (.invokestatic 321, 3) := by decide +kernel
theorem dX6_write_79 : decode cX6_write 79 = .ok (.lastore, 1) := by decide +kernel
theorem dX6_write_80 : decode cX6_write 80 = .ok (.lload 6, 2) := by decide +kernel
theorem dX6_write_82 : decode cX6_write 82 = .ok (.lreturn, 1) := by decide +kernel
theorem dX6_copy_0 : decode cX6_copy 0 = .ok (.iload_n 1, 1) := by decide +kernel
theorem dX6_copy_1 : decode cX6_copy 1 = .ok (.invokestatic 313, 3) := by decide +kernel
theorem dX6_copy_4 : decode cX6_copy 4 = .ok (.ifCond .eq 10, 3) := by decide +kernel
theorem dX6_copy_7 : decode cX6_copy 7 = .ok (.iload_n 3, 1) := by decide +kernel
theorem dX6_copy_8 : decode cX6_copy 8 = .ok (.invokestatic 313, 3) := by decide +kernel
theorem dX6_copy_11 : decode cX6_copy 11 = .ok (.ifCond .ne 10, 3) := by decide +kernel
theorem dX6_copy_14 : decode cX6_copy 14 = .ok (.aload_n 0, 1) := by decide +kernel
theorem dX6_copy_15 : decode cX6_copy 15 = .ok (.ldc 50, 2) := by decide +kernel
theorem dX6_copy_17 : decode cX6_copy 17 = .ok (.invokevirtual 101, 3) := by decide +kernel
theorem dX6_copy_20 : decode cX6_copy 20 = .ok (.ireturn, 1) := by decide +kernel
theorem dX6_copy_21 : decode cX6_copy 21 = .ok (.aload_n 0, 1) := by decide +kernel
theorem dX6_copy_22 : decode cX6_copy 22 = .ok (.getfield 37, 3) := by decide +kernel
theorem dX6_copy_25 : decode cX6_copy 25 = .ok (.iload_n 1, 1) := by decide +kernel
theorem dX6_copy_26 : decode cX6_copy 26 = .ok (.iaload, 1) := by decide +kernel
theorem dX6_copy_27 : decode cX6_copy 27 = .ok (.ifCond .eq 12, 3) := by decide +kernel
theorem dX6_copy_30 : decode cX6_copy 30 = .ok (.aload_n 0, 1) := by decide +kernel
theorem dX6_copy_31 : decode cX6_copy 31 = .ok (.getfield 37, 3) := by decide +kernel
theorem dX6_copy_34 : decode cX6_copy 34 = .ok (.iload_n 3, 1) := by decide +kernel
theorem dX6_copy_35 : decode cX6_copy 35 = .ok (.iaload, 1) := by decide +kernel
theorem dX6_copy_36 : decode cX6_copy 36 = .ok (.ifCond .ne 11, 3) := by decide +kernel
theorem dX6_copy_39 : decode cX6_copy 39 = .ok (.aload_n 0, 1) := by decide +kernel
theorem dX6_copy_40 : decode cX6_copy 40 = .ok (.ldc_w 317, 3) := by decide +kernel
theorem dX6_copy_43 : decode cX6_copy 43 = .ok (.invokevirtual 101, 3) := by decide +kernel
theorem dX6_copy_46 : decode cX6_copy 46 = .ok (.ireturn, 1) := by decide +kernel
theorem dX6_copy_47 : decode cX6_copy 47 = .ok (.aload_n 0, 1) := by decide +kernel
theorem dX6_copy_48 : decode cX6_copy 48 = .ok (.getfield 37, 3) := by decide +kernel
theorem dX6_copy_51 : decode cX6_copy 51 = .ok (.iload_n 1, 1) := by decide +kernel
theorem dX6_copy_52 : decode cX6_copy 52 = .ok (.iaload, 1) := by decide +kernel
theorem dX6_copy_53 : decode cX6_copy 53 = .ok (.aload_n 0, 1) := by decide +kernel
theorem dX6_copy_54 : decode cX6_copy 54 = .ok (.getfield 37, 3) := by decide +kernel
theorem dX6_copy_57 : decode cX6_copy 57 = .ok (.iload_n 3, 1) := by decide +kernel
theorem dX6_copy_58 : decode cX6_copy 58 = .ok (.iaload, 1) := by decide +kernel
theorem dX6_copy_59 : decode cX6_copy 59 = .ok (.if_icmp .eq 10, 3) := by decide +kernel
theorem dX6_copy_62 : decode cX6_copy 62 = .ok (.aload_n 0, 1) := by decide +kernel
theorem dX6_copy_63 : decode cX6_copy 63 = .ok (.ldc 139, 2) := by decide +kernel
theorem dX6_copy_65 : decode cX6_copy 65 = .ok (.invokevirtual 101, 3) := by decide +kernel
theorem dX6_copy_68 : decode cX6_copy 68 = .ok (.ireturn, 1) := by decide +kernel
theorem dX6_copy_69 : decode cX6_copy 69 = .ok (.iload_n 2, 1) := by decide +kernel
theorem dX6_copy_70 : decode cX6_copy 70 = .ok (.ifCond .lt 40, 3) := by decide +kernel
theorem dX6_copy_73 : decode cX6_copy 73 = .ok (.iload 4, 2) := by decide +kernel
theorem dX6_copy_75 : decode cX6_copy 75 = .ok (.ifCond .lt 35, 3) := by decide +kernel
theorem dX6_copy_78 : decode cX6_copy 78 = .ok (.iload 5, 2) := by decide +kernel
theorem dX6_copy_80 : decode cX6_copy 80 = .ok (.ifCond .lt 30, 3) := by decide +kernel
theorem dX6_copy_83 : decode cX6_copy 83 = .ok (.iload 5, 2) := by decide +kernel
theorem dX6_copy_85 : decode cX6_copy 85 = .ok (.aload_n 0, 1) := by decide +kernel
theorem dX6_copy_86 : decode cX6_copy 86 = .ok (.getfield 40, 3) := by decide +kernel
theorem dX6_copy_89 : decode cX6_copy 89 = .ok (.iload_n 1, 1) := by decide +kernel
theorem dX6_copy_90 : decode cX6_copy 90 = .ok (.iaload, 1) := by decide +kernel
theorem dX6_copy_91 : decode cX6_copy 91 = .ok (.iload_n 2, 1) := by decide +kernel
theorem dX6_copy_92 : decode cX6_copy 92 = .ok (.isub, 1) := by decide +kernel
theorem dX6_copy_93 : decode cX6_copy 93 = .ok (.if_icmp .gt 17, 3) := by decide +kernel
theorem dX6_copy_96 : decode cX6_copy 96 = .ok (.iload 5, 2) := by decide +kernel
theorem dX6_copy_98 : decode cX6_copy 98 = .ok (.aload_n 0, 1) := by decide +kernel
theorem dX6_copy_99 : decode cX6_copy 99 = .ok (.getfield 40, 3) := by decide +kernel
theorem dX6_copy_102 : decode cX6_copy 102 = .ok (.iload_n 3, 1) := by decide +kernel
theorem dX6_copy_103 : decode cX6_copy 103 = .ok (.iaload, 1) := by decide +kernel
theorem dX6_copy_104 : decode cX6_copy 104 = .ok (.iload 4, 2) := by decide +kernel
theorem dX6_copy_106 : decode cX6_copy 106 = .ok (.isub, 1) := by decide +kernel
theorem dX6_copy_107 : decode cX6_copy 107 = .ok (.if_icmp .le 10, 3) := by decide +kernel
theorem dX6_copy_110 : decode cX6_copy 110 = .ok (.aload_n 0, 1) := by decide +kernel
theorem dX6_copy_111 : decode cX6_copy 111 = .ok (.ldc 50, 2) := by decide +kernel
theorem dX6_copy_113 : decode cX6_copy 113 = .ok (.invokevirtual 101, 3) := by decide +kernel
theorem dX6_copy_116 : decode cX6_copy 116 = .ok (.ireturn, 1) := by decide +kernel
theorem dX6_copy_117 : decode cX6_copy 117 = .ok (.iconst 0, 1) := by decide +kernel
theorem dX6_copy_118 : decode cX6_copy 118 = .ok (.istore 6, 2) := by decide +kernel
theorem dX6_copy_120 : decode cX6_copy 120 = .ok (.iload 6, 2) := by decide +kernel
theorem dX6_copy_122 : decode cX6_copy 122 = .ok (.iload 5, 2) := by decide +kernel
theorem dX6_copy_124 : decode cX6_copy 124 = .ok (.if_icmp .ge 30, 3) := by decide +kernel
theorem dX6_copy_127 : decode cX6_copy 127 = .ok (.aload_n 0, 1) := by decide +kernel
theorem dX6_copy_128 : decode cX6_copy 128 = .ok (.getfield 47, 3) := by decide +kernel
theorem dX6_copy_131 : decode cX6_copy 131 = .ok (.iload 6, 2) := by decide +kernel
theorem dX6_copy_133 : decode cX6_copy 133 = .ok (.aload_n 0, 1) := by decide +kernel
theorem dX6_copy_134 : decode cX6_copy 134 = .ok (.getfield 43, 3) := by decide +kernel
theorem dX6_copy_137 : decode cX6_copy 137 = .ok (.bipush 40, 2) := by decide +kernel
theorem dX6_copy_139 : decode cX6_copy 139 = .ok (.iload_n 1, 1) := by decide +kernel
theorem dX6_copy_140 : decode cX6_copy 140 = .ok (.imul, 1) := by decide +kernel
theorem dX6_copy_141 : decode cX6_copy 141 = .ok (.iload_n 2, 1) := by decide +kernel
theorem dX6_copy_142 : decode cX6_copy 142 = .ok (.iadd, 1) := by decide +kernel
theorem dX6_copy_143 : decode cX6_copy 143 = .ok (.iload 6, 2) := by decide +kernel
theorem dX6_copy_145 : decode cX6_copy 145 = .ok (.iadd, 1) := by decide +kernel
theorem dX6_copy_146 : decode cX6_copy 146 = .ok (.laload, 1) := by decide +kernel
theorem dX6_copy_147 : decode cX6_copy 147 = .ok (.lastore, 1) := by decide +kernel
theorem dX6_copy_148 : decode cX6_copy 148 = .ok (.iinc 6 1, 3) := by decide +kernel
theorem dX6_copy_151 : decode cX6_copy 151 = .ok (.goto (-31), 3) := by decide +kernel
theorem dX6_copy_154 : decode cX6_copy 154 = .ok (.iconst 0, 1) := by decide +kernel
theorem dX6_copy_155 : decode cX6_copy 155 = .ok (.istore 6, 2) := by decide +kernel
theorem dX6_copy_157 : decode cX6_copy 157 = .ok (.iload 6, 2) := by decide +kernel
theorem dX6_copy_159 : decode cX6_copy 159 = .ok (.iload 5, 2) := by decide +kernel
theorem dX6_copy_161 : decode cX6_copy 161 = .ok (.if_icmp .ge 31, 3) := by decide +kernel
theorem dX6_copy_164 : decode cX6_copy 164 = .ok (.aload_n 0, 1) := by decide +kernel
theorem dX6_copy_165 : decode cX6_copy 165 = .ok (.getfield 43, 3) := by decide +kernel
theorem dX6_copy_168 : decode cX6_copy 168 = .ok (.bipush 40, 2) := by decide +kernel
theorem dX6_copy_170 : decode cX6_copy 170 = .ok (.iload_n 3, 1) := by decide +kernel
theorem dX6_copy_171 : decode cX6_copy 171 = .ok (.imul, 1) := by decide +kernel
theorem dX6_copy_172 : decode cX6_copy 172 = .ok (.iload 4, 2) := by decide +kernel
theorem dX6_copy_174 : decode cX6_copy 174 = .ok (.iadd, 1) := by decide +kernel
theorem dX6_copy_175 : decode cX6_copy 175 = .ok (.iload 6, 2) := by decide +kernel
theorem dX6_copy_177 : decode cX6_copy 177 = .ok (.iadd, 1) := by decide +kernel
theorem dX6_copy_178 : decode cX6_copy 178 = .ok (.aload_n 0, 1) := by decide +kernel
theorem dX6_copy_179 : decode cX6_copy 179 = .ok (.getfield 47, 3) := by decide +kernel
theorem dX6_copy_182 : decode cX6_copy 182 = .ok (.iload 6, 2) := by decide +kernel
theorem dX6_copy_184 : decode cX6_copy 184 = .ok (.laload, 1) := by decide +kernel
theorem dX6_copy_185 : decode cX6_copy 185 = .ok (.lastore, 1) := by decide +kernel
theorem dX6_copy_186 : decode cX6_copy 186 = .ok (.iinc 6 1, 3) := by decide +kernel
theorem dX6_copy_189 : decode cX6_copy 189 = .ok (.goto (-32), 3) := by decide +kernel
theorem dX6_copy_192 : decode cX6_copy 192 = .ok (.iload 5, 2) := by decide +kernel
theorem dX6_copy_194 : decode cX6_copy 194 = .ok (.ireturn, 1) := by decide +kernel
theorem dX6_lays_0 : decode cX6_lays 0 = .ok (.aload_n 0, 1) := by decide +kernel
theorem dX6_lays_1 : decode cX6_lays 1 = .ok (.iload_n 1, 1) := by decide +kernel
theorem dX6_lays_2 : decode cX6_lays 2 = .ok (.invokevirtual 318, 3) := by decide +kernel
theorem dX6_lays_5 : decode cX6_lays 5 = .ok (.istore_n 2, 1) := by decide +kernel
theorem dX6_lays_6 : decode cX6_lays 6 = .ok (.iload_n 2, 1) := by decide +kernel
theorem dX6_lays_7 : decode cX6_lays 7 = .ok (.ifCond .eq 9, 3) := by decide +kernel
theorem dX6_lays_10 : decode cX6_lays 10 = .ok (.aload_n 0, 1) := by decide +kernel
theorem dX6_lays_11 : decode cX6_lays 11 = .ok (.iload_n 2, 1) := by decide +kernel
theorem dX6_lays_12 : decode cX6_lays 12 = .ok (.invokevirtual 101, 3) := by decide +kernel
theorem dX6_lays_15 : decode cX6_lays 15 = .ok (.ireturn, 1) := by decide +kernel
theorem dX6_lays_16 : decode cX6_lays 16 = .ok (.iconst 0, 1) := by decide +kernel
theorem dX6_lays_17 : decode cX6_lays 17 = .ok (.istore_n 3, 1) := by decide +kernel
theorem dX6_lays_18 : decode cX6_lays 18 = .ok (.iconst 0, 1) := by decide +kernel
theorem dX6_lays_19 : decode cX6_lays 19 = .ok (.istore 4, 2) := by decide +kernel
theorem dX6_lays_21 : decode cX6_lays 21 = .ok (.iload 4, 2) := by decide +kernel
theorem dX6_lays_23 : decode cX6_lays 23 = .ok (.aload_n 0, 1) := by decide +kernel
theorem dX6_lays_24 : decode cX6_lays 24 = .ok (.getfield 40, 3) := by decide +kernel
theorem dX6_lays_27 : decode cX6_lays 27 = .ok (.iload_n 1, 1) := by decide +kernel
theorem dX6_lays_28 : decode cX6_lays 28 = .ok (.iaload, 1) := by decide +kernel
theorem dX6_lays_29 : decode cX6_lays 29 = .ok (.if_icmp .ge 82, 3) := by decide +kernel
theorem dX6_lays_32 : decode cX6_lays 32 = .ok (.aload_n 0, 1) := by decide +kernel
theorem dX6_lays_33 : decode cX6_lays 33 = .ok (.getfield 43, 3) := by decide +kernel
theorem dX6_lays_36 : decode cX6_lays 36 = .ok (.bipush 40, 2) := by decide +kernel
theorem dX6_lays_38 : decode cX6_lays 38 = .ok (.iload_n 1, 1) := by decide +kernel
theorem dX6_lays_39 : decode cX6_lays 39 = .ok (.imul, 1) := by decide +kernel
theorem dX6_lays_40 : decode cX6_lays 40 = .ok (.iload 4, 2) := by decide +kernel
theorem dX6_lays_42 : decode cX6_lays 42 = .ok (.iadd, 1) := by decide +kernel
theorem dX6_lays_43 : decode cX6_lays 43 = .ok (.laload, 1) := by decide +kernel
theorem dX6_lays_44 : decode cX6_lays 44 = .ok (.lconst 0, 1) := by decide +kernel
theorem dX6_lays_45 : decode cX6_lays 45 = .ok (.ldc2_w 96, 3) := by decide +kernel
theorem dX6_lays_48 : decode cX6_lays 48 = .ok (.invokestatic 53, 3) := by decide +kernel
theorem dX6_lays_51 : decode cX6_lays 51 = .ok (.istore 5, 2) := by decide +kernel
theorem dX6_lays_53 : decode cX6_lays 53 = .ok (.aload_n 0, 1) := by decide +kernel
theorem dX6_lays_54 : decode cX6_lays 54 = .ok (.getfield 7, 3) := by decide +kernel
theorem dX6_lays_57 : decode cX6_lays 57 = .ok (.iconst 4, 1) := by decide +kernel
theorem dX6_lays_58 : decode cX6_lays 58 = .ok (.iload 4, 2) := by decide +kernel
theorem dX6_lays_60 : decode cX6_lays 60 = .ok (.iadd, 1) := by decide +kernel
theorem dX6_lays_61 : decode cX6_lays 61 = .ok (.iload 5, 2) := by decide +kernel
theorem dX6_lays_63 : decode cX6_lays 63 = .ok (.ifCond .eq 19, 3) := by decide +kernel
theorem dX6_lays_66 : decode cX6_lays 66 = .ok (.aload_n 0, 1) := by decide +kernel
theorem dX6_lays_67 : decode cX6_lays 67 = .ok (.getfield 43, 3) := by decide +kernel
theorem dX6_lays_70 : decode cX6_lays 70 = .ok (.bipush 40, 2) := by decide +kernel
theorem dX6_lays_72 : decode cX6_lays 72 = .ok (.iload_n 1, 1) := by decide +kernel
theorem dX6_lays_73 : decode cX6_lays 73 = .ok (.imul, 1) := by decide +kernel
theorem dX6_lays_74 : decode cX6_lays 74 = .ok (.iload 4, 2) := by decide +kernel
theorem dX6_lays_76 : decode cX6_lays 76 = .ok (.iadd, 1) := by decide +kernel
theorem dX6_lays_77 : decode cX6_lays 77 = .ok (.laload, 1) := by decide +kernel
theorem dX6_lays_78 : decode cX6_lays 78 = .ok (.l2i, 1) := by decide +kernel
theorem dX6_lays_79 : decode cX6_lays 79 = .ok (.goto 12, 3) := by decide +kernel
theorem dX6_lays_82 : decode cX6_lays 82 = .ok (.aload_n 0, 1) := by decide +kernel
theorem dX6_lays_83 : decode cX6_lays 83 = .ok (.getfield 7, 3) := by decide +kernel
theorem dX6_lays_86 : decode cX6_lays 86 = .ok (.iconst 4, 1) := by decide +kernel
theorem dX6_lays_87 : decode cX6_lays 87 = .ok (.iload 4, 2) := by decide +kernel
theorem dX6_lays_89 : decode cX6_lays 89 = .ok (.iadd, 1) := by decide +kernel
theorem dX6_lays_90 : decode cX6_lays 90 = .ok (.iaload, 1) := by decide +kernel
theorem dX6_lays_91 : decode cX6_lays 91 = .ok (.iastore, 1) := by decide +kernel
theorem dX6_lays_92 : decode cX6_lays 92 = .ok (.iload_n 3, 1) := by decide +kernel
theorem dX6_lays_93 : decode cX6_lays 93 = .ok (.iload 5, 2) := by decide +kernel
theorem dX6_lays_95 : decode cX6_lays 95 = .ok (.ifCond .eq 7, 3) := by decide +kernel
theorem dX6_lays_98 : decode cX6_lays 98 = .ok (.iconst 1, 1) := by decide +kernel
theorem dX6_lays_99 : decode cX6_lays 99 = .ok (.goto 4, 3) := by decide +kernel
theorem dX6_lays_102 : decode cX6_lays 102 = .ok (.iconst 0, 1) := by decide +kernel
theorem dX6_lays_103 : decode cX6_lays 103 = .ok (.iadd, 1) := by decide +kernel
theorem dX6_lays_104 : decode cX6_lays 104 = .ok (.istore_n 3, 1) := by decide +kernel
theorem dX6_lays_105 : decode cX6_lays 105 = .ok (.iinc 4 1, 3) := by decide +kernel
theorem dX6_lays_108 : decode cX6_lays 108 = .ok (.goto (-87), 3) := by decide +kernel
theorem dX6_lays_111 : decode cX6_lays 111 = .ok (.iload_n 3, 1) := by decide +kernel
theorem dX6_lays_112 : decode cX6_lays 112 = .ok (.ireturn, 1) := by decide +kernel
theorem dX6_book_0 : decode cX6_book 0 = .ok (.aload_n 0, 1) := by decide +kernel
theorem dX6_book_1 : decode cX6_book 1 = .ok (.iload_n 1, 1) := by decide +kernel
theorem dX6_book_2 : decode cX6_book 2 = .ok (.invokevirtual 318, 3) := by decide +kernel
theorem dX6_book_5 : decode cX6_book 5 = .ok (.istore_n 2, 1) := by decide +kernel
theorem dX6_book_6 : decode cX6_book 6 = .ok (.iload_n 2, 1) := by decide +kernel
theorem dX6_book_7 : decode cX6_book 7 = .ok (.ifCond .eq 9, 3) := by decide +kernel
theorem dX6_book_10 : decode cX6_book 10 = .ok (.aload_n 0, 1) := by decide +kernel
theorem dX6_book_11 : decode cX6_book 11 = .ok (.iload_n 2, 1) := by decide +kernel
theorem dX6_book_12 : decode cX6_book 12 = .ok (.invokevirtual 101, 3) := by decide +kernel
theorem dX6_book_15 : decode cX6_book 15 = .ok (.ireturn, 1) := by decide +kernel
theorem dX6_book_16 : decode cX6_book 16 = .ok (.aload_n 0, 1) := by decide +kernel
theorem dX6_book_17 : decode cX6_book 17 = .ok (.invokevirtual 184, 3) := by decide +kernel
theorem dX6_book_20 : decode cX6_book 20 = .ok (.iconst 0, 1) := by decide +kernel
theorem dX6_book_21 : decode cX6_book 21 = .ok (.istore_n 3, 1) := by decide +kernel
theorem dX6_book_22 : decode cX6_book 22 = .ok (.iload_n 3, 1) := by decide +kernel
theorem dX6_book_23 : decode cX6_book 23 = .ok (.aload_n 0, 1) := by decide +kernel
theorem dX6_book_24 : decode cX6_book 24 = .ok (.getfield 40, 3) := by decide +kernel
theorem dX6_book_27 : decode cX6_book 27 = .ok (.iload_n 1, 1) := by decide +kernel
theorem dX6_book_28 : decode cX6_book 28 = .ok (.iaload, 1) := by decide +kernel
theorem dX6_book_29 : decode cX6_book 29 = .ok (.if_icmp .ge 40, 3) := by decide +kernel
theorem dX6_book_32 : decode cX6_book 32 = .ok (.aload_n 0, 1) := by decide +kernel
theorem dX6_book_33 : decode cX6_book 33 = .ok (.getfield 43, 3) := by decide +kernel
theorem dX6_book_36 : decode cX6_book 36 = .ok (.bipush 40, 2) := by decide +kernel
theorem dX6_book_38 : decode cX6_book 38 = .ok (.iload_n 1, 1) := by decide +kernel
theorem dX6_book_39 : decode cX6_book 39 = .ok (.imul, 1) := by decide +kernel
theorem dX6_book_40 : decode cX6_book 40 = .ok (.iload_n 3, 1) := by decide +kernel
theorem dX6_book_41 : decode cX6_book 41 = .ok (.iadd, 1) := by decide +kernel
theorem dX6_book_42 : decode cX6_book 42 = .ok (.aload_n 0, 1) := by decide +kernel
theorem dX6_book_43 : decode cX6_book 43 = .ok (.getfield 37, 3) := by decide +kernel
theorem dX6_book_46 : decode cX6_book 46 = .ok (.iload_n 1, 1) := by decide +kernel
theorem dX6_book_47 : decode cX6_book 47 = .ok (.iaload, 1) := by decide +kernel
theorem dX6_book_48 : decode cX6_book 48 = .ok (.aload_n 0, 1) := by decide +kernel
theorem dX6_book_49 : decode cX6_book 49 = .ok (.invokevirtual 172, 3) := by decide +kernel
theorem dX6_book_52 : decode cX6_book 52 = .ok (.i2l, 1) := by decide +kernel
theorem dX6_book_53 : decode cX6_book 53 = .ok (.invokestatic 321, 3) := by decide +kernel
theorem dX6_book_56 : decode cX6_book 56 = .ok (.lastore, 1) := by decide +kernel
theorem dX6_book_57 : decode cX6_book 57 = .ok (.aload_n 0, 1) := by decide +kernel
theorem dX6_book_58 : decode cX6_book 58 = .ok (.invokevirtual 163, 3) := by decide +kernel
theorem dX6_book_61 : decode cX6_book 61 = .ok (.istore 4, 2) := by decide +kernel
theorem dX6_book_63 : decode cX6_book 63 = .ok (.iinc 3 1, 3) := by decide +kernel
theorem dX6_book_66 : decode cX6_book 66 = .ok (.goto (-44), 3) := by decide +kernel
theorem dX6_book_69 : decode cX6_book 69 = .ok (.aload_n 0, 1) := by decide +kernel
theorem dX6_book_70 : decode cX6_book 70 = .ok (.aload_n 0, 1) := by decide +kernel
theorem dX6_book_71 : decode cX6_book 71 = .ok (.getfield 40, 3) := by decide +kernel
theorem dX6_book_74 : decode cX6_book 74 = .ok (.iload_n 1, 1) := by decide +kernel
theorem dX6_book_75 : decode cX6_book 75 = .ok (.iaload, 1) := by decide +kernel
theorem dX6_book_76 : decode cX6_book 76 = .ok (.invokevirtual 187, 3) := by decide +kernel
theorem dX6_book_79 : decode cX6_book 79 = .ok (.ireturn, 1) := by decide +kernel
theorem dX6_isBook_0 : decode cX6_isBook 0 = .ok (.iconst 0, 1) := by decide +kernel
theorem dX6_isBook_1 : decode cX6_isBook 1 = .ok (.istore_n 2, 1) := by decide +kernel
theorem dX6_isBook_2 : decode cX6_isBook 2 = .ok (.iload_n 2, 1) := by decide +kernel
theorem dX6_isBook_3 : decode cX6_isBook 3 = .ok (.aload_n 0, 1) := by decide +kernel
theorem dX6_isBook_4 : decode cX6_isBook 4 = .ok (.getfield 40, 3) := by decide +kernel
theorem dX6_isBook_7 : decode cX6_isBook 7 = .ok (.iload_n 1, 1) := by decide +kernel
theorem dX6_isBook_8 : decode cX6_isBook 8 = .ok (.iaload, 1) := by decide +kernel
theorem dX6_isBook_9 : decode cX6_isBook 9 = .ok (.if_icmp .ge 36, 3) := by decide +kernel
theorem dX6_isBook_12 : decode cX6_isBook 12 = .ok (.aload_n 0, 1) := by decide +kernel
theorem dX6_isBook_13 : decode cX6_isBook 13 = .ok (.getfield 43, 3) := by decide +kernel
theorem dX6_isBook_16 : decode cX6_isBook 16 = .ok (.bipush 40, 2) := by decide +kernel
theorem dX6_isBook_18 : decode cX6_isBook 18 = .ok (.iload_n 1, 1) := by decide +kernel
theorem dX6_isBook_19 : decode cX6_isBook 19 = .ok (.imul, 1) := by decide +kernel
theorem dX6_isBook_20 : decode cX6_isBook 20 = .ok (.iload_n 2, 1) := by decide +kernel
theorem dX6_isBook_21 : decode cX6_isBook 21 = .ok (.iadd, 1) := by decide +kernel
theorem dX6_isBook_22 : decode cX6_isBook 22 = .ok (.laload, 1) := by decide +kernel
theorem dX6_isBook_23 : decode cX6_isBook 23 = .ok (.aload_n 0, 1) := by decide +kernel
theorem dX6_isBook_24 : decode cX6_isBook 24 = .ok (.invokevirtual 172, 3) := by decide +kernel
theorem dX6_isBook_27 : decode cX6_isBook 27 = .ok (.i2l, 1) := by decide +kernel
theorem dX6_isBook_28 : decode cX6_isBook 28 = .ok (.lcmp, 1) := by decide +kernel
theorem dX6_isBook_29 : decode cX6_isBook 29 = .ok (.ifCond .eq 5, 3) := by decide +kernel
theorem dX6_isBook_32 : decode cX6_isBook 32 = .ok (.iconst 0, 1) := by decide +kernel
theorem dX6_isBook_33 : decode cX6_isBook 33 = .ok (.ireturn, 1) := by decide +kernel
theorem dX6_isBook_34 : decode cX6_isBook 34 = .ok (.aload_n 0, 1) := by decide +kernel
theorem dX6_isBook_35 : decode cX6_isBook 35 = .ok (.invokevirtual 163, 3) := by decide +kernel
theorem dX6_isBook_38 : decode cX6_isBook 38 = .ok (.istore_n 3, 1) := by decide +kernel
theorem dX6_isBook_39 : decode cX6_isBook 39 = .ok (.iinc 2 1, 3) := by decide +kernel
theorem dX6_isBook_42 : decode cX6_isBook 42 = .ok (.goto (-40), 3) := by decide +kernel
theorem dX6_isBook_45 : decode cX6_isBook 45 = .ok (.iconst 1, 1) := by decide +kernel
theorem dX6_isBook_46 : decode cX6_isBook 46 = .ok (.ireturn, 1) := by decide +kernel
theorem dX6_read_0 : decode cX6_read 0 = .ok (.aload_n 0, 1) := by decide +kernel
theorem dX6_read_1 : decode cX6_read 1 = .ok (.iload_n 1, 1) := by decide +kernel
theorem dX6_read_2 : decode cX6_read 2 = .ok (.invokevirtual 318, 3) := by decide +kernel
theorem dX6_read_5 : decode cX6_read 5 = .ok (.istore_n 3, 1) := by decide +kernel
theorem dX6_read_6 : decode cX6_read 6 = .ok (.iload_n 3, 1) := by decide +kernel
theorem dX6_read_7 : decode cX6_read 7 = .ok (.ifCond .ne 16, 3) := by decide +kernel
theorem dX6_read_10 : decode cX6_read 10 = .ok (.aload_n 0, 1) := by decide +kernel
theorem dX6_read_11 : decode cX6_read 11 = .ok (.iload_n 2, 1) := by decide +kernel
theorem dX6_read_12 : decode cX6_read 12 = .ok (.invokevirtual 143, 3) := by decide +kernel
theorem dX6_read_15 : decode cX6_read 15 = .ok (.ifCond .ne 8, 3) := by decide +kernel
theorem dX6_read_18 : decode cX6_read 18 = .ok (.ldc 50, 2) := by decide +kernel
theorem dX6_read_20 : decode cX6_read 20 = .ok (.goto 4, 3) := by decide +kernel
theorem dX6_read_23 : decode cX6_read 23 = .ok (.iload_n 3, 1) := by decide +kernel
theorem dX6_read_24 : decode cX6_read 24 = .ok (.istore_n 3, 1) := by decide +kernel
theorem dX6_read_25 : decode cX6_read 25 = .ok (.iload_n 3, 1) := by decide +kernel
theorem dX6_read_26 : decode cX6_read 26 = .ok (.ifCond .eq 9, 3) := by decide +kernel
theorem dX6_read_29 : decode cX6_read 29 = .ok (.aload_n 0, 1) := by decide +kernel
theorem dX6_read_30 : decode cX6_read 30 = .ok (.iload_n 3, 1) := by decide +kernel
theorem dX6_read_31 : decode cX6_read 31 = .ok (.invokevirtual 101, 3) := by decide +kernel
theorem dX6_read_34 : decode cX6_read 34 = .ok (.ireturn, 1) := by decide +kernel
theorem dX6_read_35 : decode cX6_read 35 = .ok (.aload_n 0, 1) := by decide +kernel
theorem dX6_read_36 : decode cX6_read 36 = .ok (.invokevirtual 184, 3) := by decide +kernel
theorem dX6_read_39 : decode cX6_read 39 = .ok (.iconst 0, 1) := by decide +kernel
theorem dX6_read_40 : decode cX6_read 40 = .ok (.istore 4, 2) := by decide +kernel
theorem dX6_read_42 : decode cX6_read 42 = .ok (.iconst 0, 1) := by decide +kernel
theorem dX6_read_43 : decode cX6_read 43 = .ok (.istore 5, 2) := by decide +kernel
theorem dX6_read_45 : decode cX6_read 45 = .ok (.iload 5, 2) := by decide +kernel
theorem dX6_read_47 : decode cX6_read 47 = .ok (.aload_n 0, 1) := by decide +kernel
theorem dX6_read_48 : decode cX6_read 48 = .ok (.getfield 7, 3) := by decide +kernel
theorem dX6_read_51 : decode cX6_read 51 = .ok (.iconst 0, 1) := by decide +kernel
theorem dX6_read_52 : decode cX6_read 52 = .ok (.iaload, 1) := by decide +kernel
theorem dX6_read_53 : decode cX6_read 53 = .ok (.bipush 48, 2) := by decide +kernel
theorem dX6_read_55 : decode cX6_read 55 = .ok (.imul, 1) := by decide +kernel
theorem dX6_read_56 : decode cX6_read 56 = .ok (.if_icmp .ge 61, 3) := by decide +kernel
theorem dX6_read_59 : decode cX6_read 59 = .ok (.aload_n 0, 1) := by decide +kernel
theorem dX6_read_60 : decode cX6_read 60 = .ok (.getfield 7, 3) := by decide +kernel
theorem dX6_read_63 : decode cX6_read 63 = .ok (.iload_n 2, 1) := by decide +kernel
theorem dX6_read_64 : decode cX6_read 64 = .ok (.iconst 1, 1) := by decide +kernel
theorem dX6_read_65 : decode cX6_read 65 = .ok (.invokestatic 63, 3) := by decide +kernel
theorem dX6_read_68 : decode cX6_read 68 = .ok (.iload 5, 2) := by decide +kernel
theorem dX6_read_70 : decode cX6_read 70 = .ok (.bipush 48, 2) := by decide +kernel
theorem dX6_read_72 : decode cX6_read 72 = .ok (.idiv, 1) := by decide +kernel
theorem dX6_read_73 : decode cX6_read 73 = .ok (.iastore, 1) := by decide +kernel
theorem dX6_read_74 : decode cX6_read 74 = .ok (.aload_n 0, 1) := by decide +kernel
theorem dX6_read_75 : decode cX6_read 75 = .ok (.getfield 7, 3) := by decide +kernel
theorem dX6_read_78 : decode cX6_read 78 = .ok (.iload_n 2, 1) := by decide +kernel
theorem dX6_read_79 : decode cX6_read 79 = .ok (.iconst 0, 1) := by decide +kernel
theorem dX6_read_80 : decode cX6_read 80 = .ok (.invokestatic 63, 3) := by decide +kernel
theorem dX6_read_83 : decode cX6_read 83 = .ok (.iload 5, 2) := by decide +kernel
theorem dX6_read_85 : decode cX6_read 85 = .ok (.bipush 48, 2) := by decide +kernel
theorem dX6_read_87 : decode cX6_read 87 = .ok (.irem, 1) := by decide +kernel
theorem dX6_read_88 : decode cX6_read 88 = .ok (.iastore, 1) := by decide +kernel
theorem dX6_read_89 : decode cX6_read 89 = .ok (.aload_n 0, 1) := by decide +kernel
theorem dX6_read_90 : decode cX6_read 90 = .ok (.iload 4, 2) := by decide +kernel
theorem dX6_read_92 : decode cX6_read 92 = .ok (.aload_n 0, 1) := by decide +kernel
theorem dX6_read_93 : decode cX6_read 93 = .ok (.iload_n 1, 1) := by decide +kernel
theorem dX6_read_94 : decode cX6_read 94 = .ok (.invokevirtual 325, 3) := by decide +kernel
theorem dX6_read_97 : decode cX6_read 97 = .ok (.ifCond .eq 7, 3) := by decide +kernel
theorem dX6_read_100 : decode cX6_read 100 = .ok (.iconst 1, 1) := by decide +kernel
theorem dX6_read_101 : decode cX6_read 101 = .ok (.goto 4, 3) := by decide +kernel
theorem dX6_read_104 : decode cX6_read 104 = .ok (.iconst 0, 1) := by decide +kernel
theorem dX6_read_105 : decode cX6_read 105 = .ok (.iadd, 1) := by decide +kernel
theorem dX6_read_106 : decode cX6_read 106 = .ok (.invokevirtual 187, 3) := by decide +kernel
theorem dX6_read_109 : decode cX6_read 109 = .ok (.istore 4, 2) := by decide +kernel
theorem dX6_read_111 : decode cX6_read 111 = .ok (.iinc 5 1, 3) := by decide +kernel
theorem dX6_read_114 : decode cX6_read 114 = .ok (.goto (-69), 3) := by decide +kernel
theorem dX6_read_117 : decode cX6_read 117 = .ok (.iload 4, 2) := by decide +kernel
theorem dX6_read_119 : decode cX6_read 119 = .ok (.ireturn, 1) := by decide +kernel
theorem dX6_image_0 : decode cX6_image 0 = .ok (.iconst 0, 1) := by decide +kernel
theorem dX6_image_1 : decode cX6_image 1 = .ok (.istore_n 1, 1) := by decide +kernel
theorem dX6_image_2 : decode cX6_image 2 = .ok (.iload_n 1, 1) := by decide +kernel
theorem dX6_image_3 : decode cX6_image 3 = .ok (.bipush 100, 2) := by decide +kernel
theorem dX6_image_5 : decode cX6_image 5 = .ok (.if_icmp .ge 21, 3) := by decide +kernel
theorem dX6_image_8 : decode cX6_image 8 = .ok (.aload_n 0, 1) := by decide +kernel
theorem dX6_image_9 : decode cX6_image 9 = .ok (.getfield 13, 3) := by decide +kernel
theorem dX6_image_12 : decode cX6_image 12 = .ok (.iload_n 1, 1) := by decide +kernel
theorem dX6_image_13 : decode cX6_image 13 = .ok (.aload_n 0, 1) := by decide +kernel
theorem dX6_image_14 : decode cX6_image 14 = .ok (.getfield 7, 3) := by decide +kernel
theorem dX6_image_17 : decode cX6_image 17 = .ok (.iload_n 1, 1) := by decide +kernel
theorem dX6_image_18 : decode cX6_image 18 = .ok (.iaload, 1) := by decide +kernel
theorem dX6_image_19 : decode cX6_image 19 = .ok (.iastore, 1) := by decide +kernel
theorem dX6_image_20 : decode cX6_image 20 = .ok (.iinc 1 1, 3) := by decide +kernel
theorem dX6_image_23 : decode cX6_image 23 = .ok (.goto (-21), 3) := by decide +kernel
theorem dX6_image_26 : decode cX6_image 26 = .ok (.aload_n 0, 1) := by decide +kernel
theorem dX6_image_27 : decode cX6_image 27 = .ok (.iconst 1, 1) := by decide +kernel
theorem dX6_image_28 : decode cX6_image 28 = .ok (.putfield 328, 3) := by decide +kernel
theorem dX6_image_31 : decode cX6_image 31 = .ok (.iconst 1, 1) := by decide +kernel
theorem dX6_image_32 : decode cX6_image 32 = .ok (.ireturn, 1) := by decide +kernel
theorem dX6_undo_0 : decode cX6_undo 0 = .ok (.aload_n 0, 1) := by decide +kernel
theorem dX6_undo_1 : decode cX6_undo 1 = .ok (.getfield 328, 3) := by decide +kernel
theorem dX6_undo_4 : decode cX6_undo 4 = .ok (.ifCond .ne 10, 3) := by decide +kernel
theorem dX6_undo_7 : decode cX6_undo 7 = .ok (.aload_n 0, 1) := by decide +kernel
theorem dX6_undo_8 : decode cX6_undo 8 = .ok (.ldc 162, 2) := by decide +kernel
theorem dX6_undo_10 : decode cX6_undo 10 = .ok (.invokevirtual 101, 3) := by decide +kernel
theorem dX6_undo_13 : decode cX6_undo 13 = .ok (.ireturn, 1) := by decide +kernel
theorem dX6_undo_14 : decode cX6_undo 14 = .ok (.iconst 0, 1) := by decide +kernel
theorem dX6_undo_15 : decode cX6_undo 15 = .ok (.istore_n 1, 1) := by decide +kernel
theorem dX6_undo_16 : decode cX6_undo 16 = .ok (.iload_n 1, 1) := by decide +kernel
theorem dX6_undo_17 : decode cX6_undo 17 = .ok (.bipush 100, 2) := by decide +kernel
theorem dX6_undo_19 : decode cX6_undo 19 = .ok (.if_icmp .ge 21, 3) := by decide +kernel
theorem dX6_undo_22 : decode cX6_undo 22 = .ok (.aload_n 0, 1) := by decide +kernel
theorem dX6_undo_23 : decode cX6_undo 23 = .ok (.getfield 7, 3) := by decide +kernel
theorem dX6_undo_26 : decode cX6_undo 26 = .ok (.iload_n 1, 1) := by decide +kernel
theorem dX6_undo_27 : decode cX6_undo 27 = .ok (.aload_n 0, 1) := by decide +kernel
theorem dX6_undo_28 : decode cX6_undo 28 = .ok (.getfield 13, 3) := by decide +kernel
theorem dX6_undo_31 : decode cX6_undo 31 = .ok (.iload_n 1, 1) := by decide +kernel
theorem dX6_undo_32 : decode cX6_undo 32 = .ok (.iaload, 1) := by decide +kernel
theorem dX6_undo_33 : decode cX6_undo 33 = .ok (.iastore, 1) := by decide +kernel
theorem dX6_undo_34 : decode cX6_undo 34 = .ok (.iinc 1 1, 3) := by decide +kernel
theorem dX6_undo_37 : decode cX6_undo 37 = .ok (.goto (-21), 3) := by decide +kernel
theorem dX6_undo_40 : decode cX6_undo 40 = .ok (.aload_n 0, 1) := by decide +kernel
theorem dX6_undo_41 : decode cX6_undo 41 = .ok (.getfield 7, 3) := by decide +kernel
theorem dX6_undo_44 : decode cX6_undo 44 = .ok (.iconst 0, 1) := by decide +kernel
theorem dX6_undo_45 : decode cX6_undo 45 = .ok (.iaload, 1) := by decide +kernel
theorem dX6_undo_46 : decode cX6_undo 46 = .ok (.ireturn, 1) := by decide +kernel
theorem dX6_tear_0 : decode cX6_tear 0 = .ok (.aload_n 0, 1) := by decide +kernel
theorem dX6_tear_1 : decode cX6_tear 1 = .ok (.getfield 328, 3) := by decide +kernel
theorem dX6_tear_4 : decode cX6_tear 4 = .ok (.ifCond .eq 7, 3) := by decide +kernel
theorem dX6_tear_7 : decode cX6_tear 7 = .ok (.iconst 1, 1) := by decide +kernel
theorem dX6_tear_8 : decode cX6_tear 8 = .ok (.goto 4, 3) := by decide +kernel
theorem dX6_tear_11 : decode cX6_tear 11 = .ok (.iconst 0, 1) := by decide +kernel
theorem dX6_tear_12 : decode cX6_tear 12 = .ok (.istore_n 1, 1) := by decide +kernel
theorem dX6_tear_13 : decode cX6_tear 13 = .ok (.aload_n 0, 1) := by decide +kernel
theorem dX6_tear_14 : decode cX6_tear 14 = .ok (.iconst 0, 1) := by decide +kernel
theorem dX6_tear_15 : decode cX6_tear 15 = .ok (.putfield 328, 3) := by decide +kernel
theorem dX6_tear_18 : decode cX6_tear 18 = .ok (.iload_n 1, 1) := by decide +kernel
theorem dX6_tear_19 : decode cX6_tear 19 = .ok (.ireturn, 1) := by decide +kernel
theorem dX6_tempers_0 : decode cX6_tempers 0 = .ok (.iconst 0, 1) := by decide +kernel
theorem dX6_tempers_1 : decode cX6_tempers 1 = .ok (.istore_n 1, 1) := by decide +kernel
theorem dX6_tempers_2 : decode cX6_tempers 2 = .ok (.iconst 0, 1) := by decide +kernel
theorem dX6_tempers_3 : decode cX6_tempers 3 = .ok (.istore_n 2, 1) := by decide +kernel
theorem dX6_tempers_4 : decode cX6_tempers 4 = .ok (.iload_n 2, 1) := by decide +kernel
theorem dX6_tempers_5 : decode cX6_tempers 5 = .ok (.aload_n 0, 1) := by decide +kernel
theorem dX6_tempers_6 : decode cX6_tempers 6 = .ok (.getfield 7, 3) := by decide +kernel
theorem dX6_tempers_9 : decode cX6_tempers 9 = .ok (.iconst 0, 1) := by decide +kernel
theorem dX6_tempers_10 : decode cX6_tempers 10 = .ok (.iaload, 1) := by decide +kernel
theorem dX6_tempers_11 : decode cX6_tempers 11 = .ok (.if_icmp .ge 18, 3) := by decide +kernel
theorem dX6_tempers_14 : decode cX6_tempers 14 = .ok (.iload_n 1, 1) := by decide +kernel
theorem dX6_tempers_15 : decode cX6_tempers 15 = .ok (.aload_n 0, 1) := by decide +kernel
theorem dX6_tempers_16 : decode cX6_tempers 16 = .ok (.iload_n 2, 1) := by decide +kernel
theorem dX6_tempers_17 : decode cX6_tempers 17 = .ok (.iconst 1, 1) := by decide +kernel
theorem dX6_tempers_18 : decode cX6_tempers 18 = .ok (.invokevirtual 73, 3) := by decide +kernel
theorem dX6_tempers_21 : decode cX6_tempers 21 = .ok (.iadd, 1) := by decide +kernel
theorem dX6_tempers_22 : decode cX6_tempers 22 = .ok (.istore_n 1, 1) := by decide +kernel
theorem dX6_tempers_23 : decode cX6_tempers 23 = .ok (.iinc 2 1, 3) := by decide +kernel
theorem dX6_tempers_26 : decode cX6_tempers 26 = .ok (.goto (-22), 3) := by decide +kernel
theorem dX6_tempers_29 : decode cX6_tempers 29 = .ok (.iload_n 1, 1) := by decide +kernel
theorem dX6_tempers_30 : decode cX6_tempers 30 = .ok (.ireturn, 1) := by decide +kernel
theorem dX6_count_0 : decode cX6_count 0 = .ok (.iload_n 1, 1) := by decide +kernel
theorem dX6_count_1 : decode cX6_count 1 = .ok (.tableswitch 55 0 3 #[31, 38, 43, 50], 31) := by decide +kernel
theorem dX6_count_32 : decode cX6_count 32 = .ok (.aload_n 0, 1) := by decide +kernel
theorem dX6_count_33 : decode cX6_count 33 = .ok (.getfield 7, 3) := by decide +kernel
theorem dX6_count_36 : decode cX6_count 36 = .ok (.iconst 0, 1) := by decide +kernel
theorem dX6_count_37 : decode cX6_count 37 = .ok (.iaload, 1) := by decide +kernel
theorem dX6_count_38 : decode cX6_count 38 = .ok (.ireturn, 1) := by decide +kernel
theorem dX6_count_39 : decode cX6_count 39 = .ok (.aload_n 0, 1) := by decide +kernel
theorem dX6_count_40 : decode cX6_count 40 = .ok (.getfield 211, 3) := by decide +kernel
theorem dX6_count_43 : decode cX6_count 43 = .ok (.ireturn, 1) := by decide +kernel
theorem dX6_count_44 : decode cX6_count 44 = .ok (.aload_n 0, 1) := by decide +kernel
theorem dX6_count_45 : decode cX6_count 45 = .ok (.getfield 7, 3) := by decide +kernel
theorem dX6_count_48 : decode cX6_count 48 = .ok (.iconst 1, 1) := by decide +kernel
theorem dX6_count_49 : decode cX6_count 49 = .ok (.iaload, 1) := by decide +kernel
theorem dX6_count_50 : decode cX6_count 50 = .ok (.ireturn, 1) := by decide +kernel
theorem dX6_count_51 : decode cX6_count 51 = .ok (.aload_n 0, 1) := by decide +kernel
theorem dX6_count_52 : decode cX6_count 52 = .ok (.invokevirtual 331, 3) := by decide +kernel
theorem dX6_count_55 : decode cX6_count 55 = .ok (.ireturn, 1) := by decide +kernel
theorem dX6_count_56 : decode cX6_count 56 = .ok (.aload_n 0, 1) := by decide +kernel
theorem dX6_count_57 : decode cX6_count 57 = .ok (.ldc 50, 2) := by decide +kernel
theorem dX6_count_59 : decode cX6_count 59 = .ok (.invokevirtual 101, 3) := by decide +kernel
theorem dX6_count_62 : decode cX6_count 62 = .ok (.ireturn, 1) := by decide +kernel
theorem dX6_status_0 : decode cX6_status 0 = .ok (.iload_n 1, 1) := by decide +kernel
theorem dX6_status_1 : decode cX6_status 1 = .ok (.i2l, 1) := by decide +kernel
theorem dX6_status_2 : decode cX6_status 2 = .ok (.ldc2_w 334, 3) := by decide +kernel
theorem dX6_status_5 : decode cX6_status 5 = .ok (.ldc2_w 336, 3) := by decide +kernel
theorem dX6_status_8 : decode cX6_status 8 = .ok (.invokestatic 53, 3) := by decide +kernel
theorem dX6_status_11 : decode cX6_status 11 = .ok (.ifCond .ne 10, 3) := by decide +kernel
theorem dX6_status_14 : decode cX6_status 14 = .ok (.aload_n 0, 1) := by decide +kernel
theorem dX6_status_15 : decode cX6_status 15 = .ok (.ldc 50, 2) := by decide +kernel
theorem dX6_status_17 : decode cX6_status 17 = .ok (.invokevirtual 101, 3) := by decide +kernel
theorem dX6_status_20 : decode cX6_status 20 = .ok (.ireturn, 1) := by decide +kernel
theorem dX6_status_21 : decode cX6_status 21 = .ok (.iconst 0, 1) := by decide +kernel
theorem dX6_status_22 : decode cX6_status 22 = .ok (.istore_n 2, 1) := by decide +kernel
theorem dX6_status_23 : decode cX6_status 23 = .ok (.iconst 0, 1) := by decide +kernel
theorem dX6_status_24 : decode cX6_status 24 = .ok (.istore_n 3, 1) := by decide +kernel
theorem dX6_status_25 : decode cX6_status 25 = .ok (.iload_n 3, 1) := by decide +kernel
theorem dX6_status_26 : decode cX6_status 26 = .ok (.bipush 7, 2) := by decide +kernel
theorem dX6_status_28 : decode cX6_status 28 = .ok (.if_icmp .ge 31, 3) := by decide +kernel
theorem dX6_status_31 : decode cX6_status 31 = .ok (.iload_n 2, 1) := by decide +kernel
theorem dX6_status_32 : decode cX6_status 32 = .ok (.iload_n 1, 1) := by decide +kernel
theorem dX6_status_33 : decode cX6_status 33 = .ok (.ifCond .lt 8, 3) := by decide +kernel
theorem dX6_status_36 : decode cX6_status 36 = .ok (.iload_n 3, 1) := by decide +kernel
theorem dX6_status_37 : decode cX6_status 37 = .ok (.iload_n 1, 1) := by decide +kernel
theorem dX6_status_38 : decode cX6_status 38 = .ok (.if_icmp .ne 12, 3) := by decide +kernel
theorem dX6_status_41 : decode cX6_status 41 = .ok (.aload_n 0, 1) := by decide +kernel
theorem dX6_status_42 : decode cX6_status 42 = .ok (.getfield 22, 3) := by decide +kernel
theorem dX6_status_45 : decode cX6_status 45 = .ok (.iload_n 3, 1) := by decide +kernel
theorem dX6_status_46 : decode cX6_status 46 = .ok (.iaload, 1) := by decide +kernel
theorem dX6_status_47 : decode cX6_status 47 = .ok (.goto 4, 3) := by decide +kernel
theorem dX6_status_50 : decode cX6_status 50 = .ok (.iconst 0, 1) := by decide +kernel
theorem dX6_status_51 : decode cX6_status 51 = .ok (.iadd, 1) := by decide +kernel
theorem dX6_status_52 : decode cX6_status 52 = .ok (.istore_n 2, 1) := by decide +kernel
theorem dX6_status_53 : decode cX6_status 53 = .ok (.iinc 3 1, 3) := by decide +kernel
theorem dX6_status_56 : decode cX6_status 56 = .ok (.goto (-31), 3) := by decide +kernel
theorem dX6_status_59 : decode cX6_status 59 = .ok (.iload_n 2, 1) := by decide +kernel
theorem dX6_status_60 : decode cX6_status 60 = .ok (.ireturn, 1) := by decide +kernel
