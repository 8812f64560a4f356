theorem dX5_init_0 : decode cX5_init 0 = .ok (.aload_n 0, 1) := by decide +kernel
theorem dX5_init_1 : decode cX5_init 1 = .ok (.invokespecial 1, 3) := by decide +kernel
theorem dX5_init_4 : decode cX5_init 4 = .ok (.aload_n 0, 1) := by decide +kernel
theorem dX5_init_5 : decode cX5_init 5 = .ok (.bipush 37, 2) := by decide +kernel
theorem dX5_init_7 : decode cX5_init 7 = .ok (.newarray .int, 2) := by decide +kernel
theorem dX5_init_9 : decode cX5_init 9 = .ok (.putfield 7, 3) := by decide +kernel
theorem dX5_init_12 : decode cX5_init 12 = .ok (.aload_n 0, 1) := by decide +kernel
theorem dX5_init_13 : decode cX5_init 13 = .ok (.bipush 37, 2) := by decide +kernel
theorem dX5_init_15 : decode cX5_init 15 = .ok (.newarray .int, 2) := by decide +kernel
theorem dX5_init_17 : decode cX5_init 17 = .ok (.putfield 13, 3) := by decide +kernel
theorem dX5_init_20 : decode cX5_init 20 = .ok (.aload_n 0, 1) := by decide +kernel
theorem dX5_init_21 : decode cX5_init 21 = .ok (.bipush 37, 2) := by decide +kernel
theorem dX5_init_23 : decode cX5_init 23 = .ok (.newarray .int, 2) := by decide +kernel
theorem dX5_init_25 : decode cX5_init 25 = .ok (.putfield 16, 3) := by decide +kernel
theorem dX5_init_28 : decode cX5_init 28 = .ok (.aload_n 0, 1) := by decide +kernel
theorem dX5_init_29 : decode cX5_init 29 = .ok (.bipush 37, 2) := by decide +kernel
theorem dX5_init_31 : decode cX5_init 31 = .ok (.newarray .int, 2) := by decide +kernel
theorem dX5_init_33 : decode cX5_init 33 = .ok (.putfield 19, 3) := by decide +kernel
theorem dX5_init_36 : decode cX5_init 36 = .ok (.aload_n 0, 1) := by decide +kernel
theorem dX5_init_37 : decode cX5_init 37 = .ok (.bipush 7, 2) := by decide +kernel
theorem dX5_init_39 : decode cX5_init 39 = .ok (.newarray .int, 2) := by decide +kernel
theorem dX5_init_41 : decode cX5_init 41 = .ok (.putfield 22, 3) := by decide +kernel
theorem dX5_init_44 : decode cX5_init 44 = .ok (.aload_n 0, 1) := by decide +kernel
theorem dX5_init_45 : decode cX5_init 45 = .ok (.bipush 120, 2) := by decide +kernel
theorem dX5_init_47 : decode cX5_init 47 = .ok (.newarray .int, 2) := by decide +kernel
theorem dX5_init_49 : decode cX5_init 49 = .ok (.putfield 25, 3) := by decide +kernel
theorem dX5_init_52 : decode cX5_init 52 = .ok (.aload_n 0, 1) := by decide +kernel
theorem dX5_init_53 : decode cX5_init 53 = .ok (.iconst 4, 1) := by decide +kernel
theorem dX5_init_54 : decode cX5_init 54 = .ok (.newarray .int, 2) := by decide +kernel
theorem dX5_init_56 : decode cX5_init 56 = .ok (.putfield 28, 3) := by decide +kernel
theorem dX5_init_59 : decode cX5_init 59 = .ok (.aload_n 0, 1) := by decide +kernel
theorem dX5_init_60 : decode cX5_init 60 = .ok (.iconst 4, 1) := by decide +kernel
theorem dX5_init_61 : decode cX5_init 61 = .ok (.newarray .int, 2) := by decide +kernel
theorem dX5_init_63 : decode cX5_init 63 = .ok (.putfield 31, 3) := by decide +kernel
theorem dX5_init_66 : decode cX5_init 66 = .ok (.aload_n 0, 1) := by decide +kernel
theorem dX5_init_67 : decode cX5_init 67 = .ok (.sipush 160, 3) := by decide +kernel
theorem dX5_init_70 : decode cX5_init 70 = .ok (.newarray .long, 2) := by decide +kernel
theorem dX5_init_72 : decode cX5_init 72 = .ok (.putfield 34, 3) := by decide +kernel
theorem dX5_init_75 : decode cX5_init 75 = .ok (.aload_n 0, 1) := by decide +kernel
theorem dX5_init_76 : decode cX5_init 76 = .ok (.bipush 40, 2) := by decide +kernel
theorem dX5_init_78 : decode cX5_init 78 = .ok (.newarray .long, 2) := by decide +kernel
theorem dX5_init_80 : decode cX5_init 80 = .ok (.putfield 38, 3) := by decide +kernel
theorem dX5_init_83 : decode cX5_init 83 = .ok (.iconst 3, 1) := by decide +kernel
theorem dX5_init_84 : decode cX5_init 84 = .ok (.istore_n 1, 1) := by decide +kernel
theorem dX5_init_85 : decode cX5_init 85 = .ok (.iload_n 1, 1) := by decide +kernel
theorem dX5_init_86 : decode cX5_init 86 = .ok (.bipush 30, 2) := by decide +kernel
theorem dX5_init_88 : decode cX5_init 88 = .ok (.if_icmp .ge 21, 3) := by decide +kernel
theorem dX5_init_91 : decode cX5_init 91 = .ok (.aload_n 0, 1) := by decide +kernel
theorem dX5_init_92 : decode cX5_init 92 = .ok (.getfield 7, 3) := by decide +kernel
theorem dX5_init_95 : decode cX5_init 95 = .ok (.iconst 2, 1) := by decide +kernel
theorem dX5_init_96 : decode cX5_init 96 = .ok (.dup2, 1) := by decide +kernel
theorem dX5_init_97 : decode cX5_init 97 = .ok (.iaload, 1) := by decide +kernel
theorem dX5_init_98 : decode cX5_init 98 = .ok (.iconst 1, 1) := by decide +kernel
theorem dX5_init_99 : decode cX5_init 99 = .ok (.iload_n 1, 1) := by decide +kernel
theorem dX5_init_100 : decode cX5_init 100 = .ok (.ishl, 1) := by decide +kernel
theorem dX5_init_101 : decode cX5_init 101 = .ok (.ior, 1) := by decide +kernel
theorem dX5_init_102 : decode cX5_init 102 = .ok (.iastore, 1) := by decide +kernel
theorem dX5_init_103 : decode cX5_init 103 = .ok (.iinc 1 7, 3) := by decide +kernel
theorem dX5_init_106 : decode cX5_init 106 = .ok (.goto (-21), 3) := by decide +kernel
theorem dX5_init_109 : decode cX5_init 109 = .ok (.aload_n 0, 1) := by decide +kernel
theorem dX5_init_110 : decode cX5_init 110 = .ok (.getfield 7, 3) := by decide +kernel
theorem dX5_init_113 : decode cX5_init 113 = .ok (.iconst 4, 1) := by decide +kernel
theorem dX5_init_114 : decode cX5_init 114 = .ok (.iconst 3, 1) := by decide +kernel
theorem dX5_init_115 : decode cX5_init 115 = .ok (.iastore, 1) := by decide +kernel
theorem dX5_init_116 : decode cX5_init 116 = .ok (.return_, 1) := by decide +kernel
theorem dX5_in_0 : decode cX5_in 0 = .ok (.lload_n 0, 1) := by decide +kernel
theorem dX5_in_1 : decode cX5_in 1 = .ok (.lload_n 2, 1) := by decide +kernel
theorem dX5_in_2 : decode cX5_in 2 = .ok (.lcmp, 1) := by decide +kernel
theorem dX5_in_3 : decode cX5_in 3 = .ok (.ifCond .lt 14, 3) := by decide +kernel
theorem dX5_in_6 : decode cX5_in 6 = .ok (.lload_n 0, 1) := by decide +kernel
theorem dX5_in_7 : decode cX5_in 7 = .ok (.lload 4, 2) := by decide +kernel
theorem dX5_in_9 : decode cX5_in 9 = .ok (.lcmp, 1) := by decide +kernel
theorem dX5_in_10 : decode cX5_in 10 = .ok (.ifCond .gt 7, 3) := by decide +kernel
theorem dX5_in_13 : decode cX5_in 13 = .ok (.iconst 1, 1) := by decide +kernel
theorem dX5_in_14 : decode cX5_in 14 = .ok (.goto 4, 3) := by decide +kernel
theorem dX5_in_17 : decode cX5_in 17 = .ok (.iconst 0, 1) := by decide +kernel
theorem dX5_in_18 : decode cX5_in 18 = .ok (.ireturn, 1) := by decide +kernel
theorem dX5_finds_0 : decode cX5_finds 0 = .ok (.aload_n 0, 1) := by decide +kernel
theorem dX5_finds_1 : decode cX5_finds 1 = .ok (.getfield 22, 3) := by decide +kernel
theorem dX5_finds_4 : decode cX5_finds 4 = .ok (.ldc 41, 2) := by decide +kernel
theorem dX5_finds_6 : decode cX5_finds 6 = .ok (.iload_n 1, 1) := by decide +kernel
theorem dX5_finds_7 : decode cX5_finds 7 = .ok (.isub, 1) := by decide +kernel
theorem dX5_finds_8 : decode cX5_finds 8 = .ok (.dup2, 1) := by decide +kernel
theorem dX5_finds_9 : decode cX5_finds 9 = .ok (.iaload, 1) := by decide +kernel
theorem dX5_finds_10 : decode cX5_finds 10 = .ok (.iconst 1, 1) := by decide +kernel
theorem dX5_finds_11 : decode cX5_finds 11 = .ok (.iadd, 1) := by decide +kernel
theorem dX5_finds_12 : decode cX5_finds 12 = .ok (.iastore, 1) := by decide +kernel
theorem dX5_finds_13 : decode cX5_finds 13 = .ok (.iload_n 1, 1) := by decide +kernel
theorem dX5_finds_14 : decode cX5_finds 14 = .ok (.ireturn, 1) := by decide +kernel
theorem dX5_saves_0 : decode cX5_saves 0 = .ok (.iconst 0, 1) := by decide +kernel
theorem dX5_saves_1 : decode cX5_saves 1 = .ok (.istore_n 1, 1) := by decide +kernel
theorem dX5_saves_2 : decode cX5_saves 2 = .ok (.iload_n 1, 1) := by decide +kernel
theorem dX5_saves_3 : decode cX5_saves 3 = .ok (.bipush 37, 2) := by decide +kernel
theorem dX5_saves_5 : decode cX5_saves 5 = .ok (.if_icmp .ge 21, 3) := by decide +kernel
theorem dX5_saves_8 : decode cX5_saves 8 = .ok (.aload_n 0, 1) := by decide +kernel
theorem dX5_saves_9 : decode cX5_saves 9 = .ok (.getfield 16, 3) := by decide +kernel
theorem dX5_saves_12 : decode cX5_saves 12 = .ok (.iload_n 1, 1) := by decide +kernel
theorem dX5_saves_13 : decode cX5_saves 13 = .ok (.aload_n 0, 1) := by decide +kernel
theorem dX5_saves_14 : decode cX5_saves 14 = .ok (.getfield 7, 3) := by decide +kernel
theorem dX5_saves_17 : decode cX5_saves 17 = .ok (.iload_n 1, 1) := by decide +kernel
theorem dX5_saves_18 : decode cX5_saves 18 = .ok (.iaload, 1) := by decide +kernel
theorem dX5_saves_19 : decode cX5_saves 19 = .ok (.iastore, 1) := by decide +kernel
theorem dX5_saves_20 : decode cX5_saves 20 = .ok (.iinc 1 1, 3) := by decide +kernel
theorem dX5_saves_23 : decode cX5_saves 23 = .ok (.goto (-21), 3) := by decide +kernel
theorem dX5_saves_26 : decode cX5_saves 26 = .ok (.return_, 1) := by decide +kernel
theorem dX5_putsBack_0 : decode cX5_putsBack 0 = .ok (.iconst 0, 1) := by decide +kernel
theorem dX5_putsBack_1 : decode cX5_putsBack 1 = .ok (.istore_n 1, 1) := by decide +kernel
theorem dX5_putsBack_2 : decode cX5_putsBack 2 = .ok (.iload_n 1, 1) := by decide +kernel
theorem dX5_putsBack_3 : decode cX5_putsBack 3 = .ok (.bipush 37, 2) := by decide +kernel
theorem dX5_putsBack_5 : decode cX5_putsBack 5 = .ok (.if_icmp .ge 21, 3) := by decide +kernel
theorem dX5_putsBack_8 : decode cX5_putsBack 8 = .ok (.aload_n 0, 1) := by decide +kernel
theorem dX5_putsBack_9 : decode cX5_putsBack 9 = .ok (.getfield 7, 3) := by decide +kernel
theorem dX5_putsBack_12 : decode cX5_putsBack 12 = .ok (.iload_n 1, 1) := by decide +kernel
theorem dX5_putsBack_13 : decode cX5_putsBack 13 = .ok (.aload_n 0, 1) := by decide +kernel
theorem dX5_putsBack_14 : decode cX5_putsBack 14 = .ok (.getfield 16, 3) := by decide +kernel
theorem dX5_putsBack_17 : decode cX5_putsBack 17 = .ok (.iload_n 1, 1) := by decide +kernel
theorem dX5_putsBack_18 : decode cX5_putsBack 18 = .ok (.iaload, 1) := by decide +kernel
theorem dX5_putsBack_19 : decode cX5_putsBack 19 = .ok (.iastore, 1) := by decide +kernel
theorem dX5_putsBack_20 : decode cX5_putsBack 20 = .ok (.iinc 1 1, 3) := by decide +kernel
theorem dX5_putsBack_23 : decode cX5_putsBack 23 = .ok (.goto (-21), 3) := by decide +kernel
theorem dX5_putsBack_26 : decode cX5_putsBack 26 = .ok (.return_, 1) := by decide +kernel
theorem dX5_laysAside_0 : decode cX5_laysAside 0 = .ok (.iconst 0, 1) := by decide +kernel
theorem dX5_laysAside_1 : decode cX5_laysAside 1 = .ok (.istore_n 1, 1) := by decide +kernel
theorem dX5_laysAside_2 : decode cX5_laysAside 2 = .ok (.iload_n 1, 1) := by decide +kernel
theorem dX5_laysAside_3 : decode cX5_laysAside 3 = .ok (.bipush 37, 2) := by decide +kernel
theorem dX5_laysAside_5 : decode cX5_laysAside 5 = .ok (.if_icmp .ge 21, 3) := by decide +kernel
theorem dX5_laysAside_8 : decode cX5_laysAside 8 = .ok (.aload_n 0, 1) := by decide +kernel
theorem dX5_laysAside_9 : decode cX5_laysAside 9 = .ok (.getfield 19, 3) := by decide +kernel
theorem dX5_laysAside_12 : decode cX5_laysAside 12 = .ok (.iload_n 1, 1) := by decide +kernel
theorem dX5_laysAside_13 : decode cX5_laysAside 13 = .ok (.aload_n 0, 1) := by decide +kernel
theorem dX5_laysAside_14 : decode cX5_laysAside 14 = .ok (.getfield 7, 3) := by decide +kernel
theorem dX5_laysAside_17 : decode cX5_laysAside 17 = .ok (.iload_n 1, 1) := by decide +kernel
theorem dX5_laysAside_18 : decode cX5_laysAside 18 = .ok (.iaload, 1) := by decide +kernel
theorem dX5_laysAside_19 : decode cX5_laysAside 19 = .ok (.iastore, 1) := by decide +kernel
theorem dX5_laysAside_20 : decode cX5_laysAside 20 = .ok (.iinc 1 1, 3) := by decide +kernel
theorem dX5_laysAside_23 : decode cX5_laysAside 23 = .ok (.goto (-21), 3) := by decide +kernel
theorem dX5_laysAside_26 : decode cX5_laysAside 26 = .ok (.return_, 1) := by decide +kernel
theorem dX5_takesBack_0 : decode cX5_takesBack 0 = .ok (.iconst 0, 1) := by decide +kernel
theorem dX5_takesBack_1 : decode cX5_takesBack 1 = .ok (.istore_n 2, 1) := by decide +kernel
theorem dX5_takesBack_2 : decode cX5_takesBack 2 = .ok (.iload_n 2, 1) := by decide +kernel
theorem dX5_takesBack_3 : decode cX5_takesBack 3 = .ok (.bipush 37, 2) := by decide +kernel
theorem dX5_takesBack_5 : decode cX5_takesBack 5 = .ok (.if_icmp .ge 21, 3) := by decide +kernel
theorem dX5_takesBack_8 : decode cX5_takesBack 8 = .ok (.aload_n 0, 1) := by decide +kernel
theorem dX5_takesBack_9 : decode cX5_takesBack 9 = .ok (.getfield 7, 3) := by decide +kernel
theorem dX5_takesBack_12 : decode cX5_takesBack 12 = .ok (.iload_n 2, 1) := by decide +kernel
theorem dX5_takesBack_13 : decode cX5_takesBack 13 = .ok (.aload_n 0, 1) := by decide +kernel
theorem dX5_takesBack_14 : decode cX5_takesBack 14 = .ok (.getfield 19, 3) := by decide +kernel
theorem dX5_takesBack_17 : decode cX5_takesBack 17 = .ok (.iload_n 2, 1) := by decide +kernel
theorem dX5_takesBack_18 : decode cX5_takesBack 18 = .ok (.iaload, 1) := by decide +kernel
theorem dX5_takesBack_19 : decode cX5_takesBack 19 = .ok (.iastore, 1) := by decide +kernel
theorem dX5_takesBack_20 : decode cX5_takesBack 20 = .ok (.iinc 2 1, 3) := by decide +kernel
theorem dX5_takesBack_23 : decode cX5_takesBack 23 = .ok (.goto (-21), 3) := by decide +kernel
theorem dX5_takesBack_26 : decode cX5_takesBack 26 = .ok (.iload_n 1, 1) := by decide +kernel
theorem dX5_takesBack_27 : decode cX5_takesBack 27 = .ok (.ireturn, 1) := by decide +kernel
theorem dX5_becomes_0 : decode cX5_becomes 0 = .ok (.aload_n 0, 1) := by decide +kernel
theorem dX5_becomes_1 : decode cX5_becomes 1 = .ok (.getfield 7, 3) := by decide +kernel
theorem dX5_becomes_4 : decode cX5_becomes 4 = .ok (.iload_n 1, 1) := by decide +kernel
theorem dX5_becomes_5 : decode cX5_becomes 5 = .ok (.iaload, 1) := by decide +kernel
theorem dX5_becomes_6 : decode cX5_becomes 6 = .ok (.istore_n 3, 1) := by decide +kernel
theorem dX5_becomes_7 : decode cX5_becomes 7 = .ok (.aload_n 0, 1) := by decide +kernel
theorem dX5_becomes_8 : decode cX5_becomes 8 = .ok (.getfield 7, 3) := by decide +kernel
theorem dX5_becomes_11 : decode cX5_becomes 11 = .ok (.iload_n 1, 1) := by decide +kernel
theorem dX5_becomes_12 : decode cX5_becomes 12 = .ok (.iload_n 2, 1) := by decide +kernel
theorem dX5_becomes_13 : decode cX5_becomes 13 = .ok (.iastore, 1) := by decide +kernel
theorem dX5_becomes_14 : decode cX5_becomes 14 = .ok (.iload_n 3, 1) := by decide +kernel
theorem dX5_becomes_15 : decode cX5_becomes 15 = .ok (.ireturn, 1) := by decide +kernel
theorem dX5_spot_0 : decode cX5_spot 0 = .ok (.iconst 5, 1) := by decide +kernel
theorem dX5_spot_1 : decode cX5_spot 1 = .ok (.iconst 4, 1) := by decide +kernel
theorem dX5_spot_2 : decode cX5_spot 2 = .ok (.iload_n 0, 1) := by decide +kernel
theorem dX5_spot_3 : decode cX5_spot 3 = .ok (.imul, 1) := by decide +kernel
theorem dX5_spot_4 : decode cX5_spot 4 = .ok (.iadd, 1) := by decide +kernel
theorem dX5_spot_5 : decode cX5_spot 5 = .ok (.iload_n 1, 1) := by decide +kernel
theorem dX5_spot_6 : decode cX5_spot 6 = .ok (.iadd, 1) := by decide +kernel
theorem dX5_spot_7 : decode cX5_spot 7 = .ok (.ireturn, 1) := by decide +kernel
theorem dX5_its_0 : decode cX5_its 0 = .ok (.aload_n 0, 1) := by decide +kernel
theorem dX5_its_1 : decode cX5_its 1 = .ok (.getfield 7, 3) := by decide +kernel
theorem dX5_its_4 : decode cX5_its 4 = .ok (.iload_n 1, 1) := by decide +kernel
theorem dX5_its_5 : decode cX5_its 5 = .ok (.iload_n 2, 1) := by decide +kernel
theorem dX5_its_6 : decode cX5_its 6 = .ok (.invokestatic 42, 3) := by decide +kernel
theorem dX5_its_9 : decode cX5_its 9 = .ok (.iaload, 1) := by decide +kernel
theorem dX5_its_10 : decode cX5_its 10 = .ok (.ireturn, 1) := by decide +kernel
theorem dX5_isPlace_0 : decode cX5_isPlace 0 = .ok (.iload_n 1, 1) := by decide +kernel
theorem dX5_isPlace_1 : decode cX5_isPlace 1 = .ok (.i2l, 1) := by decide +kernel
theorem dX5_isPlace_2 : decode cX5_isPlace 2 = .ok (.lconst 0, 1) := by decide +kernel
theorem dX5_isPlace_3 : decode cX5_isPlace 3 = .ok (.aload_n 0, 1) := by decide +kernel
theorem dX5_isPlace_4 : decode cX5_isPlace 4 = .ok (.getfield 7, 3) := by decide +kernel
theorem dX5_isPlace_7 : decode cX5_isPlace 7 = .ok (.iconst 1, 1) := by decide +kernel
theorem dX5_isPlace_8 : decode cX5_isPlace 8 = .ok (.iaload, 1) := by decide +kernel
theorem dX5_isPlace_9 : decode cX5_isPlace 9 = .ok (.iconst 1, 1) := by decide +kernel
theorem dX5_isPlace_10 : decode cX5_isPlace 10 = .ok (.isub, 1) := by decide +kernel
theorem dX5_isPlace_11 : decode cX5_isPlace 11 = .ok (.i2l, 1) := by decide +kernel
theorem dX5_isPlace_12 : decode cX5_isPlace 12 = .ok (.invokestatic 46, 3) := by decide +kernel
theorem dX5_isPlace_15 : decode cX5_isPlace 15 = .ok (.ireturn, 1) := by decide +kernel
theorem dX5_isKind_0 : decode cX5_isKind 0 = .ok (.iload_n 0, 1) := by decide +kernel
theorem dX5_isKind_1 : decode cX5_isKind 1 = .ok (.i2l, 1) := by decide +kernel
theorem dX5_isKind_2 : decode cX5_isKind 2 = .ok (.lconst 0, 1) := by decide +kernel
theorem dX5_isKind_3 : decode cX5_isKind 3 = .ok (.ldc2_w 52, 3) := by decide +kernel
theorem dX5_isKind_6 : decode cX5_isKind 6 = .ok (.invokestatic 46, 3) := by decide +kernel
theorem dX5_isKind_9 : decode cX5_isKind 9 = .ok (.ireturn, 1) := by decide +kernel
theorem dX5_together_0 : decode cX5_together 0 = .ok (.iconst 0, 1) := by decide +kernel
theorem dX5_together_1 : decode cX5_together 1 = .ok (.istore_n 2, 1) := by decide +kernel
theorem dX5_together_2 : decode cX5_together 2 = .ok (.iconst 0, 1) := by decide +kernel
theorem dX5_together_3 : decode cX5_together 3 = .ok (.istore_n 3, 1) := by decide +kernel
theorem dX5_together_4 : decode cX5_together 4 = .ok (.iload_n 3, 1) := by decide +kernel
theorem dX5_together_5 : decode cX5_together 5 = .ok (.aload_n 0, 1) := by decide +kernel
theorem dX5_together_6 : decode cX5_together 6 = .ok (.getfield 7, 3) := by decide +kernel
theorem dX5_together_9 : decode cX5_together 9 = .ok (.iconst 1, 1) := by decide +kernel
theorem dX5_together_10 : decode cX5_together 10 = .ok (.iaload, 1) := by decide +kernel
theorem dX5_together_11 : decode cX5_together 11 = .ok (.if_icmp .ge 18, 3) := by decide +kernel
theorem dX5_together_14 : decode cX5_together 14 = .ok (.iload_n 2, 1) := by decide +kernel
theorem dX5_together_15 : decode cX5_together 15 = .ok (.aload_n 0, 1) := by decide +kernel
theorem dX5_together_16 : decode cX5_together 16 = .ok (.iload_n 3, 1) := by decide +kernel
theorem dX5_together_17 : decode cX5_together 17 = .ok (.iload_n 1, 1) := by decide +kernel
theorem dX5_together_18 : decode cX5_together 18 = .ok (.invokevirtual 54, 3) := by decide +kernel
theorem dX5_together_21 : decode cX5_together 21 = .ok (.iadd, 1) := by decide +kernel
theorem dX5_together_22 : decode cX5_together 22 = .ok (.istore_n 2, 1) := by decide +kernel
theorem dX5_together_23 : decode cX5_together 23 = .ok (.iinc 3 1, 3) := by decide +kernel
theorem dX5_together_26 : decode cX5_together 26 = .ok (.goto (-22), 3) := by decide +kernel
theorem dX5_together_29 : decode cX5_together 29 = .ok (.iload_n 2, 1) := by decide +kernel
theorem dX5_together_30 : decode cX5_together 30 = .ok (.ireturn, 1) := by decide +kernel
theorem dX5_paceOf_0 : decode cX5_paceOf 0 = .ok (.aload_n 0, 1) := by decide +kernel
theorem dX5_paceOf_1 : decode cX5_paceOf 1 = .ok (.getfield 7, 3) := by decide +kernel
theorem dX5_paceOf_4 : decode cX5_paceOf 4 = .ok (.iconst 0, 1) := by decide +kernel
theorem dX5_paceOf_5 : decode cX5_paceOf 5 = .ok (.iaload, 1) := by decide +kernel
theorem dX5_paceOf_6 : decode cX5_paceOf 6 = .ok (.iload_n 1, 1) := by decide +kernel
theorem dX5_paceOf_7 : decode cX5_paceOf 7 = .ok (.isub, 1) := by decide +kernel
theorem dX5_paceOf_8 : decode cX5_paceOf 8 = .ok (.bipush 30, 2) := by decide +kernel
theorem dX5_paceOf_10 : decode cX5_paceOf 10 = .ok (.irem, 1) := by decide +kernel
theorem dX5_paceOf_11 : decode cX5_paceOf 11 = .ok (.istore_n 2, 1) := by decide +kernel
theorem dX5_paceOf_12 : decode cX5_paceOf 12 = .ok (.iload_n 2, 1) := by decide +kernel
theorem dX5_paceOf_13 : decode cX5_paceOf 13 = .ok (.ifCond .ge 10, 3) := by decide +kernel
theorem dX5_paceOf_16 : decode cX5_paceOf 16 = .ok (.iload_n 2, 1) := by decide +kernel
theorem dX5_paceOf_17 : decode cX5_paceOf 17 = .ok (.bipush 30, 2) := by decide +kernel
theorem dX5_paceOf_19 : decode cX5_paceOf 19 = .ok (.iadd, 1) := by decide +kernel
theorem dX5_paceOf_20 : decode cX5_paceOf 20 = .ok (.goto 4, 3) := by decide +kernel
theorem dX5_paceOf_23 : decode cX5_paceOf 23 = .ok (.iload_n 2, 1) := by decide +kernel
theorem dX5_paceOf_24 : decode cX5_paceOf 24 = .ok (.ireturn, 1) := by decide +kernel
theorem dX5_isAtRoot_0 : decode cX5_isAtRoot 0 = .ok (.aload_n 0, 1) := by decide +kernel
theorem dX5_isAtRoot_1 : decode cX5_isAtRoot 1 = .ok (.getfield 7, 3) := by decide +kernel
theorem dX5_isAtRoot_4 : decode cX5_isAtRoot 4 = .ok (.iconst 2, 1) := by decide +kernel
theorem dX5_isAtRoot_5 : decode cX5_isAtRoot 5 = .ok (.iaload, 1) := by decide +kernel
theorem dX5_isAtRoot_6 : decode cX5_isAtRoot 6 = .ok (.aload_n 0, 1) := by decide +kernel
theorem dX5_isAtRoot_7 : decode cX5_isAtRoot 7 = .ok (.iload_n 1, 1) := by decide +kernel
theorem dX5_isAtRoot_8 : decode cX5_isAtRoot 8 = .ok (.invokevirtual 57, 3) := by decide +kernel
theorem dX5_isAtRoot_11 : decode cX5_isAtRoot 11 = .ok (.ishr, 1) := by decide +kernel
theorem dX5_isAtRoot_12 : decode cX5_isAtRoot 12 = .ok (.iconst 1, 1) := by decide +kernel
theorem dX5_isAtRoot_13 : decode cX5_isAtRoot 13 = .ok (.iand, 1) := by decide +kernel
theorem dX5_isAtRoot_14 : decode cX5_isAtRoot 14 = .ok (.iconst 1, 1) := by decide +kernel
theorem dX5_isAtRoot_15 : decode cX5_isAtRoot 15 = .ok (.if_icmp .ne 7, 3) := by decide +kernel
theorem dX5_isAtRoot_18 : decode cX5_isAtRoot 18 = .ok (.iconst 1, 1) := by decide +kernel
theorem dX5_isAtRoot_19 : decode cX5_isAtRoot 19 = .ok (.goto 4, 3) := by decide +kernel
theorem dX5_isAtRoot_22 : decode cX5_isAtRoot 22 = .ok (.iconst 0, 1) := by decide +kernel
theorem dX5_isAtRoot_23 : decode cX5_isAtRoot 23 = .ok (.ireturn, 1) := by decide +kernel
theorem dX5_roots_0 : decode cX5_roots 0 = .ok (.iload_n 1, 1) := by decide +kernel
theorem dX5_roots_1 : decode cX5_roots 1 = .ok (.i2l, 1) := by decide +kernel
theorem dX5_roots_2 : decode cX5_roots 2 = .ok (.lconst 0, 1) := by decide +kernel
theorem dX5_roots_3 : decode cX5_roots 3 = .ok (.ldc2_w 61, 3) := by decide +kernel
theorem dX5_roots_6 : decode cX5_roots 6 = .ok (.invokestatic 46, 3) := by decide +kernel
theorem dX5_roots_9 : decode cX5_roots 9 = .ok (.ifCond .eq 12, 3) := by decide +kernel
theorem dX5_roots_12 : decode cX5_roots 12 = .ok (.aload_n 0, 1) := by decide +kernel
theorem dX5_roots_13 : decode cX5_roots 13 = .ok (.iconst 2, 1) := by decide +kernel
theorem dX5_roots_14 : decode cX5_roots 14 = .ok (.iload_n 1, 1) := by decide +kernel
theorem dX5_roots_15 : decode cX5_roots 15 = .ok (.invokevirtual 63, 3) := by decide +kernel
theorem dX5_roots_18 : decode cX5_roots 18 = .ok (.goto 9, 3) := by decide +kernel
theorem dX5_roots_21 : decode cX5_roots 21 = .ok (.aload_n 0, 1) := by decide +kernel
theorem dX5_roots_22 : decode cX5_roots 22 = .ok (.ldc 41, 2) := by decide +kernel
theorem dX5_roots_24 : decode cX5_roots 24 = .ok (.invokevirtual 66, 3) := by decide +kernel
theorem dX5_roots_27 : decode cX5_roots 27 = .ok (.ireturn, 1) := by decide +kernel
theorem dX5_lantern_0 : decode cX5_lantern 0 = .ok (.iload_n 1, 1) := by decide +kernel
theorem dX5_lantern_1 : decode cX5_lantern 1 = .ok (.iconst (-1), 1) := by decide +kernel
theorem dX5_lantern_2 : decode cX5_lantern 2 = .ok (.if_icmp .eq 11, 3) := by decide +kernel
theorem dX5_lantern_5 : decode cX5_lantern 5 = .ok (.aload_n 0, 1) := by decide +kernel
theorem dX5_lantern_6 : decode cX5_lantern 6 = .ok (.iload_n 1, 1) := by decide +kernel
theorem dX5_lantern_7 : decode cX5_lantern 7 = .ok (.invokevirtual 69, 3) := by decide +kernel
theorem dX5_lantern_10 : decode cX5_lantern 10 = .ok (.ifCond .eq 12, 3) := by decide +kernel
theorem dX5_lantern_13 : decode cX5_lantern 13 = .ok (.aload_n 0, 1) := by decide +kernel
theorem dX5_lantern_14 : decode cX5_lantern 14 = .ok (.iconst 3, 1) := by decide +kernel
theorem dX5_lantern_15 : decode cX5_lantern 15 = .ok (.iload_n 1, 1) := by decide +kernel
theorem dX5_lantern_16 : decode cX5_lantern 16 = .ok (.invokevirtual 63, 3) := by decide +kernel
theorem dX5_lantern_19 : decode cX5_lantern 19 = .ok (.goto 9, 3) := by decide +kernel
theorem dX5_lantern_22 : decode cX5_lantern 22 = .ok (.aload_n 0, 1) := by decide +kernel
theorem dX5_lantern_23 : decode cX5_lantern 23 = .ok (.ldc 41, 2) := by decide +kernel
theorem dX5_lantern_25 : decode cX5_lantern 25 = .ok (.invokevirtual 66, 3) := by decide +kernel
theorem dX5_lantern_28 : decode cX5_lantern 28 = .ok (.ireturn, 1) := by decide +kernel
theorem dX5_bright_0 : decode cX5_bright 0 = .ok (.iload_n 1, 1) := by decide +kernel
theorem dX5_bright_1 : decode cX5_bright 1 = .ok (.i2l, 1) := by decide +kernel
theorem dX5_bright_2 : decode cX5_bright 2 = .ok (.lconst 0, 1) := by decide +kernel
theorem dX5_bright_3 : decode cX5_bright 3 = .ok (.ldc2_w 73, 3) := by decide +kernel
theorem dX5_bright_6 : decode cX5_bright 6 = .ok (.invokestatic 46, 3) := by decide +kernel
theorem dX5_bright_9 : decode cX5_bright 9 = .ok (.ifCond .eq 12, 3) := by decide +kernel
theorem dX5_bright_12 : decode cX5_bright 12 = .ok (.aload_n 0, 1) := by decide +kernel
theorem dX5_bright_13 : decode cX5_bright 13 = .ok (.iconst 4, 1) := by decide +kernel
theorem dX5_bright_14 : decode cX5_bright 14 = .ok (.iload_n 1, 1) := by decide +kernel
theorem dX5_bright_15 : decode cX5_bright 15 = .ok (.invokevirtual 63, 3) := by decide +kernel
theorem dX5_bright_18 : decode cX5_bright 18 = .ok (.goto 9, 3) := by decide +kernel
theorem dX5_bright_21 : decode cX5_bright 21 = .ok (.aload_n 0, 1) := by decide +kernel
theorem dX5_bright_22 : decode cX5_bright 22 = .ok (.ldc 41, 2) := by decide +kernel
theorem dX5_bright_24 : decode cX5_bright 24 = .ok (.invokevirtual 66, 3) := by decide +kernel
theorem dX5_bright_27 : decode cX5_bright 27 = .ok (.ireturn, 1) := by decide +kernel
theorem dX5_shadesOf_0 : decode cX5_shadesOf 0 = .ok (.aload_n 0, 1) := by decide +kernel
theorem dX5_shadesOf_1 : decode cX5_shadesOf 1 = .ok (.iload_n 1, 1) := by decide +kernel
theorem dX5_shadesOf_2 : decode cX5_shadesOf 2 = .ok (.iconst 0, 1) := by decide +kernel
theorem dX5_shadesOf_3 : decode cX5_shadesOf 3 = .ok (.invokevirtual 54, 3) := by decide +kernel
theorem dX5_shadesOf_6 : decode cX5_shadesOf 6 = .ok (.istore_n 2, 1) := by decide +kernel
theorem dX5_shadesOf_7 : decode cX5_shadesOf 7 = .ok (.iload_n 2, 1) := by decide +kernel
theorem dX5_shadesOf_8 : decode cX5_shadesOf 8 = .ok (.iconst 1, 1) := by decide +kernel
theorem dX5_shadesOf_9 : decode cX5_shadesOf 9 = .ok (.if_icmp .ne 7, 3) := by decide +kernel
theorem dX5_shadesOf_12 : decode cX5_shadesOf 12 = .ok (.iconst 1, 1) := by decide +kernel
theorem dX5_shadesOf_13 : decode cX5_shadesOf 13 = .ok (.goto 13, 3) := by decide +kernel
theorem dX5_shadesOf_16 : decode cX5_shadesOf 16 = .ok (.iload_n 2, 1) := by decide +kernel
theorem dX5_shadesOf_17 : decode cX5_shadesOf 17 = .ok (.iconst 4, 1) := by decide +kernel
theorem dX5_shadesOf_18 : decode cX5_shadesOf 18 = .ok (.if_icmp .ne 7, 3) := by decide +kernel
theorem dX5_shadesOf_21 : decode cX5_shadesOf 21 = .ok (.iconst 2, 1) := by decide +kernel
theorem dX5_shadesOf_22 : decode cX5_shadesOf 22 = .ok (.goto 4, 3) := by decide +kernel
theorem dX5_shadesOf_25 : decode cX5_shadesOf 25 = .ok (.iconst 0, 1) := by decide +kernel
theorem dX5_shadesOf_26 : decode cX5_shadesOf 26 = .ok (.ireturn, 1) := by decide +kernel
theorem dX5_farOf_0 : decode cX5_farOf 0 = .ok (.iload_n 1, 1) := by decide +kernel
theorem dX5_farOf_1 : decode cX5_farOf 1 = .ok (.aload_n 0, 1) := by decide +kernel
theorem dX5_farOf_2 : decode cX5_farOf 2 = .ok (.getfield 7, 3) := by decide +kernel
theorem dX5_farOf_5 : decode cX5_farOf 5 = .ok (.iconst 3, 1) := by decide +kernel
theorem dX5_farOf_6 : decode cX5_farOf 6 = .ok (.iaload, 1) := by decide +kernel
theorem dX5_farOf_7 : decode cX5_farOf 7 = .ok (.if_icmp .ge 14, 3) := by decide +kernel
theorem dX5_farOf_10 : decode cX5_farOf 10 = .ok (.aload_n 0, 1) := by decide +kernel
theorem dX5_farOf_11 : decode cX5_farOf 11 = .ok (.getfield 7, 3) := by decide +kernel
theorem dX5_farOf_14 : decode cX5_farOf 14 = .ok (.iconst 3, 1) := by decide +kernel
theorem dX5_farOf_15 : decode cX5_farOf 15 = .ok (.iaload, 1) := by decide +kernel
theorem dX5_farOf_16 : decode cX5_farOf 16 = .ok (.iload_n 1, 1) := by decide +kernel
theorem dX5_farOf_17 : decode cX5_farOf 17 = .ok (.isub, 1) := by decide +kernel
theorem dX5_farOf_18 : decode cX5_farOf 18 = .ok (.goto 11, 3) := by decide +kernel
theorem dX5_farOf_21 : decode cX5_farOf 21 = .ok (.iload_n 1, 1) := by decide +kernel
theorem dX5_farOf_22 : decode cX5_farOf 22 = .ok (.aload_n 0, 1) := by decide +kernel
theorem dX5_farOf_23 : decode cX5_farOf 23 = .ok (.getfield 7, 3) := by decide +kernel
theorem dX5_farOf_26 : decode cX5_farOf 26 = .ok (.iconst 3, 1) := by decide +kernel
theorem dX5_farOf_27 : decode cX5_farOf 27 = .ok (.iaload, 1) := by decide +kernel
theorem dX5_farOf_28 : decode cX5_farOf 28 = .ok (.isub, 1) := by decide +kernel
theorem dX5_farOf_29 : decode cX5_farOf 29 = .ok (.ireturn, 1) := by decide +kernel
theorem dX5_isLit_0 : decode cX5_isLit 0 = .ok (.aload_n 0, 1) := by decide +kernel
theorem dX5_isLit_1 : decode cX5_isLit 1 = .ok (.aload_n 0, 1) := by decide +kernel
theorem dX5_isLit_2 : decode cX5_isLit 2 = .ok (.getfield 7, 3) := by decide +kernel
theorem dX5_isLit_5 : decode cX5_isLit 5 = .ok (.iconst 3, 1) := by decide +kernel
theorem dX5_isLit_6 : decode cX5_isLit 6 = .ok (.iaload, 1) := by decide +kernel
theorem dX5_isLit_7 : decode cX5_isLit 7 = .ok (.invokevirtual 69, 3) := by decide +kernel
theorem dX5_isLit_10 : decode cX5_isLit 10 = .ok (.ifCond .ne 5, 3) := by decide +kernel
theorem dX5_isLit_13 : decode cX5_isLit 13 = .ok (.iconst 0, 1) := by decide +kernel
theorem dX5_isLit_14 : decode cX5_isLit 14 = .ok (.ireturn, 1) := by decide +kernel
theorem dX5_isLit_15 : decode cX5_isLit 15 = .ok (.aload_n 0, 1) := by decide +kernel
theorem dX5_isLit_16 : decode cX5_isLit 16 = .ok (.getfield 7, 3) := by decide +kernel
theorem dX5_isLit_19 : decode cX5_isLit 19 = .ok (.iconst 4, 1) := by decide +kernel
theorem dX5_isLit_20 : decode cX5_isLit 20 = .ok (.iaload, 1) := by decide +kernel
theorem dX5_isLit_21 : decode cX5_isLit 21 = .ok (.istore_n 2, 1) := by decide +kernel
theorem dX5_isLit_22 : decode cX5_isLit 22 = .ok (.aload_n 0, 1) := by decide +kernel
theorem dX5_isLit_23 : decode cX5_isLit 23 = .ok (.getfield 7, 3) := by decide +kernel
theorem dX5_isLit_26 : decode cX5_isLit 26 = .ok (.iconst 3, 1) := by decide +kernel
theorem dX5_isLit_27 : decode cX5_isLit 27 = .ok (.iaload, 1) := by decide +kernel
theorem dX5_isLit_28 : decode cX5_isLit 28 = .ok (.iconst 1, 1) := by decide +kernel
theorem dX5_isLit_29 : decode cX5_isLit 29 = .ok (.iadd, 1) := by decide +kernel
theorem dX5_isLit_30 : decode cX5_isLit 30 = .ok (.istore_n 3, 1) := by decide +kernel
theorem dX5_isLit_31 : decode cX5_isLit 31 = .ok (.iload_n 3, 1) := by decide +kernel
theorem dX5_isLit_32 : decode cX5_isLit 32 = .ok (.iload_n 1, 1) := by decide +kernel
theorem dX5_isLit_33 : decode cX5_isLit 33 = .ok (.if_icmp .ge 17, 3) := by decide +kernel
theorem dX5_isLit_36 : decode cX5_isLit 36 = .ok (.iload_n 2, 1) := by decide +kernel
theorem dX5_isLit_37 : decode cX5_isLit 37 = .ok (.aload_n 0, 1) := by decide +kernel
theorem dX5_isLit_38 : decode cX5_isLit 38 = .ok (.iload_n 3, 1) := by decide +kernel
theorem dX5_isLit_39 : decode cX5_isLit 39 = .ok (.invokevirtual 75, 3) := by decide +kernel
theorem dX5_isLit_42 : decode cX5_isLit 42 = .ok (.isub, 1) := by decide +kernel
theorem dX5_isLit_43 : decode cX5_isLit 43 = .ok (.istore_n 2, 1) := by decide +kernel
theorem dX5_isLit_44 : decode cX5_isLit 44 = .ok (.iinc 3 1, 3) := by decide +kernel
theorem dX5_isLit_47 : decode cX5_isLit 47 = .ok (.goto (-16), 3) := by decide +kernel
theorem dX5_isLit_50 : decode cX5_isLit 50 = .ok (.aload_n 0, 1) := by decide +kernel
theorem dX5_isLit_51 : decode cX5_isLit 51 = .ok (.iload_n 1, 1) := by decide +kernel
theorem dX5_isLit_52 : decode cX5_isLit 52 = .ok (.invokevirtual 78, 3) := by decide +kernel
theorem dX5_isLit_55 : decode cX5_isLit 55 = .ok (.ifCond .eq 12, 3) := by decide +kernel
theorem dX5_isLit_58 : decode cX5_isLit 58 = .ok (.aload_n 0, 1) := by decide +kernel
theorem dX5_isLit_59 : decode cX5_isLit 59 = .ok (.iload_n 1, 1) := by decide +kernel
theorem dX5_isLit_60 : decode cX5_isLit 60 = .ok (.invokevirtual 78, 3) := by decide +kernel
theorem dX5_isLit_63 : decode cX5_isLit 63 = .ok (.iload_n 2, 1) := by decide +kernel
theorem dX5_isLit_64 : decode cX5_isLit 64 = .ok (.if_icmp .gt 7, 3) := by decide +kernel
theorem dX5_isLit_67 : decode cX5_isLit 67 = .ok (.iconst 1, 1) := by decide +kernel
theorem dX5_isLit_68 : decode cX5_isLit 68 = .ok (.goto 4, 3) := by decide +kernel
theorem dX5_isLit_71 : decode cX5_isLit 71 = .ok (.iconst 0, 1) := by decide +kernel
theorem dX5_isLit_72 : decode cX5_isLit 72 = .ok (.ireturn, 1) := by decide +kernel
theorem dX5_litOnes_0 : decode cX5_litOnes 0 = .ok (.iconst 0, 1) := by decide +kernel
theorem dX5_litOnes_1 : decode cX5_litOnes 1 = .ok (.istore_n 1, 1) := by decide +kernel
theorem dX5_litOnes_2 : decode cX5_litOnes 2 = .ok (.iconst 0, 1) := by decide +kernel
theorem dX5_litOnes_3 : decode cX5_litOnes 3 = .ok (.istore_n 2, 1) := by decide +kernel
theorem dX5_litOnes_4 : decode cX5_litOnes 4 = .ok (.iload_n 2, 1) := by decide +kernel
theorem dX5_litOnes_5 : decode cX5_litOnes 5 = .ok (.aload_n 0, 1) := by decide +kernel
theorem dX5_litOnes_6 : decode cX5_litOnes 6 = .ok (.getfield 7, 3) := by decide +kernel
theorem dX5_litOnes_9 : decode cX5_litOnes 9 = .ok (.iconst 1, 1) := by decide +kernel
theorem dX5_litOnes_10 : decode cX5_litOnes 10 = .ok (.iaload, 1) := by decide +kernel
theorem dX5_litOnes_11 : decode cX5_litOnes 11 = .ok (.if_icmp .ge 27, 3) := by decide +kernel
theorem dX5_litOnes_14 : decode cX5_litOnes 14 = .ok (.iload_n 1, 1) := by decide +kernel
theorem dX5_litOnes_15 : decode cX5_litOnes 15 = .ok (.aload_n 0, 1) := by decide +kernel
theorem dX5_litOnes_16 : decode cX5_litOnes 16 = .ok (.iload_n 2, 1) := by decide +kernel
theorem dX5_litOnes_17 : decode cX5_litOnes 17 = .ok (.invokevirtual 81, 3) := by decide +kernel
theorem dX5_litOnes_20 : decode cX5_litOnes 20 = .ok (.ifCond .eq 9, 3) := by decide +kernel
theorem dX5_litOnes_23 : decode cX5_litOnes 23 = .ok (.iconst 1, 1) := by decide +kernel
theorem dX5_litOnes_24 : decode cX5_litOnes 24 = .ok (.iload_n 2, 1) := by decide +kernel
theorem dX5_litOnes_25 : decode cX5_litOnes 25 = .ok (.ishl, 1) := by decide +kernel
theorem dX5_litOnes_26 : decode cX5_litOnes 26 = .ok (.goto 4, 3) := by decide +kernel
theorem dX5_litOnes_29 : decode cX5_litOnes 29 = .ok (.iconst 0, 1) := by decide +kernel
theorem dX5_litOnes_30 : decode cX5_litOnes 30 = .ok (.ior, 1) := by decide +kernel
theorem dX5_litOnes_31 : decode cX5_litOnes 31 = .ok (.istore_n 1, 1) := by decide +kernel
theorem dX5_litOnes_32 : decode cX5_litOnes 32 = .ok (.iinc 2 1, 3) := by decide +kernel
theorem dX5_litOnes_35 : decode cX5_litOnes 35 = .ok (.goto (-31), 3) := by decide +kernel
theorem dX5_litOnes_38 : decode cX5_litOnes 38 = .ok (.iload_n 1, 1) := by decide +kernel
theorem dX5_litOnes_39 : decode cX5_litOnes 39 = .ok (.ireturn, 1) := by decide +kernel
theorem dX5_rootedOnes_0 : decode cX5_rootedOnes 0 = .ok (.iconst 0, 1) := by decide +kernel
theorem dX5_rootedOnes_1 : decode cX5_rootedOnes 1 = .ok (.istore_n 1, 1) := by decide +kernel
theorem dX5_rootedOnes_2 : decode cX5_rootedOnes 2 = .ok (.iconst 0, 1) := by decide +kernel
theorem dX5_rootedOnes_3 : decode cX5_rootedOnes 3 = .ok (.istore_n 2, 1) := by decide +kernel
theorem dX5_rootedOnes_4 : decode cX5_rootedOnes 4 = .ok (.iload_n 2, 1) := by decide +kernel
theorem dX5_rootedOnes_5 : decode cX5_rootedOnes 5 = .ok (.aload_n 0, 1) := by decide +kernel
theorem dX5_rootedOnes_6 : decode cX5_rootedOnes 6 = .ok (.getfield 7, 3) := by decide +kernel
theorem dX5_rootedOnes_9 : decode cX5_rootedOnes 9 = .ok (.iconst 1, 1) := by decide +kernel
theorem dX5_rootedOnes_10 : decode cX5_rootedOnes 10 = .ok (.iaload, 1) := by decide +kernel
theorem dX5_rootedOnes_11 : decode cX5_rootedOnes 11 = .ok (.if_icmp .ge 27, 3) := by decide +kernel
theorem dX5_rootedOnes_14 : decode cX5_rootedOnes 14 = .ok (.iload_n 1, 1) := by decide +kernel
theorem dX5_rootedOnes_15 : decode cX5_rootedOnes 15 = .ok (.aload_n 0, 1) := by decide +kernel
theorem dX5_rootedOnes_16 : decode cX5_rootedOnes 16 = .ok (.iload_n 2, 1) := by decide +kernel
theorem dX5_rootedOnes_17 : decode cX5_rootedOnes 17 = .ok (.invokevirtual 84, 3) := by decide +kernel
theorem dX5_rootedOnes_20 : decode cX5_rootedOnes 20 = .ok (.ifCond .eq 9, 3) := by decide +kernel
theorem dX5_rootedOnes_23 : decode cX5_rootedOnes 23 = .ok (.iconst 1, 1) := by decide +kernel
theorem dX5_rootedOnes_24 : decode cX5_rootedOnes 24 = .ok (.iload_n 2, 1) := by decide +kernel
theorem dX5_rootedOnes_25 : decode cX5_rootedOnes 25 = .ok (.ishl, 1) := by decide +kernel
theorem dX5_rootedOnes_26 : decode cX5_rootedOnes 26 = .ok (.goto 4, 3) := by decide +kernel
theorem dX5_rootedOnes_29 : decode cX5_rootedOnes 29 = .ok (.iconst 0, 1) := by decide +kernel
theorem dX5_rootedOnes_30 : decode cX5_rootedOnes 30 = .ok (.ior, 1) := by decide +kernel
theorem dX5_rootedOnes_31 : decode cX5_rootedOnes 31 = .ok (.istore_n 1, 1) := by decide +kernel
theorem dX5_rootedOnes_32 : decode cX5_rootedOnes 32 = .ok (.iinc 2 1, 3) := by decide +kernel
theorem dX5_rootedOnes_35 : decode cX5_rootedOnes 35 = .ok (.goto (-31), 3) := by decide +kernel
theorem dX5_rootedOnes_38 : decode cX5_rootedOnes 38 = .ok (.iload_n 1, 1) := by decide +kernel
theorem dX5_rootedOnes_39 : decode cX5_rootedOnes 39 = .ok (.ireturn, 1) := by decide +kernel
theorem dX5_heardOnes_0 : decode cX5_heardOnes 0 = .ok (.iconst 0, 1) := by decide +kernel
theorem dX5_heardOnes_1 : decode cX5_heardOnes 1 = .ok (.istore_n 1, 1) := by decide +kernel
theorem dX5_heardOnes_2 : decode cX5_heardOnes 2 = .ok (.iconst 0, 1) := by decide +kernel
theorem dX5_heardOnes_3 : decode cX5_heardOnes 3 = .ok (.istore_n 2, 1) := by decide +kernel
theorem dX5_heardOnes_4 : decode cX5_heardOnes 4 = .ok (.iload_n 2, 1) := by decide +kernel
theorem dX5_heardOnes_5 : decode cX5_heardOnes 5 = .ok (.aload_n 0, 1) := by decide +kernel
theorem dX5_heardOnes_6 : decode cX5_heardOnes 6 = .ok (.getfield 7, 3) := by decide +kernel
theorem dX5_heardOnes_9 : decode cX5_heardOnes 9 = .ok (.iconst 1, 1) := by decide +kernel
theorem dX5_heardOnes_10 : decode cX5_heardOnes 10 = .ok (.iaload, 1) := by decide +kernel
theorem dX5_heardOnes_11 : decode cX5_heardOnes 11 = .ok (.if_icmp .ge 20, 3) := by decide +kernel
theorem dX5_heardOnes_14 : decode cX5_heardOnes 14 = .ok (.iload_n 1, 1) := by decide +kernel
theorem dX5_heardOnes_15 : decode cX5_heardOnes 15 = .ok (.aload_n 0, 1) := by decide +kernel
theorem dX5_heardOnes_16 : decode cX5_heardOnes 16 = .ok (.iload_n 2, 1) := by decide +kernel
theorem dX5_heardOnes_17 : decode cX5_heardOnes 17 = .ok (.iconst 1, 1) := by decide +kernel
theorem dX5_heardOnes_18 : decode cX5_heardOnes 18 = .ok (.invokevirtual 54, 3) := by decide +kernel
theorem dX5_heardOnes_21 : decode cX5_heardOnes 21 = .ok (.iload_n 2, 1) := by decide +kernel
theorem dX5_heardOnes_22 : decode cX5_heardOnes 22 = .ok (.ishl, 1) := by decide +kernel
theorem dX5_heardOnes_23 : decode cX5_heardOnes 23 = .ok (.ior, 1) := by decide +kernel
theorem dX5_heardOnes_24 : decode cX5_heardOnes 24 = .ok (.istore_n 1, 1) := by decide +kernel
theorem dX5_heardOnes_25 : decode cX5_heardOnes 25 = .ok (.iinc 2 1, 3) := by decide +kernel
theorem dX5_heardOnes_28 : decode cX5_heardOnes 28 = .ok (.goto (-24), 3) := by decide +kernel
theorem dX5_heardOnes_31 : decode cX5_heardOnes 31 = .ok (.iload_n 1, 1) := by decide +kernel
theorem dX5_heardOnes_32 : decode cX5_heardOnes 32 = .ok (.ireturn, 1) := by decide +kernel
theorem dX5_now_0 : decode cX5_now 0 = .ok (.iload_n 1, 1) := by decide +kernel
theorem dX5_now_1 : decode cX5_now 1 = .ok (.tableswitch 96 0 7 #[47, 54, 61, 68, 75, 80, 85, 90], 47) := by decide +kernel
theorem dX5_now_48 : decode cX5_now 48 = .ok (.aload_n 0, 1) := by decide +kernel
theorem dX5_now_49 : decode cX5_now 49 = .ok (.getfield 7, 3) := by decide +kernel
theorem dX5_now_52 : decode cX5_now 52 = .ok (.iconst 0, 1) := by decide +kernel
theorem dX5_now_53 : decode cX5_now 53 = .ok (.iaload, 1) := by decide +kernel
theorem dX5_now_54 : decode cX5_now 54 = .ok (.ireturn, 1) := by decide +kernel
theorem dX5_now_55 : decode cX5_now 55 = .ok (.aload_n 0, 1) := by decide +kernel
theorem dX5_now_56 : decode cX5_now 56 = .ok (.getfield 7, 3) := by decide +kernel
theorem dX5_now_59 : decode cX5_now 59 = .ok (.iconst 2, 1) := by decide +kernel
theorem dX5_now_60 : decode cX5_now 60 = .ok (.iaload, 1) := by decide +kernel
theorem dX5_now_61 : decode cX5_now 61 = .ok (.ireturn, 1) := by decide +kernel
theorem dX5_now_62 : decode cX5_now 62 = .ok (.aload_n 0, 1) := by decide +kernel
theorem dX5_now_63 : decode cX5_now 63 = .ok (.getfield 7, 3) := by decide +kernel
theorem dX5_now_66 : decode cX5_now 66 = .ok (.iconst 3, 1) := by decide +kernel
theorem dX5_now_67 : decode cX5_now 67 = .ok (.iaload, 1) := by decide +kernel
theorem dX5_now_68 : decode cX5_now 68 = .ok (.ireturn, 1) := by decide +kernel
theorem dX5_now_69 : decode cX5_now 69 = .ok (.aload_n 0, 1) := by decide +kernel
theorem dX5_now_70 : decode cX5_now 70 = .ok (.getfield 7, 3) := by decide +kernel
theorem dX5_now_73 : decode cX5_now 73 = .ok (.iconst 4, 1) := by decide +kernel
theorem dX5_now_74 : decode cX5_now 74 = .ok (.iaload, 1) := by decide +kernel
theorem dX5_now_75 : decode cX5_now 75 = .ok (.ireturn, 1) := by decide +kernel
theorem dX5_now_76 : decode cX5_now 76 = .ok (.aload_n 0, 1) := by decide +kernel
theorem dX5_now_77 : decode cX5_now 77 = .ok (.invokevirtual 87, 3) := by decide +kernel
theorem dX5_now_80 : decode cX5_now 80 = .ok (.ireturn, 1) := by decide +kernel
theorem dX5_now_81 : decode cX5_now 81 = .ok (.aload_n 0, 1) := by decide +kernel
theorem dX5_now_82 : decode cX5_now 82 = .ok (.invokevirtual 91, 3) := by decide +kernel
theorem dX5_now_85 : decode cX5_now 85 = .ok (.ireturn, 1) := by decide +kernel
theorem dX5_now_86 : decode cX5_now 86 = .ok (.aload_n 0, 1) := by decide +kernel
theorem dX5_now_87 : decode cX5_now 87 = .ok (.invokevirtual 94, 3) := by decide +kernel
theorem dX5_now_90 : decode cX5_now 90 = .ok (.ireturn, 1) := by decide +kernel
theorem dX5_now_91 : decode cX5_now 91 = .ok (.aload_n 0, 1) := by decide +kernel
theorem dX5_now_92 : decode cX5_now 92 = .ok (.iconst 2, 1) := by decide +kernel
theorem dX5_now_93 : decode cX5_now 93 = .ok (.invokevirtual 97, 3) := by decide +kernel
theorem dX5_now_96 : decode cX5_now 96 = .ok (.ireturn, 1) := by decide +kernel
theorem dX5_now_97 : decode cX5_now 97 = .ok (.aload_n 0, 1) := by decide +kernel
theorem dX5_now_98 : decode cX5_now 98 = .ok (.ldc 41, 2) := by decide +kernel
theorem dX5_now_100 : decode cX5_now 100 = .ok (.invokevirtual 66, 3) := by decide +kernel
theorem dX5_now_103 : decode cX5_now 103 = .ok (.ireturn, 1) := by decide +kernel
theorem dX5_isSeeing_0 : decode cX5_isSeeing 0 = .ok (.aload_n 0, 1) := by decide +kernel
theorem dX5_isSeeing_1 : decode cX5_isSeeing 1 = .ok (.iload_n 1, 1) := by decide +kernel
theorem dX5_isSeeing_2 : decode cX5_isSeeing 2 = .ok (.invokevirtual 81, 3) := by decide +kernel
theorem dX5_isSeeing_5 : decode cX5_isSeeing 5 = .ok (.istore_n 2, 1) := by decide +kernel
theorem dX5_isSeeing_6 : decode cX5_isSeeing 6 = .ok (.aload_n 0, 1) := by decide +kernel
theorem dX5_isSeeing_7 : decode cX5_isSeeing 7 = .ok (.iload_n 1, 1) := by decide +kernel
theorem dX5_isSeeing_8 : decode cX5_isSeeing 8 = .ok (.iconst 0, 1) := by decide +kernel
theorem dX5_isSeeing_9 : decode cX5_isSeeing 9 = .ok (.invokevirtual 54, 3) := by decide +kernel
theorem dX5_isSeeing_12 : decode cX5_isSeeing 12 = .ok (.tableswitch 106 1 5 #[36, 106, 55, 57, 84], 36) := by decide +kernel
theorem dX5_isSeeing_48 : decode cX5_isSeeing 48 = .ok (.iload_n 2, 1) := by decide +kernel
theorem dX5_isSeeing_49 : decode cX5_isSeeing 49 = .ok (.ifCond .eq 16, 3) := by decide +kernel
theorem dX5_isSeeing_52 : decode cX5_isSeeing 52 = .ok (.aload_n 0, 1) := by decide +kernel
theorem dX5_isSeeing_53 : decode cX5_isSeeing 53 = .ok (.iload_n 1, 1) := by decide +kernel
theorem dX5_isSeeing_54 : decode cX5_isSeeing 54 = .ok (.invokevirtual 78, 3) := by decide +kernel
theorem dX5_isSeeing_57 : decode cX5_isSeeing 57 = .ok (.iconst 2, 1) := by decide +kernel
theorem dX5_isSeeing_58 : decode cX5_isSeeing 58 = .ok (.if_icmp .gt 7, 3) := by decide +kernel
theorem dX5_isSeeing_61 : decode cX5_isSeeing 61 = .ok (.iconst 1, 1) := by decide +kernel
theorem dX5_isSeeing_62 : decode cX5_isSeeing 62 = .ok (.goto 4, 3) := by decide +kernel
theorem dX5_isSeeing_65 : decode cX5_isSeeing 65 = .ok (.iconst 0, 1) := by decide +kernel
theorem dX5_isSeeing_66 : decode cX5_isSeeing 66 = .ok (.ireturn, 1) := by decide +kernel
theorem dX5_isSeeing_67 : decode cX5_isSeeing 67 = .ok (.iconst 1, 1) := by decide +kernel
theorem dX5_isSeeing_68 : decode cX5_isSeeing 68 = .ok (.ireturn, 1) := by decide +kernel
theorem dX5_isSeeing_69 : decode cX5_isSeeing 69 = .ok (.iload_n 2, 1) := by decide +kernel
theorem dX5_isSeeing_70 : decode cX5_isSeeing 70 = .ok (.ifCond .eq 24, 3) := by decide +kernel
theorem dX5_isSeeing_73 : decode cX5_isSeeing 73 = .ok (.aload_n 0, 1) := by decide +kernel
theorem dX5_isSeeing_74 : decode cX5_isSeeing 74 = .ok (.iload_n 1, 1) := by decide +kernel
theorem dX5_isSeeing_75 : decode cX5_isSeeing 75 = .ok (.invokevirtual 78, 3) := by decide +kernel
theorem dX5_isSeeing_78 : decode cX5_isSeeing 78 = .ok (.iconst 2, 1) := by decide +kernel
theorem dX5_isSeeing_79 : decode cX5_isSeeing 79 = .ok (.if_icmp .gt 15, 3) := by decide +kernel
theorem dX5_isSeeing_82 : decode cX5_isSeeing 82 = .ok (.aload_n 0, 1) := by decide +kernel
theorem dX5_isSeeing_83 : decode cX5_isSeeing 83 = .ok (.iload_n 1, 1) := by decide +kernel
theorem dX5_isSeeing_84 : decode cX5_isSeeing 84 = .ok (.invokevirtual 78, 3) := by decide +kernel
theorem dX5_isSeeing_87 : decode cX5_isSeeing 87 = .ok (.ifCond .le 7, 3) := by decide +kernel
theorem dX5_isSeeing_90 : decode cX5_isSeeing 90 = .ok (.iconst 1, 1) := by decide +kernel
theorem dX5_isSeeing_91 : decode cX5_isSeeing 91 = .ok (.goto 4, 3) := by decide +kernel
theorem dX5_isSeeing_94 : decode cX5_isSeeing 94 = .ok (.iconst 0, 1) := by decide +kernel
theorem dX5_isSeeing_95 : decode cX5_isSeeing 95 = .ok (.ireturn, 1) := by decide +kernel
theorem dX5_isSeeing_96 : decode cX5_isSeeing 96 = .ok (.iload_n 2, 1) := by decide +kernel
theorem dX5_isSeeing_97 : decode cX5_isSeeing 97 = .ok (.ifCond .eq 19, 3) := by decide +kernel
theorem dX5_isSeeing_100 : decode cX5_isSeeing 100 = .ok (.aload_n 0, 1) := by decide +kernel
theorem dX5_isSeeing_101 : decode cX5_isSeeing 101 = .ok (.getfield 7, 3) := by decide +kernel
theorem dX5_isSeeing_104 : decode cX5_isSeeing 104 = .ok (.iconst 0, 1) := by decide +kernel
theorem dX5_isSeeing_105 : decode cX5_isSeeing 105 = .ok (.iaload, 1) := by decide +kernel
theorem dX5_isSeeing_106 : decode cX5_isSeeing 106 = .ok (.iconst 3, 1) := by decide +kernel
theorem dX5_isSeeing_107 : decode cX5_isSeeing 107 = .ok (.irem, 1) := by decide +kernel
theorem dX5_isSeeing_108 : decode cX5_isSeeing 108 = .ok (.iconst 2, 1) := by decide +kernel
theorem dX5_isSeeing_109 : decode cX5_isSeeing 109 = .ok (.if_icmp .eq 7, 3) := by decide +kernel
theorem dX5_isSeeing_112 : decode cX5_isSeeing 112 = .ok (.iconst 1, 1) := by decide +kernel
theorem dX5_isSeeing_113 : decode cX5_isSeeing 113 = .ok (.goto 4, 3) := by decide +kernel
theorem dX5_isSeeing_116 : decode cX5_isSeeing 116 = .ok (.iconst 0, 1) := by decide +kernel
theorem dX5_isSeeing_117 : decode cX5_isSeeing 117 = .ok (.ireturn, 1) := by decide +kernel
theorem dX5_isSeeing_118 : decode cX5_isSeeing 118 = .ok (.iload_n 2, 1) := by decide +kernel
theorem dX5_isSeeing_119 : decode cX5_isSeeing 119 = .ok (.ireturn, 1) := by decide +kernel
theorem dX5_isHeeding_0 : decode cX5_isHeeding 0 = .ok (.aload_n 0, 1) := by decide +kernel
theorem dX5_isHeeding_1 : decode cX5_isHeeding 1 = .ok (.iload_n 1, 1) := by decide +kernel
theorem dX5_isHeeding_2 : decode cX5_isHeeding 2 = .ok (.iconst 0, 1) := by decide +kernel
theorem dX5_isHeeding_3 : decode cX5_isHeeding 3 = .ok (.invokevirtual 54, 3) := by decide +kernel
theorem dX5_isHeeding_6 : decode cX5_isHeeding 6 = .ok (.istore_n 2, 1) := by decide +kernel
theorem dX5_isHeeding_7 : decode cX5_isHeeding 7 = .ok (.iload_n 2, 1) := by decide +kernel
theorem dX5_isHeeding_8 : decode cX5_isHeeding 8 = .ok (.iconst 2, 1) := by decide +kernel
theorem dX5_isHeeding_9 : decode cX5_isHeeding 9 = .ok (.if_icmp .eq 19, 3) := by decide +kernel
theorem dX5_isHeeding_12 : decode cX5_isHeeding 12 = .ok (.iload_n 2, 1) := by decide +kernel
theorem dX5_isHeeding_13 : decode cX5_isHeeding 13 = .ok (.iconst 5, 1) := by decide +kernel
theorem dX5_isHeeding_14 : decode cX5_isHeeding 14 = .ok (.if_icmp .eq 18, 3) := by decide +kernel
theorem dX5_isHeeding_17 : decode cX5_isHeeding 17 = .ok (.aload_n 0, 1) := by decide +kernel
theorem dX5_isHeeding_18 : decode cX5_isHeeding 18 = .ok (.iload_n 1, 1) := by decide +kernel
theorem dX5_isHeeding_19 : decode cX5_isHeeding 19 = .ok (.iconst 3, 1) := by decide +kernel
theorem dX5_isHeeding_20 : decode cX5_isHeeding 20 = .ok (.invokevirtual 54, 3) := by decide +kernel
theorem dX5_isHeeding_23 : decode cX5_isHeeding 23 = .ok (.bipush 30, 2) := by decide +kernel
theorem dX5_isHeeding_25 : decode cX5_isHeeding 25 = .ok (.if_icmp .lt 7, 3) := by decide +kernel
theorem dX5_isHeeding_28 : decode cX5_isHeeding 28 = .ok (.iconst 1, 1) := by decide +kernel
theorem dX5_isHeeding_29 : decode cX5_isHeeding 29 = .ok (.goto 4, 3) := by decide +kernel
theorem dX5_isHeeding_32 : decode cX5_isHeeding 32 = .ok (.iconst 0, 1) := by decide +kernel
theorem dX5_isHeeding_33 : decode cX5_isHeeding 33 = .ok (.ireturn, 1) := by decide +kernel
theorem dX5_isSaying_0 : decode cX5_isSaying 0 = .ok (.aload_n 0, 1) := by decide +kernel
theorem dX5_isSaying_1 : decode cX5_isSaying 1 = .ok (.getfield 100, 3) := by decide +kernel
theorem dX5_isSaying_4 : decode cX5_isSaying 4 = .ok (.iload_n 1, 1) := by decide +kernel
theorem dX5_isSaying_5 : decode cX5_isSaying 5 = .ok (.ishr, 1) := by decide +kernel
theorem dX5_isSaying_6 : decode cX5_isSaying 6 = .ok (.iconst 1, 1) := by decide +kernel
theorem dX5_isSaying_7 : decode cX5_isSaying 7 = .ok (.iand, 1) := by decide +kernel
theorem dX5_isSaying_8 : decode cX5_isSaying 8 = .ok (.iconst 1, 1) := by decide +kernel
theorem dX5_isSaying_9 : decode cX5_isSaying 9 = .ok (.if_icmp .ne 7, 3) := by decide +kernel
theorem dX5_isSaying_12 : decode cX5_isSaying 12 = .ok (.iconst 1, 1) := by decide +kernel
theorem dX5_isSaying_13 : decode cX5_isSaying 13 = .ok (.goto 4, 3) := by decide +kernel
theorem dX5_isSaying_16 : decode cX5_isSaying 16 = .ok (.iconst 0, 1) := by decide +kernel
theorem dX5_isSaying_17 : decode cX5_isSaying 17 = .ok (.istore_n 2, 1) := by decide +kernel
theorem dX5_isSaying_18 : decode cX5_isSaying 18 = .ok (.iload_n 2, 1) := by decide +kernel
theorem dX5_isSaying_19 : decode cX5_isSaying 19 = .ok (.ifCond .ne 19, 3) := by decide +kernel
theorem dX5_isSaying_22 : decode cX5_isSaying 22 = .ok (.aload_n 0, 1) := by decide +kernel
theorem dX5_isSaying_23 : decode cX5_isSaying 23 = .ok (.iload_n 1, 1) := by decide +kernel
theorem dX5_isSaying_24 : decode cX5_isSaying 24 = .ok (.invokevirtual 84, 3) := by decide +kernel
theorem dX5_isSaying_27 : decode cX5_isSaying 27 = .ok (.ifCond .eq 15, 3) := by decide +kernel
theorem dX5_isSaying_30 : decode cX5_isSaying 30 = .ok (.aload_n 0, 1) := by decide +kernel
theorem dX5_isSaying_31 : decode cX5_isSaying 31 = .ok (.iload_n 1, 1) := by decide +kernel
theorem dX5_isSaying_32 : decode cX5_isSaying 32 = .ok (.invokevirtual 104, 3) := by decide +kernel
theorem dX5_isSaying_35 : decode cX5_isSaying 35 = .ok (.ifCond .eq 7, 3) := by decide +kernel
theorem dX5_isSaying_38 : decode cX5_isSaying 38 = .ok (.iconst 1, 1) := by decide +kernel
theorem dX5_isSaying_39 : decode cX5_isSaying 39 = .ok (.goto 4, 3) := by decide +kernel
theorem dX5_isSaying_42 : decode cX5_isSaying 42 = .ok (.iconst 0, 1) := by decide +kernel
theorem dX5_isSaying_43 : decode cX5_isSaying 43 = .ok (.istore_n 3, 1) := by decide +kernel
theorem dX5_isSaying_44 : decode cX5_isSaying 44 = .ok (.iload_n 3, 1) := by decide +kernel
theorem dX5_isSaying_45 : decode cX5_isSaying 45 = .ok (.ifCond .ne 13, 3) := by decide +kernel
theorem dX5_isSaying_48 : decode cX5_isSaying 48 = .ok (.aload_n 0, 1) := by decide +kernel
theorem dX5_isSaying_49 : decode cX5_isSaying 49 = .ok (.iload_n 1, 1) := by decide +kernel
theorem dX5_isSaying_50 : decode cX5_isSaying 50 = .ok (.iconst 1, 1) := by decide +kernel
theorem dX5_isSaying_51 : decode cX5_isSaying 51 = .ok (.invokevirtual 54, 3) := by decide +kernel
theorem dX5_isSaying_54 : decode cX5_isSaying 54 = .ok (.iconst 1, 1) := by decide +kernel
theorem dX5_isSaying_55 : decode cX5_isSaying 55 = .ok (.if_icmp .ne 7, 3) := by decide +kernel
theorem dX5_isSaying_58 : decode cX5_isSaying 58 = .ok (.iconst 1, 1) := by decide +kernel
theorem dX5_isSaying_59 : decode cX5_isSaying 59 = .ok (.goto 4, 3) := by decide +kernel
theorem dX5_isSaying_62 : decode cX5_isSaying 62 = .ok (.iconst 0, 1) := by decide +kernel
theorem dX5_isSaying_63 : decode cX5_isSaying 63 = .ok (.istore 4, 2) := by decide +kernel
theorem dX5_isSaying_65 : decode cX5_isSaying 65 = .ok (.aload_n 0, 1) := by decide +kernel
theorem dX5_isSaying_66 : decode cX5_isSaying 66 = .ok (.iload_n 1, 1) := by decide +kernel
theorem dX5_isSaying_67 : decode cX5_isSaying 67 = .ok (.iconst 0, 1) := by decide +kernel
theorem dX5_isSaying_68 : decode cX5_isSaying 68 = .ok (.invokevirtual 54, 3) := by decide +kernel
theorem dX5_isSaying_71 : decode cX5_isSaying 71 = .ok (.tableswitch 62 1 5 #[33, 36, 62, 38, 60], 33) := by decide +kernel
theorem dX5_isSaying_104 : decode cX5_isSaying 104 = .ok (.iload 4, 2) := by decide +kernel
theorem dX5_isSaying_106 : decode cX5_isSaying 106 = .ok (.ireturn, 1) := by decide +kernel
theorem dX5_isSaying_107 : decode cX5_isSaying 107 = .ok (.iload_n 2, 1) := by decide +kernel
theorem dX5_isSaying_108 : decode cX5_isSaying 108 = .ok (.ireturn, 1) := by decide +kernel
theorem dX5_isSaying_109 : decode cX5_isSaying 109 = .ok (.iload 4, 2) := by decide +kernel
theorem dX5_isSaying_111 : decode cX5_isSaying 111 = .ok (.ifCond .eq 18, 3) := by decide +kernel
theorem dX5_isSaying_114 : decode cX5_isSaying 114 = .ok (.aload_n 0, 1) := by decide +kernel
theorem dX5_isSaying_115 : decode cX5_isSaying 115 = .ok (.iload_n 1, 1) := by decide +kernel
theorem dX5_isSaying_116 : decode cX5_isSaying 116 = .ok (.iconst 3, 1) := by decide +kernel
theorem dX5_isSaying_117 : decode cX5_isSaying 117 = .ok (.invokevirtual 54, 3) := by decide +kernel
theorem dX5_isSaying_120 : decode cX5_isSaying 120 = .ok (.bipush 20, 2) := by decide +kernel
theorem dX5_isSaying_122 : decode cX5_isSaying 122 = .ok (.if_icmp .lt 7, 3) := by decide +kernel
theorem dX5_isSaying_125 : decode cX5_isSaying 125 = .ok (.iconst 1, 1) := by decide +kernel
theorem dX5_isSaying_126 : decode cX5_isSaying 126 = .ok (.goto 4, 3) := by decide +kernel
theorem dX5_isSaying_129 : decode cX5_isSaying 129 = .ok (.iconst 0, 1) := by decide +kernel
theorem dX5_isSaying_130 : decode cX5_isSaying 130 = .ok (.ireturn, 1) := by decide +kernel
theorem dX5_isSaying_131 : decode cX5_isSaying 131 = .ok (.iconst 0, 1) := by decide +kernel
theorem dX5_isSaying_132 : decode cX5_isSaying 132 = .ok (.ireturn, 1) := by decide +kernel
theorem dX5_isSaying_133 : decode cX5_isSaying 133 = .ok (.iload_n 3, 1) := by decide +kernel
theorem dX5_isSaying_134 : decode cX5_isSaying 134 = .ok (.ireturn, 1) := by decide +kernel
theorem dX5_adds_0 : decode cX5_adds 0 = .ok (.aload_n 0, 1) := by decide +kernel
theorem dX5_adds_1 : decode cX5_adds 1 = .ok (.getfield 7, 3) := by decide +kernel
theorem dX5_adds_4 : decode cX5_adds 4 = .ok (.iconst 1, 1) := by decide +kernel
theorem dX5_adds_5 : decode cX5_adds 5 = .ok (.iaload, 1) := by decide +kernel
theorem dX5_adds_6 : decode cX5_adds 6 = .ok (.istore_n 2, 1) := by decide +kernel
theorem dX5_adds_7 : decode cX5_adds 7 = .ok (.aload_n 0, 1) := by decide +kernel
theorem dX5_adds_8 : decode cX5_adds 8 = .ok (.getfield 7, 3) := by decide +kernel
theorem dX5_adds_11 : decode cX5_adds 11 = .ok (.iconst 1, 1) := by decide +kernel
theorem dX5_adds_12 : decode cX5_adds 12 = .ok (.dup2, 1) := by decide +kernel
theorem dX5_adds_13 : decode cX5_adds 13 = .ok (.iaload, 1) := by decide +kernel
theorem dX5_adds_14 : decode cX5_adds 14 = .ok (.iconst 1, 1) := by decide +kernel
theorem dX5_adds_15 : decode cX5_adds 15 = .ok (.iadd, 1) := by decide +kernel
theorem dX5_adds_16 : decode cX5_adds 16 = .ok (.iastore, 1) := by decide +kernel
theorem dX5_adds_17 : decode cX5_adds 17 = .ok (.aload_n 0, 1) := by decide +kernel
theorem dX5_adds_18 : decode cX5_adds 18 = .ok (.getfield 7, 3) := by decide +kernel
theorem dX5_adds_21 : decode cX5_adds 21 = .ok (.iload_n 2, 1) := by decide +kernel
theorem dX5_adds_22 : decode cX5_adds 22 = .ok (.iconst 0, 1) := by decide +kernel
theorem dX5_adds_23 : decode cX5_adds 23 = .ok (.invokestatic 42, 3) := by decide +kernel
theorem dX5_adds_26 : decode cX5_adds 26 = .ok (.iload_n 1, 1) := by decide +kernel
theorem dX5_adds_27 : decode cX5_adds 27 = .ok (.iastore, 1) := by decide +kernel
theorem dX5_adds_28 : decode cX5_adds 28 = .ok (.aload_n 0, 1) := by decide +kernel
theorem dX5_adds_29 : decode cX5_adds 29 = .ok (.getfield 7, 3) := by decide +kernel
theorem dX5_adds_32 : decode cX5_adds 32 = .ok (.iload_n 2, 1) := by decide +kernel
theorem dX5_adds_33 : decode cX5_adds 33 = .ok (.iconst 1, 1) := by decide +kernel
theorem dX5_adds_34 : decode cX5_adds 34 = .ok (.invokestatic 42, 3) := by decide +kernel
theorem dX5_adds_37 : decode cX5_adds 37 = .ok (.iconst 0, 1) := by decide +kernel
theorem dX5_adds_38 : decode cX5_adds 38 = .ok (.iastore, 1) := by decide +kernel
theorem dX5_adds_39 : decode cX5_adds 39 = .ok (.aload_n 0, 1) := by decide +kernel
theorem dX5_adds_40 : decode cX5_adds 40 = .ok (.getfield 7, 3) := by decide +kernel
theorem dX5_adds_43 : decode cX5_adds 43 = .ok (.iload_n 2, 1) := by decide +kernel
theorem dX5_adds_44 : decode cX5_adds 44 = .ok (.iconst 2, 1) := by decide +kernel
theorem dX5_adds_45 : decode cX5_adds 45 = .ok (.invokestatic 42, 3) := by decide +kernel
theorem dX5_adds_48 : decode cX5_adds 48 = .ok (.iconst 0, 1) := by decide +kernel
theorem dX5_adds_49 : decode cX5_adds 49 = .ok (.iastore, 1) := by decide +kernel
theorem dX5_adds_50 : decode cX5_adds 50 = .ok (.aload_n 0, 1) := by decide +kernel
theorem dX5_adds_51 : decode cX5_adds 51 = .ok (.getfield 7, 3) := by decide +kernel
theorem dX5_adds_54 : decode cX5_adds 54 = .ok (.iload_n 2, 1) := by decide +kernel
theorem dX5_adds_55 : decode cX5_adds 55 = .ok (.iconst 3, 1) := by decide +kernel
theorem dX5_adds_56 : decode cX5_adds 56 = .ok (.invokestatic 42, 3) := by decide +kernel
theorem dX5_adds_59 : decode cX5_adds 59 = .ok (.bipush 50, 2) := by decide +kernel
theorem dX5_adds_61 : decode cX5_adds 61 = .ok (.iastore, 1) := by decide +kernel
theorem dX5_adds_62 : decode cX5_adds 62 = .ok (.iload_n 2, 1) := by decide +kernel
theorem dX5_adds_63 : decode cX5_adds 63 = .ok (.ireturn, 1) := by decide +kernel
theorem dX5_walker_0 : decode cX5_walker 0 = .ok (.iload_n 1, 1) := by decide +kernel
theorem dX5_walker_1 : decode cX5_walker 1 = .ok (.invokestatic 107, 3) := by decide +kernel
theorem dX5_walker_4 : decode cX5_walker 4 = .ok (.ifCond .ne 10, 3) := by decide +kernel
theorem dX5_walker_7 : decode cX5_walker 7 = .ok (.aload_n 0, 1) := by decide +kernel
theorem dX5_walker_8 : decode cX5_walker 8 = .ok (.ldc 41, 2) := by decide +kernel
theorem dX5_walker_10 : decode cX5_walker 10 = .ok (.invokevirtual 66, 3) := by decide +kernel
theorem dX5_walker_13 : decode cX5_walker 13 = .ok (.ireturn, 1) := by decide +kernel
theorem dX5_walker_14 : decode cX5_walker 14 = .ok (.aload_n 0, 1) := by decide +kernel
theorem dX5_walker_15 : decode cX5_walker 15 = .ok (.getfield 7, 3) := by decide +kernel
theorem dX5_walker_18 : decode cX5_walker 18 = .ok (.iconst 1, 1) := by decide +kernel
theorem dX5_walker_19 : decode cX5_walker 19 = .ok (.iaload, 1) := by decide +kernel
theorem dX5_walker_20 : decode cX5_walker 20 = .ok (.bipush 8, 2) := by decide +kernel
theorem dX5_walker_22 : decode cX5_walker 22 = .ok (.if_icmp .ne 12, 3) := by decide +kernel
theorem dX5_walker_25 : decode cX5_walker 25 = .ok (.aload_n 0, 1) := by decide +kernel
theorem dX5_walker_26 : decode cX5_walker 26 = .ok (.ldc 110, 2) := by decide +kernel
theorem dX5_walker_28 : decode cX5_walker 28 = .ok (.invokevirtual 66, 3) := by decide +kernel
theorem dX5_walker_31 : decode cX5_walker 31 = .ok (.goto 8, 3) := by decide +kernel
theorem dX5_walker_34 : decode cX5_walker 34 = .ok (.aload_n 0, 1) := by decide +kernel
theorem dX5_walker_35 : decode cX5_walker 35 = .ok (.iload_n 1, 1) := by decide +kernel
theorem dX5_walker_36 : decode cX5_walker 36 = .ok (.invokevirtual 111, 3) := by decide +kernel
theorem dX5_walker_39 : decode cX5_walker 39 = .ok (.ireturn, 1) := by decide +kernel
theorem dX5_of_0 : decode cX5_of 0 = .ok (.aload_n 0, 1) := by decide +kernel
theorem dX5_of_1 : decode cX5_of 1 = .ok (.iload_n 1, 1) := by decide +kernel
theorem dX5_of_2 : decode cX5_of 2 = .ok (.invokevirtual 69, 3) := by decide +kernel
theorem dX5_of_5 : decode cX5_of 5 = .ok (.ifCond .ne 10, 3) := by decide +kernel
theorem dX5_of_8 : decode cX5_of 8 = .ok (.aload_n 0, 1) := by decide +kernel
theorem dX5_of_9 : decode cX5_of 9 = .ok (.ldc 41, 2) := by decide +kernel
theorem dX5_of_11 : decode cX5_of 11 = .ok (.invokevirtual 66, 3) := by decide +kernel
theorem dX5_of_14 : decode cX5_of 14 = .ok (.ireturn, 1) := by decide +kernel
theorem dX5_of_15 : decode cX5_of 15 = .ok (.iload_n 2, 1) := by decide +kernel
theorem dX5_of_16 : decode cX5_of 16 = .ok (.tableswitch 116 0 7 #[48, 55, 61, 68, 75, 82, 88, 102], 48) := by decide +kernel
theorem dX5_of_64 : decode cX5_of 64 = .ok (.aload_n 0, 1) := by decide +kernel
theorem dX5_of_65 : decode cX5_of 65 = .ok (.iload_n 1, 1) := by decide +kernel
theorem dX5_of_66 : decode cX5_of 66 = .ok (.iconst 0, 1) := by decide +kernel
theorem dX5_of_67 : decode cX5_of 67 = .ok (.invokevirtual 54, 3) := by decide +kernel
theorem dX5_of_70 : decode cX5_of 70 = .ok (.ireturn, 1) := by decide +kernel
theorem dX5_of_71 : decode cX5_of 71 = .ok (.aload_n 0, 1) := by decide +kernel
theorem dX5_of_72 : decode cX5_of 72 = .ok (.iload_n 1, 1) := by decide +kernel
theorem dX5_of_73 : decode cX5_of 73 = .ok (.invokevirtual 57, 3) := by decide +kernel
theorem dX5_of_76 : decode cX5_of 76 = .ok (.ireturn, 1) := by decide +kernel
theorem dX5_of_77 : decode cX5_of 77 = .ok (.aload_n 0, 1) := by decide +kernel
theorem dX5_of_78 : decode cX5_of 78 = .ok (.iload_n 1, 1) := by decide +kernel
theorem dX5_of_79 : decode cX5_of 79 = .ok (.iconst 1, 1) := by decide +kernel
theorem dX5_of_80 : decode cX5_of 80 = .ok (.invokevirtual 54, 3) := by decide +kernel
theorem dX5_of_83 : decode cX5_of 83 = .ok (.ireturn, 1) := by decide +kernel
theorem dX5_of_84 : decode cX5_of 84 = .ok (.aload_n 0, 1) := by decide +kernel
theorem dX5_of_85 : decode cX5_of 85 = .ok (.iload_n 1, 1) := by decide +kernel
theorem dX5_of_86 : decode cX5_of 86 = .ok (.iconst 2, 1) := by decide +kernel
theorem dX5_of_87 : decode cX5_of 87 = .ok (.invokevirtual 54, 3) := by decide +kernel
theorem dX5_of_90 : decode cX5_of 90 = .ok (.ireturn, 1) := by decide +kernel
theorem dX5_of_91 : decode cX5_of 91 = .ok (.aload_n 0, 1) := by decide +kernel
theorem dX5_of_92 : decode cX5_of 92 = .ok (.iload_n 1, 1) := by decide +kernel
theorem dX5_of_93 : decode cX5_of 93 = .ok (.iconst 3, 1) := by decide +kernel
theorem dX5_of_94 : decode cX5_of 94 = .ok (.invokevirtual 54, 3) := by decide +kernel
theorem dX5_of_97 : decode cX5_of 97 = .ok (.ireturn, 1) := by decide +kernel
theorem dX5_of_98 : decode cX5_of 98 = .ok (.aload_n 0, 1) := by decide +kernel
theorem dX5_of_99 : decode cX5_of 99 = .ok (.iload_n 1, 1) := by decide +kernel
theorem dX5_of_100 : decode cX5_of 100 = .ok (.invokevirtual 75, 3) := by decide +kernel
theorem dX5_of_103 : decode cX5_of 103 = .ok (.ireturn, 1) := by decide +kernel
theorem dX5_of_104 : decode cX5_of 104 = .ok (.aload_n 0, 1) := by decide +kernel
theorem dX5_of_105 : decode cX5_of 105 = .ok (.iload_n 1, 1) := by decide +kernel
theorem dX5_of_106 : decode cX5_of 106 = .ok (.invokevirtual 104, 3) := by decide +kernel
theorem dX5_of_109 : decode cX5_of 109 = .ok (.ifCond .eq 7, 3) := by decide +kernel
theorem dX5_of_112 : decode cX5_of 112 = .ok (.iconst 1, 1) := by decide +kernel
theorem dX5_of_113 : decode cX5_of 113 = .ok (.goto 4, 3) := by decide +kernel
theorem dX5_of_116 : decode cX5_of 116 = .ok (.iconst 0, 1) := by decide +kernel
theorem dX5_of_117 : decode cX5_of 117 = .ok (.ireturn, 1) := by decide +kernel
theorem dX5_of_118 : decode cX5_of 118 = .ok (.aload_n 0, 1) := by decide +kernel
theorem dX5_of_119 : decode cX5_of 119 = .ok (.iload_n 1, 1) := by decide +kernel
theorem dX5_of_120 : decode cX5_of 120 = .ok (.invokevirtual 114, 3) := by decide +kernel
theorem dX5_of_123 : decode cX5_of 123 = .ok (.ifCond .eq 7, 3) := by decide +kernel
theorem dX5_of_126 : decode cX5_of 126 = .ok (.iconst 1, 1) := by decide +kernel
theorem dX5_of_127 : decode cX5_of 127 = .ok (.goto 4, 3) := by decide +kernel
theorem dX5_of_130 : decode cX5_of 130 = .ok (.iconst 0, 1) := by decide +kernel
theorem dX5_of_131 : decode cX5_of 131 = .ok (.ireturn, 1) := by decide +kernel
theorem dX5_of_132 : decode cX5_of 132 = .ok (.aload_n 0, 1) := by decide +kernel
theorem dX5_of_133 : decode cX5_of 133 = .ok (.ldc 41, 2) := by decide +kernel
theorem dX5_of_135 : decode cX5_of 135 = .ok (.invokevirtual 66, 3) := by decide +kernel
theorem dX5_of_138 : decode cX5_of 138 = .ok (.ireturn, 1) := by decide +kernel
theorem dX5_set_0 : decode cX5_set 0 = .ok (.iload_n 2, 1) := by decide +kernel
theorem dX5_set_1 : decode cX5_set 1 = .ok (.i2l, 1) := by decide +kernel
theorem dX5_set_2 : decode cX5_set 2 = .ok (.ldc2_w 117, 3) := by decide +kernel
theorem dX5_set_5 : decode cX5_set 5 = .ok (.ldc2_w 119, 3) := by decide +kernel
theorem dX5_set_8 : decode cX5_set 8 = .ok (.invokestatic 46, 3) := by decide +kernel
theorem dX5_set_11 : decode cX5_set 11 = .ok (.ifCond .eq 39, 3) := by decide +kernel
theorem dX5_set_14 : decode cX5_set 14 = .ok (.iload_n 3, 1) := by decide +kernel
theorem dX5_set_15 : decode cX5_set 15 = .ok (.i2l, 1) := by decide +kernel
theorem dX5_set_16 : decode cX5_set 16 = .ok (.lconst 0, 1) := by decide +kernel
theorem dX5_set_17 : decode cX5_set 17 = .ok (.iload_n 2, 1) := by decide +kernel
theorem dX5_set_18 : decode cX5_set 18 = .ok (.iconst 2, 1) := by decide +kernel
theorem dX5_set_19 : decode cX5_set 19 = .ok (.if_icmp .ne 7, 3) := by decide +kernel
theorem dX5_set_22 : decode cX5_set 22 = .ok (.lconst 1, 1) := by decide +kernel
theorem dX5_set_23 : decode cX5_set 23 = .ok (.goto 17, 3) := by decide +kernel
theorem dX5_set_26 : decode cX5_set 26 = .ok (.iload_n 2, 1) := by decide +kernel
theorem dX5_set_27 : decode cX5_set 27 = .ok (.iconst 3, 1) := by decide +kernel
theorem dX5_set_28 : decode cX5_set 28 = .ok (.if_icmp .ne 9, 3) := by decide +kernel
theorem dX5_set_31 : decode cX5_set 31 = .ok (.ldc2_w 121, 3) := by decide +kernel
theorem dX5_set_34 : decode cX5_set 34 = .ok (.goto 6, 3) := by decide +kernel
theorem dX5_set_37 : decode cX5_set 37 = .ok (.ldc2_w 123, 3) := by decide +kernel
theorem dX5_set_40 : decode cX5_set 40 = .ok (.invokestatic 46, 3) := by decide +kernel
theorem dX5_set_43 : decode cX5_set 43 = .ok (.ifCond .eq 7, 3) := by decide +kernel
theorem dX5_set_46 : decode cX5_set 46 = .ok (.iconst 1, 1) := by decide +kernel
theorem dX5_set_47 : decode cX5_set 47 = .ok (.goto 4, 3) := by decide +kernel
theorem dX5_set_50 : decode cX5_set 50 = .ok (.iconst 0, 1) := by decide +kernel
theorem dX5_set_51 : decode cX5_set 51 = .ok (.istore 4, 2) := by decide +kernel
theorem dX5_set_53 : decode cX5_set 53 = .ok (.aload_n 0, 1) := by decide +kernel
theorem dX5_set_54 : decode cX5_set 54 = .ok (.iload_n 1, 1) := by decide +kernel
theorem dX5_set_55 : decode cX5_set 55 = .ok (.invokevirtual 69, 3) := by decide +kernel
theorem dX5_set_58 : decode cX5_set 58 = .ok (.ifCond .eq 23, 3) := by decide +kernel
theorem dX5_set_61 : decode cX5_set 61 = .ok (.iload 4, 2) := by decide +kernel
theorem dX5_set_63 : decode cX5_set 63 = .ok (.ifCond .eq 18, 3) := by decide +kernel
theorem dX5_set_66 : decode cX5_set 66 = .ok (.aload_n 0, 1) := by decide +kernel
theorem dX5_set_67 : decode cX5_set 67 = .ok (.iload_n 1, 1) := by decide +kernel
theorem dX5_set_68 : decode cX5_set 68 = .ok (.iload_n 2, 1) := by decide +kernel
theorem dX5_set_69 : decode cX5_set 69 = .ok (.iconst 1, 1) := by decide +kernel
theorem dX5_set_70 : decode cX5_set 70 = .ok (.isub, 1) := by decide +kernel
theorem dX5_set_71 : decode cX5_set 71 = .ok (.invokestatic 42, 3) := by decide +kernel
theorem dX5_set_74 : decode cX5_set 74 = .ok (.iload_n 3, 1) := by decide +kernel
theorem dX5_set_75 : decode cX5_set 75 = .ok (.invokevirtual 63, 3) := by decide +kernel
theorem dX5_set_78 : decode cX5_set 78 = .ok (.goto 9, 3) := by decide +kernel
theorem dX5_set_81 : decode cX5_set 81 = .ok (.aload_n 0, 1) := by decide +kernel
theorem dX5_set_82 : decode cX5_set 82 = .ok (.ldc 41, 2) := by decide +kernel
theorem dX5_set_84 : decode cX5_set 84 = .ok (.invokevirtual 66, 3) := by decide +kernel
theorem dX5_set_87 : decode cX5_set 87 = .ok (.ireturn, 1) := by decide +kernel
theorem dX5_swaps_0 : decode cX5_swaps 0 = .ok (.iconst 0, 1) := by decide +kernel
theorem dX5_swaps_1 : decode cX5_swaps 1 = .ok (.istore_n 3, 1) := by decide +kernel
theorem dX5_swaps_2 : decode cX5_swaps 2 = .ok (.iload_n 3, 1) := by decide +kernel
theorem dX5_swaps_3 : decode cX5_swaps 3 = .ok (.iconst 3, 1) := by decide +kernel
theorem dX5_swaps_4 : decode cX5_swaps 4 = .ok (.if_icmp .gt 38, 3) := by decide +kernel
theorem dX5_swaps_7 : decode cX5_swaps 7 = .ok (.aload_n 0, 1) := by decide +kernel
theorem dX5_swaps_8 : decode cX5_swaps 8 = .ok (.iload_n 1, 1) := by decide +kernel
theorem dX5_swaps_9 : decode cX5_swaps 9 = .ok (.iload_n 3, 1) := by decide +kernel
theorem dX5_swaps_10 : decode cX5_swaps 10 = .ok (.invokestatic 42, 3) := by decide +kernel
theorem dX5_swaps_13 : decode cX5_swaps 13 = .ok (.aload_n 0, 1) := by decide +kernel
theorem dX5_swaps_14 : decode cX5_swaps 14 = .ok (.iload_n 2, 1) := by decide +kernel
theorem dX5_swaps_15 : decode cX5_swaps 15 = .ok (.iload_n 3, 1) := by decide +kernel
theorem dX5_swaps_16 : decode cX5_swaps 16 = .ok (.invokevirtual 54, 3) := by decide +kernel
theorem dX5_swaps_19 : decode cX5_swaps 19 = .ok (.invokevirtual 63, 3) := by decide +kernel
theorem dX5_swaps_22 : decode cX5_swaps 22 = .ok (.istore 4, 2) := by decide +kernel
theorem dX5_swaps_24 : decode cX5_swaps 24 = .ok (.aload_n 0, 1) := by decide +kernel
theorem dX5_swaps_25 : decode cX5_swaps 25 = .ok (.getfield 7, 3) := by decide +kernel
theorem dX5_swaps_28 : decode cX5_swaps 28 = .ok (.iload_n 2, 1) := by decide +kernel
theorem dX5_swaps_29 : decode cX5_swaps 29 = .ok (.iload_n 3, 1) := by decide +kernel
theorem dX5_swaps_30 : decode cX5_swaps 30 = .ok (.invokestatic 42, 3) := by decide +kernel
theorem dX5_swaps_33 : decode cX5_swaps 33 = .ok (.iload 4, 2) := by decide +kernel
theorem dX5_swaps_35 : decode cX5_swaps 35 = .ok (.iastore, 1) := by decide +kernel
theorem dX5_swaps_36 : decode cX5_swaps 36 = .ok (.iinc 3 1, 3) := by decide +kernel
theorem dX5_swaps_39 : decode cX5_swaps 39 = .ok (.goto (-37), 3) := by decide +kernel
theorem dX5_swaps_42 : decode cX5_swaps 42 = .ok (.return_, 1) := by decide +kernel
theorem dX5_swap_0 : decode cX5_swap 0 = .ok (.aload_n 0, 1) := by decide +kernel
theorem dX5_swap_1 : decode cX5_swap 1 = .ok (.iload_n 1, 1) := by decide +kernel
theorem dX5_swap_2 : decode cX5_swap 2 = .ok (.invokevirtual 69, 3) := by decide +kernel
theorem dX5_swap_5 : decode cX5_swap 5 = .ok (.ifCond .eq 16, 3) := by decide +kernel
theorem dX5_swap_8 : decode cX5_swap 8 = .ok (.aload_n 0, 1) := by decide +kernel
theorem dX5_swap_9 : decode cX5_swap 9 = .ok (.iload_n 2, 1) := by decide +kernel
theorem dX5_swap_10 : decode cX5_swap 10 = .ok (.invokevirtual 69, 3) := by decide +kernel
theorem dX5_swap_13 : decode cX5_swap 13 = .ok (.ifCond .eq 8, 3) := by decide +kernel
theorem dX5_swap_16 : decode cX5_swap 16 = .ok (.iload_n 1, 1) := by decide +kernel
theorem dX5_swap_17 : decode cX5_swap 17 = .ok (.iload_n 2, 1) := by decide +kernel
theorem dX5_swap_18 : decode cX5_swap 18 = .ok (.if_icmp .ne 10, 3) := by decide +kernel
theorem dX5_swap_21 : decode cX5_swap 21 = .ok (.aload_n 0, 1) := by decide +kernel
theorem dX5_swap_22 : decode cX5_swap 22 = .ok (.ldc 41, 2) := by decide +kernel
theorem dX5_swap_24 : decode cX5_swap 24 = .ok (.invokevirtual 66, 3) := by decide +kernel
theorem dX5_swap_27 : decode cX5_swap 27 = .ok (.ireturn, 1) := by decide +kernel
theorem dX5_swap_28 : decode cX5_swap 28 = .ok (.aload_n 0, 1) := by decide +kernel
theorem dX5_swap_29 : decode cX5_swap 29 = .ok (.iload_n 1, 1) := by decide +kernel
theorem dX5_swap_30 : decode cX5_swap 30 = .ok (.iload_n 2, 1) := by decide +kernel
theorem dX5_swap_31 : decode cX5_swap 31 = .ok (.invokevirtual 125, 3) := by decide +kernel
theorem dX5_swap_34 : decode cX5_swap 34 = .ok (.iconst 1, 1) := by decide +kernel
theorem dX5_swap_35 : decode cX5_swap 35 = .ok (.ireturn, 1) := by decide +kernel
theorem dX5_turn_0 : decode cX5_turn 0 = .ok (.aload_n 0, 1) := by decide +kernel
theorem dX5_turn_1 : decode cX5_turn 1 = .ok (.iload_n 1, 1) := by decide +kernel
theorem dX5_turn_2 : decode cX5_turn 2 = .ok (.invokevirtual 69, 3) := by decide +kernel
theorem dX5_turn_5 : decode cX5_turn 5 = .ok (.ifCond .eq 23, 3) := by decide +kernel
theorem dX5_turn_8 : decode cX5_turn 8 = .ok (.iload_n 2, 1) := by decide +kernel
theorem dX5_turn_9 : decode cX5_turn 9 = .ok (.invokestatic 107, 3) := by decide +kernel
theorem dX5_turn_12 : decode cX5_turn 12 = .ok (.ifCond .eq 16, 3) := by decide +kernel
theorem dX5_turn_15 : decode cX5_turn 15 = .ok (.aload_n 0, 1) := by decide +kernel
theorem dX5_turn_16 : decode cX5_turn 16 = .ok (.iload_n 1, 1) := by decide +kernel
theorem dX5_turn_17 : decode cX5_turn 17 = .ok (.iconst 0, 1) := by decide +kernel
theorem dX5_turn_18 : decode cX5_turn 18 = .ok (.invokestatic 42, 3) := by decide +kernel
theorem dX5_turn_21 : decode cX5_turn 21 = .ok (.iload_n 2, 1) := by decide +kernel
theorem dX5_turn_22 : decode cX5_turn 22 = .ok (.invokevirtual 63, 3) := by decide +kernel
theorem dX5_turn_25 : decode cX5_turn 25 = .ok (.goto 9, 3) := by decide +kernel
theorem dX5_turn_28 : decode cX5_turn 28 = .ok (.aload_n 0, 1) := by decide +kernel
theorem dX5_turn_29 : decode cX5_turn 29 = .ok (.ldc 41, 2) := by decide +kernel
theorem dX5_turn_31 : decode cX5_turn 31 = .ok (.invokevirtual 66, 3) := by decide +kernel
theorem dX5_turn_34 : decode cX5_turn 34 = .ok (.ireturn, 1) := by decide +kernel
theorem dX5_isUnder_0 : decode cX5_isUnder 0 = .ok (.iload_n 1, 1) := by decide +kernel
theorem dX5_isUnder_1 : decode cX5_isUnder 1 = .ok (.ifCond .eq 28, 3) := by decide +kernel
theorem dX5_isUnder_4 : decode cX5_isUnder 4 = .ok (.iload_n 0, 1) := by decide +kernel
theorem dX5_isUnder_5 : decode cX5_isUnder 5 = .ok (.iload_n 1, 1) := by decide +kernel
theorem dX5_isUnder_6 : decode cX5_isUnder 6 = .ok (.if_icmp .eq 23, 3) := by decide +kernel
theorem dX5_isUnder_9 : decode cX5_isUnder 9 = .ok (.iload_n 0, 1) := by decide +kernel
theorem dX5_isUnder_10 : decode cX5_isUnder 10 = .ok (.iconst 4, 1) := by decide +kernel
theorem dX5_isUnder_11 : decode cX5_isUnder 11 = .ok (.if_icmp .ne 8, 3) := by decide +kernel
theorem dX5_isUnder_14 : decode cX5_isUnder 14 = .ok (.iload_n 1, 1) := by decide +kernel
theorem dX5_isUnder_15 : decode cX5_isUnder 15 = .ok (.iconst 1, 1) := by decide +kernel
theorem dX5_isUnder_16 : decode cX5_isUnder 16 = .ok (.if_icmp .eq 13, 3) := by decide +kernel
theorem dX5_isUnder_19 : decode cX5_isUnder 19 = .ok (.iload_n 0, 1) := by decide +kernel
theorem dX5_isUnder_20 : decode cX5_isUnder 20 = .ok (.iconst 5, 1) := by decide +kernel
theorem dX5_isUnder_21 : decode cX5_isUnder 21 = .ok (.if_icmp .ne 12, 3) := by decide +kernel
theorem dX5_isUnder_24 : decode cX5_isUnder 24 = .ok (.iload_n 1, 1) := by decide +kernel
theorem dX5_isUnder_25 : decode cX5_isUnder 25 = .ok (.iconst 2, 1) := by decide +kernel
theorem dX5_isUnder_26 : decode cX5_isUnder 26 = .ok (.if_icmp .ne 7, 3) := by decide +kernel
theorem dX5_isUnder_29 : decode cX5_isUnder 29 = .ok (.iconst 1, 1) := by decide +kernel
theorem dX5_isUnder_30 : decode cX5_isUnder 30 = .ok (.goto 4, 3) := by decide +kernel
theorem dX5_isUnder_33 : decode cX5_isUnder 33 = .ok (.iconst 0, 1) := by decide +kernel
theorem dX5_isUnder_34 : decode cX5_isUnder 34 = .ok (.ireturn, 1) := by decide +kernel
theorem dX5_as_0 : decode cX5_as 0 = .ok (.aload_n 0, 1) := by decide +kernel
theorem dX5_as_1 : decode cX5_as 1 = .ok (.iload_n 1, 1) := by decide +kernel
theorem dX5_as_2 : decode cX5_as 2 = .ok (.invokevirtual 69, 3) := by decide +kernel
theorem dX5_as_5 : decode cX5_as 5 = .ok (.ifCond .eq 10, 3) := by decide +kernel
theorem dX5_as_8 : decode cX5_as 8 = .ok (.iload_n 2, 1) := by decide +kernel
theorem dX5_as_9 : decode cX5_as 9 = .ok (.invokestatic 107, 3) := by decide +kernel
theorem dX5_as_12 : decode cX5_as 12 = .ok (.ifCond .ne 10, 3) := by decide +kernel
theorem dX5_as_15 : decode cX5_as 15 = .ok (.aload_n 0, 1) := by decide +kernel
theorem dX5_as_16 : decode cX5_as 16 = .ok (.ldc 41, 2) := by decide +kernel
theorem dX5_as_18 : decode cX5_as 18 = .ok (.invokevirtual 66, 3) := by decide +kernel
theorem dX5_as_21 : decode cX5_as 21 = .ok (.ireturn, 1) := by decide +kernel
theorem dX5_as_22 : decode cX5_as 22 = .ok (.aload_n 0, 1) := by decide +kernel
theorem dX5_as_23 : decode cX5_as 23 = .ok (.iload_n 1, 1) := by decide +kernel
theorem dX5_as_24 : decode cX5_as 24 = .ok (.iconst 0, 1) := by decide +kernel
theorem dX5_as_25 : decode cX5_as 25 = .ok (.invokevirtual 54, 3) := by decide +kernel
theorem dX5_as_28 : decode cX5_as 28 = .ok (.iload_n 2, 1) := by decide +kernel
theorem dX5_as_29 : decode cX5_as 29 = .ok (.invokestatic 129, 3) := by decide +kernel
theorem dX5_as_32 : decode cX5_as 32 = .ok (.ifCond .eq 12, 3) := by decide +kernel
theorem dX5_as_35 : decode cX5_as 35 = .ok (.aload_n 0, 1) := by decide +kernel
theorem dX5_as_36 : decode cX5_as 36 = .ok (.iload_n 1, 1) := by decide +kernel
theorem dX5_as_37 : decode cX5_as 37 = .ok (.iconst 3, 1) := by decide +kernel
theorem dX5_as_38 : decode cX5_as 38 = .ok (.invokevirtual 54, 3) := by decide +kernel
theorem dX5_as_41 : decode cX5_as 41 = .ok (.goto 9, 3) := by decide +kernel
theorem dX5_as_44 : decode cX5_as 44 = .ok (.aload_n 0, 1) := by decide +kernel
theorem dX5_as_45 : decode cX5_as 45 = .ok (.ldc 133, 2) := by decide +kernel
theorem dX5_as_47 : decode cX5_as 47 = .ok (.invokevirtual 66, 3) := by decide +kernel
theorem dX5_as_50 : decode cX5_as 50 = .ok (.ireturn, 1) := by decide +kernel
theorem dX5_treads_0 : decode cX5_treads 0 = .ok (.aload_n 0, 1) := by decide +kernel
theorem dX5_treads_1 : decode cX5_treads 1 = .ok (.iload_n 1, 1) := by decide +kernel
theorem dX5_treads_2 : decode cX5_treads 2 = .ok (.iconst 1, 1) := by decide +kernel
theorem dX5_treads_3 : decode cX5_treads 3 = .ok (.invokevirtual 54, 3) := by decide +kernel
theorem dX5_treads_6 : decode cX5_treads 6 = .ok (.iconst 1, 1) := by decide +kernel
theorem dX5_treads_7 : decode cX5_treads 7 = .ok (.if_icmp .ne 15, 3) := by decide +kernel
theorem dX5_treads_10 : decode cX5_treads 10 = .ok (.aload_n 0, 1) := by decide +kernel
theorem dX5_treads_11 : decode cX5_treads 11 = .ok (.iload_n 1, 1) := by decide +kernel
theorem dX5_treads_12 : decode cX5_treads 12 = .ok (.invokevirtual 114, 3) := by decide +kernel
theorem dX5_treads_15 : decode cX5_treads 15 = .ok (.ifCond .eq 7, 3) := by decide +kernel
theorem dX5_treads_18 : decode cX5_treads 18 = .ok (.iconst 1, 1) := by decide +kernel
theorem dX5_treads_19 : decode cX5_treads 19 = .ok (.goto 4, 3) := by decide +kernel
theorem dX5_treads_22 : decode cX5_treads 22 = .ok (.iconst 0, 1) := by decide +kernel
theorem dX5_treads_23 : decode cX5_treads 23 = .ok (.istore_n 2, 1) := by decide +kernel
theorem dX5_treads_24 : decode cX5_treads 24 = .ok (.aload_n 0, 1) := by decide +kernel
theorem dX5_treads_25 : decode cX5_treads 25 = .ok (.iload_n 1, 1) := by decide +kernel
theorem dX5_treads_26 : decode cX5_treads 26 = .ok (.invokevirtual 84, 3) := by decide +kernel
theorem dX5_treads_29 : decode cX5_treads 29 = .ok (.ifCond .eq 19, 3) := by decide +kernel
theorem dX5_treads_32 : decode cX5_treads 32 = .ok (.aload_n 0, 1) := by decide +kernel
theorem dX5_treads_33 : decode cX5_treads 33 = .ok (.iload_n 1, 1) := by decide +kernel
theorem dX5_treads_34 : decode cX5_treads 34 = .ok (.invokevirtual 104, 3) := by decide +kernel
theorem dX5_treads_37 : decode cX5_treads 37 = .ok (.ifCond .ne 11, 3) := by decide +kernel
theorem dX5_treads_40 : decode cX5_treads 40 = .ok (.iload_n 2, 1) := by decide +kernel
theorem dX5_treads_41 : decode cX5_treads 41 = .ok (.ifCond .ne 7, 3) := by decide +kernel
theorem dX5_treads_44 : decode cX5_treads 44 = .ok (.iconst 1, 1) := by decide +kernel
theorem dX5_treads_45 : decode cX5_treads 45 = .ok (.goto 4, 3) := by decide +kernel
theorem dX5_treads_48 : decode cX5_treads 48 = .ok (.iconst 0, 1) := by decide +kernel
theorem dX5_treads_49 : decode cX5_treads 49 = .ok (.istore_n 3, 1) := by decide +kernel
theorem dX5_treads_50 : decode cX5_treads 50 = .ok (.aload_n 0, 1) := by decide +kernel
theorem dX5_treads_51 : decode cX5_treads 51 = .ok (.iload_n 1, 1) := by decide +kernel
theorem dX5_treads_52 : decode cX5_treads 52 = .ok (.iconst 3, 1) := by decide +kernel
theorem dX5_treads_53 : decode cX5_treads 53 = .ok (.invokevirtual 54, 3) := by decide +kernel
theorem dX5_treads_56 : decode cX5_treads 56 = .ok (.iload_n 3, 1) := by decide +kernel
theorem dX5_treads_57 : decode cX5_treads 57 = .ok (.ifCond .eq 8, 3) := by decide +kernel
theorem dX5_treads_60 : decode cX5_treads 60 = .ok (.bipush (-10), 2) := by decide +kernel
theorem dX5_treads_62 : decode cX5_treads 62 = .ok (.goto 4, 3) := by decide +kernel
theorem dX5_treads_65 : decode cX5_treads 65 = .ok (.iconst 1, 1) := by decide +kernel
theorem dX5_treads_66 : decode cX5_treads 66 = .ok (.iadd, 1) := by decide +kernel
theorem dX5_treads_67 : decode cX5_treads 67 = .ok (.istore 4, 2) := by decide +kernel
theorem dX5_treads_69 : decode cX5_treads 69 = .ok (.aload_n 0, 1) := by decide +kernel
theorem dX5_treads_70 : decode cX5_treads 70 = .ok (.getfield 7, 3) := by decide +kernel
theorem dX5_treads_73 : decode cX5_treads 73 = .ok (.iload_n 1, 1) := by decide +kernel
theorem dX5_treads_74 : decode cX5_treads 74 = .ok (.iconst 3, 1) := by decide +kernel
theorem dX5_treads_75 : decode cX5_treads 75 = .ok (.invokestatic 42, 3) := by decide +kernel
theorem dX5_treads_78 : decode cX5_treads 78 = .ok (.iload 4, 2) := by decide +kernel
theorem dX5_treads_80 : decode cX5_treads 80 = .ok (.ifCond .ge 7, 3) := by decide +kernel
theorem dX5_treads_83 : decode cX5_treads 83 = .ok (.iconst 0, 1) := by decide +kernel
theorem dX5_treads_84 : decode cX5_treads 84 = .ok (.goto 17, 3) := by decide +kernel
theorem dX5_treads_87 : decode cX5_treads 87 = .ok (.iload 4, 2) := by decide +kernel
theorem dX5_treads_89 : decode cX5_treads 89 = .ok (.bipush 99, 2) := by decide +kernel
theorem dX5_treads_91 : decode cX5_treads 91 = .ok (.if_icmp .le 8, 3) := by decide +kernel
theorem dX5_treads_94 : decode cX5_treads 94 = .ok (.bipush 99, 2) := by decide +kernel
theorem dX5_treads_96 : decode cX5_treads 96 = .ok (.goto 5, 3) := by decide +kernel
theorem dX5_treads_99 : decode cX5_treads 99 = .ok (.iload 4, 2) := by decide +kernel
theorem dX5_treads_101 : decode cX5_treads 101 = .ok (.iastore, 1) := by decide +kernel
theorem dX5_treads_102 : decode cX5_treads 102 = .ok (.aload_n 0, 1) := by decide +kernel
theorem dX5_treads_103 : decode cX5_treads 103 = .ok (.getfield 7, 3) := by decide +kernel
theorem dX5_treads_106 : decode cX5_treads 106 = .ok (.iload_n 1, 1) := by decide +kernel
theorem dX5_treads_107 : decode cX5_treads 107 = .ok (.iconst 2, 1) := by decide +kernel
theorem dX5_treads_108 : decode cX5_treads 108 = .ok (.invokestatic 42, 3) := by decide +kernel
theorem dX5_treads_111 : decode cX5_treads 111 = .ok (.dup2, 1) := by decide +kernel
theorem dX5_treads_112 : decode cX5_treads 112 = .ok (.iaload, 1) := by decide +kernel
theorem dX5_treads_113 : decode cX5_treads 113 = .ok (.iload_n 3, 1) := by decide +kernel
theorem dX5_treads_114 : decode cX5_treads 114 = .ok (.ifCond .eq 19, 3) := by decide +kernel
theorem dX5_treads_117 : decode cX5_treads 117 = .ok (.aload_n 0, 1) := by decide +kernel
theorem dX5_treads_118 : decode cX5_treads 118 = .ok (.iload_n 1, 1) := by decide +kernel
theorem dX5_treads_119 : decode cX5_treads 119 = .ok (.iconst 2, 1) := by decide +kernel
theorem dX5_treads_120 : decode cX5_treads 120 = .ok (.invokevirtual 54, 3) := by decide +kernel
theorem dX5_treads_123 : decode cX5_treads 123 = .ok (.sipush 9999, 3) := by decide +kernel
theorem dX5_treads_126 : decode cX5_treads 126 = .ok (.if_icmp .ge 7, 3) := by decide +kernel
theorem dX5_treads_129 : decode cX5_treads 129 = .ok (.iconst 1, 1) := by decide +kernel
theorem dX5_treads_130 : decode cX5_treads 130 = .ok (.goto 4, 3) := by decide +kernel
theorem dX5_treads_133 : decode cX5_treads 133 = .ok (.iconst 0, 1) := by decide +kernel
theorem dX5_treads_134 : decode cX5_treads 134 = .ok (.iadd, 1) := by decide +kernel
theorem dX5_treads_135 : decode cX5_treads 135 = .ok (.iastore, 1) := by decide +kernel
theorem dX5_treads_136 : decode cX5_treads 136 = .ok (.aload_n 0, 1) := by decide +kernel
theorem dX5_treads_137 : decode cX5_treads 137 = .ok (.dup, 1) := by decide +kernel
theorem dX5_treads_138 : decode cX5_treads 138 = .ok (.getfield 100, 3) := by decide +kernel
theorem dX5_treads_141 : decode cX5_treads 141 = .ok (.iload_n 3, 1) := by decide +kernel
theorem dX5_treads_142 : decode cX5_treads 142 = .ok (.ifCond .eq 9, 3) := by decide +kernel
theorem dX5_treads_145 : decode cX5_treads 145 = .ok (.iconst 1, 1) := by decide +kernel
theorem dX5_treads_146 : decode cX5_treads 146 = .ok (.iload_n 1, 1) := by decide +kernel
theorem dX5_treads_147 : decode cX5_treads 147 = .ok (.ishl, 1) := by decide +kernel
theorem dX5_treads_148 : decode cX5_treads 148 = .ok (.goto 4, 3) := by decide +kernel
theorem dX5_treads_151 : decode cX5_treads 151 = .ok (.iconst 0, 1) := by decide +kernel
theorem dX5_treads_152 : decode cX5_treads 152 = .ok (.ior, 1) := by decide +kernel
theorem dX5_treads_153 : decode cX5_treads 153 = .ok (.putfield 100, 3) := by decide +kernel
theorem dX5_treads_156 : decode cX5_treads 156 = .ok (.return_, 1) := by decide +kernel
theorem dX5_step_0 : decode cX5_step 0 = .ok (.aload_n 0, 1) := by decide +kernel
theorem dX5_step_1 : decode cX5_step 1 = .ok (.getfield 7, 3) := by decide +kernel
theorem dX5_step_4 : decode cX5_step 4 = .ok (.iconst 0, 1) := by decide +kernel
theorem dX5_step_5 : decode cX5_step 5 = .ok (.dup2, 1) := by decide +kernel
theorem dX5_step_6 : decode cX5_step 6 = .ok (.iaload, 1) := by decide +kernel
theorem dX5_step_7 : decode cX5_step 7 = .ok (.iconst 1, 1) := by decide +kernel
theorem dX5_step_8 : decode cX5_step 8 = .ok (.iadd, 1) := by decide +kernel
theorem dX5_step_9 : decode cX5_step 9 = .ok (.iastore, 1) := by decide +kernel
theorem dX5_step_10 : decode cX5_step 10 = .ok (.aload_n 0, 1) := by decide +kernel
theorem dX5_step_11 : decode cX5_step 11 = .ok (.iconst 0, 1) := by decide +kernel
theorem dX5_step_12 : decode cX5_step 12 = .ok (.putfield 100, 3) := by decide +kernel
theorem dX5_step_15 : decode cX5_step 15 = .ok (.iconst 0, 1) := by decide +kernel
theorem dX5_step_16 : decode cX5_step 16 = .ok (.istore_n 1, 1) := by decide +kernel
theorem dX5_step_17 : decode cX5_step 17 = .ok (.iload_n 1, 1) := by decide +kernel
theorem dX5_step_18 : decode cX5_step 18 = .ok (.aload_n 0, 1) := by decide +kernel
theorem dX5_step_19 : decode cX5_step 19 = .ok (.getfield 7, 3) := by decide +kernel
theorem dX5_step_22 : decode cX5_step 22 = .ok (.iconst 1, 1) := by decide +kernel
theorem dX5_step_23 : decode cX5_step 23 = .ok (.iaload, 1) := by decide +kernel
theorem dX5_step_24 : decode cX5_step 24 = .ok (.if_icmp .ge 14, 3) := by decide +kernel
theorem dX5_step_27 : decode cX5_step 27 = .ok (.aload_n 0, 1) := by decide +kernel
theorem dX5_step_28 : decode cX5_step 28 = .ok (.iload_n 1, 1) := by decide +kernel
theorem dX5_step_29 : decode cX5_step 29 = .ok (.invokevirtual 134, 3) := by decide +kernel
theorem dX5_step_32 : decode cX5_step 32 = .ok (.iinc 1 1, 3) := by decide +kernel
theorem dX5_step_35 : decode cX5_step 35 = .ok (.goto (-18), 3) := by decide +kernel
theorem dX5_step_38 : decode cX5_step 38 = .ok (.iconst 0, 1) := by decide +kernel
theorem dX5_step_39 : decode cX5_step 39 = .ok (.istore_n 1, 1) := by decide +kernel
theorem dX5_step_40 : decode cX5_step 40 = .ok (.iconst 0, 1) := by decide +kernel
theorem dX5_step_41 : decode cX5_step 41 = .ok (.istore_n 2, 1) := by decide +kernel
theorem dX5_step_42 : decode cX5_step 42 = .ok (.iload_n 2, 1) := by decide +kernel
theorem dX5_step_43 : decode cX5_step 43 = .ok (.aload_n 0, 1) := by decide +kernel
theorem dX5_step_44 : decode cX5_step 44 = .ok (.getfield 7, 3) := by decide +kernel
theorem dX5_step_47 : decode cX5_step 47 = .ok (.iconst 1, 1) := by decide +kernel
theorem dX5_step_48 : decode cX5_step 48 = .ok (.iaload, 1) := by decide +kernel
theorem dX5_step_49 : decode cX5_step 49 = .ok (.if_icmp .ge 27, 3) := by decide +kernel
theorem dX5_step_52 : decode cX5_step 52 = .ok (.iload_n 1, 1) := by decide +kernel
theorem dX5_step_53 : decode cX5_step 53 = .ok (.aload_n 0, 1) := by decide +kernel
theorem dX5_step_54 : decode cX5_step 54 = .ok (.iload_n 2, 1) := by decide +kernel
theorem dX5_step_55 : decode cX5_step 55 = .ok (.invokevirtual 138, 3) := by decide +kernel
theorem dX5_step_58 : decode cX5_step 58 = .ok (.ifCond .eq 9, 3) := by decide +kernel
theorem dX5_step_61 : decode cX5_step 61 = .ok (.iconst 2, 1) := by decide +kernel
theorem dX5_step_62 : decode cX5_step 62 = .ok (.iload_n 2, 1) := by decide +kernel
theorem dX5_step_63 : decode cX5_step 63 = .ok (.ishl, 1) := by decide +kernel
theorem dX5_step_64 : decode cX5_step 64 = .ok (.goto 4, 3) := by decide +kernel
theorem dX5_step_67 : decode cX5_step 67 = .ok (.iconst 0, 1) := by decide +kernel
theorem dX5_step_68 : decode cX5_step 68 = .ok (.ior, 1) := by decide +kernel
theorem dX5_step_69 : decode cX5_step 69 = .ok (.istore_n 1, 1) := by decide +kernel
theorem dX5_step_70 : decode cX5_step 70 = .ok (.iinc 2 1, 3) := by decide +kernel
theorem dX5_step_73 : decode cX5_step 73 = .ok (.goto (-31), 3) := by decide +kernel
theorem dX5_step_76 : decode cX5_step 76 = .ok (.iconst 0, 1) := by decide +kernel
theorem dX5_step_77 : decode cX5_step 77 = .ok (.istore_n 2, 1) := by decide +kernel
theorem dX5_step_78 : decode cX5_step 78 = .ok (.iload_n 2, 1) := by decide +kernel
theorem dX5_step_79 : decode cX5_step 79 = .ok (.aload_n 0, 1) := by decide +kernel
theorem dX5_step_80 : decode cX5_step 80 = .ok (.getfield 7, 3) := by decide +kernel
theorem dX5_step_83 : decode cX5_step 83 = .ok (.iconst 1, 1) := by decide +kernel
theorem dX5_step_84 : decode cX5_step 84 = .ok (.iaload, 1) := by decide +kernel
theorem dX5_step_85 : decode cX5_step 85 = .ok (.if_icmp .ge 24, 3) := by decide +kernel
theorem dX5_step_88 : decode cX5_step 88 = .ok (.aload_n 0, 1) := by decide +kernel
theorem dX5_step_89 : decode cX5_step 89 = .ok (.getfield 7, 3) := by decide +kernel
theorem dX5_step_92 : decode cX5_step 92 = .ok (.iload_n 2, 1) := by decide +kernel
theorem dX5_step_93 : decode cX5_step 93 = .ok (.iconst 1, 1) := by decide +kernel
theorem dX5_step_94 : decode cX5_step 94 = .ok (.invokestatic 42, 3) := by decide +kernel
theorem dX5_step_97 : decode cX5_step 97 = .ok (.iload_n 1, 1) := by decide +kernel
theorem dX5_step_98 : decode cX5_step 98 = .ok (.iload_n 2, 1) := by decide +kernel
theorem dX5_step_99 : decode cX5_step 99 = .ok (.ishr, 1) := by decide +kernel
theorem dX5_step_100 : decode cX5_step 100 = .ok (.iconst 1, 1) := by decide +kernel
theorem dX5_step_101 : decode cX5_step 101 = .ok (.iand, 1) := by decide +kernel
theorem dX5_step_102 : decode cX5_step 102 = .ok (.iastore, 1) := by decide +kernel
theorem dX5_step_103 : decode cX5_step 103 = .ok (.iinc 2 1, 3) := by decide +kernel
theorem dX5_step_106 : decode cX5_step 106 = .ok (.goto (-28), 3) := by decide +kernel
theorem dX5_step_109 : decode cX5_step 109 = .ok (.return_, 1) := by decide +kernel
theorem dX5_stepsGo_0 : decode cX5_stepsGo 0 = .ok (.iconst 0, 1) := by decide +kernel
theorem dX5_stepsGo_1 : decode cX5_stepsGo 1 = .ok (.istore_n 2, 1) := by decide +kernel
theorem dX5_stepsGo_2 : decode cX5_stepsGo 2 = .ok (.iload_n 2, 1) := by decide +kernel
theorem dX5_stepsGo_3 : decode cX5_stepsGo 3 = .ok (.iload_n 1, 1) := by decide +kernel
theorem dX5_stepsGo_4 : decode cX5_stepsGo 4 = .ok (.if_icmp .ge 13, 3) := by decide +kernel
theorem dX5_stepsGo_7 : decode cX5_stepsGo 7 = .ok (.aload_n 0, 1) := by decide +kernel
theorem dX5_stepsGo_8 : decode cX5_stepsGo 8 = .ok (.invokevirtual 141, 3) := by decide +kernel
theorem dX5_stepsGo_11 : decode cX5_stepsGo 11 = .ok (.iinc 2 1, 3) := by decide +kernel
theorem dX5_stepsGo_14 : decode cX5_stepsGo 14 = .ok (.goto (-12), 3) := by decide +kernel
theorem dX5_stepsGo_17 : decode cX5_stepsGo 17 = .ok (.return_, 1) := by decide +kernel
theorem dX5_steps_0 : decode cX5_steps 0 = .ok (.iload_n 1, 1) := by decide +kernel
theorem dX5_steps_1 : decode cX5_steps 1 = .ok (.i2l, 1) := by decide +kernel
theorem dX5_steps_2 : decode cX5_steps 2 = .ok (.lconst 1, 1) := by decide +kernel
theorem dX5_steps_3 : decode cX5_steps 3 = .ok (.ldc2_w 144, 3) := by decide +kernel
theorem dX5_steps_6 : decode cX5_steps 6 = .ok (.invokestatic 46, 3) := by decide +kernel
theorem dX5_steps_9 : decode cX5_steps 9 = .ok (.ifCond .ne 10, 3) := by decide +kernel
theorem dX5_steps_12 : decode cX5_steps 12 = .ok (.aload_n 0, 1) := by decide +kernel
theorem dX5_steps_13 : decode cX5_steps 13 = .ok (.ldc 41, 2) := by decide +kernel
theorem dX5_steps_15 : decode cX5_steps 15 = .ok (.invokevirtual 66, 3) := by decide +kernel
theorem dX5_steps_18 : decode cX5_steps 18 = .ok (.ireturn, 1) := by decide +kernel
theorem dX5_steps_19 : decode cX5_steps 19 = .ok (.aload_n 0, 1) := by decide +kernel
theorem dX5_steps_20 : decode cX5_steps 20 = .ok (.getfield 7, 3) := by decide +kernel
theorem dX5_steps_23 : decode cX5_steps 23 = .ok (.iconst 0, 1) := by decide +kernel
theorem dX5_steps_24 : decode cX5_steps 24 = .ok (.iaload, 1) := by decide +kernel
theorem dX5_steps_25 : decode cX5_steps 25 = .ok (.iload_n 1, 1) := by decide +kernel
theorem dX5_steps_26 : decode cX5_steps 26 = .ok (.iadd, 1) := by decide +kernel
theorem dX5_steps_27 : decode cX5_steps 27 = .ok (.ldc 146, 2) := by decide +kernel
theorem dX5_steps_29 : decode cX5_steps 29 = .ok (.if_icmp .le 10, 3) := by decide +kernel
theorem dX5_steps_32 : decode cX5_steps 32 = .ok (.aload_n 0, 1) := by decide +kernel
theorem dX5_steps_33 : decode cX5_steps 33 = .ok (.ldc 147, 2) := by decide +kernel
theorem dX5_steps_35 : decode cX5_steps 35 = .ok (.invokevirtual 66, 3) := by decide +kernel
theorem dX5_steps_38 : decode cX5_steps 38 = .ok (.ireturn, 1) := by decide +kernel
theorem dX5_steps_39 : decode cX5_steps 39 = .ok (.aload_n 0, 1) := by decide +kernel
theorem dX5_steps_40 : decode cX5_steps 40 = .ok (.iload_n 1, 1) := by decide +kernel
theorem dX5_steps_41 : decode cX5_steps 41 = .ok (.invokevirtual 148, 3) := by decide +kernel
theorem dX5_steps_44 : decode cX5_steps 44 = .ok (.aload_n 0, 1) := by decide +kernel
theorem dX5_steps_45 : decode cX5_steps 45 = .ok (.iconst 2, 1) := by decide +kernel
theorem dX5_steps_46 : decode cX5_steps 46 = .ok (.invokevirtual 97, 3) := by decide +kernel
theorem dX5_steps_49 : decode cX5_steps 49 = .ok (.ireturn, 1) := by decide +kernel
theorem dX5_isAhead_0 : decode cX5_isAhead 0 = .ok (.iload_n 0, 1) := by decide +kernel
theorem dX5_isAhead_1 : decode cX5_isAhead 1 = .ok (.i2l, 1) := by decide +kernel
theorem dX5_isAhead_2 : decode cX5_isAhead 2 = .ok (.lconst 0, 1) := by decide +kernel
theorem dX5_isAhead_3 : decode cX5_isAhead 3 = .ok (.ldc2_w 151, 3) := by decide +kernel
theorem dX5_isAhead_6 : decode cX5_isAhead 6 = .ok (.invokestatic 46, 3) := by decide +kernel
theorem dX5_isAhead_9 : decode cX5_isAhead 9 = .ok (.ireturn, 1) := by decide +kernel
theorem dX5_behind_0 : decode cX5_behind 0 = .ok (.aload_n 0, 1) := by decide +kernel
theorem dX5_behind_1 : decode cX5_behind 1 = .ok (.invokevirtual 153, 3) := by decide +kernel
theorem dX5_behind_4 : decode cX5_behind 4 = .ok (.aload_n 0, 1) := by decide +kernel
theorem dX5_behind_5 : decode cX5_behind 5 = .ok (.iload_n 2, 1) := by decide +kernel
theorem dX5_behind_6 : decode cX5_behind 6 = .ok (.invokevirtual 148, 3) := by decide +kernel
theorem dX5_behind_9 : decode cX5_behind 9 = .ok (.aload_n 0, 1) := by decide +kernel
theorem dX5_behind_10 : decode cX5_behind 10 = .ok (.iload_n 1, 1) := by decide +kernel
theorem dX5_behind_11 : decode cX5_behind 11 = .ok (.iconst (-1), 1) := by decide +kernel
theorem dX5_behind_12 : decode cX5_behind 12 = .ok (.if_icmp .ne 11, 3) := by decide +kernel
theorem dX5_behind_15 : decode cX5_behind 15 = .ok (.aload_n 0, 1) := by decide +kernel
theorem dX5_behind_16 : decode cX5_behind 16 = .ok (.iconst 2, 1) := by decide +kernel
theorem dX5_behind_17 : decode cX5_behind 17 = .ok (.invokevirtual 97, 3) := by decide +kernel
theorem dX5_behind_20 : decode cX5_behind 20 = .ok (.goto 9, 3) := by decide +kernel
theorem dX5_behind_23 : decode cX5_behind 23 = .ok (.aload_n 0, 1) := by decide +kernel
theorem dX5_behind_24 : decode cX5_behind 24 = .ok (.getfield 7, 3) := by decide +kernel
theorem dX5_behind_27 : decode cX5_behind 27 = .ok (.iload_n 1, 1) := by decide +kernel
theorem dX5_behind_28 : decode cX5_behind 28 = .ok (.iaload, 1) := by decide +kernel
theorem dX5_behind_29 : decode cX5_behind 29 = .ok (.invokevirtual 156, 3) := by decide +kernel
theorem dX5_behind_32 : decode cX5_behind 32 = .ok (.ireturn, 1) := by decide +kernel
theorem dX5_on_0 : decode cX5_on 0 = .ok (.aload_n 0, 1) := by decide +kernel
theorem dX5_on_1 : decode cX5_on 1 = .ok (.iload_n 1, 1) := by decide +kernel
theorem dX5_on_2 : decode cX5_on 2 = .ok (.invokevirtual 69, 3) := by decide +kernel
theorem dX5_on_5 : decode cX5_on 5 = .ok (.ifCond .eq 22, 3) := by decide +kernel
theorem dX5_on_8 : decode cX5_on 8 = .ok (.iload_n 2, 1) := by decide +kernel
theorem dX5_on_9 : decode cX5_on 9 = .ok (.invokestatic 159, 3) := by decide +kernel
theorem dX5_on_12 : decode cX5_on 12 = .ok (.ifCond .eq 15, 3) := by decide +kernel
theorem dX5_on_15 : decode cX5_on 15 = .ok (.iload_n 3, 1) := by decide +kernel
theorem dX5_on_16 : decode cX5_on 16 = .ok (.i2l, 1) := by decide +kernel
theorem dX5_on_17 : decode cX5_on 17 = .ok (.lconst 0, 1) := by decide +kernel
theorem dX5_on_18 : decode cX5_on 18 = .ok (.ldc2_w 117, 3) := by decide +kernel
theorem dX5_on_21 : decode cX5_on 21 = .ok (.invokestatic 46, 3) := by decide +kernel
theorem dX5_on_24 : decode cX5_on 24 = .ok (.ifCond .ne 10, 3) := by decide +kernel
theorem dX5_on_27 : decode cX5_on 27 = .ok (.aload_n 0, 1) := by decide +kernel
theorem dX5_on_28 : decode cX5_on 28 = .ok (.ldc 41, 2) := by decide +kernel
theorem dX5_on_30 : decode cX5_on 30 = .ok (.invokevirtual 66, 3) := by decide +kernel
theorem dX5_on_33 : decode cX5_on 33 = .ok (.ireturn, 1) := by decide +kernel
theorem dX5_on_34 : decode cX5_on 34 = .ok (.aload_n 0, 1) := by decide +kernel
theorem dX5_on_35 : decode cX5_on 35 = .ok (.iload_n 1, 1) := by decide +kernel
theorem dX5_on_36 : decode cX5_on 36 = .ok (.iload_n 3, 1) := by decide +kernel
theorem dX5_on_37 : decode cX5_on 37 = .ok (.iconst 1, 1) := by decide +kernel
theorem dX5_on_38 : decode cX5_on 38 = .ok (.iadd, 1) := by decide +kernel
theorem dX5_on_39 : decode cX5_on 39 = .ok (.invokestatic 42, 3) := by decide +kernel
theorem dX5_on_42 : decode cX5_on 42 = .ok (.iload_n 2, 1) := by decide +kernel
theorem dX5_on_43 : decode cX5_on 43 = .ok (.invokevirtual 162, 3) := by decide +kernel
theorem dX5_on_46 : decode cX5_on 46 = .ok (.ireturn, 1) := by decide +kernel
theorem dX5_falls_0 : decode cX5_falls 0 = .ok (.iload_n 1, 1) := by decide +kernel
theorem dX5_falls_1 : decode cX5_falls 1 = .ok (.invokestatic 159, 3) := by decide +kernel
theorem dX5_falls_4 : decode cX5_falls 4 = .ok (.ifCond .eq 12, 3) := by decide +kernel
theorem dX5_falls_7 : decode cX5_falls 7 = .ok (.aload_n 0, 1) := by decide +kernel
theorem dX5_falls_8 : decode cX5_falls 8 = .ok (.iconst (-1), 1) := by decide +kernel
theorem dX5_falls_9 : decode cX5_falls 9 = .ok (.iload_n 1, 1) := by decide +kernel
theorem dX5_falls_10 : decode cX5_falls 10 = .ok (.invokevirtual 162, 3) := by decide +kernel
theorem dX5_falls_13 : decode cX5_falls 13 = .ok (.goto 9, 3) := by decide +kernel
theorem dX5_falls_16 : decode cX5_falls 16 = .ok (.aload_n 0, 1) := by decide +kernel
theorem dX5_falls_17 : decode cX5_falls 17 = .ok (.ldc 41, 2) := by decide +kernel
theorem dX5_falls_19 : decode cX5_falls 19 = .ok (.invokevirtual 66, 3) := by decide +kernel
theorem dX5_falls_22 : decode cX5_falls 22 = .ok (.ireturn, 1) := by decide +kernel
theorem dX5_toldAt_0 : decode cX5_toldAt 0 = .ok (.aload_n 0, 1) := by decide +kernel
theorem dX5_toldAt_1 : decode cX5_toldAt 1 = .ok (.iload_n 1, 1) := by decide +kernel
theorem dX5_toldAt_2 : decode cX5_toldAt 2 = .ok (.invokevirtual 156, 3) := by decide +kernel
theorem dX5_toldAt_5 : decode cX5_toldAt 5 = .ok (.istore_n 2, 1) := by decide +kernel
theorem dX5_toldAt_6 : decode cX5_toldAt 6 = .ok (.iload_n 2, 1) := by decide +kernel
theorem dX5_toldAt_7 : decode cX5_toldAt 7 = .ok (.sipush 300, 3) := by decide +kernel
theorem dX5_toldAt_10 : decode cX5_toldAt 10 = .ok (.if_icmp .le 12, 3) := by decide +kernel
theorem dX5_toldAt_13 : decode cX5_toldAt 13 = .ok (.aload_n 0, 1) := by decide +kernel
theorem dX5_toldAt_14 : decode cX5_toldAt 14 = .ok (.ldc 165, 2) := by decide +kernel
theorem dX5_toldAt_16 : decode cX5_toldAt 16 = .ok (.invokevirtual 66, 3) := by decide +kernel
theorem dX5_toldAt_19 : decode cX5_toldAt 19 = .ok (.goto 4, 3) := by decide +kernel
theorem dX5_toldAt_22 : decode cX5_toldAt 22 = .ok (.iload_n 2, 1) := by decide +kernel
theorem dX5_toldAt_23 : decode cX5_toldAt 23 = .ok (.ireturn, 1) := by decide +kernel
theorem dX5_trips_0 : decode cX5_trips 0 = .ok (.aload_n 0, 1) := by decide +kernel
theorem dX5_trips_1 : decode cX5_trips 1 = .ok (.iload_n 1, 1) := by decide +kernel
theorem dX5_trips_2 : decode cX5_trips 2 = .ok (.invokevirtual 69, 3) := by decide +kernel
theorem dX5_trips_5 : decode cX5_trips 5 = .ok (.ifCond .ne 10, 3) := by decide +kernel
theorem dX5_trips_8 : decode cX5_trips 8 = .ok (.aload_n 0, 1) := by decide +kernel
theorem dX5_trips_9 : decode cX5_trips 9 = .ok (.ldc 41, 2) := by decide +kernel
theorem dX5_trips_11 : decode cX5_trips 11 = .ok (.invokevirtual 66, 3) := by decide +kernel
theorem dX5_trips_14 : decode cX5_trips 14 = .ok (.ireturn, 1) := by decide +kernel
theorem dX5_trips_15 : decode cX5_trips 15 = .ok (.aload_n 0, 1) := by decide +kernel
theorem dX5_trips_16 : decode cX5_trips 16 = .ok (.invokevirtual 153, 3) := by decide +kernel
theorem dX5_trips_19 : decode cX5_trips 19 = .ok (.iconst 0, 1) := by decide +kernel
theorem dX5_trips_20 : decode cX5_trips 20 = .ok (.istore_n 2, 1) := by decide +kernel
theorem dX5_trips_21 : decode cX5_trips 21 = .ok (.aload_n 0, 1) := by decide +kernel
theorem dX5_trips_22 : decode cX5_trips 22 = .ok (.iconst 0, 1) := by decide +kernel
theorem dX5_trips_23 : decode cX5_trips 23 = .ok (.putfield 100, 3) := by decide +kernel
theorem dX5_trips_26 : decode cX5_trips 26 = .ok (.iload_n 2, 1) := by decide +kernel
theorem dX5_trips_27 : decode cX5_trips 27 = .ok (.sipush 300, 3) := by decide +kernel
theorem dX5_trips_30 : decode cX5_trips 30 = .ok (.if_icmp .gt 24, 3) := by decide +kernel
theorem dX5_trips_33 : decode cX5_trips 33 = .ok (.aload_n 0, 1) := by decide +kernel
theorem dX5_trips_34 : decode cX5_trips 34 = .ok (.getfield 100, 3) := by decide +kernel
theorem dX5_trips_37 : decode cX5_trips 37 = .ok (.iload_n 1, 1) := by decide +kernel
theorem dX5_trips_38 : decode cX5_trips 38 = .ok (.ishr, 1) := by decide +kernel
theorem dX5_trips_39 : decode cX5_trips 39 = .ok (.iconst 1, 1) := by decide +kernel
theorem dX5_trips_40 : decode cX5_trips 40 = .ok (.iand, 1) := by decide +kernel
theorem dX5_trips_41 : decode cX5_trips 41 = .ok (.ifCond .ne 13, 3) := by decide +kernel
theorem dX5_trips_44 : decode cX5_trips 44 = .ok (.aload_n 0, 1) := by decide +kernel
theorem dX5_trips_45 : decode cX5_trips 45 = .ok (.invokevirtual 141, 3) := by decide +kernel
theorem dX5_trips_48 : decode cX5_trips 48 = .ok (.iinc 2 1, 3) := by decide +kernel
theorem dX5_trips_51 : decode cX5_trips 51 = .ok (.goto (-25), 3) := by decide +kernel
theorem dX5_trips_54 : decode cX5_trips 54 = .ok (.aload_n 0, 1) := by decide +kernel
theorem dX5_trips_55 : decode cX5_trips 55 = .ok (.iload_n 2, 1) := by decide +kernel
theorem dX5_trips_56 : decode cX5_trips 56 = .ok (.invokevirtual 166, 3) := by decide +kernel
theorem dX5_trips_59 : decode cX5_trips 59 = .ok (.ireturn, 1) := by decide +kernel
theorem dX5_hears_0 : decode cX5_hears 0 = .ok (.aload_n 0, 1) := by decide +kernel
theorem dX5_hears_1 : decode cX5_hears 1 = .ok (.iload_n 1, 1) := by decide +kernel
theorem dX5_hears_2 : decode cX5_hears 2 = .ok (.invokevirtual 69, 3) := by decide +kernel
theorem dX5_hears_5 : decode cX5_hears 5 = .ok (.ifCond .ne 10, 3) := by decide +kernel
theorem dX5_hears_8 : decode cX5_hears 8 = .ok (.aload_n 0, 1) := by decide +kernel
theorem dX5_hears_9 : decode cX5_hears 9 = .ok (.ldc 41, 2) := by decide +kernel
theorem dX5_hears_11 : decode cX5_hears 11 = .ok (.invokevirtual 66, 3) := by decide +kernel
theorem dX5_hears_14 : decode cX5_hears 14 = .ok (.ireturn, 1) := by decide +kernel
theorem dX5_hears_15 : decode cX5_hears 15 = .ok (.aload_n 0, 1) := by decide +kernel
theorem dX5_hears_16 : decode cX5_hears 16 = .ok (.invokevirtual 153, 3) := by decide +kernel
theorem dX5_hears_19 : decode cX5_hears 19 = .ok (.iconst 0, 1) := by decide +kernel
theorem dX5_hears_20 : decode cX5_hears 20 = .ok (.istore_n 2, 1) := by decide +kernel
theorem dX5_hears_21 : decode cX5_hears 21 = .ok (.iload_n 2, 1) := by decide +kernel
theorem dX5_hears_22 : decode cX5_hears 22 = .ok (.sipush 300, 3) := by decide +kernel
theorem dX5_hears_25 : decode cX5_hears 25 = .ok (.if_icmp .gt 22, 3) := by decide +kernel
theorem dX5_hears_28 : decode cX5_hears 28 = .ok (.aload_n 0, 1) := by decide +kernel
theorem dX5_hears_29 : decode cX5_hears 29 = .ok (.iload_n 1, 1) := by decide +kernel
theorem dX5_hears_30 : decode cX5_hears 30 = .ok (.iconst 1, 1) := by decide +kernel
theorem dX5_hears_31 : decode cX5_hears 31 = .ok (.invokevirtual 54, 3) := by decide +kernel
theorem dX5_hears_34 : decode cX5_hears 34 = .ok (.ifCond .ne 13, 3) := by decide +kernel
theorem dX5_hears_37 : decode cX5_hears 37 = .ok (.aload_n 0, 1) := by decide +kernel
theorem dX5_hears_38 : decode cX5_hears 38 = .ok (.invokevirtual 141, 3) := by decide +kernel
theorem dX5_hears_41 : decode cX5_hears 41 = .ok (.iinc 2 1, 3) := by decide +kernel
theorem dX5_hears_44 : decode cX5_hears 44 = .ok (.goto (-23), 3) := by decide +kernel
theorem dX5_hears_47 : decode cX5_hears 47 = .ok (.aload_n 0, 1) := by decide +kernel
theorem dX5_hears_48 : decode cX5_hears 48 = .ok (.iload_n 2, 1) := by decide +kernel
theorem dX5_hears_49 : decode cX5_hears 49 = .ok (.invokevirtual 166, 3) := by decide +kernel
theorem dX5_hears_52 : decode cX5_hears 52 = .ok (.ireturn, 1) := by decide +kernel
theorem dX5_isSoon_0 : decode cX5_isSoon 0 = .ok (.iload_n 0, 1) := by decide +kernel
theorem dX5_isSoon_1 : decode cX5_isSoon 1 = .ok (.i2l, 1) := by decide +kernel
theorem dX5_isSoon_2 : decode cX5_isSoon 2 = .ok (.lconst 1, 1) := by decide +kernel
theorem dX5_isSoon_3 : decode cX5_isSoon 3 = .ok (.ldc2_w 169, 3) := by decide +kernel
theorem dX5_isSoon_6 : decode cX5_isSoon 6 = .ok (.invokestatic 46, 3) := by decide +kernel
theorem dX5_isSoon_9 : decode cX5_isSoon 9 = .ok (.ireturn, 1) := by decide +kernel
theorem dX5_leastBy_0 : decode cX5_leastBy 0 = .ok (.aload_n 0, 1) := by decide +kernel
theorem dX5_leastBy_1 : decode cX5_leastBy 1 = .ok (.getfield 7, 3) := by decide +kernel
theorem dX5_leastBy_4 : decode cX5_leastBy 4 = .ok (.iload_n 1, 1) := by decide +kernel
theorem dX5_leastBy_5 : decode cX5_leastBy 5 = .ok (.iaload, 1) := by decide +kernel
theorem dX5_leastBy_6 : decode cX5_leastBy 6 = .ok (.istore 5, 2) := by decide +kernel
theorem dX5_leastBy_8 : decode cX5_leastBy 8 = .ok (.iconst 0, 1) := by decide +kernel
theorem dX5_leastBy_9 : decode cX5_leastBy 9 = .ok (.istore 6, 2) := by decide +kernel
theorem dX5_leastBy_11 : decode cX5_leastBy 11 = .ok (.ldc 171, 2) := by decide +kernel
theorem dX5_leastBy_13 : decode cX5_leastBy 13 = .ok (.istore 7, 2) := by decide +kernel
theorem dX5_leastBy_15 : decode cX5_leastBy 15 = .ok (.iconst 0, 1) := by decide +kernel
theorem dX5_leastBy_16 : decode cX5_leastBy 16 = .ok (.istore 8, 2) := by decide +kernel
theorem dX5_leastBy_18 : decode cX5_leastBy 18 = .ok (.iload 8, 2) := by decide +kernel
theorem dX5_leastBy_20 : decode cX5_leastBy 20 = .ok (.iload_n 2, 1) := by decide +kernel
theorem dX5_leastBy_21 : decode cX5_leastBy 21 = .ok (.if_icmp .gt 58, 3) := by decide +kernel
theorem dX5_leastBy_24 : decode cX5_leastBy 24 = .ok (.aload_n 0, 1) := by decide +kernel
theorem dX5_leastBy_25 : decode cX5_leastBy 25 = .ok (.getfield 7, 3) := by decide +kernel
theorem dX5_leastBy_28 : decode cX5_leastBy 28 = .ok (.iload_n 1, 1) := by decide +kernel
theorem dX5_leastBy_29 : decode cX5_leastBy 29 = .ok (.iload 8, 2) := by decide +kernel
theorem dX5_leastBy_31 : decode cX5_leastBy 31 = .ok (.iastore, 1) := by decide +kernel
theorem dX5_leastBy_32 : decode cX5_leastBy 32 = .ok (.aload_n 0, 1) := by decide +kernel
theorem dX5_leastBy_33 : decode cX5_leastBy 33 = .ok (.iload_n 3, 1) := by decide +kernel
theorem dX5_leastBy_34 : decode cX5_leastBy 34 = .ok (.iload 4, 2) := by decide +kernel
theorem dX5_leastBy_36 : decode cX5_leastBy 36 = .ok (.invokevirtual 162, 3) := by decide +kernel
theorem dX5_leastBy_39 : decode cX5_leastBy 39 = .ok (.istore 9, 2) := by decide +kernel
theorem dX5_leastBy_41 : decode cX5_leastBy 41 = .ok (.iload 9, 2) := by decide +kernel
theorem dX5_leastBy_43 : decode cX5_leastBy 43 = .ok (.iload 7, 2) := by decide +kernel
theorem dX5_leastBy_45 : decode cX5_leastBy 45 = .ok (.if_icmp .ge 8, 3) := by decide +kernel
theorem dX5_leastBy_48 : decode cX5_leastBy 48 = .ok (.iload 8, 2) := by decide +kernel
theorem dX5_leastBy_50 : decode cX5_leastBy 50 = .ok (.goto 5, 3) := by decide +kernel
theorem dX5_leastBy_53 : decode cX5_leastBy 53 = .ok (.iload 6, 2) := by decide +kernel
theorem dX5_leastBy_55 : decode cX5_leastBy 55 = .ok (.istore 6, 2) := by decide +kernel
theorem dX5_leastBy_57 : decode cX5_leastBy 57 = .ok (.iload 9, 2) := by decide +kernel
theorem dX5_leastBy_59 : decode cX5_leastBy 59 = .ok (.iload 7, 2) := by decide +kernel
theorem dX5_leastBy_61 : decode cX5_leastBy 61 = .ok (.if_icmp .ge 8, 3) := by decide +kernel
theorem dX5_leastBy_64 : decode cX5_leastBy 64 = .ok (.iload 9, 2) := by decide +kernel
theorem dX5_leastBy_66 : decode cX5_leastBy 66 = .ok (.goto 5, 3) := by decide +kernel
theorem dX5_leastBy_69 : decode cX5_leastBy 69 = .ok (.iload 7, 2) := by decide +kernel
theorem dX5_leastBy_71 : decode cX5_leastBy 71 = .ok (.istore 7, 2) := by decide +kernel
theorem dX5_leastBy_73 : decode cX5_leastBy 73 = .ok (.iinc 8 1, 3) := by decide +kernel
theorem dX5_leastBy_76 : decode cX5_leastBy 76 = .ok (.goto (-58), 3) := by decide +kernel
theorem dX5_leastBy_79 : decode cX5_leastBy 79 = .ok (.aload_n 0, 1) := by decide +kernel
theorem dX5_leastBy_80 : decode cX5_leastBy 80 = .ok (.getfield 7, 3) := by decide +kernel
theorem dX5_leastBy_83 : decode cX5_leastBy 83 = .ok (.iload_n 1, 1) := by decide +kernel
theorem dX5_leastBy_84 : decode cX5_leastBy 84 = .ok (.iload 5, 2) := by decide +kernel
theorem dX5_leastBy_86 : decode cX5_leastBy 86 = .ok (.iastore, 1) := by decide +kernel
theorem dX5_leastBy_87 : decode cX5_leastBy 87 = .ok (.iload 6, 2) := by decide +kernel
theorem dX5_leastBy_89 : decode cX5_leastBy 89 = .ok (.ireturn, 1) := by decide +kernel
theorem dX5_carry_0 : decode cX5_carry 0 = .ok (.iload_n 1, 1) := by decide +kernel
theorem dX5_carry_1 : decode cX5_carry 1 = .ok (.invokestatic 172, 3) := by decide +kernel
theorem dX5_carry_4 : decode cX5_carry 4 = .ok (.ifCond .ne 10, 3) := by decide +kernel
theorem dX5_carry_7 : decode cX5_carry 7 = .ok (.aload_n 0, 1) := by decide +kernel
theorem dX5_carry_8 : decode cX5_carry 8 = .ok (.ldc 41, 2) := by decide +kernel
theorem dX5_carry_10 : decode cX5_carry 10 = .ok (.invokevirtual 66, 3) := by decide +kernel
theorem dX5_carry_13 : decode cX5_carry 13 = .ok (.ireturn, 1) := by decide +kernel
theorem dX5_carry_14 : decode cX5_carry 14 = .ok (.aload_n 0, 1) := by decide +kernel
theorem dX5_carry_15 : decode cX5_carry 15 = .ok (.getfield 7, 3) := by decide +kernel
theorem dX5_carry_18 : decode cX5_carry 18 = .ok (.iconst 1, 1) := by decide +kernel
theorem dX5_carry_19 : decode cX5_carry 19 = .ok (.iaload, 1) := by decide +kernel
theorem dX5_carry_20 : decode cX5_carry 20 = .ok (.ifCond .ne 12, 3) := by decide +kernel
theorem dX5_carry_23 : decode cX5_carry 23 = .ok (.aload_n 0, 1) := by decide +kernel
theorem dX5_carry_24 : decode cX5_carry 24 = .ok (.ldc 165, 2) := by decide +kernel
theorem dX5_carry_26 : decode cX5_carry 26 = .ok (.invokevirtual 66, 3) := by decide +kernel
theorem dX5_carry_29 : decode cX5_carry 29 = .ok (.goto 18, 3) := by decide +kernel
theorem dX5_carry_32 : decode cX5_carry 32 = .ok (.aload_n 0, 1) := by decide +kernel
theorem dX5_carry_33 : decode cX5_carry 33 = .ok (.iconst 3, 1) := by decide +kernel
theorem dX5_carry_34 : decode cX5_carry 34 = .ok (.aload_n 0, 1) := by decide +kernel
theorem dX5_carry_35 : decode cX5_carry 35 = .ok (.getfield 7, 3) := by decide +kernel
theorem dX5_carry_38 : decode cX5_carry 38 = .ok (.iconst 1, 1) := by decide +kernel
theorem dX5_carry_39 : decode cX5_carry 39 = .ok (.iaload, 1) := by decide +kernel
theorem dX5_carry_40 : decode cX5_carry 40 = .ok (.iconst 1, 1) := by decide +kernel
theorem dX5_carry_41 : decode cX5_carry 41 = .ok (.isub, 1) := by decide +kernel
theorem dX5_carry_42 : decode cX5_carry 42 = .ok (.iconst (-1), 1) := by decide +kernel
theorem dX5_carry_43 : decode cX5_carry 43 = .ok (.iload_n 1, 1) := by decide +kernel
theorem dX5_carry_44 : decode cX5_carry 44 = .ok (.invokevirtual 175, 3) := by decide +kernel
theorem dX5_carry_47 : decode cX5_carry 47 = .ok (.ireturn, 1) := by decide +kernel
theorem dX5_order_0 : decode cX5_order 0 = .ok (.iload_n 1, 1) := by decide +kernel
theorem dX5_order_1 : decode cX5_order 1 = .ok (.invokestatic 172, 3) := by decide +kernel
theorem dX5_order_4 : decode cX5_order 4 = .ok (.ifCond .ne 10, 3) := by decide +kernel
theorem dX5_order_7 : decode cX5_order 7 = .ok (.aload_n 0, 1) := by decide +kernel
theorem dX5_order_8 : decode cX5_order 8 = .ok (.ldc 41, 2) := by decide +kernel
theorem dX5_order_10 : decode cX5_order 10 = .ok (.invokevirtual 66, 3) := by decide +kernel
theorem dX5_order_13 : decode cX5_order 13 = .ok (.ireturn, 1) := by decide +kernel
theorem dX5_order_14 : decode cX5_order 14 = .ok (.iconst (-1), 1) := by decide +kernel
theorem dX5_order_15 : decode cX5_order 15 = .ok (.istore_n 2, 1) := by decide +kernel
theorem dX5_order_16 : decode cX5_order 16 = .ok (.aload_n 0, 1) := by decide +kernel
theorem dX5_order_17 : decode cX5_order 17 = .ok (.iconst (-1), 1) := by decide +kernel
theorem dX5_order_18 : decode cX5_order 18 = .ok (.iload_n 1, 1) := by decide +kernel
theorem dX5_order_19 : decode cX5_order 19 = .ok (.invokevirtual 162, 3) := by decide +kernel
theorem dX5_order_22 : decode cX5_order 22 = .ok (.istore_n 3, 1) := by decide +kernel
theorem dX5_order_23 : decode cX5_order 23 = .ok (.iconst 0, 1) := by decide +kernel
theorem dX5_order_24 : decode cX5_order 24 = .ok (.istore 4, 2) := by decide +kernel
theorem dX5_order_26 : decode cX5_order 26 = .ok (.iload 4, 2) := by decide +kernel
theorem dX5_order_28 : decode cX5_order 28 = .ok (.aload_n 0, 1) := by decide +kernel
theorem dX5_order_29 : decode cX5_order 29 = .ok (.getfield 7, 3) := by decide +kernel
theorem dX5_order_32 : decode cX5_order 32 = .ok (.iconst 1, 1) := by decide +kernel
theorem dX5_order_33 : decode cX5_order 33 = .ok (.iaload, 1) := by decide +kernel
theorem dX5_order_34 : decode cX5_order 34 = .ok (.if_icmp .ge 88, 3) := by decide +kernel
theorem dX5_order_37 : decode cX5_order 37 = .ok (.iload 4, 2) := by decide +kernel
theorem dX5_order_39 : decode cX5_order 39 = .ok (.iconst 1, 1) := by decide +kernel
theorem dX5_order_40 : decode cX5_order 40 = .ok (.iadd, 1) := by decide +kernel
theorem dX5_order_41 : decode cX5_order 41 = .ok (.istore 5, 2) := by decide +kernel
theorem dX5_order_43 : decode cX5_order 43 = .ok (.iload 5, 2) := by decide +kernel
theorem dX5_order_45 : decode cX5_order 45 = .ok (.aload_n 0, 1) := by decide +kernel
theorem dX5_order_46 : decode cX5_order 46 = .ok (.getfield 7, 3) := by decide +kernel
theorem dX5_order_49 : decode cX5_order 49 = .ok (.iconst 1, 1) := by decide +kernel
theorem dX5_order_50 : decode cX5_order 50 = .ok (.iaload, 1) := by decide +kernel
theorem dX5_order_51 : decode cX5_order 51 = .ok (.if_icmp .ge 65, 3) := by decide +kernel
theorem dX5_order_54 : decode cX5_order 54 = .ok (.aload_n 0, 1) := by decide +kernel
theorem dX5_order_55 : decode cX5_order 55 = .ok (.iload 4, 2) := by decide +kernel
theorem dX5_order_57 : decode cX5_order 57 = .ok (.iload 5, 2) := by decide +kernel
theorem dX5_order_59 : decode cX5_order 59 = .ok (.invokevirtual 125, 3) := by decide +kernel
theorem dX5_order_62 : decode cX5_order 62 = .ok (.aload_n 0, 1) := by decide +kernel
theorem dX5_order_63 : decode cX5_order 63 = .ok (.iconst (-1), 1) := by decide +kernel
theorem dX5_order_64 : decode cX5_order 64 = .ok (.iload_n 1, 1) := by decide +kernel
theorem dX5_order_65 : decode cX5_order 65 = .ok (.invokevirtual 162, 3) := by decide +kernel
theorem dX5_order_68 : decode cX5_order 68 = .ok (.istore 6, 2) := by decide +kernel
theorem dX5_order_70 : decode cX5_order 70 = .ok (.aload_n 0, 1) := by decide +kernel
theorem dX5_order_71 : decode cX5_order 71 = .ok (.iload 4, 2) := by decide +kernel
theorem dX5_order_73 : decode cX5_order 73 = .ok (.iload 5, 2) := by decide +kernel
theorem dX5_order_75 : decode cX5_order 75 = .ok (.invokevirtual 125, 3) := by decide +kernel
theorem dX5_order_78 : decode cX5_order 78 = .ok (.iload 6, 2) := by decide +kernel
theorem dX5_order_80 : decode cX5_order 80 = .ok (.iload_n 3, 1) := by decide +kernel
theorem dX5_order_81 : decode cX5_order 81 = .ok (.if_icmp .ge 14, 3) := by decide +kernel
theorem dX5_order_84 : decode cX5_order 84 = .ok (.bipush 10, 2) := by decide +kernel
theorem dX5_order_86 : decode cX5_order 86 = .ok (.iload 4, 2) := by decide +kernel
theorem dX5_order_88 : decode cX5_order 88 = .ok (.imul, 1) := by decide +kernel
theorem dX5_order_89 : decode cX5_order 89 = .ok (.iload 5, 2) := by decide +kernel
theorem dX5_order_91 : decode cX5_order 91 = .ok (.iadd, 1) := by decide +kernel
theorem dX5_order_92 : decode cX5_order 92 = .ok (.goto 4, 3) := by decide +kernel
theorem dX5_order_95 : decode cX5_order 95 = .ok (.iload_n 2, 1) := by decide +kernel
theorem dX5_order_96 : decode cX5_order 96 = .ok (.istore_n 2, 1) := by decide +kernel
theorem dX5_order_97 : decode cX5_order 97 = .ok (.iload 6, 2) := by decide +kernel
theorem dX5_order_99 : decode cX5_order 99 = .ok (.iload_n 3, 1) := by decide +kernel
theorem dX5_order_100 : decode cX5_order 100 = .ok (.if_icmp .ge 8, 3) := by decide +kernel
theorem dX5_order_103 : decode cX5_order 103 = .ok (.iload 6, 2) := by decide +kernel
theorem dX5_order_105 : decode cX5_order 105 = .ok (.goto 4, 3) := by decide +kernel
theorem dX5_order_108 : decode cX5_order 108 = .ok (.iload_n 3, 1) := by decide +kernel
theorem dX5_order_109 : decode cX5_order 109 = .ok (.istore_n 3, 1) := by decide +kernel
theorem dX5_order_110 : decode cX5_order 110 = .ok (.iinc 5 1, 3) := by decide +kernel
theorem dX5_order_113 : decode cX5_order 113 = .ok (.goto (-70), 3) := by decide +kernel
theorem dX5_order_116 : decode cX5_order 116 = .ok (.iinc 4 1, 3) := by decide +kernel
theorem dX5_order_119 : decode cX5_order 119 = .ok (.goto (-93), 3) := by decide +kernel
theorem dX5_order_122 : decode cX5_order 122 = .ok (.iload_n 2, 1) := by decide +kernel
theorem dX5_order_123 : decode cX5_order 123 = .ok (.ifCond .ge 12, 3) := by decide +kernel
theorem dX5_order_126 : decode cX5_order 126 = .ok (.aload_n 0, 1) := by decide +kernel
theorem dX5_order_127 : decode cX5_order 127 = .ok (.ldc 165, 2) := by decide +kernel
theorem dX5_order_129 : decode cX5_order 129 = .ok (.invokevirtual 66, 3) := by decide +kernel
theorem dX5_order_132 : decode cX5_order 132 = .ok (.goto 4, 3) := by decide +kernel
theorem dX5_order_135 : decode cX5_order 135 = .ok (.iload_n 2, 1) := by decide +kernel
theorem dX5_order_136 : decode cX5_order 136 = .ok (.ireturn, 1) := by decide +kernel
theorem dX5_kind_0 : decode cX5_kind 0 = .ok (.aload_n 0, 1) := by decide +kernel
theorem dX5_kind_1 : decode cX5_kind 1 = .ok (.iload_n 1, 1) := by decide +kernel
theorem dX5_kind_2 : decode cX5_kind 2 = .ok (.invokevirtual 69, 3) := by decide +kernel
theorem dX5_kind_5 : decode cX5_kind 5 = .ok (.ifCond .eq 29, 3) := by decide +kernel
theorem dX5_kind_8 : decode cX5_kind 8 = .ok (.iload_n 2, 1) := by decide +kernel
theorem dX5_kind_9 : decode cX5_kind 9 = .ok (.invokestatic 172, 3) := by decide +kernel
theorem dX5_kind_12 : decode cX5_kind 12 = .ok (.ifCond .eq 22, 3) := by decide +kernel
theorem dX5_kind_15 : decode cX5_kind 15 = .ok (.aload_n 0, 1) := by decide +kernel
theorem dX5_kind_16 : decode cX5_kind 16 = .ok (.iload_n 1, 1) := by decide +kernel
theorem dX5_kind_17 : decode cX5_kind 17 = .ok (.iconst 0, 1) := by decide +kernel
theorem dX5_kind_18 : decode cX5_kind 18 = .ok (.invokestatic 42, 3) := by decide +kernel
theorem dX5_kind_21 : decode cX5_kind 21 = .ok (.iconst 5, 1) := by decide +kernel
theorem dX5_kind_22 : decode cX5_kind 22 = .ok (.iload_n 1, 1) := by decide +kernel
theorem dX5_kind_23 : decode cX5_kind 23 = .ok (.iconst 2, 1) := by decide +kernel
theorem dX5_kind_24 : decode cX5_kind 24 = .ok (.invokestatic 42, 3) := by decide +kernel
theorem dX5_kind_27 : decode cX5_kind 27 = .ok (.iload_n 2, 1) := by decide +kernel
theorem dX5_kind_28 : decode cX5_kind 28 = .ok (.invokevirtual 175, 3) := by decide +kernel
theorem dX5_kind_31 : decode cX5_kind 31 = .ok (.goto 9, 3) := by decide +kernel
theorem dX5_kind_34 : decode cX5_kind 34 = .ok (.aload_n 0, 1) := by decide +kernel
theorem dX5_kind_35 : decode cX5_kind 35 = .ok (.ldc 41, 2) := by decide +kernel
theorem dX5_kind_37 : decode cX5_kind 37 = .ok (.invokevirtual 66, 3) := by decide +kernel
theorem dX5_kind_40 : decode cX5_kind 40 = .ok (.ireturn, 1) := by decide +kernel
theorem dX5_least_0 : decode cX5_least 0 = .ok (.iload_n 1, 1) := by decide +kernel
theorem dX5_least_1 : decode cX5_least 1 = .ok (.invokestatic 172, 3) := by decide +kernel
theorem dX5_least_4 : decode cX5_least 4 = .ok (.ifCond .eq 15, 3) := by decide +kernel
theorem dX5_least_7 : decode cX5_least 7 = .ok (.iload_n 2, 1) := by decide +kernel
theorem dX5_least_8 : decode cX5_least 8 = .ok (.i2l, 1) := by decide +kernel
theorem dX5_least_9 : decode cX5_least 9 = .ok (.lconst 0, 1) := by decide +kernel
theorem dX5_least_10 : decode cX5_least 10 = .ok (.ldc2_w 179, 3) := by decide +kernel
theorem dX5_least_13 : decode cX5_least 13 = .ok (.invokestatic 46, 3) := by decide +kernel
theorem dX5_least_16 : decode cX5_least 16 = .ok (.ifCond .ne 10, 3) := by decide +kernel
theorem dX5_least_19 : decode cX5_least 19 = .ok (.aload_n 0, 1) := by decide +kernel
theorem dX5_least_20 : decode cX5_least 20 = .ok (.ldc 41, 2) := by decide +kernel
theorem dX5_least_22 : decode cX5_least 22 = .ok (.invokevirtual 66, 3) := by decide +kernel
theorem dX5_least_25 : decode cX5_least 25 = .ok (.ireturn, 1) := by decide +kernel
theorem dX5_least_26 : decode cX5_least 26 = .ok (.aload_n 0, 1) := by decide +kernel
theorem dX5_least_27 : decode cX5_least 27 = .ok (.getfield 7, 3) := by decide +kernel
theorem dX5_least_30 : decode cX5_least 30 = .ok (.iconst 4, 1) := by decide +kernel
theorem dX5_least_31 : decode cX5_least 31 = .ok (.iaload, 1) := by decide +kernel
theorem dX5_least_32 : decode cX5_least 32 = .ok (.istore_n 3, 1) := by decide +kernel
theorem dX5_least_33 : decode cX5_least 33 = .ok (.iconst (-1), 1) := by decide +kernel
theorem dX5_least_34 : decode cX5_least 34 = .ok (.istore 4, 2) := by decide +kernel
theorem dX5_least_36 : decode cX5_least 36 = .ok (.iconst 0, 1) := by decide +kernel
theorem dX5_least_37 : decode cX5_least 37 = .ok (.istore 5, 2) := by decide +kernel
theorem dX5_least_39 : decode cX5_least 39 = .ok (.iload 5, 2) := by decide +kernel
theorem dX5_least_41 : decode cX5_least 41 = .ok (.bipush 9, 2) := by decide +kernel
theorem dX5_least_43 : decode cX5_least 43 = .ok (.if_icmp .gt 40, 3) := by decide +kernel
theorem dX5_least_46 : decode cX5_least 46 = .ok (.iload 4, 2) := by decide +kernel
theorem dX5_least_48 : decode cX5_least 48 = .ok (.ifCond .ge 35, 3) := by decide +kernel
theorem dX5_least_51 : decode cX5_least 51 = .ok (.aload_n 0, 1) := by decide +kernel
theorem dX5_least_52 : decode cX5_least 52 = .ok (.getfield 7, 3) := by decide +kernel
theorem dX5_least_55 : decode cX5_least 55 = .ok (.iconst 4, 1) := by decide +kernel
theorem dX5_least_56 : decode cX5_least 56 = .ok (.iload 5, 2) := by decide +kernel
theorem dX5_least_58 : decode cX5_least 58 = .ok (.iastore, 1) := by decide +kernel
theorem dX5_least_59 : decode cX5_least 59 = .ok (.aload_n 0, 1) := by decide +kernel
theorem dX5_least_60 : decode cX5_least 60 = .ok (.iconst (-1), 1) := by decide +kernel
theorem dX5_least_61 : decode cX5_least 61 = .ok (.iload_n 1, 1) := by decide +kernel
theorem dX5_least_62 : decode cX5_least 62 = .ok (.invokevirtual 162, 3) := by decide +kernel
theorem dX5_least_65 : decode cX5_least 65 = .ok (.iload_n 2, 1) := by decide +kernel
theorem dX5_least_66 : decode cX5_least 66 = .ok (.if_icmp .gt 8, 3) := by decide +kernel
theorem dX5_least_69 : decode cX5_least 69 = .ok (.iload 5, 2) := by decide +kernel
theorem dX5_least_71 : decode cX5_least 71 = .ok (.goto 4, 3) := by decide +kernel
theorem dX5_least_74 : decode cX5_least 74 = .ok (.iconst (-1), 1) := by decide +kernel
theorem dX5_least_75 : decode cX5_least 75 = .ok (.istore 4, 2) := by decide +kernel
theorem dX5_least_77 : decode cX5_least 77 = .ok (.iinc 5 1, 3) := by decide +kernel
theorem dX5_least_80 : decode cX5_least 80 = .ok (.goto (-41), 3) := by decide +kernel
theorem dX5_least_83 : decode cX5_least 83 = .ok (.aload_n 0, 1) := by decide +kernel
theorem dX5_least_84 : decode cX5_least 84 = .ok (.getfield 7, 3) := by decide +kernel
theorem dX5_least_87 : decode cX5_least 87 = .ok (.iconst 4, 1) := by decide +kernel
theorem dX5_least_88 : decode cX5_least 88 = .ok (.iload_n 3, 1) := by decide +kernel
theorem dX5_least_89 : decode cX5_least 89 = .ok (.iastore, 1) := by decide +kernel
theorem dX5_least_90 : decode cX5_least 90 = .ok (.iload 4, 2) := by decide +kernel
theorem dX5_least_92 : decode cX5_least 92 = .ok (.ifCond .ge 12, 3) := by decide +kernel
theorem dX5_least_95 : decode cX5_least 95 = .ok (.aload_n 0, 1) := by decide +kernel
theorem dX5_least_96 : decode cX5_least 96 = .ok (.ldc 165, 2) := by decide +kernel
theorem dX5_least_98 : decode cX5_least 98 = .ok (.invokevirtual 66, 3) := by decide +kernel
theorem dX5_least_101 : decode cX5_least 101 = .ok (.goto 5, 3) := by decide +kernel
theorem dX5_least_104 : decode cX5_least 104 = .ok (.iload 4, 2) := by decide +kernel
theorem dX5_least_106 : decode cX5_least 106 = .ok (.ireturn, 1) := by decide +kernel
theorem dX5_clear_0 : decode cX5_clear 0 = .ok (.iload_n 1, 1) := by decide +kernel
theorem dX5_clear_1 : decode cX5_clear 1 = .ok (.i2l, 1) := by decide +kernel
theorem dX5_clear_2 : decode cX5_clear 2 = .ok (.lconst 1, 1) := by decide +kernel
theorem dX5_clear_3 : decode cX5_clear 3 = .ok (.ldc2_w 181, 3) := by decide +kernel
theorem dX5_clear_6 : decode cX5_clear 6 = .ok (.invokestatic 46, 3) := by decide +kernel
theorem dX5_clear_9 : decode cX5_clear 9 = .ok (.ifCond .ne 10, 3) := by decide +kernel
theorem dX5_clear_12 : decode cX5_clear 12 = .ok (.aload_n 0, 1) := by decide +kernel
theorem dX5_clear_13 : decode cX5_clear 13 = .ok (.ldc 41, 2) := by decide +kernel
theorem dX5_clear_15 : decode cX5_clear 15 = .ok (.invokevirtual 66, 3) := by decide +kernel
theorem dX5_clear_18 : decode cX5_clear 18 = .ok (.ireturn, 1) := by decide +kernel
theorem dX5_clear_19 : decode cX5_clear 19 = .ok (.aload_n 0, 1) := by decide +kernel
theorem dX5_clear_20 : decode cX5_clear 20 = .ok (.getfield 7, 3) := by decide +kernel
theorem dX5_clear_23 : decode cX5_clear 23 = .ok (.iconst 2, 1) := by decide +kernel
theorem dX5_clear_24 : decode cX5_clear 24 = .ok (.iaload, 1) := by decide +kernel
theorem dX5_clear_25 : decode cX5_clear 25 = .ok (.istore_n 2, 1) := by decide +kernel
theorem dX5_clear_26 : decode cX5_clear 26 = .ok (.iconst (-1), 1) := by decide +kernel
theorem dX5_clear_27 : decode cX5_clear 27 = .ok (.istore_n 3, 1) := by decide +kernel
theorem dX5_clear_28 : decode cX5_clear 28 = .ok (.ldc 171, 2) := by decide +kernel
theorem dX5_clear_30 : decode cX5_clear 30 = .ok (.istore 4, 2) := by decide +kernel
theorem dX5_clear_32 : decode cX5_clear 32 = .ok (.iconst 0, 1) := by decide +kernel
