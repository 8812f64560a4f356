theorem dX4_init_0 : decode cX4_init 0 = .ok (.aload_n 0, 1) := by decide +kernel
theorem dX4_init_1 : decode cX4_init 1 = .ok (.invokespecial 3, 3) := by decide +kernel
theorem dX4_init_4 : decode cX4_init 4 = .ok (.aload_n 0, 1) := by decide +kernel
theorem dX4_init_5 : decode cX4_init 5 = .ok (.new 9, 3) := by decide +kernel
theorem dX4_init_8 : decode cX4_init 8 = .ok (.dup, 1) := by decide +kernel
theorem dX4_init_9 : decode cX4_init 9 = .ok (.invokespecial 11, 3) := by decide +kernel
theorem dX4_init_12 : decode cX4_init 12 = .ok (.putfield 12, 3) := by decide +kernel
theorem dX4_init_15 : decode cX4_init 15 = .ok (.aload_n 0, 1) := by decide +kernel
theorem dX4_init_16 : decode cX4_init 16 = .ok (.new 9, 3) := by decide +kernel
theorem dX4_init_19 : decode cX4_init 19 = .ok (.dup, 1) := by decide +kernel
theorem dX4_init_20 : decode cX4_init 20 = .ok (.invokespecial 11, 3) := by decide +kernel
theorem dX4_init_23 : decode cX4_init 23 = .ok (.putfield 16, 3) := by decide +kernel
theorem dX4_init_26 : decode cX4_init 26 = .ok (.aload_n 0, 1) := by decide +kernel
theorem dX4_init_27 : decode cX4_init 27 = .ok (.new 9, 3) := by decide +kernel
theorem dX4_init_30 : decode cX4_init 30 = .ok (.dup, 1) := by decide +kernel
theorem dX4_init_31 : decode cX4_init 31 = .ok (.invokespecial 11, 3) := by decide +kernel
theorem dX4_init_34 : decode cX4_init 34 = .ok (.putfield 19, 3) := by decide +kernel
theorem dX4_init_37 : decode cX4_init 37 = .ok (.aload_n 0, 1) := by decide +kernel
theorem dX4_init_38 : decode cX4_init 38 = .ok (.new 22, 3) := by decide +kernel
theorem dX4_init_41 : decode cX4_init 41 = .ok (.dup, 1) := by decide +kernel
theorem dX4_init_42 : decode cX4_init 42 = .ok (.invokespecial 24, 3) := by decide +kernel
theorem dX4_init_45 : decode cX4_init 45 = .ok (.putfield 25, 3) := by decide +kernel
theorem dX4_init_48 : decode cX4_init 48 = .ok (.aload_n 0, 1) := by decide +kernel
theorem dX4_init_49 : decode cX4_init 49 = .ok (.iconst 4, 1) := by decide +kernel
theorem dX4_init_50 : decode cX4_init 50 = .ok (.anewarray 29, 3) := by decide +kernel
theorem dX4_init_53 : decode cX4_init 53 = .ok (.putfield 31, 3) := by decide +kernel
theorem dX4_init_56 : decode cX4_init 56 = .ok (.aload_n 0, 1) := by decide +kernel
theorem dX4_init_57 : decode cX4_init 57 = .ok (.bipush 7, 2) := by decide +kernel
theorem dX4_init_59 : decode cX4_init 59 = .ok (.newarray .int, 2) := by decide +kernel
theorem dX4_init_61 : decode cX4_init 61 = .ok (.putfield 35, 3) := by decide +kernel
theorem dX4_init_64 : decode cX4_init 64 = .ok (.iconst 0, 1) := by decide +kernel
theorem dX4_init_65 : decode cX4_init 65 = .ok (.istore_n 1, 1) := by decide +kernel
theorem dX4_init_66 : decode cX4_init 66 = .ok (.iload_n 1, 1) := by decide +kernel
theorem dX4_init_67 : decode cX4_init 67 = .ok (.iconst 4, 1) := by decide +kernel
theorem dX4_init_68 : decode cX4_init 68 = .ok (.if_icmp .ge 22, 3) := by decide +kernel
theorem dX4_init_71 : decode cX4_init 71 = .ok (.aload_n 0, 1) := by decide +kernel
theorem dX4_init_72 : decode cX4_init 72 = .ok (.getfield 31, 3) := by decide +kernel
theorem dX4_init_75 : decode cX4_init 75 = .ok (.iload_n 1, 1) := by decide +kernel
theorem dX4_init_76 : decode cX4_init 76 = .ok (.new 29, 3) := by decide +kernel
theorem dX4_init_79 : decode cX4_init 79 = .ok (.dup, 1) := by decide +kernel
theorem dX4_init_80 : decode cX4_init 80 = .ok (.invokespecial 39, 3) := by decide +kernel
theorem dX4_init_83 : decode cX4_init 83 = .ok (.aastore, 1) := by decide +kernel
theorem dX4_init_84 : decode cX4_init 84 = .ok (.iinc 1 1, 3) := by decide +kernel
theorem dX4_init_87 : decode cX4_init 87 = .ok (.goto (-21), 3) := by decide +kernel
theorem dX4_init_90 : decode cX4_init 90 = .ok (.return_, 1) := by decide +kernel
theorem dX4_roots_0 : decode cX4_roots 0 = .ok (.iload_n 1, 1) := by decide +kernel
theorem dX4_roots_1 : decode cX4_roots 1 = .ok (.iconst 0, 1) := by decide +kernel
theorem dX4_roots_2 : decode cX4_roots 2 = .ok (.ldc 40, 2) := by decide +kernel
theorem dX4_roots_4 : decode cX4_roots 4 = .ok (.invokestatic 41, 3) := by decide +kernel
theorem dX4_roots_7 : decode cX4_roots 7 = .ok (.ifCond .ne 10, 3) := by decide +kernel
theorem dX4_roots_10 : decode cX4_roots 10 = .ok (.aload_n 0, 1) := by decide +kernel
theorem dX4_roots_11 : decode cX4_roots 11 = .ok (.ldc 45, 2) := by decide +kernel
theorem dX4_roots_13 : decode cX4_roots 13 = .ok (.invokevirtual 46, 3) := by decide +kernel
theorem dX4_roots_16 : decode cX4_roots 16 = .ok (.ireturn, 1) := by decide +kernel
theorem dX4_roots_17 : decode cX4_roots 17 = .ok (.aload_n 0, 1) := by decide +kernel
theorem dX4_roots_18 : decode cX4_roots 18 = .ok (.getfield 12, 3) := by decide +kernel
theorem dX4_roots_21 : decode cX4_roots 21 = .ok (.getfield 50, 3) := by decide +kernel
theorem dX4_roots_24 : decode cX4_roots 24 = .ok (.istore_n 2, 1) := by decide +kernel
theorem dX4_roots_25 : decode cX4_roots 25 = .ok (.aload_n 0, 1) := by decide +kernel
theorem dX4_roots_26 : decode cX4_roots 26 = .ok (.getfield 12, 3) := by decide +kernel
theorem dX4_roots_29 : decode cX4_roots 29 = .ok (.iload_n 1, 1) := by decide +kernel
theorem dX4_roots_30 : decode cX4_roots 30 = .ok (.putfield 50, 3) := by decide +kernel
theorem dX4_roots_33 : decode cX4_roots 33 = .ok (.iload_n 2, 1) := by decide +kernel
theorem dX4_roots_34 : decode cX4_roots 34 = .ok (.ireturn, 1) := by decide +kernel
theorem dX4_lantern_0 : decode cX4_lantern 0 = .ok (.iload_n 1, 1) := by decide +kernel
theorem dX4_lantern_1 : decode cX4_lantern 1 = .ok (.iconst (-1), 1) := by decide +kernel
theorem dX4_lantern_2 : decode cX4_lantern 2 = .ok (.if_icmp .eq 21, 3) := by decide +kernel
theorem dX4_lantern_5 : decode cX4_lantern 5 = .ok (.aload_n 0, 1) := by decide +kernel
theorem dX4_lantern_6 : decode cX4_lantern 6 = .ok (.getfield 12, 3) := by decide +kernel
theorem dX4_lantern_9 : decode cX4_lantern 9 = .ok (.iload_n 1, 1) := by decide +kernel
theorem dX4_lantern_10 : decode cX4_lantern 10 = .ok (.invokevirtual 54, 3) := by decide +kernel
theorem dX4_lantern_13 : decode cX4_lantern 13 = .ok (.ifCond .ne 10, 3) := by decide +kernel
theorem dX4_lantern_16 : decode cX4_lantern 16 = .ok (.aload_n 0, 1) := by decide +kernel
theorem dX4_lantern_17 : decode cX4_lantern 17 = .ok (.ldc 45, 2) := by decide +kernel
theorem dX4_lantern_19 : decode cX4_lantern 19 = .ok (.invokevirtual 46, 3) := by decide +kernel
theorem dX4_lantern_22 : decode cX4_lantern 22 = .ok (.ireturn, 1) := by decide +kernel
theorem dX4_lantern_23 : decode cX4_lantern 23 = .ok (.aload_n 0, 1) := by decide +kernel
theorem dX4_lantern_24 : decode cX4_lantern 24 = .ok (.getfield 12, 3) := by decide +kernel
theorem dX4_lantern_27 : decode cX4_lantern 27 = .ok (.getfield 58, 3) := by decide +kernel
theorem dX4_lantern_30 : decode cX4_lantern 30 = .ok (.istore_n 2, 1) := by decide +kernel
theorem dX4_lantern_31 : decode cX4_lantern 31 = .ok (.aload_n 0, 1) := by decide +kernel
theorem dX4_lantern_32 : decode cX4_lantern 32 = .ok (.getfield 12, 3) := by decide +kernel
theorem dX4_lantern_35 : decode cX4_lantern 35 = .ok (.iload_n 1, 1) := by decide +kernel
theorem dX4_lantern_36 : decode cX4_lantern 36 = .ok (.putfield 58, 3) := by decide +kernel
theorem dX4_lantern_39 : decode cX4_lantern 39 = .ok (.iload_n 2, 1) := by decide +kernel
theorem dX4_lantern_40 : decode cX4_lantern 40 = .ok (.ireturn, 1) := by decide +kernel
theorem dX4_bright_0 : decode cX4_bright 0 = .ok (.iload_n 1, 1) := by decide +kernel
theorem dX4_bright_1 : decode cX4_bright 1 = .ok (.iconst 0, 1) := by decide +kernel
theorem dX4_bright_2 : decode cX4_bright 2 = .ok (.bipush 9, 2) := by decide +kernel
theorem dX4_bright_4 : decode cX4_bright 4 = .ok (.invokestatic 41, 3) := by decide +kernel
theorem dX4_bright_7 : decode cX4_bright 7 = .ok (.ifCond .ne 10, 3) := by decide +kernel
theorem dX4_bright_10 : decode cX4_bright 10 = .ok (.aload_n 0, 1) := by decide +kernel
theorem dX4_bright_11 : decode cX4_bright 11 = .ok (.ldc 45, 2) := by decide +kernel
theorem dX4_bright_13 : decode cX4_bright 13 = .ok (.invokevirtual 46, 3) := by decide +kernel
theorem dX4_bright_16 : decode cX4_bright 16 = .ok (.ireturn, 1) := by decide +kernel
theorem dX4_bright_17 : decode cX4_bright 17 = .ok (.aload_n 0, 1) := by decide +kernel
theorem dX4_bright_18 : decode cX4_bright 18 = .ok (.getfield 12, 3) := by decide +kernel
theorem dX4_bright_21 : decode cX4_bright 21 = .ok (.getfield 61, 3) := by decide +kernel
theorem dX4_bright_24 : decode cX4_bright 24 = .ok (.istore_n 2, 1) := by decide +kernel
theorem dX4_bright_25 : decode cX4_bright 25 = .ok (.aload_n 0, 1) := by decide +kernel
theorem dX4_bright_26 : decode cX4_bright 26 = .ok (.getfield 12, 3) := by decide +kernel
theorem dX4_bright_29 : decode cX4_bright 29 = .ok (.iload_n 1, 1) := by decide +kernel
theorem dX4_bright_30 : decode cX4_bright 30 = .ok (.putfield 61, 3) := by decide +kernel
theorem dX4_bright_33 : decode cX4_bright 33 = .ok (.iload_n 2, 1) := by decide +kernel
theorem dX4_bright_34 : decode cX4_bright 34 = .ok (.ireturn, 1) := by decide +kernel
theorem dX4_now_0 : decode cX4_now 0 = .ok (.iload_n 1, 1) := by decide +kernel
theorem dX4_now_1 : decode cX4_now 1 = .ok (.tableswitch 111 0 7 #[47, 55, 63, 71, 79, 87, 95, 103], 47) := by decide +kernel
theorem dX4_now_48 : decode cX4_now 48 = .ok (.aload_n 0, 1) := by decide +kernel
theorem dX4_now_49 : decode cX4_now 49 = .ok (.getfield 12, 3) := by decide +kernel
theorem dX4_now_52 : decode cX4_now 52 = .ok (.getfield 64, 3) := by decide +kernel
theorem dX4_now_55 : decode cX4_now 55 = .ok (.ireturn, 1) := by decide +kernel
theorem dX4_now_56 : decode cX4_now 56 = .ok (.aload_n 0, 1) := by decide +kernel
theorem dX4_now_57 : decode cX4_now 57 = .ok (.getfield 12, 3) := by decide +kernel
theorem dX4_now_60 : decode cX4_now 60 = .ok (.getfield 50, 3) := by decide +kernel
theorem dX4_now_63 : decode cX4_now 63 = .ok (.ireturn, 1) := by decide +kernel
theorem dX4_now_64 : decode cX4_now 64 = .ok (.aload_n 0, 1) := by decide +kernel
theorem dX4_now_65 : decode cX4_now 65 = .ok (.getfield 12, 3) := by decide +kernel
theorem dX4_now_68 : decode cX4_now 68 = .ok (.getfield 58, 3) := by decide +kernel
theorem dX4_now_71 : decode cX4_now 71 = .ok (.ireturn, 1) := by decide +kernel
theorem dX4_now_72 : decode cX4_now 72 = .ok (.aload_n 0, 1) := by decide +kernel
theorem dX4_now_73 : decode cX4_now 73 = .ok (.getfield 12, 3) := by decide +kernel
theorem dX4_now_76 : decode cX4_now 76 = .ok (.getfield 61, 3) := by decide +kernel
theorem dX4_now_79 : decode cX4_now 79 = .ok (.ireturn, 1) := by decide +kernel
theorem dX4_now_80 : decode cX4_now 80 = .ok (.aload_n 0, 1) := by decide +kernel
theorem dX4_now_81 : decode cX4_now 81 = .ok (.getfield 12, 3) := by decide +kernel
theorem dX4_now_84 : decode cX4_now 84 = .ok (.invokevirtual 67, 3) := by decide +kernel
theorem dX4_now_87 : decode cX4_now 87 = .ok (.ireturn, 1) := by decide +kernel
theorem dX4_now_88 : decode cX4_now 88 = .ok (.aload_n 0, 1) := by decide +kernel
theorem dX4_now_89 : decode cX4_now 89 = .ok (.getfield 12, 3) := by decide +kernel
theorem dX4_now_92 : decode cX4_now 92 = .ok (.invokevirtual 71, 3) := by decide +kernel
theorem dX4_now_95 : decode cX4_now 95 = .ok (.ireturn, 1) := by decide +kernel
theorem dX4_now_96 : decode cX4_now 96 = .ok (.aload_n 0, 1) := by decide +kernel
theorem dX4_now_97 : decode cX4_now 97 = .ok (.getfield 12, 3) := by decide +kernel
theorem dX4_now_100 : decode cX4_now 100 = .ok (.invokevirtual 74, 3) := by decide +kernel
theorem dX4_now_103 : decode cX4_now 103 = .ok (.ireturn, 1) := by decide +kernel
theorem dX4_now_104 : decode cX4_now 104 = .ok (.aload_n 0, 1) := by decide +kernel
theorem dX4_now_105 : decode cX4_now 105 = .ok (.getfield 12, 3) := by decide +kernel
theorem dX4_now_108 : decode cX4_now 108 = .ok (.invokevirtual 77, 3) := by decide +kernel
theorem dX4_now_111 : decode cX4_now 111 = .ok (.ireturn, 1) := by decide +kernel
theorem dX4_now_112 : decode cX4_now 112 = .ok (.aload_n 0, 1) := by decide +kernel
theorem dX4_now_113 : decode cX4_now 113 = .ok (.ldc 45, 2) := by decide +kernel
theorem dX4_now_115 : decode cX4_now 115 = .ok (.invokevirtual 46, 3) := by decide +kernel
theorem dX4_now_118 : decode cX4_now 118 = .ok (.ireturn, 1) := by decide +kernel
theorem dX4_walker_0 : decode cX4_walker 0 = .ok (.iload_n 1, 1) := by decide +kernel
theorem dX4_walker_1 : decode cX4_walker 1 = .ok (.invokestatic 80, 3) := by decide +kernel
theorem dX4_walker_4 : decode cX4_walker 4 = .ok (.ifCond .ne 10, 3) := by decide +kernel
theorem dX4_walker_7 : decode cX4_walker 7 = .ok (.aload_n 0, 1) := by decide +kernel
theorem dX4_walker_8 : decode cX4_walker 8 = .ok (.ldc 45, 2) := by decide +kernel
theorem dX4_walker_10 : decode cX4_walker 10 = .ok (.invokevirtual 46, 3) := by decide +kernel
theorem dX4_walker_13 : decode cX4_walker 13 = .ok (.ireturn, 1) := by decide +kernel
theorem dX4_walker_14 : decode cX4_walker 14 = .ok (.aload_n 0, 1) := by decide +kernel
theorem dX4_walker_15 : decode cX4_walker 15 = .ok (.getfield 12, 3) := by decide +kernel
theorem dX4_walker_18 : decode cX4_walker 18 = .ok (.invokevirtual 83, 3) := by decide +kernel
theorem dX4_walker_21 : decode cX4_walker 21 = .ok (.ifCond .eq 10, 3) := by decide +kernel
theorem dX4_walker_24 : decode cX4_walker 24 = .ok (.aload_n 0, 1) := by decide +kernel
theorem dX4_walker_25 : decode cX4_walker 25 = .ok (.ldc 87, 2) := by decide +kernel
theorem dX4_walker_27 : decode cX4_walker 27 = .ok (.invokevirtual 46, 3) := by decide +kernel
theorem dX4_walker_30 : decode cX4_walker 30 = .ok (.ireturn, 1) := by decide +kernel
theorem dX4_walker_31 : decode cX4_walker 31 = .ok (.aload_n 0, 1) := by decide +kernel
theorem dX4_walker_32 : decode cX4_walker 32 = .ok (.getfield 12, 3) := by decide +kernel
theorem dX4_walker_35 : decode cX4_walker 35 = .ok (.iload_n 1, 1) := by decide +kernel
theorem dX4_walker_36 : decode cX4_walker 36 = .ok (.invokevirtual 88, 3) := by decide +kernel
theorem dX4_walker_39 : decode cX4_walker 39 = .ok (.aload_n 0, 1) := by decide +kernel
theorem dX4_walker_40 : decode cX4_walker 40 = .ok (.getfield 12, 3) := by decide +kernel
theorem dX4_walker_43 : decode cX4_walker 43 = .ok (.getfield 92, 3) := by decide +kernel
theorem dX4_walker_46 : decode cX4_walker 46 = .ok (.iconst 1, 1) := by decide +kernel
theorem dX4_walker_47 : decode cX4_walker 47 = .ok (.isub, 1) := by decide +kernel
theorem dX4_walker_48 : decode cX4_walker 48 = .ok (.ireturn, 1) := by decide +kernel
theorem dX4_of_0 : decode cX4_of 0 = .ok (.aload_n 0, 1) := by decide +kernel
theorem dX4_of_1 : decode cX4_of 1 = .ok (.getfield 12, 3) := by decide +kernel
theorem dX4_of_4 : decode cX4_of 4 = .ok (.iload_n 1, 1) := by decide +kernel
theorem dX4_of_5 : decode cX4_of 5 = .ok (.invokevirtual 54, 3) := by decide +kernel
theorem dX4_of_8 : decode cX4_of 8 = .ok (.ifCond .ne 10, 3) := by decide +kernel
theorem dX4_of_11 : decode cX4_of 11 = .ok (.aload_n 0, 1) := by decide +kernel
theorem dX4_of_12 : decode cX4_of 12 = .ok (.ldc 45, 2) := by decide +kernel
theorem dX4_of_14 : decode cX4_of 14 = .ok (.invokevirtual 46, 3) := by decide +kernel
theorem dX4_of_17 : decode cX4_of 17 = .ok (.ireturn, 1) := by decide +kernel
theorem dX4_of_18 : decode cX4_of 18 = .ok (.iload_n 2, 1) := by decide +kernel
theorem dX4_of_19 : decode cX4_of 19 = .ok (.tableswitch 144 0 7 #[45, 55, 64, 74, 84, 94, 107, 127], 45) := by decide +kernel
theorem dX4_of_64 : decode cX4_of 64 = .ok (.aload_n 0, 1) := by decide +kernel
theorem dX4_of_65 : decode cX4_of 65 = .ok (.getfield 12, 3) := by decide +kernel
theorem dX4_of_68 : decode cX4_of 68 = .ok (.getfield 95, 3) := by decide +kernel
theorem dX4_of_71 : decode cX4_of 71 = .ok (.iload_n 1, 1) := by decide +kernel
theorem dX4_of_72 : decode cX4_of 72 = .ok (.iaload, 1) := by decide +kernel
theorem dX4_of_73 : decode cX4_of 73 = .ok (.ireturn, 1) := by decide +kernel
theorem dX4_of_74 : decode cX4_of 74 = .ok (.aload_n 0, 1) := by decide +kernel
theorem dX4_of_75 : decode cX4_of 75 = .ok (.getfield 12, 3) := by decide +kernel
theorem dX4_of_78 : decode cX4_of 78 = .ok (.iload_n 1, 1) := by decide +kernel
theorem dX4_of_79 : decode cX4_of 79 = .ok (.invokevirtual 98, 3) := by decide +kernel
theorem dX4_of_82 : decode cX4_of 82 = .ok (.ireturn, 1) := by decide +kernel
theorem dX4_of_83 : decode cX4_of 83 = .ok (.aload_n 0, 1) := by decide +kernel
theorem dX4_of_84 : decode cX4_of 84 = .ok (.getfield 12, 3) := by decide +kernel
theorem dX4_of_87 : decode cX4_of 87 = .ok (.getfield 101, 3) := by decide +kernel
theorem dX4_of_90 : decode cX4_of 90 = .ok (.iload_n 1, 1) := by decide +kernel
theorem dX4_of_91 : decode cX4_of 91 = .ok (.iaload, 1) := by decide +kernel
theorem dX4_of_92 : decode cX4_of 92 = .ok (.ireturn, 1) := by decide +kernel
theorem dX4_of_93 : decode cX4_of 93 = .ok (.aload_n 0, 1) := by decide +kernel
theorem dX4_of_94 : decode cX4_of 94 = .ok (.getfield 12, 3) := by decide +kernel
theorem dX4_of_97 : decode cX4_of 97 = .ok (.getfield 104, 3) := by decide +kernel
theorem dX4_of_100 : decode cX4_of 100 = .ok (.iload_n 1, 1) := by decide +kernel
theorem dX4_of_101 : decode cX4_of 101 = .ok (.iaload, 1) := by decide +kernel
theorem dX4_of_102 : decode cX4_of 102 = .ok (.ireturn, 1) := by decide +kernel
theorem dX4_of_103 : decode cX4_of 103 = .ok (.aload_n 0, 1) := by decide +kernel
theorem dX4_of_104 : decode cX4_of 104 = .ok (.getfield 12, 3) := by decide +kernel
theorem dX4_of_107 : decode cX4_of 107 = .ok (.getfield 107, 3) := by decide +kernel
theorem dX4_of_110 : decode cX4_of 110 = .ok (.iload_n 1, 1) := by decide +kernel
theorem dX4_of_111 : decode cX4_of 111 = .ok (.iaload, 1) := by decide +kernel
theorem dX4_of_112 : decode cX4_of 112 = .ok (.ireturn, 1) := by decide +kernel
theorem dX4_of_113 : decode cX4_of 113 = .ok (.aload_n 0, 1) := by decide +kernel
theorem dX4_of_114 : decode cX4_of 114 = .ok (.getfield 12, 3) := by decide +kernel
theorem dX4_of_117 : decode cX4_of 117 = .ok (.getfield 95, 3) := by decide +kernel
theorem dX4_of_120 : decode cX4_of 120 = .ok (.iload_n 1, 1) := by decide +kernel
theorem dX4_of_121 : decode cX4_of 121 = .ok (.iaload, 1) := by decide +kernel
theorem dX4_of_122 : decode cX4_of 122 = .ok (.invokestatic 110, 3) := by decide +kernel
theorem dX4_of_125 : decode cX4_of 125 = .ok (.ireturn, 1) := by decide +kernel
theorem dX4_of_126 : decode cX4_of 126 = .ok (.aload_n 0, 1) := by decide +kernel
theorem dX4_of_127 : decode cX4_of 127 = .ok (.getfield 12, 3) := by decide +kernel
theorem dX4_of_130 : decode cX4_of 130 = .ok (.invokevirtual 113, 3) := by decide +kernel
theorem dX4_of_133 : decode cX4_of 133 = .ok (.iload_n 1, 1) := by decide +kernel
theorem dX4_of_134 : decode cX4_of 134 = .ok (.invokestatic 116, 3) := by decide +kernel
theorem dX4_of_137 : decode cX4_of 137 = .ok (.ifCond .eq 7, 3) := by decide +kernel
theorem dX4_of_140 : decode cX4_of 140 = .ok (.iconst 1, 1) := by decide +kernel
theorem dX4_of_141 : decode cX4_of 141 = .ok (.goto 4, 3) := by decide +kernel
theorem dX4_of_144 : decode cX4_of 144 = .ok (.iconst 0, 1) := by decide +kernel
theorem dX4_of_145 : decode cX4_of 145 = .ok (.ireturn, 1) := by decide +kernel
theorem dX4_of_146 : decode cX4_of 146 = .ok (.aload_n 0, 1) := by decide +kernel
theorem dX4_of_147 : decode cX4_of 147 = .ok (.getfield 12, 3) := by decide +kernel
theorem dX4_of_150 : decode cX4_of 150 = .ok (.iload_n 1, 1) := by decide +kernel
theorem dX4_of_151 : decode cX4_of 151 = .ok (.invokevirtual 120, 3) := by decide +kernel
theorem dX4_of_154 : decode cX4_of 154 = .ok (.ifCond .eq 7, 3) := by decide +kernel
theorem dX4_of_157 : decode cX4_of 157 = .ok (.iconst 1, 1) := by decide +kernel
theorem dX4_of_158 : decode cX4_of 158 = .ok (.goto 4, 3) := by decide +kernel
theorem dX4_of_161 : decode cX4_of 161 = .ok (.iconst 0, 1) := by decide +kernel
theorem dX4_of_162 : decode cX4_of 162 = .ok (.ireturn, 1) := by decide +kernel
theorem dX4_of_163 : decode cX4_of 163 = .ok (.aload_n 0, 1) := by decide +kernel
theorem dX4_of_164 : decode cX4_of 164 = .ok (.ldc 45, 2) := by decide +kernel
theorem dX4_of_166 : decode cX4_of 166 = .ok (.invokevirtual 46, 3) := by decide +kernel
theorem dX4_of_169 : decode cX4_of 169 = .ok (.ireturn, 1) := by decide +kernel
theorem dX4_set_0 : decode cX4_set 0 = .ok (.aload_n 0, 1) := by decide +kernel
theorem dX4_set_1 : decode cX4_set 1 = .ok (.getfield 12, 3) := by decide +kernel
theorem dX4_set_4 : decode cX4_set 4 = .ok (.iload_n 1, 1) := by decide +kernel
theorem dX4_set_5 : decode cX4_set 5 = .ok (.invokevirtual 54, 3) := by decide +kernel
theorem dX4_set_8 : decode cX4_set 8 = .ok (.ifCond .ne 10, 3) := by decide +kernel
theorem dX4_set_11 : decode cX4_set 11 = .ok (.aload_n 0, 1) := by decide +kernel
theorem dX4_set_12 : decode cX4_set 12 = .ok (.ldc 45, 2) := by decide +kernel
theorem dX4_set_14 : decode cX4_set 14 = .ok (.invokevirtual 46, 3) := by decide +kernel
theorem dX4_set_17 : decode cX4_set 17 = .ok (.ireturn, 1) := by decide +kernel
theorem dX4_set_18 : decode cX4_set 18 = .ok (.iload_n 2, 1) := by decide +kernel
theorem dX4_set_19 : decode cX4_set 19 = .ok (.tableswitch 73 2 4 #[25, 40, 57], 25) := by decide +kernel
theorem dX4_set_44 : decode cX4_set 44 = .ok (.aload_n 0, 1) := by decide +kernel
theorem dX4_set_45 : decode cX4_set 45 = .ok (.aload_n 0, 1) := by decide +kernel
theorem dX4_set_46 : decode cX4_set 46 = .ok (.getfield 12, 3) := by decide +kernel
theorem dX4_set_49 : decode cX4_set 49 = .ok (.getfield 101, 3) := by decide +kernel
theorem dX4_set_52 : decode cX4_set 52 = .ok (.iload_n 1, 1) := by decide +kernel
theorem dX4_set_53 : decode cX4_set 53 = .ok (.iload_n 3, 1) := by decide +kernel
theorem dX4_set_54 : decode cX4_set 54 = .ok (.iconst 1, 1) := by decide +kernel
theorem dX4_set_55 : decode cX4_set 55 = .ok (.invokevirtual 123, 3) := by decide +kernel
theorem dX4_set_58 : decode cX4_set 58 = .ok (.ireturn, 1) := by decide +kernel
theorem dX4_set_59 : decode cX4_set 59 = .ok (.aload_n 0, 1) := by decide +kernel
theorem dX4_set_60 : decode cX4_set 60 = .ok (.aload_n 0, 1) := by decide +kernel
theorem dX4_set_61 : decode cX4_set 61 = .ok (.getfield 12, 3) := by decide +kernel
theorem dX4_set_64 : decode cX4_set 64 = .ok (.getfield 104, 3) := by decide +kernel
theorem dX4_set_67 : decode cX4_set 67 = .ok (.iload_n 1, 1) := by decide +kernel
theorem dX4_set_68 : decode cX4_set 68 = .ok (.iload_n 3, 1) := by decide +kernel
theorem dX4_set_69 : decode cX4_set 69 = .ok (.sipush 9999, 3) := by decide +kernel
theorem dX4_set_72 : decode cX4_set 72 = .ok (.invokevirtual 123, 3) := by decide +kernel
theorem dX4_set_75 : decode cX4_set 75 = .ok (.ireturn, 1) := by decide +kernel
theorem dX4_set_76 : decode cX4_set 76 = .ok (.aload_n 0, 1) := by decide +kernel
theorem dX4_set_77 : decode cX4_set 77 = .ok (.aload_n 0, 1) := by decide +kernel
theorem dX4_set_78 : decode cX4_set 78 = .ok (.getfield 12, 3) := by decide +kernel
theorem dX4_set_81 : decode cX4_set 81 = .ok (.getfield 107, 3) := by decide +kernel
theorem dX4_set_84 : decode cX4_set 84 = .ok (.iload_n 1, 1) := by decide +kernel
theorem dX4_set_85 : decode cX4_set 85 = .ok (.iload_n 3, 1) := by decide +kernel
theorem dX4_set_86 : decode cX4_set 86 = .ok (.bipush 99, 2) := by decide +kernel
theorem dX4_set_88 : decode cX4_set 88 = .ok (.invokevirtual 123, 3) := by decide +kernel
theorem dX4_set_91 : decode cX4_set 91 = .ok (.ireturn, 1) := by decide +kernel
theorem dX4_set_92 : decode cX4_set 92 = .ok (.aload_n 0, 1) := by decide +kernel
theorem dX4_set_93 : decode cX4_set 93 = .ok (.ldc 45, 2) := by decide +kernel
theorem dX4_set_95 : decode cX4_set 95 = .ok (.invokevirtual 46, 3) := by decide +kernel
theorem dX4_set_98 : decode cX4_set 98 = .ok (.ireturn, 1) := by decide +kernel
theorem dX4_swap_0 : decode cX4_swap 0 = .ok (.aload_n 0, 1) := by decide +kernel
theorem dX4_swap_1 : decode cX4_swap 1 = .ok (.getfield 12, 3) := by decide +kernel
theorem dX4_swap_4 : decode cX4_swap 4 = .ok (.iload_n 1, 1) := by decide +kernel
theorem dX4_swap_5 : decode cX4_swap 5 = .ok (.invokevirtual 54, 3) := by decide +kernel
theorem dX4_swap_8 : decode cX4_swap 8 = .ok (.ifCond .eq 19, 3) := by decide +kernel
theorem dX4_swap_11 : decode cX4_swap 11 = .ok (.aload_n 0, 1) := by decide +kernel
theorem dX4_swap_12 : decode cX4_swap 12 = .ok (.getfield 12, 3) := by decide +kernel
theorem dX4_swap_15 : decode cX4_swap 15 = .ok (.iload_n 2, 1) := by decide +kernel
theorem dX4_swap_16 : decode cX4_swap 16 = .ok (.invokevirtual 54, 3) := by decide +kernel
theorem dX4_swap_19 : decode cX4_swap 19 = .ok (.ifCond .eq 8, 3) := by decide +kernel
theorem dX4_swap_22 : decode cX4_swap 22 = .ok (.iload_n 1, 1) := by decide +kernel
theorem dX4_swap_23 : decode cX4_swap 23 = .ok (.iload_n 2, 1) := by decide +kernel
theorem dX4_swap_24 : decode cX4_swap 24 = .ok (.if_icmp .ne 10, 3) := by decide +kernel
theorem dX4_swap_27 : decode cX4_swap 27 = .ok (.aload_n 0, 1) := by decide +kernel
theorem dX4_swap_28 : decode cX4_swap 28 = .ok (.ldc 45, 2) := by decide +kernel
theorem dX4_swap_30 : decode cX4_swap 30 = .ok (.invokevirtual 46, 3) := by decide +kernel
theorem dX4_swap_33 : decode cX4_swap 33 = .ok (.ireturn, 1) := by decide +kernel
theorem dX4_swap_34 : decode cX4_swap 34 = .ok (.aload_n 0, 1) := by decide +kernel
theorem dX4_swap_35 : decode cX4_swap 35 = .ok (.getfield 12, 3) := by decide +kernel
theorem dX4_swap_38 : decode cX4_swap 38 = .ok (.iload_n 1, 1) := by decide +kernel
theorem dX4_swap_39 : decode cX4_swap 39 = .ok (.iload_n 2, 1) := by decide +kernel
theorem dX4_swap_40 : decode cX4_swap 40 = .ok (.invokevirtual 127, 3) := by decide +kernel
theorem dX4_swap_43 : decode cX4_swap 43 = .ok (.iconst 1, 1) := by decide +kernel
theorem dX4_swap_44 : decode cX4_swap 44 = .ok (.ireturn, 1) := by decide +kernel
theorem dX4_turn_0 : decode cX4_turn 0 = .ok (.aload_n 0, 1) := by decide +kernel
theorem dX4_turn_1 : decode cX4_turn 1 = .ok (.getfield 12, 3) := by decide +kernel
theorem dX4_turn_4 : decode cX4_turn 4 = .ok (.iload_n 1, 1) := by decide +kernel
theorem dX4_turn_5 : decode cX4_turn 5 = .ok (.invokevirtual 54, 3) := by decide +kernel
theorem dX4_turn_8 : decode cX4_turn 8 = .ok (.ifCond .eq 10, 3) := by decide +kernel
theorem dX4_turn_11 : decode cX4_turn 11 = .ok (.iload_n 2, 1) := by decide +kernel
theorem dX4_turn_12 : decode cX4_turn 12 = .ok (.invokestatic 80, 3) := by decide +kernel
theorem dX4_turn_15 : decode cX4_turn 15 = .ok (.ifCond .ne 10, 3) := by decide +kernel
theorem dX4_turn_18 : decode cX4_turn 18 = .ok (.aload_n 0, 1) := by decide +kernel
theorem dX4_turn_19 : decode cX4_turn 19 = .ok (.ldc 45, 2) := by decide +kernel
theorem dX4_turn_21 : decode cX4_turn 21 = .ok (.invokevirtual 46, 3) := by decide +kernel
theorem dX4_turn_24 : decode cX4_turn 24 = .ok (.ireturn, 1) := by decide +kernel
theorem dX4_turn_25 : decode cX4_turn 25 = .ok (.aload_n 0, 1) := by decide +kernel
theorem dX4_turn_26 : decode cX4_turn 26 = .ok (.getfield 12, 3) := by decide +kernel
theorem dX4_turn_29 : decode cX4_turn 29 = .ok (.getfield 95, 3) := by decide +kernel
theorem dX4_turn_32 : decode cX4_turn 32 = .ok (.iload_n 1, 1) := by decide +kernel
theorem dX4_turn_33 : decode cX4_turn 33 = .ok (.iaload, 1) := by decide +kernel
theorem dX4_turn_34 : decode cX4_turn 34 = .ok (.istore_n 3, 1) := by decide +kernel
theorem dX4_turn_35 : decode cX4_turn 35 = .ok (.aload_n 0, 1) := by decide +kernel
theorem dX4_turn_36 : decode cX4_turn 36 = .ok (.getfield 12, 3) := by decide +kernel
theorem dX4_turn_39 : decode cX4_turn 39 = .ok (.getfield 95, 3) := by decide +kernel
theorem dX4_turn_42 : decode cX4_turn 42 = .ok (.iload_n 1, 1) := by decide +kernel
theorem dX4_turn_43 : decode cX4_turn 43 = .ok (.iload_n 2, 1) := by decide +kernel
theorem dX4_turn_44 : decode cX4_turn 44 = .ok (.iastore, 1) := by decide +kernel
theorem dX4_turn_45 : decode cX4_turn 45 = .ok (.iload_n 3, 1) := by decide +kernel
theorem dX4_turn_46 : decode cX4_turn 46 = .ok (.ireturn, 1) := by decide +kernel
theorem dX4_as_0 : decode cX4_as 0 = .ok (.aload_n 0, 1) := by decide +kernel
theorem dX4_as_1 : decode cX4_as 1 = .ok (.getfield 12, 3) := by decide +kernel
theorem dX4_as_4 : decode cX4_as 4 = .ok (.iload_n 1, 1) := by decide +kernel
theorem dX4_as_5 : decode cX4_as 5 = .ok (.invokevirtual 54, 3) := by decide +kernel
theorem dX4_as_8 : decode cX4_as 8 = .ok (.ifCond .eq 10, 3) := by decide +kernel
theorem dX4_as_11 : decode cX4_as 11 = .ok (.iload_n 2, 1) := by decide +kernel
theorem dX4_as_12 : decode cX4_as 12 = .ok (.invokestatic 80, 3) := by decide +kernel
theorem dX4_as_15 : decode cX4_as 15 = .ok (.ifCond .ne 10, 3) := by decide +kernel
theorem dX4_as_18 : decode cX4_as 18 = .ok (.aload_n 0, 1) := by decide +kernel
theorem dX4_as_19 : decode cX4_as 19 = .ok (.ldc 45, 2) := by decide +kernel
theorem dX4_as_21 : decode cX4_as 21 = .ok (.invokevirtual 46, 3) := by decide +kernel
theorem dX4_as_24 : decode cX4_as 24 = .ok (.ireturn, 1) := by decide +kernel
theorem dX4_as_25 : decode cX4_as 25 = .ok (.aload_n 0, 1) := by decide +kernel
theorem dX4_as_26 : decode cX4_as 26 = .ok (.getfield 12, 3) := by decide +kernel
theorem dX4_as_29 : decode cX4_as 29 = .ok (.getfield 95, 3) := by decide +kernel
theorem dX4_as_32 : decode cX4_as 32 = .ok (.iload_n 1, 1) := by decide +kernel
theorem dX4_as_33 : decode cX4_as 33 = .ok (.iaload, 1) := by decide +kernel
theorem dX4_as_34 : decode cX4_as 34 = .ok (.iload_n 2, 1) := by decide +kernel
theorem dX4_as_35 : decode cX4_as 35 = .ok (.invokestatic 131, 3) := by decide +kernel
theorem dX4_as_38 : decode cX4_as 38 = .ok (.ifCond .ne 10, 3) := by decide +kernel
theorem dX4_as_41 : decode cX4_as 41 = .ok (.aload_n 0, 1) := by decide +kernel
theorem dX4_as_42 : decode cX4_as 42 = .ok (.ldc 134, 2) := by decide +kernel
theorem dX4_as_44 : decode cX4_as 44 = .ok (.invokevirtual 46, 3) := by decide +kernel
theorem dX4_as_47 : decode cX4_as 47 = .ok (.ireturn, 1) := by decide +kernel
theorem dX4_as_48 : decode cX4_as 48 = .ok (.aload_n 0, 1) := by decide +kernel
theorem dX4_as_49 : decode cX4_as 49 = .ok (.getfield 12, 3) := by decide +kernel
theorem dX4_as_52 : decode cX4_as 52 = .ok (.getfield 107, 3) := by decide +kernel
theorem dX4_as_55 : decode cX4_as 55 = .ok (.iload_n 1, 1) := by decide +kernel
theorem dX4_as_56 : decode cX4_as 56 = .ok (.iaload, 1) := by decide +kernel
theorem dX4_as_57 : decode cX4_as 57 = .ok (.ireturn, 1) := by decide +kernel
theorem dX4_steps_0 : decode cX4_steps 0 = .ok (.iload_n 1, 1) := by decide +kernel
theorem dX4_steps_1 : decode cX4_steps 1 = .ok (.iconst 1, 1) := by decide +kernel
theorem dX4_steps_2 : decode cX4_steps 2 = .ok (.sipush 200, 3) := by decide +kernel
theorem dX4_steps_5 : decode cX4_steps 5 = .ok (.invokestatic 41, 3) := by decide +kernel
theorem dX4_steps_8 : decode cX4_steps 8 = .ok (.ifCond .ne 10, 3) := by decide +kernel
theorem dX4_steps_11 : decode cX4_steps 11 = .ok (.aload_n 0, 1) := by decide +kernel
theorem dX4_steps_12 : decode cX4_steps 12 = .ok (.ldc 45, 2) := by decide +kernel
theorem dX4_steps_14 : decode cX4_steps 14 = .ok (.invokevirtual 46, 3) := by decide +kernel
theorem dX4_steps_17 : decode cX4_steps 17 = .ok (.ireturn, 1) := by decide +kernel
theorem dX4_steps_18 : decode cX4_steps 18 = .ok (.aload_n 0, 1) := by decide +kernel
theorem dX4_steps_19 : decode cX4_steps 19 = .ok (.getfield 12, 3) := by decide +kernel
theorem dX4_steps_22 : decode cX4_steps 22 = .ok (.getfield 64, 3) := by decide +kernel
theorem dX4_steps_25 : decode cX4_steps 25 = .ok (.ldc 135, 2) := by decide +kernel
theorem dX4_steps_27 : decode cX4_steps 27 = .ok (.iload_n 1, 1) := by decide +kernel
theorem dX4_steps_28 : decode cX4_steps 28 = .ok (.isub, 1) := by decide +kernel
theorem dX4_steps_29 : decode cX4_steps 29 = .ok (.if_icmp .le 10, 3) := by decide +kernel
theorem dX4_steps_32 : decode cX4_steps 32 = .ok (.aload_n 0, 1) := by decide +kernel
theorem dX4_steps_33 : decode cX4_steps 33 = .ok (.ldc 136, 2) := by decide +kernel
theorem dX4_steps_35 : decode cX4_steps 35 = .ok (.invokevirtual 46, 3) := by decide +kernel
theorem dX4_steps_38 : decode cX4_steps 38 = .ok (.ireturn, 1) := by decide +kernel
theorem dX4_steps_39 : decode cX4_steps 39 = .ok (.aload_n 0, 1) := by decide +kernel
theorem dX4_steps_40 : decode cX4_steps 40 = .ok (.getfield 12, 3) := by decide +kernel
theorem dX4_steps_43 : decode cX4_steps 43 = .ok (.iload_n 1, 1) := by decide +kernel
theorem dX4_steps_44 : decode cX4_steps 44 = .ok (.invokevirtual 137, 3) := by decide +kernel
theorem dX4_steps_47 : decode cX4_steps 47 = .ok (.aload_n 0, 1) := by decide +kernel
theorem dX4_steps_48 : decode cX4_steps 48 = .ok (.getfield 12, 3) := by decide +kernel
theorem dX4_steps_51 : decode cX4_steps 51 = .ok (.invokevirtual 77, 3) := by decide +kernel
theorem dX4_steps_54 : decode cX4_steps 54 = .ok (.ireturn, 1) := by decide +kernel
theorem dX4_on_0 : decode cX4_on 0 = .ok (.aload_n 0, 1) := by decide +kernel
theorem dX4_on_1 : decode cX4_on 1 = .ok (.getfield 12, 3) := by decide +kernel
theorem dX4_on_4 : decode cX4_on 4 = .ok (.iload_n 1, 1) := by decide +kernel
theorem dX4_on_5 : decode cX4_on 5 = .ok (.invokevirtual 54, 3) := by decide +kernel
theorem dX4_on_8 : decode cX4_on 8 = .ok (.ifCond .eq 23, 3) := by decide +kernel
theorem dX4_on_11 : decode cX4_on 11 = .ok (.iload_n 2, 1) := by decide +kernel
theorem dX4_on_12 : decode cX4_on 12 = .ok (.iconst 0, 1) := by decide +kernel
theorem dX4_on_13 : decode cX4_on 13 = .ok (.sipush 300, 3) := by decide +kernel
theorem dX4_on_16 : decode cX4_on 16 = .ok (.invokestatic 41, 3) := by decide +kernel
theorem dX4_on_19 : decode cX4_on 19 = .ok (.ifCond .eq 12, 3) := by decide +kernel
theorem dX4_on_22 : decode cX4_on 22 = .ok (.iload_n 3, 1) := by decide +kernel
theorem dX4_on_23 : decode cX4_on 23 = .ok (.iconst 0, 1) := by decide +kernel
theorem dX4_on_24 : decode cX4_on 24 = .ok (.iconst 2, 1) := by decide +kernel
theorem dX4_on_25 : decode cX4_on 25 = .ok (.invokestatic 41, 3) := by decide +kernel
theorem dX4_on_28 : decode cX4_on 28 = .ok (.ifCond .ne 10, 3) := by decide +kernel
theorem dX4_on_31 : decode cX4_on 31 = .ok (.aload_n 0, 1) := by decide +kernel
theorem dX4_on_32 : decode cX4_on 32 = .ok (.ldc 45, 2) := by decide +kernel
theorem dX4_on_34 : decode cX4_on 34 = .ok (.invokevirtual 46, 3) := by decide +kernel
theorem dX4_on_37 : decode cX4_on 37 = .ok (.ireturn, 1) := by decide +kernel
theorem dX4_on_38 : decode cX4_on 38 = .ok (.aload_n 0, 1) := by decide +kernel
theorem dX4_on_39 : decode cX4_on 39 = .ok (.invokevirtual 140, 3) := by decide +kernel
theorem dX4_on_42 : decode cX4_on 42 = .ok (.aload_n 0, 1) := by decide +kernel
theorem dX4_on_43 : decode cX4_on 43 = .ok (.getfield 16, 3) := by decide +kernel
theorem dX4_on_46 : decode cX4_on 46 = .ok (.iload_n 2, 1) := by decide +kernel
theorem dX4_on_47 : decode cX4_on 47 = .ok (.invokevirtual 137, 3) := by decide +kernel
theorem dX4_on_50 : decode cX4_on 50 = .ok (.iload_n 3, 1) := by decide +kernel
theorem dX4_on_51 : decode cX4_on 51 = .ok (.lookupswitch 45 #[(0, 25), (1, 35)], 25) := by decide +kernel
theorem dX4_on_76 : decode cX4_on 76 = .ok (.aload_n 0, 1) := by decide +kernel
theorem dX4_on_77 : decode cX4_on 77 = .ok (.getfield 16, 3) := by decide +kernel
theorem dX4_on_80 : decode cX4_on 80 = .ok (.getfield 101, 3) := by decide +kernel
theorem dX4_on_83 : decode cX4_on 83 = .ok (.iload_n 1, 1) := by decide +kernel
theorem dX4_on_84 : decode cX4_on 84 = .ok (.iaload, 1) := by decide +kernel
theorem dX4_on_85 : decode cX4_on 85 = .ok (.ireturn, 1) := by decide +kernel
theorem dX4_on_86 : decode cX4_on 86 = .ok (.aload_n 0, 1) := by decide +kernel
theorem dX4_on_87 : decode cX4_on 87 = .ok (.getfield 16, 3) := by decide +kernel
theorem dX4_on_90 : decode cX4_on 90 = .ok (.getfield 104, 3) := by decide +kernel
theorem dX4_on_93 : decode cX4_on 93 = .ok (.iload_n 1, 1) := by decide +kernel
theorem dX4_on_94 : decode cX4_on 94 = .ok (.iaload, 1) := by decide +kernel
theorem dX4_on_95 : decode cX4_on 95 = .ok (.ireturn, 1) := by decide +kernel
theorem dX4_on_96 : decode cX4_on 96 = .ok (.aload_n 0, 1) := by decide +kernel
theorem dX4_on_97 : decode cX4_on 97 = .ok (.getfield 16, 3) := by decide +kernel
theorem dX4_on_100 : decode cX4_on 100 = .ok (.getfield 107, 3) := by decide +kernel
theorem dX4_on_103 : decode cX4_on 103 = .ok (.iload_n 1, 1) := by decide +kernel
theorem dX4_on_104 : decode cX4_on 104 = .ok (.iaload, 1) := by decide +kernel
theorem dX4_on_105 : decode cX4_on 105 = .ok (.ireturn, 1) := by decide +kernel
theorem dX4_falls_0 : decode cX4_falls 0 = .ok (.iload_n 1, 1) := by decide +kernel
theorem dX4_falls_1 : decode cX4_falls 1 = .ok (.iconst 0, 1) := by decide +kernel
theorem dX4_falls_2 : decode cX4_falls 2 = .ok (.sipush 300, 3) := by decide +kernel
theorem dX4_falls_5 : decode cX4_falls 5 = .ok (.invokestatic 41, 3) := by decide +kernel
theorem dX4_falls_8 : decode cX4_falls 8 = .ok (.ifCond .ne 10, 3) := by decide +kernel
theorem dX4_falls_11 : decode cX4_falls 11 = .ok (.aload_n 0, 1) := by decide +kernel
theorem dX4_falls_12 : decode cX4_falls 12 = .ok (.ldc 45, 2) := by decide +kernel
theorem dX4_falls_14 : decode cX4_falls 14 = .ok (.invokevirtual 46, 3) := by decide +kernel
theorem dX4_falls_17 : decode cX4_falls 17 = .ok (.ireturn, 1) := by decide +kernel
theorem dX4_falls_18 : decode cX4_falls 18 = .ok (.aload_n 0, 1) := by decide +kernel
theorem dX4_falls_19 : decode cX4_falls 19 = .ok (.invokevirtual 140, 3) := by decide +kernel
theorem dX4_falls_22 : decode cX4_falls 22 = .ok (.aload_n 0, 1) := by decide +kernel
theorem dX4_falls_23 : decode cX4_falls 23 = .ok (.iload_n 1, 1) := by decide +kernel
theorem dX4_falls_24 : decode cX4_falls 24 = .ok (.invokevirtual 143, 3) := by decide +kernel
theorem dX4_falls_27 : decode cX4_falls 27 = .ok (.ireturn, 1) := by decide +kernel
theorem dX4_trips_0 : decode cX4_trips 0 = .ok (.aload_n 0, 1) := by decide +kernel
theorem dX4_trips_1 : decode cX4_trips 1 = .ok (.getfield 12, 3) := by decide +kernel
theorem dX4_trips_4 : decode cX4_trips 4 = .ok (.iload_n 1, 1) := by decide +kernel
theorem dX4_trips_5 : decode cX4_trips 5 = .ok (.invokevirtual 54, 3) := by decide +kernel
theorem dX4_trips_8 : decode cX4_trips 8 = .ok (.ifCond .ne 10, 3) := by decide +kernel
theorem dX4_trips_11 : decode cX4_trips 11 = .ok (.aload_n 0, 1) := by decide +kernel
theorem dX4_trips_12 : decode cX4_trips 12 = .ok (.ldc 45, 2) := by decide +kernel
theorem dX4_trips_14 : decode cX4_trips 14 = .ok (.invokevirtual 46, 3) := by decide +kernel
theorem dX4_trips_17 : decode cX4_trips 17 = .ok (.ireturn, 1) := by decide +kernel
theorem dX4_trips_18 : decode cX4_trips 18 = .ok (.aload_n 0, 1) := by decide +kernel
theorem dX4_trips_19 : decode cX4_trips 19 = .ok (.invokevirtual 140, 3) := by decide +kernel
theorem dX4_trips_22 : decode cX4_trips 22 = .ok (.iconst 1, 1) := by decide +kernel
theorem dX4_trips_23 : decode cX4_trips 23 = .ok (.istore_n 2, 1) := by decide +kernel
theorem dX4_trips_24 : decode cX4_trips 24 = .ok (.iload_n 2, 1) := by decide +kernel
theorem dX4_trips_25 : decode cX4_trips 25 = .ok (.sipush 300, 3) := by decide +kernel
theorem dX4_trips_28 : decode cX4_trips 28 = .ok (.if_icmp .gt 32, 3) := by decide +kernel
theorem dX4_trips_31 : decode cX4_trips 31 = .ok (.aload_n 0, 1) := by decide +kernel
theorem dX4_trips_32 : decode cX4_trips 32 = .ok (.getfield 16, 3) := by decide +kernel
theorem dX4_trips_35 : decode cX4_trips 35 = .ok (.invokevirtual 146, 3) := by decide +kernel
theorem dX4_trips_38 : decode cX4_trips 38 = .ok (.aload_n 0, 1) := by decide +kernel
theorem dX4_trips_39 : decode cX4_trips 39 = .ok (.getfield 16, 3) := by decide +kernel
theorem dX4_trips_42 : decode cX4_trips 42 = .ok (.getfield 149, 3) := by decide +kernel
theorem dX4_trips_45 : decode cX4_trips 45 = .ok (.iload_n 1, 1) := by decide +kernel
theorem dX4_trips_46 : decode cX4_trips 46 = .ok (.invokestatic 116, 3) := by decide +kernel
theorem dX4_trips_49 : decode cX4_trips 49 = .ok (.ifCond .eq 5, 3) := by decide +kernel
theorem dX4_trips_52 : decode cX4_trips 52 = .ok (.iload_n 2, 1) := by decide +kernel
theorem dX4_trips_53 : decode cX4_trips 53 = .ok (.ireturn, 1) := by decide +kernel
theorem dX4_trips_54 : decode cX4_trips 54 = .ok (.iinc 2 1, 3) := by decide +kernel
theorem dX4_trips_57 : decode cX4_trips 57 = .ok (.goto (-33), 3) := by decide +kernel
theorem dX4_trips_60 : decode cX4_trips 60 = .ok (.aload_n 0, 1) := by decide +kernel
theorem dX4_trips_61 : decode cX4_trips 61 = .ok (.ldc 152, 2) := by decide +kernel
theorem dX4_trips_63 : decode cX4_trips 63 = .ok (.invokevirtual 46, 3) := by decide +kernel
theorem dX4_trips_66 : decode cX4_trips 66 = .ok (.ireturn, 1) := by decide +kernel
theorem dX4_hears_0 : decode cX4_hears 0 = .ok (.aload_n 0, 1) := by decide +kernel
theorem dX4_hears_1 : decode cX4_hears 1 = .ok (.getfield 12, 3) := by decide +kernel
theorem dX4_hears_4 : decode cX4_hears 4 = .ok (.iload_n 1, 1) := by decide +kernel
theorem dX4_hears_5 : decode cX4_hears 5 = .ok (.invokevirtual 54, 3) := by decide +kernel
theorem dX4_hears_8 : decode cX4_hears 8 = .ok (.ifCond .ne 10, 3) := by decide +kernel
theorem dX4_hears_11 : decode cX4_hears 11 = .ok (.aload_n 0, 1) := by decide +kernel
theorem dX4_hears_12 : decode cX4_hears 12 = .ok (.ldc 45, 2) := by decide +kernel
theorem dX4_hears_14 : decode cX4_hears 14 = .ok (.invokevirtual 46, 3) := by decide +kernel
theorem dX4_hears_17 : decode cX4_hears 17 = .ok (.ireturn, 1) := by decide +kernel
theorem dX4_hears_18 : decode cX4_hears 18 = .ok (.aload_n 0, 1) := by decide +kernel
theorem dX4_hears_19 : decode cX4_hears 19 = .ok (.invokevirtual 140, 3) := by decide +kernel
theorem dX4_hears_22 : decode cX4_hears 22 = .ok (.iconst 0, 1) := by decide +kernel
theorem dX4_hears_23 : decode cX4_hears 23 = .ok (.istore_n 2, 1) := by decide +kernel
theorem dX4_hears_24 : decode cX4_hears 24 = .ok (.iload_n 2, 1) := by decide +kernel
theorem dX4_hears_25 : decode cX4_hears 25 = .ok (.sipush 300, 3) := by decide +kernel
theorem dX4_hears_28 : decode cX4_hears 28 = .ok (.if_icmp .gt 31, 3) := by decide +kernel
theorem dX4_hears_31 : decode cX4_hears 31 = .ok (.aload_n 0, 1) := by decide +kernel
theorem dX4_hears_32 : decode cX4_hears 32 = .ok (.getfield 16, 3) := by decide +kernel
theorem dX4_hears_35 : decode cX4_hears 35 = .ok (.getfield 101, 3) := by decide +kernel
theorem dX4_hears_38 : decode cX4_hears 38 = .ok (.iload_n 1, 1) := by decide +kernel
theorem dX4_hears_39 : decode cX4_hears 39 = .ok (.iaload, 1) := by decide +kernel
theorem dX4_hears_40 : decode cX4_hears 40 = .ok (.iconst 1, 1) := by decide +kernel
theorem dX4_hears_41 : decode cX4_hears 41 = .ok (.if_icmp .ne 5, 3) := by decide +kernel
theorem dX4_hears_44 : decode cX4_hears 44 = .ok (.iload_n 2, 1) := by decide +kernel
theorem dX4_hears_45 : decode cX4_hears 45 = .ok (.ireturn, 1) := by decide +kernel
theorem dX4_hears_46 : decode cX4_hears 46 = .ok (.aload_n 0, 1) := by decide +kernel
theorem dX4_hears_47 : decode cX4_hears 47 = .ok (.getfield 16, 3) := by decide +kernel
theorem dX4_hears_50 : decode cX4_hears 50 = .ok (.invokevirtual 146, 3) := by decide +kernel
theorem dX4_hears_53 : decode cX4_hears 53 = .ok (.iinc 2 1, 3) := by decide +kernel
theorem dX4_hears_56 : decode cX4_hears 56 = .ok (.goto (-32), 3) := by decide +kernel
theorem dX4_hears_59 : decode cX4_hears 59 = .ok (.aload_n 0, 1) := by decide +kernel
theorem dX4_hears_60 : decode cX4_hears 60 = .ok (.ldc 152, 2) := by decide +kernel
theorem dX4_hears_62 : decode cX4_hears 62 = .ok (.invokevirtual 46, 3) := by decide +kernel
theorem dX4_hears_65 : decode cX4_hears 65 = .ok (.ireturn, 1) := by decide +kernel
theorem dX4_carry_0 : decode cX4_carry 0 = .ok (.iload_n 1, 1) := by decide +kernel
theorem dX4_carry_1 : decode cX4_carry 1 = .ok (.iconst 1, 1) := by decide +kernel
theorem dX4_carry_2 : decode cX4_carry 2 = .ok (.bipush 100, 2) := by decide +kernel
theorem dX4_carry_4 : decode cX4_carry 4 = .ok (.invokestatic 41, 3) := by decide +kernel
theorem dX4_carry_7 : decode cX4_carry 7 = .ok (.ifCond .ne 10, 3) := by decide +kernel
theorem dX4_carry_10 : decode cX4_carry 10 = .ok (.aload_n 0, 1) := by decide +kernel
theorem dX4_carry_11 : decode cX4_carry 11 = .ok (.ldc 45, 2) := by decide +kernel
theorem dX4_carry_13 : decode cX4_carry 13 = .ok (.invokevirtual 46, 3) := by decide +kernel
theorem dX4_carry_16 : decode cX4_carry 16 = .ok (.ireturn, 1) := by decide +kernel
theorem dX4_carry_17 : decode cX4_carry 17 = .ok (.aload_n 0, 1) := by decide +kernel
theorem dX4_carry_18 : decode cX4_carry 18 = .ok (.getfield 12, 3) := by decide +kernel
theorem dX4_carry_21 : decode cX4_carry 21 = .ok (.getfield 92, 3) := by decide +kernel
theorem dX4_carry_24 : decode cX4_carry 24 = .ok (.ifCond .ne 10, 3) := by decide +kernel
theorem dX4_carry_27 : decode cX4_carry 27 = .ok (.aload_n 0, 1) := by decide +kernel
theorem dX4_carry_28 : decode cX4_carry 28 = .ok (.ldc 152, 2) := by decide +kernel
theorem dX4_carry_30 : decode cX4_carry 30 = .ok (.invokevirtual 46, 3) := by decide +kernel
theorem dX4_carry_33 : decode cX4_carry 33 = .ok (.ireturn, 1) := by decide +kernel
theorem dX4_carry_34 : decode cX4_carry 34 = .ok (.iconst 0, 1) := by decide +kernel
theorem dX4_carry_35 : decode cX4_carry 35 = .ok (.istore_n 2, 1) := by decide +kernel
theorem dX4_carry_36 : decode cX4_carry 36 = .ok (.ldc 153, 2) := by decide +kernel
theorem dX4_carry_38 : decode cX4_carry 38 = .ok (.istore_n 3, 1) := by decide +kernel
theorem dX4_carry_39 : decode cX4_carry 39 = .ok (.iconst 0, 1) := by decide +kernel
theorem dX4_carry_40 : decode cX4_carry 40 = .ok (.istore 4, 2) := by decide +kernel
theorem dX4_carry_42 : decode cX4_carry 42 = .ok (.iload 4, 2) := by decide +kernel
theorem dX4_carry_44 : decode cX4_carry 44 = .ok (.aload_n 0, 1) := by decide +kernel
theorem dX4_carry_45 : decode cX4_carry 45 = .ok (.getfield 12, 3) := by decide +kernel
theorem dX4_carry_48 : decode cX4_carry 48 = .ok (.getfield 92, 3) := by decide +kernel
theorem dX4_carry_51 : decode cX4_carry 51 = .ok (.if_icmp .ge 41, 3) := by decide +kernel
theorem dX4_carry_54 : decode cX4_carry 54 = .ok (.aload_n 0, 1) := by decide +kernel
theorem dX4_carry_55 : decode cX4_carry 55 = .ok (.invokevirtual 140, 3) := by decide +kernel
theorem dX4_carry_58 : decode cX4_carry 58 = .ok (.aload_n 0, 1) := by decide +kernel
theorem dX4_carry_59 : decode cX4_carry 59 = .ok (.getfield 16, 3) := by decide +kernel
theorem dX4_carry_62 : decode cX4_carry 62 = .ok (.iload 4, 2) := by decide +kernel
theorem dX4_carry_64 : decode cX4_carry 64 = .ok (.putfield 58, 3) := by decide +kernel
theorem dX4_carry_67 : decode cX4_carry 67 = .ok (.aload_n 0, 1) := by decide +kernel
theorem dX4_carry_68 : decode cX4_carry 68 = .ok (.iload_n 1, 1) := by decide +kernel
theorem dX4_carry_69 : decode cX4_carry 69 = .ok (.invokevirtual 143, 3) := by decide +kernel
theorem dX4_carry_72 : decode cX4_carry 72 = .ok (.istore 5, 2) := by decide +kernel
theorem dX4_carry_74 : decode cX4_carry 74 = .ok (.iload 5, 2) := by decide +kernel
theorem dX4_carry_76 : decode cX4_carry 76 = .ok (.iload_n 3, 1) := by decide +kernel
theorem dX4_carry_77 : decode cX4_carry 77 = .ok (.if_icmp .ge 9, 3) := by decide +kernel
theorem dX4_carry_80 : decode cX4_carry 80 = .ok (.iload 5, 2) := by decide +kernel
theorem dX4_carry_82 : decode cX4_carry 82 = .ok (.istore_n 3, 1) := by decide +kernel
theorem dX4_carry_83 : decode cX4_carry 83 = .ok (.iload 4, 2) := by decide +kernel
theorem dX4_carry_85 : decode cX4_carry 85 = .ok (.istore_n 2, 1) := by decide +kernel
theorem dX4_carry_86 : decode cX4_carry 86 = .ok (.iinc 4 1, 3) := by decide +kernel
theorem dX4_carry_89 : decode cX4_carry 89 = .ok (.goto (-47), 3) := by decide +kernel
theorem dX4_carry_92 : decode cX4_carry 92 = .ok (.iload_n 2, 1) := by decide +kernel
theorem dX4_carry_93 : decode cX4_carry 93 = .ok (.ireturn, 1) := by decide +kernel
theorem dX4_order_0 : decode cX4_order 0 = .ok (.iload_n 1, 1) := by decide +kernel
theorem dX4_order_1 : decode cX4_order 1 = .ok (.iconst 1, 1) := by decide +kernel
theorem dX4_order_2 : decode cX4_order 2 = .ok (.bipush 100, 2) := by decide +kernel
theorem dX4_order_4 : decode cX4_order 4 = .ok (.invokestatic 41, 3) := by decide +kernel
theorem dX4_order_7 : decode cX4_order 7 = .ok (.ifCond .ne 10, 3) := by decide +kernel
theorem dX4_order_10 : decode cX4_order 10 = .ok (.aload_n 0, 1) := by decide +kernel
theorem dX4_order_11 : decode cX4_order 11 = .ok (.ldc 45, 2) := by decide +kernel
theorem dX4_order_13 : decode cX4_order 13 = .ok (.invokevirtual 46, 3) := by decide +kernel
theorem dX4_order_16 : decode cX4_order 16 = .ok (.ireturn, 1) := by decide +kernel
theorem dX4_order_17 : decode cX4_order 17 = .ok (.aload_n 0, 1) := by decide +kernel
theorem dX4_order_18 : decode cX4_order 18 = .ok (.invokevirtual 140, 3) := by decide +kernel
theorem dX4_order_21 : decode cX4_order 21 = .ok (.aload_n 0, 1) := by decide +kernel
theorem dX4_order_22 : decode cX4_order 22 = .ok (.iload_n 1, 1) := by decide +kernel
theorem dX4_order_23 : decode cX4_order 23 = .ok (.invokevirtual 143, 3) := by decide +kernel
theorem dX4_order_26 : decode cX4_order 26 = .ok (.istore_n 2, 1) := by decide +kernel
theorem dX4_order_27 : decode cX4_order 27 = .ok (.iconst (-1), 1) := by decide +kernel
theorem dX4_order_28 : decode cX4_order 28 = .ok (.istore_n 3, 1) := by decide +kernel
theorem dX4_order_29 : decode cX4_order 29 = .ok (.iconst 0, 1) := by decide +kernel
theorem dX4_order_30 : decode cX4_order 30 = .ok (.istore 4, 2) := by decide +kernel
theorem dX4_order_32 : decode cX4_order 32 = .ok (.iload 4, 2) := by decide +kernel
theorem dX4_order_34 : decode cX4_order 34 = .ok (.aload_n 0, 1) := by decide +kernel
theorem dX4_order_35 : decode cX4_order 35 = .ok (.getfield 12, 3) := by decide +kernel
theorem dX4_order_38 : decode cX4_order 38 = .ok (.getfield 92, 3) := by decide +kernel
theorem dX4_order_41 : decode cX4_order 41 = .ok (.if_icmp .ge 73, 3) := by decide +kernel
theorem dX4_order_44 : decode cX4_order 44 = .ok (.iload 4, 2) := by decide +kernel
theorem dX4_order_46 : decode cX4_order 46 = .ok (.iconst 1, 1) := by decide +kernel
theorem dX4_order_47 : decode cX4_order 47 = .ok (.iadd, 1) := by decide +kernel
theorem dX4_order_48 : decode cX4_order 48 = .ok (.istore 5, 2) := by decide +kernel
theorem dX4_order_50 : decode cX4_order 50 = .ok (.iload 5, 2) := by decide +kernel
theorem dX4_order_52 : decode cX4_order 52 = .ok (.aload_n 0, 1) := by decide +kernel
theorem dX4_order_53 : decode cX4_order 53 = .ok (.getfield 12, 3) := by decide +kernel
theorem dX4_order_56 : decode cX4_order 56 = .ok (.getfield 92, 3) := by decide +kernel
theorem dX4_order_59 : decode cX4_order 59 = .ok (.if_icmp .ge 49, 3) := by decide +kernel
theorem dX4_order_62 : decode cX4_order 62 = .ok (.aload_n 0, 1) := by decide +kernel
theorem dX4_order_63 : decode cX4_order 63 = .ok (.invokevirtual 140, 3) := by decide +kernel
theorem dX4_order_66 : decode cX4_order 66 = .ok (.aload_n 0, 1) := by decide +kernel
theorem dX4_order_67 : decode cX4_order 67 = .ok (.getfield 16, 3) := by decide +kernel
theorem dX4_order_70 : decode cX4_order 70 = .ok (.iload 4, 2) := by decide +kernel
theorem dX4_order_72 : decode cX4_order 72 = .ok (.iload 5, 2) := by decide +kernel
theorem dX4_order_74 : decode cX4_order 74 = .ok (.invokevirtual 127, 3) := by decide +kernel
theorem dX4_order_77 : decode cX4_order 77 = .ok (.aload_n 0, 1) := by decide +kernel
theorem dX4_order_78 : decode cX4_order 78 = .ok (.iload_n 1, 1) := by decide +kernel
theorem dX4_order_79 : decode cX4_order 79 = .ok (.invokevirtual 143, 3) := by decide +kernel
theorem dX4_order_82 : decode cX4_order 82 = .ok (.istore 6, 2) := by decide +kernel
theorem dX4_order_84 : decode cX4_order 84 = .ok (.iload 6, 2) := by decide +kernel
theorem dX4_order_86 : decode cX4_order 86 = .ok (.iload_n 2, 1) := by decide +kernel
theorem dX4_order_87 : decode cX4_order 87 = .ok (.if_icmp .ge 15, 3) := by decide +kernel
theorem dX4_order_90 : decode cX4_order 90 = .ok (.iload 6, 2) := by decide +kernel
theorem dX4_order_92 : decode cX4_order 92 = .ok (.istore_n 2, 1) := by decide +kernel
theorem dX4_order_93 : decode cX4_order 93 = .ok (.bipush 10, 2) := by decide +kernel
theorem dX4_order_95 : decode cX4_order 95 = .ok (.iload 4, 2) := by decide +kernel
theorem dX4_order_97 : decode cX4_order 97 = .ok (.imul, 1) := by decide +kernel
theorem dX4_order_98 : decode cX4_order 98 = .ok (.iload 5, 2) := by decide +kernel
theorem dX4_order_100 : decode cX4_order 100 = .ok (.iadd, 1) := by decide +kernel
theorem dX4_order_101 : decode cX4_order 101 = .ok (.istore_n 3, 1) := by decide +kernel
theorem dX4_order_102 : decode cX4_order 102 = .ok (.iinc 5 1, 3) := by decide +kernel
theorem dX4_order_105 : decode cX4_order 105 = .ok (.goto (-55), 3) := by decide +kernel
theorem dX4_order_108 : decode cX4_order 108 = .ok (.iinc 4 1, 3) := by decide +kernel
theorem dX4_order_111 : decode cX4_order 111 = .ok (.goto (-79), 3) := by decide +kernel
theorem dX4_order_114 : decode cX4_order 114 = .ok (.iload_n 3, 1) := by decide +kernel
theorem dX4_order_115 : decode cX4_order 115 = .ok (.ifCond .ge 12, 3) := by decide +kernel
theorem dX4_order_118 : decode cX4_order 118 = .ok (.aload_n 0, 1) := by decide +kernel
theorem dX4_order_119 : decode cX4_order 119 = .ok (.ldc 152, 2) := by decide +kernel
theorem dX4_order_121 : decode cX4_order 121 = .ok (.invokevirtual 46, 3) := by decide +kernel
theorem dX4_order_124 : decode cX4_order 124 = .ok (.goto 4, 3) := by decide +kernel
theorem dX4_order_127 : decode cX4_order 127 = .ok (.iload_n 3, 1) := by decide +kernel
theorem dX4_order_128 : decode cX4_order 128 = .ok (.ireturn, 1) := by decide +kernel
theorem dX4_kind_0 : decode cX4_kind 0 = .ok (.aload_n 0, 1) := by decide +kernel
theorem dX4_kind_1 : decode cX4_kind 1 = .ok (.getfield 12, 3) := by decide +kernel
theorem dX4_kind_4 : decode cX4_kind 4 = .ok (.iload_n 1, 1) := by decide +kernel
theorem dX4_kind_5 : decode cX4_kind 5 = .ok (.invokevirtual 54, 3) := by decide +kernel
theorem dX4_kind_8 : decode cX4_kind 8 = .ok (.ifCond .eq 13, 3) := by decide +kernel
theorem dX4_kind_11 : decode cX4_kind 11 = .ok (.iload_n 2, 1) := by decide +kernel
theorem dX4_kind_12 : decode cX4_kind 12 = .ok (.iconst 1, 1) := by decide +kernel
theorem dX4_kind_13 : decode cX4_kind 13 = .ok (.bipush 100, 2) := by decide +kernel
theorem dX4_kind_15 : decode cX4_kind 15 = .ok (.invokestatic 41, 3) := by decide +kernel
theorem dX4_kind_18 : decode cX4_kind 18 = .ok (.ifCond .ne 10, 3) := by decide +kernel
theorem dX4_kind_21 : decode cX4_kind 21 = .ok (.aload_n 0, 1) := by decide +kernel
theorem dX4_kind_22 : decode cX4_kind 22 = .ok (.ldc 45, 2) := by decide +kernel
theorem dX4_kind_24 : decode cX4_kind 24 = .ok (.invokevirtual 46, 3) := by decide +kernel
theorem dX4_kind_27 : decode cX4_kind 27 = .ok (.ireturn, 1) := by decide +kernel
theorem dX4_kind_28 : decode cX4_kind 28 = .ok (.iconst 0, 1) := by decide +kernel
theorem dX4_kind_29 : decode cX4_kind 29 = .ok (.istore_n 3, 1) := by decide +kernel
theorem dX4_kind_30 : decode cX4_kind 30 = .ok (.ldc 153, 2) := by decide +kernel
theorem dX4_kind_32 : decode cX4_kind 32 = .ok (.istore 4, 2) := by decide +kernel
theorem dX4_kind_34 : decode cX4_kind 34 = .ok (.iconst 0, 1) := by decide +kernel
theorem dX4_kind_35 : decode cX4_kind 35 = .ok (.istore 5, 2) := by decide +kernel
theorem dX4_kind_37 : decode cX4_kind 37 = .ok (.iload 5, 2) := by decide +kernel
theorem dX4_kind_39 : decode cX4_kind 39 = .ok (.bipush 6, 2) := by decide +kernel
theorem dX4_kind_41 : decode cX4_kind 41 = .ok (.if_icmp .ge 60, 3) := by decide +kernel
theorem dX4_kind_44 : decode cX4_kind 44 = .ok (.aload_n 0, 1) := by decide +kernel
theorem dX4_kind_45 : decode cX4_kind 45 = .ok (.invokevirtual 140, 3) := by decide +kernel
theorem dX4_kind_48 : decode cX4_kind 48 = .ok (.aload_n 0, 1) := by decide +kernel
theorem dX4_kind_49 : decode cX4_kind 49 = .ok (.getfield 16, 3) := by decide +kernel
theorem dX4_kind_52 : decode cX4_kind 52 = .ok (.getfield 95, 3) := by decide +kernel
theorem dX4_kind_55 : decode cX4_kind 55 = .ok (.iload_n 1, 1) := by decide +kernel
theorem dX4_kind_56 : decode cX4_kind 56 = .ok (.iload 5, 2) := by decide +kernel
theorem dX4_kind_58 : decode cX4_kind 58 = .ok (.iastore, 1) := by decide +kernel
theorem dX4_kind_59 : decode cX4_kind 59 = .ok (.aload_n 0, 1) := by decide +kernel
theorem dX4_kind_60 : decode cX4_kind 60 = .ok (.getfield 16, 3) := by decide +kernel
theorem dX4_kind_63 : decode cX4_kind 63 = .ok (.iload_n 2, 1) := by decide +kernel
theorem dX4_kind_64 : decode cX4_kind 64 = .ok (.invokevirtual 137, 3) := by decide +kernel
theorem dX4_kind_67 : decode cX4_kind 67 = .ok (.aload_n 0, 1) := by decide +kernel
theorem dX4_kind_68 : decode cX4_kind 68 = .ok (.getfield 16, 3) := by decide +kernel
theorem dX4_kind_71 : decode cX4_kind 71 = .ok (.getfield 104, 3) := by decide +kernel
theorem dX4_kind_74 : decode cX4_kind 74 = .ok (.iload_n 1, 1) := by decide +kernel
theorem dX4_kind_75 : decode cX4_kind 75 = .ok (.iaload, 1) := by decide +kernel
theorem dX4_kind_76 : decode cX4_kind 76 = .ok (.iload 4, 2) := by decide +kernel
theorem dX4_kind_78 : decode cX4_kind 78 = .ok (.if_icmp .ge 17, 3) := by decide +kernel
theorem dX4_kind_81 : decode cX4_kind 81 = .ok (.aload_n 0, 1) := by decide +kernel
theorem dX4_kind_82 : decode cX4_kind 82 = .ok (.getfield 16, 3) := by decide +kernel
theorem dX4_kind_85 : decode cX4_kind 85 = .ok (.getfield 104, 3) := by decide +kernel
theorem dX4_kind_88 : decode cX4_kind 88 = .ok (.iload_n 1, 1) := by decide +kernel
theorem dX4_kind_89 : decode cX4_kind 89 = .ok (.iaload, 1) := by decide +kernel
theorem dX4_kind_90 : decode cX4_kind 90 = .ok (.istore 4, 2) := by decide +kernel
theorem dX4_kind_92 : decode cX4_kind 92 = .ok (.iload 5, 2) := by decide +kernel
theorem dX4_kind_94 : decode cX4_kind 94 = .ok (.istore_n 3, 1) := by decide +kernel
theorem dX4_kind_95 : decode cX4_kind 95 = .ok (.iinc 5 1, 3) := by decide +kernel
theorem dX4_kind_98 : decode cX4_kind 98 = .ok (.goto (-61), 3) := by decide +kernel
theorem dX4_kind_101 : decode cX4_kind 101 = .ok (.iload_n 3, 1) := by decide +kernel
theorem dX4_kind_102 : decode cX4_kind 102 = .ok (.ireturn, 1) := by decide +kernel
theorem dX4_least_0 : decode cX4_least 0 = .ok (.iload_n 1, 1) := by decide +kernel
theorem dX4_least_1 : decode cX4_least 1 = .ok (.iconst 1, 1) := by decide +kernel
theorem dX4_least_2 : decode cX4_least 2 = .ok (.bipush 100, 2) := by decide +kernel
theorem dX4_least_4 : decode cX4_least 4 = .ok (.invokestatic 41, 3) := by decide +kernel
theorem dX4_least_7 : decode cX4_least 7 = .ok (.ifCond .eq 13, 3) := by decide +kernel
theorem dX4_least_10 : decode cX4_least 10 = .ok (.iload_n 2, 1) := by decide +kernel
theorem dX4_least_11 : decode cX4_least 11 = .ok (.iconst 0, 1) := by decide +kernel
theorem dX4_least_12 : decode cX4_least 12 = .ok (.ldc 135, 2) := by decide +kernel
theorem dX4_least_14 : decode cX4_least 14 = .ok (.invokestatic 41, 3) := by decide +kernel
theorem dX4_least_17 : decode cX4_least 17 = .ok (.ifCond .ne 10, 3) := by decide +kernel
theorem dX4_least_20 : decode cX4_least 20 = .ok (.aload_n 0, 1) := by decide +kernel
theorem dX4_least_21 : decode cX4_least 21 = .ok (.ldc 45, 2) := by decide +kernel
theorem dX4_least_23 : decode cX4_least 23 = .ok (.invokevirtual 46, 3) := by decide +kernel
theorem dX4_least_26 : decode cX4_least 26 = .ok (.ireturn, 1) := by decide +kernel
theorem dX4_least_27 : decode cX4_least 27 = .ok (.iconst 0, 1) := by decide +kernel
theorem dX4_least_28 : decode cX4_least 28 = .ok (.istore_n 3, 1) := by decide +kernel
theorem dX4_least_29 : decode cX4_least 29 = .ok (.iload_n 3, 1) := by decide +kernel
theorem dX4_least_30 : decode cX4_least 30 = .ok (.bipush 9, 2) := by decide +kernel
theorem dX4_least_32 : decode cX4_least 32 = .ok (.if_icmp .gt 32, 3) := by decide +kernel
theorem dX4_least_35 : decode cX4_least 35 = .ok (.aload_n 0, 1) := by decide +kernel
theorem dX4_least_36 : decode cX4_least 36 = .ok (.invokevirtual 140, 3) := by decide +kernel
theorem dX4_least_39 : decode cX4_least 39 = .ok (.aload_n 0, 1) := by decide +kernel
theorem dX4_least_40 : decode cX4_least 40 = .ok (.getfield 16, 3) := by decide +kernel
theorem dX4_least_43 : decode cX4_least 43 = .ok (.iload_n 3, 1) := by decide +kernel
theorem dX4_least_44 : decode cX4_least 44 = .ok (.putfield 61, 3) := by decide +kernel
theorem dX4_least_47 : decode cX4_least 47 = .ok (.aload_n 0, 1) := by decide +kernel
theorem dX4_least_48 : decode cX4_least 48 = .ok (.iload_n 1, 1) := by decide +kernel
theorem dX4_least_49 : decode cX4_least 49 = .ok (.invokevirtual 143, 3) := by decide +kernel
theorem dX4_least_52 : decode cX4_least 52 = .ok (.iload_n 2, 1) := by decide +kernel
theorem dX4_least_53 : decode cX4_least 53 = .ok (.if_icmp .gt 5, 3) := by decide +kernel
theorem dX4_least_56 : decode cX4_least 56 = .ok (.iload_n 3, 1) := by decide +kernel
theorem dX4_least_57 : decode cX4_least 57 = .ok (.ireturn, 1) := by decide +kernel
theorem dX4_least_58 : decode cX4_least 58 = .ok (.iinc 3 1, 3) := by decide +kernel
theorem dX4_least_61 : decode cX4_least 61 = .ok (.goto (-32), 3) := by decide +kernel
theorem dX4_least_64 : decode cX4_least 64 = .ok (.aload_n 0, 1) := by decide +kernel
theorem dX4_least_65 : decode cX4_least 65 = .ok (.ldc 152, 2) := by decide +kernel
theorem dX4_least_67 : decode cX4_least 67 = .ok (.invokevirtual 46, 3) := by decide +kernel
theorem dX4_least_70 : decode cX4_least 70 = .ok (.ireturn, 1) := by decide +kernel
theorem dX4_clear_0 : decode cX4_clear 0 = .ok (.iload_n 1, 1) := by decide +kernel
theorem dX4_clear_1 : decode cX4_clear 1 = .ok (.iconst 1, 1) := by decide +kernel
theorem dX4_clear_2 : decode cX4_clear 2 = .ok (.bipush 60, 2) := by decide +kernel
theorem dX4_clear_4 : decode cX4_clear 4 = .ok (.invokestatic 41, 3) := by decide +kernel
theorem dX4_clear_7 : decode cX4_clear 7 = .ok (.ifCond .ne 10, 3) := by decide +kernel
theorem dX4_clear_10 : decode cX4_clear 10 = .ok (.aload_n 0, 1) := by decide +kernel
theorem dX4_clear_11 : decode cX4_clear 11 = .ok (.ldc 45, 2) := by decide +kernel
theorem dX4_clear_13 : decode cX4_clear 13 = .ok (.invokevirtual 46, 3) := by decide +kernel
theorem dX4_clear_16 : decode cX4_clear 16 = .ok (.ireturn, 1) := by decide +kernel
theorem dX4_clear_17 : decode cX4_clear 17 = .ok (.iconst (-1), 1) := by decide +kernel
theorem dX4_clear_18 : decode cX4_clear 18 = .ok (.istore_n 2, 1) := by decide +kernel
theorem dX4_clear_19 : decode cX4_clear 19 = .ok (.ldc 153, 2) := by decide +kernel
theorem dX4_clear_21 : decode cX4_clear 21 = .ok (.istore_n 3, 1) := by decide +kernel
theorem dX4_clear_22 : decode cX4_clear 22 = .ok (.iconst 0, 1) := by decide +kernel
theorem dX4_clear_23 : decode cX4_clear 23 = .ok (.istore 4, 2) := by decide +kernel
theorem dX4_clear_25 : decode cX4_clear 25 = .ok (.iload 4, 2) := by decide +kernel
theorem dX4_clear_27 : decode cX4_clear 27 = .ok (.bipush 30, 2) := by decide +kernel
theorem dX4_clear_29 : decode cX4_clear 29 = .ok (.if_icmp .ge 57, 3) := by decide +kernel
theorem dX4_clear_32 : decode cX4_clear 32 = .ok (.aload_n 0, 1) := by decide +kernel
theorem dX4_clear_33 : decode cX4_clear 33 = .ok (.getfield 12, 3) := by decide +kernel
theorem dX4_clear_36 : decode cX4_clear 36 = .ok (.getfield 50, 3) := by decide +kernel
theorem dX4_clear_39 : decode cX4_clear 39 = .ok (.iload 4, 2) := by decide +kernel
theorem dX4_clear_41 : decode cX4_clear 41 = .ok (.invokestatic 116, 3) := by decide +kernel
theorem dX4_clear_44 : decode cX4_clear 44 = .ok (.ifCond .eq 36, 3) := by decide +kernel
theorem dX4_clear_47 : decode cX4_clear 47 = .ok (.aload_n 0, 1) := by decide +kernel
theorem dX4_clear_48 : decode cX4_clear 48 = .ok (.invokevirtual 140, 3) := by decide +kernel
theorem dX4_clear_51 : decode cX4_clear 51 = .ok (.aload_n 0, 1) := by decide +kernel
theorem dX4_clear_52 : decode cX4_clear 52 = .ok (.getfield 16, 3) := by decide +kernel
theorem dX4_clear_55 : decode cX4_clear 55 = .ok (.iload 4, 2) := by decide +kernel
theorem dX4_clear_57 : decode cX4_clear 57 = .ok (.iconst 0, 1) := by decide +kernel
theorem dX4_clear_58 : decode cX4_clear 58 = .ok (.invokevirtual 154, 3) := by decide +kernel
theorem dX4_clear_61 : decode cX4_clear 61 = .ok (.aload_n 0, 1) := by decide +kernel
theorem dX4_clear_62 : decode cX4_clear 62 = .ok (.iload_n 1, 1) := by decide +kernel
theorem dX4_clear_63 : decode cX4_clear 63 = .ok (.invokevirtual 143, 3) := by decide +kernel
theorem dX4_clear_66 : decode cX4_clear 66 = .ok (.istore 5, 2) := by decide +kernel
theorem dX4_clear_68 : decode cX4_clear 68 = .ok (.iload 5, 2) := by decide +kernel
theorem dX4_clear_70 : decode cX4_clear 70 = .ok (.iload_n 3, 1) := by decide +kernel
theorem dX4_clear_71 : decode cX4_clear 71 = .ok (.if_icmp .ge 9, 3) := by decide +kernel
theorem dX4_clear_74 : decode cX4_clear 74 = .ok (.iload 5, 2) := by decide +kernel
theorem dX4_clear_76 : decode cX4_clear 76 = .ok (.istore_n 3, 1) := by decide +kernel
theorem dX4_clear_77 : decode cX4_clear 77 = .ok (.iload 4, 2) := by decide +kernel
theorem dX4_clear_79 : decode cX4_clear 79 = .ok (.istore_n 2, 1) := by decide +kernel
theorem dX4_clear_80 : decode cX4_clear 80 = .ok (.iinc 4 1, 3) := by decide +kernel
theorem dX4_clear_83 : decode cX4_clear 83 = .ok (.goto (-58), 3) := by decide +kernel
theorem dX4_clear_86 : decode cX4_clear 86 = .ok (.iload_n 2, 1) := by decide +kernel
theorem dX4_clear_87 : decode cX4_clear 87 = .ok (.ifCond .ge 12, 3) := by decide +kernel
theorem dX4_clear_90 : decode cX4_clear 90 = .ok (.aload_n 0, 1) := by decide +kernel
theorem dX4_clear_91 : decode cX4_clear 91 = .ok (.ldc 152, 2) := by decide +kernel
theorem dX4_clear_93 : decode cX4_clear 93 = .ok (.invokevirtual 46, 3) := by decide +kernel
theorem dX4_clear_96 : decode cX4_clear 96 = .ok (.goto 4, 3) := by decide +kernel
theorem dX4_clear_99 : decode cX4_clear 99 = .ok (.iload_n 2, 1) := by decide +kernel
theorem dX4_clear_100 : decode cX4_clear 100 = .ok (.ireturn, 1) := by decide +kernel
theorem dX4_nerve_0 : decode cX4_nerve 0 = .ok (.aload_n 0, 1) := by decide +kernel
theorem dX4_nerve_1 : decode cX4_nerve 1 = .ok (.getfield 12, 3) := by decide +kernel
theorem dX4_nerve_4 : decode cX4_nerve 4 = .ok (.iload_n 1, 1) := by decide +kernel
theorem dX4_nerve_5 : decode cX4_nerve 5 = .ok (.invokevirtual 54, 3) := by decide +kernel
theorem dX4_nerve_8 : decode cX4_nerve 8 = .ok (.ifCond .eq 13, 3) := by decide +kernel
theorem dX4_nerve_11 : decode cX4_nerve 11 = .ok (.iload_n 2, 1) := by decide +kernel
theorem dX4_nerve_12 : decode cX4_nerve 12 = .ok (.iconst 1, 1) := by decide +kernel
theorem dX4_nerve_13 : decode cX4_nerve 13 = .ok (.bipush 100, 2) := by decide +kernel
theorem dX4_nerve_15 : decode cX4_nerve 15 = .ok (.invokestatic 41, 3) := by decide +kernel
theorem dX4_nerve_18 : decode cX4_nerve 18 = .ok (.ifCond .ne 10, 3) := by decide +kernel
theorem dX4_nerve_21 : decode cX4_nerve 21 = .ok (.aload_n 0, 1) := by decide +kernel
theorem dX4_nerve_22 : decode cX4_nerve 22 = .ok (.ldc 45, 2) := by decide +kernel
theorem dX4_nerve_24 : decode cX4_nerve 24 = .ok (.invokevirtual 46, 3) := by decide +kernel
theorem dX4_nerve_27 : decode cX4_nerve 27 = .ok (.ireturn, 1) := by decide +kernel
theorem dX4_nerve_28 : decode cX4_nerve 28 = .ok (.iconst 0, 1) := by decide +kernel
theorem dX4_nerve_29 : decode cX4_nerve 29 = .ok (.istore_n 3, 1) := by decide +kernel
theorem dX4_nerve_30 : decode cX4_nerve 30 = .ok (.iload_n 3, 1) := by decide +kernel
theorem dX4_nerve_31 : decode cX4_nerve 31 = .ok (.bipush 99, 2) := by decide +kernel
theorem dX4_nerve_33 : decode cX4_nerve 33 = .ok (.if_icmp .gt 34, 3) := by decide +kernel
theorem dX4_nerve_36 : decode cX4_nerve 36 = .ok (.aload_n 0, 1) := by decide +kernel
theorem dX4_nerve_37 : decode cX4_nerve 37 = .ok (.invokevirtual 140, 3) := by decide +kernel
theorem dX4_nerve_40 : decode cX4_nerve 40 = .ok (.aload_n 0, 1) := by decide +kernel
theorem dX4_nerve_41 : decode cX4_nerve 41 = .ok (.getfield 16, 3) := by decide +kernel
theorem dX4_nerve_44 : decode cX4_nerve 44 = .ok (.getfield 107, 3) := by decide +kernel
theorem dX4_nerve_47 : decode cX4_nerve 47 = .ok (.iload_n 1, 1) := by decide +kernel
theorem dX4_nerve_48 : decode cX4_nerve 48 = .ok (.iload_n 3, 1) := by decide +kernel
theorem dX4_nerve_49 : decode cX4_nerve 49 = .ok (.iastore, 1) := by decide +kernel
theorem dX4_nerve_50 : decode cX4_nerve 50 = .ok (.aload_n 0, 1) := by decide +kernel
theorem dX4_nerve_51 : decode cX4_nerve 51 = .ok (.iload_n 1, 1) := by decide +kernel
theorem dX4_nerve_52 : decode cX4_nerve 52 = .ok (.iload_n 2, 1) := by decide +kernel
theorem dX4_nerve_53 : decode cX4_nerve 53 = .ok (.invokevirtual 158, 3) := by decide +kernel
theorem dX4_nerve_56 : decode cX4_nerve 56 = .ok (.ifCond .eq 5, 3) := by decide +kernel
theorem dX4_nerve_59 : decode cX4_nerve 59 = .ok (.iload_n 3, 1) := by decide +kernel
theorem dX4_nerve_60 : decode cX4_nerve 60 = .ok (.ireturn, 1) := by decide +kernel
theorem dX4_nerve_61 : decode cX4_nerve 61 = .ok (.iinc 3 1, 3) := by decide +kernel
theorem dX4_nerve_64 : decode cX4_nerve 64 = .ok (.goto (-34), 3) := by decide +kernel
theorem dX4_nerve_67 : decode cX4_nerve 67 = .ok (.aload_n 0, 1) := by decide +kernel
theorem dX4_nerve_68 : decode cX4_nerve 68 = .ok (.ldc 152, 2) := by decide +kernel
theorem dX4_nerve_70 : decode cX4_nerve 70 = .ok (.invokevirtual 46, 3) := by decide +kernel
theorem dX4_nerve_73 : decode cX4_nerve 73 = .ok (.ireturn, 1) := by decide +kernel
theorem dX4_worst_0 : decode cX4_worst 0 = .ok (.iload_n 1, 1) := by decide +kernel
theorem dX4_worst_1 : decode cX4_worst 1 = .ok (.iconst 0, 1) := by decide +kernel
theorem dX4_worst_2 : decode cX4_worst 2 = .ok (.sipush 300, 3) := by decide +kernel
theorem dX4_worst_5 : decode cX4_worst 5 = .ok (.invokestatic 41, 3) := by decide +kernel
theorem dX4_worst_8 : decode cX4_worst 8 = .ok (.ifCond .ne 10, 3) := by decide +kernel
theorem dX4_worst_11 : decode cX4_worst 11 = .ok (.aload_n 0, 1) := by decide +kernel
theorem dX4_worst_12 : decode cX4_worst 12 = .ok (.ldc 45, 2) := by decide +kernel
theorem dX4_worst_14 : decode cX4_worst 14 = .ok (.invokevirtual 46, 3) := by decide +kernel
theorem dX4_worst_17 : decode cX4_worst 17 = .ok (.ireturn, 1) := by decide +kernel
theorem dX4_worst_18 : decode cX4_worst 18 = .ok (.aload_n 0, 1) := by decide +kernel
theorem dX4_worst_19 : decode cX4_worst 19 = .ok (.getfield 12, 3) := by decide +kernel
theorem dX4_worst_22 : decode cX4_worst 22 = .ok (.getfield 92, 3) := by decide +kernel
theorem dX4_worst_25 : decode cX4_worst 25 = .ok (.ifCond .ne 10, 3) := by decide +kernel
theorem dX4_worst_28 : decode cX4_worst 28 = .ok (.aload_n 0, 1) := by decide +kernel
theorem dX4_worst_29 : decode cX4_worst 29 = .ok (.ldc 152, 2) := by decide +kernel
theorem dX4_worst_31 : decode cX4_worst 31 = .ok (.invokevirtual 46, 3) := by decide +kernel
theorem dX4_worst_34 : decode cX4_worst 34 = .ok (.ireturn, 1) := by decide +kernel
theorem dX4_worst_35 : decode cX4_worst 35 = .ok (.aload_n 0, 1) := by decide +kernel
theorem dX4_worst_36 : decode cX4_worst 36 = .ok (.invokevirtual 140, 3) := by decide +kernel
theorem dX4_worst_39 : decode cX4_worst 39 = .ok (.aload_n 0, 1) := by decide +kernel
theorem dX4_worst_40 : decode cX4_worst 40 = .ok (.getfield 16, 3) := by decide +kernel
theorem dX4_worst_43 : decode cX4_worst 43 = .ok (.iload_n 1, 1) := by decide +kernel
theorem dX4_worst_44 : decode cX4_worst 44 = .ok (.invokevirtual 137, 3) := by decide +kernel
theorem dX4_worst_47 : decode cX4_worst 47 = .ok (.iconst 0, 1) := by decide +kernel
theorem dX4_worst_48 : decode cX4_worst 48 = .ok (.istore_n 2, 1) := by decide +kernel
theorem dX4_worst_49 : decode cX4_worst 49 = .ok (.iconst 1, 1) := by decide +kernel
theorem dX4_worst_50 : decode cX4_worst 50 = .ok (.istore_n 3, 1) := by decide +kernel
theorem dX4_worst_51 : decode cX4_worst 51 = .ok (.iload_n 3, 1) := by decide +kernel
theorem dX4_worst_52 : decode cX4_worst 52 = .ok (.aload_n 0, 1) := by decide +kernel
theorem dX4_worst_53 : decode cX4_worst 53 = .ok (.getfield 16, 3) := by decide +kernel
theorem dX4_worst_56 : decode cX4_worst 56 = .ok (.getfield 92, 3) := by decide +kernel
theorem dX4_worst_59 : decode cX4_worst 59 = .ok (.if_icmp .ge 32, 3) := by decide +kernel
theorem dX4_worst_62 : decode cX4_worst 62 = .ok (.aload_n 0, 1) := by decide +kernel
theorem dX4_worst_63 : decode cX4_worst 63 = .ok (.getfield 16, 3) := by decide +kernel
theorem dX4_worst_66 : decode cX4_worst 66 = .ok (.getfield 104, 3) := by decide +kernel
theorem dX4_worst_69 : decode cX4_worst 69 = .ok (.iload_n 3, 1) := by decide +kernel
theorem dX4_worst_70 : decode cX4_worst 70 = .ok (.iaload, 1) := by decide +kernel
theorem dX4_worst_71 : decode cX4_worst 71 = .ok (.aload_n 0, 1) := by decide +kernel
theorem dX4_worst_72 : decode cX4_worst 72 = .ok (.getfield 16, 3) := by decide +kernel
theorem dX4_worst_75 : decode cX4_worst 75 = .ok (.getfield 104, 3) := by decide +kernel
theorem dX4_worst_78 : decode cX4_worst 78 = .ok (.iload_n 2, 1) := by decide +kernel
theorem dX4_worst_79 : decode cX4_worst 79 = .ok (.iaload, 1) := by decide +kernel
theorem dX4_worst_80 : decode cX4_worst 80 = .ok (.if_icmp .le 5, 3) := by decide +kernel
theorem dX4_worst_83 : decode cX4_worst 83 = .ok (.iload_n 3, 1) := by decide +kernel
theorem dX4_worst_84 : decode cX4_worst 84 = .ok (.istore_n 2, 1) := by decide +kernel
theorem dX4_worst_85 : decode cX4_worst 85 = .ok (.iinc 3 1, 3) := by decide +kernel
theorem dX4_worst_88 : decode cX4_worst 88 = .ok (.goto (-37), 3) := by decide +kernel
theorem dX4_worst_91 : decode cX4_worst 91 = .ok (.iload_n 2, 1) := by decide +kernel
theorem dX4_worst_92 : decode cX4_worst 92 = .ok (.ireturn, 1) := by decide +kernel
theorem dX4_feed_0 : decode cX4_feed 0 = .ok (.iload_n 2, 1) := by decide +kernel
theorem dX4_feed_1 : decode cX4_feed 1 = .ok (.iconst 1, 1) := by decide +kernel
theorem dX4_feed_2 : decode cX4_feed 2 = .ok (.iconst 4, 1) := by decide +kernel
theorem dX4_feed_3 : decode cX4_feed 3 = .ok (.invokestatic 41, 3) := by decide +kernel
theorem dX4_feed_6 : decode cX4_feed 6 = .ok (.ifCond .ne 10, 3) := by decide +kernel
theorem dX4_feed_9 : decode cX4_feed 9 = .ok (.aload_n 0, 1) := by decide +kernel
theorem dX4_feed_10 : decode cX4_feed 10 = .ok (.ldc 45, 2) := by decide +kernel
theorem dX4_feed_12 : decode cX4_feed 12 = .ok (.invokevirtual 46, 3) := by decide +kernel
theorem dX4_feed_15 : decode cX4_feed 15 = .ok (.ireturn, 1) := by decide +kernel
theorem dX4_feed_16 : decode cX4_feed 16 = .ok (.aload_n 0, 1) := by decide +kernel
theorem dX4_feed_17 : decode cX4_feed 17 = .ok (.getfield 25, 3) := by decide +kernel
theorem dX4_feed_20 : decode cX4_feed 20 = .ok (.getfield 161, 3) := by decide +kernel
theorem dX4_feed_23 : decode cX4_feed 23 = .ok (.getfield 165, 3) := by decide +kernel
theorem dX4_feed_26 : decode cX4_feed 26 = .ok (.bipush 120, 2) := by decide +kernel
theorem dX4_feed_28 : decode cX4_feed 28 = .ok (.iload_n 2, 1) := by decide +kernel
theorem dX4_feed_29 : decode cX4_feed 29 = .ok (.isub, 1) := by decide +kernel
theorem dX4_feed_30 : decode cX4_feed 30 = .ok (.if_icmp .le 10, 3) := by decide +kernel
theorem dX4_feed_33 : decode cX4_feed 33 = .ok (.aload_n 0, 1) := by decide +kernel
theorem dX4_feed_34 : decode cX4_feed 34 = .ok (.ldc 87, 2) := by decide +kernel
theorem dX4_feed_36 : decode cX4_feed 36 = .ok (.invokevirtual 46, 3) := by decide +kernel
theorem dX4_feed_39 : decode cX4_feed 39 = .ok (.ireturn, 1) := by decide +kernel
theorem dX4_feed_40 : decode cX4_feed 40 = .ok (.iload_n 2, 1) := by decide +kernel
theorem dX4_feed_41 : decode cX4_feed 41 = .ok (.iconst 1, 1) := by decide +kernel
theorem dX4_feed_42 : decode cX4_feed 42 = .ok (.isub, 1) := by decide +kernel
theorem dX4_feed_43 : decode cX4_feed 43 = .ok (.istore_n 3, 1) := by decide +kernel
theorem dX4_feed_44 : decode cX4_feed 44 = .ok (.iload_n 3, 1) := by decide +kernel
theorem dX4_feed_45 : decode cX4_feed 45 = .ok (.ifCond .lt 26, 3) := by decide +kernel
theorem dX4_feed_48 : decode cX4_feed 48 = .ok (.aload_n 0, 1) := by decide +kernel
theorem dX4_feed_49 : decode cX4_feed 49 = .ok (.getfield 25, 3) := by decide +kernel
theorem dX4_feed_52 : decode cX4_feed 52 = .ok (.getfield 161, 3) := by decide +kernel
theorem dX4_feed_55 : decode cX4_feed 55 = .ok (.iload_n 1, 1) := by decide +kernel
theorem dX4_feed_56 : decode cX4_feed 56 = .ok (.bipush 8, 2) := by decide +kernel
theorem dX4_feed_58 : decode cX4_feed 58 = .ok (.iload_n 3, 1) := by decide +kernel
theorem dX4_feed_59 : decode cX4_feed 59 = .ok (.imul, 1) := by decide +kernel
theorem dX4_feed_60 : decode cX4_feed 60 = .ok (.ishr, 1) := by decide +kernel
theorem dX4_feed_61 : decode cX4_feed 61 = .ok (.i2b, 1) := by decide +kernel
theorem dX4_feed_62 : decode cX4_feed 62 = .ok (.invokevirtual 170, 3) := by decide +kernel
theorem dX4_feed_65 : decode cX4_feed 65 = .ok (.iinc 3 (-1), 3) := by decide +kernel
theorem dX4_feed_68 : decode cX4_feed 68 = .ok (.goto (-24), 3) := by decide +kernel
theorem dX4_feed_71 : decode cX4_feed 71 = .ok (.aload_n 0, 1) := by decide +kernel
theorem dX4_feed_72 : decode cX4_feed 72 = .ok (.getfield 25, 3) := by decide +kernel
theorem dX4_feed_75 : decode cX4_feed 75 = .ok (.getfield 161, 3) := by decide +kernel
theorem dX4_feed_78 : decode cX4_feed 78 = .ok (.getfield 165, 3) := by decide +kernel
theorem dX4_feed_81 : decode cX4_feed 81 = .ok (.ireturn, 1) := by decide +kernel
theorem dX4_wipe_0 : decode cX4_wipe 0 = .ok (.aload_n 0, 1) := by decide +kernel
theorem dX4_wipe_1 : decode cX4_wipe 1 = .ok (.getfield 25, 3) := by decide +kernel
theorem dX4_wipe_4 : decode cX4_wipe 4 = .ok (.getfield 161, 3) := by decide +kernel
theorem dX4_wipe_7 : decode cX4_wipe 7 = .ok (.getfield 165, 3) := by decide +kernel
theorem dX4_wipe_10 : decode cX4_wipe 10 = .ok (.istore_n 1, 1) := by decide +kernel
theorem dX4_wipe_11 : decode cX4_wipe 11 = .ok (.aload_n 0, 1) := by decide +kernel
theorem dX4_wipe_12 : decode cX4_wipe 12 = .ok (.getfield 25, 3) := by decide +kernel
theorem dX4_wipe_15 : decode cX4_wipe 15 = .ok (.getfield 161, 3) := by decide +kernel
theorem dX4_wipe_18 : decode cX4_wipe 18 = .ok (.iconst 0, 1) := by decide +kernel
theorem dX4_wipe_19 : decode cX4_wipe 19 = .ok (.putfield 165, 3) := by decide +kernel
theorem dX4_wipe_22 : decode cX4_wipe 22 = .ok (.iload_n 1, 1) := by decide +kernel
theorem dX4_wipe_23 : decode cX4_wipe 23 = .ok (.ireturn, 1) := by decide +kernel
theorem dX4_night_0 : decode cX4_night 0 = .ok (.aload_n 0, 1) := by decide +kernel
theorem dX4_night_1 : decode cX4_night 1 = .ok (.invokevirtual 140, 3) := by decide +kernel
theorem dX4_night_4 : decode cX4_night 4 = .ok (.aload_n 0, 1) := by decide +kernel
theorem dX4_night_5 : decode cX4_night 5 = .ok (.getfield 25, 3) := by decide +kernel
theorem dX4_night_8 : decode cX4_night 8 = .ok (.aload_n 0, 1) := by decide +kernel
theorem dX4_night_9 : decode cX4_night 9 = .ok (.getfield 16, 3) := by decide +kernel
theorem dX4_night_12 : decode cX4_night 12 = .ok (.invokevirtual 173, 3) := by decide +kernel
theorem dX4_night_15 : decode cX4_night 15 = .ok (.istore_n 1, 1) := by decide +kernel
theorem dX4_night_16 : decode cX4_night 16 = .ok (.iload_n 1, 1) := by decide +kernel
theorem dX4_night_17 : decode cX4_night 17 = .ok (.ifCond .lt 14, 3) := by decide +kernel
theorem dX4_night_20 : decode cX4_night 20 = .ok (.aload_n 0, 1) := by decide +kernel
theorem dX4_night_21 : decode cX4_night 21 = .ok (.getfield 12, 3) := by decide +kernel
theorem dX4_night_24 : decode cX4_night 24 = .ok (.aload_n 0, 1) := by decide +kernel
theorem dX4_night_25 : decode cX4_night 25 = .ok (.getfield 16, 3) := by decide +kernel
theorem dX4_night_28 : decode cX4_night 28 = .ok (.invokevirtual 177, 3) := by decide +kernel
theorem dX4_night_31 : decode cX4_night 31 = .ok (.aload_n 0, 1) := by decide +kernel
theorem dX4_night_32 : decode cX4_night 32 = .ok (.getfield 25, 3) := by decide +kernel
theorem dX4_night_35 : decode cX4_night 35 = .ok (.getfield 161, 3) := by decide +kernel
theorem dX4_night_38 : decode cX4_night 38 = .ok (.iconst 0, 1) := by decide +kernel
theorem dX4_night_39 : decode cX4_night 39 = .ok (.putfield 165, 3) := by decide +kernel
theorem dX4_night_42 : decode cX4_night 42 = .ok (.iload_n 1, 1) := by decide +kernel
theorem dX4_night_43 : decode cX4_night 43 = .ok (.ireturn, 1) := by decide +kernel
theorem dX4_sheet_0 : decode cX4_sheet 0 = .ok (.iload_n 1, 1) := by decide +kernel
theorem dX4_sheet_1 : decode cX4_sheet 1 = .ok (.invokestatic 181, 3) := by decide +kernel
theorem dX4_sheet_4 : decode cX4_sheet 4 = .ok (.ifCond .eq 10, 3) := by decide +kernel
theorem dX4_sheet_7 : decode cX4_sheet 7 = .ok (.iload_n 2, 1) := by decide +kernel
theorem dX4_sheet_8 : decode cX4_sheet 8 = .ok (.invokestatic 184, 3) := by decide +kernel
theorem dX4_sheet_11 : decode cX4_sheet 11 = .ok (.ifCond .ne 10, 3) := by decide +kernel
theorem dX4_sheet_14 : decode cX4_sheet 14 = .ok (.aload_n 0, 1) := by decide +kernel
theorem dX4_sheet_15 : decode cX4_sheet 15 = .ok (.ldc 45, 2) := by decide +kernel
theorem dX4_sheet_17 : decode cX4_sheet 17 = .ok (.invokevirtual 46, 3) := by decide +kernel
theorem dX4_sheet_20 : decode cX4_sheet 20 = .ok (.ireturn, 1) := by decide +kernel
theorem dX4_sheet_21 : decode cX4_sheet 21 = .ok (.iload_n 3, 1) := by decide +kernel
theorem dX4_sheet_22 : decode cX4_sheet 22 = .ok (.ifCond .ge 10, 3) := by decide +kernel
theorem dX4_sheet_25 : decode cX4_sheet 25 = .ok (.aload_n 0, 1) := by decide +kernel
theorem dX4_sheet_26 : decode cX4_sheet 26 = .ok (.ldc 187, 2) := by decide +kernel
theorem dX4_sheet_28 : decode cX4_sheet 28 = .ok (.invokevirtual 46, 3) := by decide +kernel
theorem dX4_sheet_31 : decode cX4_sheet 31 = .ok (.ireturn, 1) := by decide +kernel
theorem dX4_sheet_32 : decode cX4_sheet 32 = .ok (.iload_n 3, 1) := by decide +kernel
theorem dX4_sheet_33 : decode cX4_sheet 33 = .ok (.bipush 40, 2) := by decide +kernel
theorem dX4_sheet_35 : decode cX4_sheet 35 = .ok (.if_icmp .le 10, 3) := by decide +kernel
theorem dX4_sheet_38 : decode cX4_sheet 38 = .ok (.aload_n 0, 1) := by decide +kernel
theorem dX4_sheet_39 : decode cX4_sheet 39 = .ok (.ldc 45, 2) := by decide +kernel
theorem dX4_sheet_41 : decode cX4_sheet 41 = .ok (.invokevirtual 46, 3) := by decide +kernel
theorem dX4_sheet_44 : decode cX4_sheet 44 = .ok (.ireturn, 1) := by decide +kernel
theorem dX4_sheet_45 : decode cX4_sheet 45 = .ok (.aload_n 0, 1) := by decide +kernel
theorem dX4_sheet_46 : decode cX4_sheet 46 = .ok (.getfield 31, 3) := by decide +kernel
theorem dX4_sheet_49 : decode cX4_sheet 49 = .ok (.iload_n 1, 1) := by decide +kernel
theorem dX4_sheet_50 : decode cX4_sheet 50 = .ok (.aaload, 1) := by decide +kernel
theorem dX4_sheet_51 : decode cX4_sheet 51 = .ok (.iload_n 2, 1) := by decide +kernel
theorem dX4_sheet_52 : decode cX4_sheet 52 = .ok (.iload_n 3, 1) := by decide +kernel
theorem dX4_sheet_53 : decode cX4_sheet 53 = .ok (.invokevirtual 188, 3) := by decide +kernel
theorem dX4_sheet_56 : decode cX4_sheet 56 = .ok (.aload_n 0, 1) := by decide +kernel
theorem dX4_sheet_57 : decode cX4_sheet 57 = .ok (.getfield 31, 3) := by decide +kernel
theorem dX4_sheet_60 : decode cX4_sheet 60 = .ok (.iload_n 1, 1) := by decide +kernel
theorem dX4_sheet_61 : decode cX4_sheet 61 = .ok (.aaload, 1) := by decide +kernel
theorem dX4_sheet_62 : decode cX4_sheet 62 = .ok (.getfield 191, 3) := by decide +kernel
theorem dX4_sheet_65 : decode cX4_sheet 65 = .ok (.ireturn, 1) := by decide +kernel
theorem dX4_write_0 : decode cX4_write 0 = .ok (.iload_n 1, 1) := by decide +kernel
theorem dX4_write_1 : decode cX4_write 1 = .ok (.invokestatic 181, 3) := by decide +kernel
theorem dX4_write_4 : decode cX4_write 4 = .ok (.ifCond .ne 11, 3) := by decide +kernel
theorem dX4_write_7 : decode cX4_write 7 = .ok (.aload_n 0, 1) := by decide +kernel
theorem dX4_write_8 : decode cX4_write 8 = .ok (.ldc 45, 2) := by decide +kernel
theorem dX4_write_10 : decode cX4_write 10 = .ok (.invokevirtual 46, 3) := by decide +kernel
theorem dX4_write_13 : decode cX4_write 13 = .ok (.i2l, 1) := by decide +kernel
theorem dX4_write_14 : decode cX4_write 14 = .ok (.lreturn, 1) := by decide +kernel
theorem dX4_write_15 : decode cX4_write 15 = .ok (.aload_n 0, 1) := by decide +kernel
theorem dX4_write_16 : decode cX4_write 16 = .ok (.getfield 31, 3) := by decide +kernel
theorem dX4_write_19 : decode cX4_write 19 = .ok (.iload_n 1, 1) := by decide +kernel
theorem dX4_write_20 : decode cX4_write 20 = .ok (.aaload, 1) := by decide +kernel
theorem dX4_write_21 : decode cX4_write 21 = .ok (.astore 5, 2) := by decide +kernel
theorem dX4_write_23 : decode cX4_write 23 = .ok (.aload 5, 2) := by decide +kernel
theorem dX4_write_25 : decode cX4_write 25 = .ok (.invokevirtual 194, 3) := by decide +kernel
theorem dX4_write_28 : decode cX4_write 28 = .ok (.ifCond .eq 11, 3) := by decide +kernel
theorem dX4_write_31 : decode cX4_write 31 = .ok (.aload_n 0, 1) := by decide +kernel
theorem dX4_write_32 : decode cX4_write 32 = .ok (.ldc 197, 2) := by decide +kernel
theorem dX4_write_34 : decode cX4_write 34 = .ok (.invokevirtual 46, 3) := by decide +kernel
theorem dX4_write_37 : decode cX4_write 37 = .ok (.i2l, 1) := by decide +kernel
theorem dX4_write_38 : decode cX4_write 38 = .ok (.lreturn, 1) := by decide +kernel
theorem dX4_write_39 : decode cX4_write 39 = .ok (.iload_n 2, 1) := by decide +kernel
theorem dX4_write_40 : decode cX4_write 40 = .ok (.iconst 0, 1) := by decide +kernel
theorem dX4_write_41 : decode cX4_write 41 = .ok (.aload 5, 2) := by decide +kernel
theorem dX4_write_43 : decode cX4_write 43 = .ok (.getfield 191, 3) := by decide +kernel
theorem dX4_write_46 : decode cX4_write 46 = .ok (.iconst 1, 1) := by decide +kernel
theorem dX4_write_47 : decode cX4_write 47 = .ok (.isub, 1) := by decide +kernel
theorem dX4_write_48 : decode cX4_write 48 = .ok (.invokestatic 41, 3) := by decide +kernel
theorem dX4_write_51 : decode cX4_write 51 = .ok (.ifCond .ne 11, 3) := by decide +kernel
theorem dX4_write_54 : decode cX4_write 54 = .ok (.aload_n 0, 1) := by decide +kernel
theorem dX4_write_55 : decode cX4_write 55 = .ok (.ldc 45, 2) := by decide +kernel
theorem dX4_write_57 : decode cX4_write 57 = .ok (.invokevirtual 46, 3) := by decide +kernel
theorem dX4_write_60 : decode cX4_write 60 = .ok (.i2l, 1) := by decide +kernel
theorem dX4_write_61 : decode cX4_write 61 = .ok (.lreturn, 1) := by decide +kernel
theorem dX4_write_62 : decode cX4_write 62 = .ok (.aload 5, 2) := by decide +kernel
theorem dX4_write_64 : decode cX4_write 64 = .ok (.getfield 198, 3) := by decide +kernel
theorem dX4_write_67 : decode cX4_write 67 = .ok (.iload_n 2, 1) := by decide +kernel
theorem dX4_write_68 : decode cX4_write 68 = .ok (.laload, 1) := by decide +kernel
theorem dX4_write_69 : decode cX4_write 69 = .ok (.lstore 6, 2) := by decide +kernel
theorem dX4_write_71 : decode cX4_write 71 = .ok (.aload 5, 2) := by decide +kernel
theorem dX4_write_73 : decode cX4_write 73 = .ok (.iload_n 2, 1) := by decide +kernel
theorem dX4_write_74 : decode cX4_write 74 = .ok (.lload_n 3, 1) := by decide +kernel
theorem dX4_write_75 : decode cX4_write 75 = .ok (.invokevirtual 202, 3) := by decide +kernel
theorem dX4_write_78 : decode cX4_write 78 = .ok (.lload 6, 2) := by decide +kernel
theorem dX4_write_80 : decode cX4_write 80 = .ok (.lreturn, 1) := by decide +kernel
theorem dX4_copy_0 : decode cX4_copy 0 = .ok (.iload_n 1, 1) := by decide +kernel
theorem dX4_copy_1 : decode cX4_copy 1 = .ok (.invokestatic 181, 3) := by decide +kernel
theorem dX4_copy_4 : decode cX4_copy 4 = .ok (.ifCond .eq 10, 3) := by decide +kernel
theorem dX4_copy_7 : decode cX4_copy 7 = .ok (.iload_n 3, 1) := by decide +kernel
theorem dX4_copy_8 : decode cX4_copy 8 = .ok (.invokestatic 181, 3) := by decide +kernel
theorem dX4_copy_11 : decode cX4_copy 11 = .ok (.ifCond .ne 10, 3) := by decide +kernel
theorem dX4_copy_14 : decode cX4_copy 14 = .ok (.aload_n 0, 1) := by decide +kernel
theorem dX4_copy_15 : decode cX4_copy 15 = .ok (.ldc 45, 2) := by decide +kernel
theorem dX4_copy_17 : decode cX4_copy 17 = .ok (.invokevirtual 46, 3) := by decide +kernel
theorem dX4_copy_20 : decode cX4_copy 20 = .ok (.ireturn, 1) := by decide +kernel
theorem dX4_copy_21 : decode cX4_copy 21 = .ok (.aload_n 0, 1) := by decide +kernel
theorem dX4_copy_22 : decode cX4_copy 22 = .ok (.getfield 31, 3) := by decide +kernel
theorem dX4_copy_25 : decode cX4_copy 25 = .ok (.iload_n 1, 1) := by decide +kernel
theorem dX4_copy_26 : decode cX4_copy 26 = .ok (.aaload, 1) := by decide +kernel
theorem dX4_copy_27 : decode cX4_copy 27 = .ok (.astore 6, 2) := by decide +kernel
theorem dX4_copy_29 : decode cX4_copy 29 = .ok (.aload_n 0, 1) := by decide +kernel
theorem dX4_copy_30 : decode cX4_copy 30 = .ok (.getfield 31, 3) := by decide +kernel
theorem dX4_copy_33 : decode cX4_copy 33 = .ok (.iload_n 3, 1) := by decide +kernel
theorem dX4_copy_34 : decode cX4_copy 34 = .ok (.aaload, 1) := by decide +kernel
theorem dX4_copy_35 : decode cX4_copy 35 = .ok (.astore 7, 2) := by decide +kernel
theorem dX4_copy_37 : decode cX4_copy 37 = .ok (.aload 6, 2) := by decide +kernel
theorem dX4_copy_39 : decode cX4_copy 39 = .ok (.invokevirtual 194, 3) := by decide +kernel
theorem dX4_copy_42 : decode cX4_copy 42 = .ok (.ifCond .ne 11, 3) := by decide +kernel
theorem dX4_copy_45 : decode cX4_copy 45 = .ok (.aload 7, 2) := by decide +kernel
theorem dX4_copy_47 : decode cX4_copy 47 = .ok (.invokevirtual 194, 3) := by decide +kernel
theorem dX4_copy_50 : decode cX4_copy 50 = .ok (.ifCond .eq 10, 3) := by decide +kernel
theorem dX4_copy_53 : decode cX4_copy 53 = .ok (.aload_n 0, 1) := by decide +kernel
theorem dX4_copy_54 : decode cX4_copy 54 = .ok (.ldc 197, 2) := by decide +kernel
theorem dX4_copy_56 : decode cX4_copy 56 = .ok (.invokevirtual 46, 3) := by decide +kernel
theorem dX4_copy_59 : decode cX4_copy 59 = .ok (.ireturn, 1) := by decide +kernel
theorem dX4_copy_60 : decode cX4_copy 60 = .ok (.aload 6, 2) := by decide +kernel
theorem dX4_copy_62 : decode cX4_copy 62 = .ok (.getfield 205, 3) := by decide +kernel
theorem dX4_copy_65 : decode cX4_copy 65 = .ok (.aload 7, 2) := by decide +kernel
theorem dX4_copy_67 : decode cX4_copy 67 = .ok (.getfield 205, 3) := by decide +kernel
theorem dX4_copy_70 : decode cX4_copy 70 = .ok (.if_icmp .eq 10, 3) := by decide +kernel
theorem dX4_copy_73 : decode cX4_copy 73 = .ok (.aload_n 0, 1) := by decide +kernel
theorem dX4_copy_74 : decode cX4_copy 74 = .ok (.ldc 134, 2) := by decide +kernel
theorem dX4_copy_76 : decode cX4_copy 76 = .ok (.invokevirtual 46, 3) := by decide +kernel
theorem dX4_copy_79 : decode cX4_copy 79 = .ok (.ireturn, 1) := by decide +kernel
theorem dX4_copy_80 : decode cX4_copy 80 = .ok (.aload 6, 2) := by decide +kernel
theorem dX4_copy_82 : decode cX4_copy 82 = .ok (.iload_n 2, 1) := by decide +kernel
theorem dX4_copy_83 : decode cX4_copy 83 = .ok (.iload 5, 2) := by decide +kernel
theorem dX4_copy_85 : decode cX4_copy 85 = .ok (.invokevirtual 208, 3) := by decide +kernel
theorem dX4_copy_88 : decode cX4_copy 88 = .ok (.ifCond .eq 15, 3) := by decide +kernel
theorem dX4_copy_91 : decode cX4_copy 91 = .ok (.aload 7, 2) := by decide +kernel
theorem dX4_copy_93 : decode cX4_copy 93 = .ok (.iload 4, 2) := by decide +kernel
theorem dX4_copy_95 : decode cX4_copy 95 = .ok (.iload 5, 2) := by decide +kernel
theorem dX4_copy_97 : decode cX4_copy 97 = .ok (.invokevirtual 208, 3) := by decide +kernel
theorem dX4_copy_100 : decode cX4_copy 100 = .ok (.ifCond .ne 10, 3) := by decide +kernel
theorem dX4_copy_103 : decode cX4_copy 103 = .ok (.aload_n 0, 1) := by decide +kernel
theorem dX4_copy_104 : decode cX4_copy 104 = .ok (.ldc 45, 2) := by decide +kernel
theorem dX4_copy_106 : decode cX4_copy 106 = .ok (.invokevirtual 46, 3) := by decide +kernel
theorem dX4_copy_109 : decode cX4_copy 109 = .ok (.ireturn, 1) := by decide +kernel
theorem dX4_copy_110 : decode cX4_copy 110 = .ok (.aload 6, 2) := by decide +kernel
theorem dX4_copy_112 : decode cX4_copy 112 = .ok (.getfield 198, 3) := by decide +kernel
theorem dX4_copy_115 : decode cX4_copy 115 = .ok (.iload_n 2, 1) := by decide +kernel
theorem dX4_copy_116 : decode cX4_copy 116 = .ok (.aload 7, 2) := by decide +kernel
theorem dX4_copy_118 : decode cX4_copy 118 = .ok (.getfield 198, 3) := by decide +kernel
theorem dX4_copy_121 : decode cX4_copy 121 = .ok (.iload 4, 2) := by decide +kernel
theorem dX4_copy_123 : decode cX4_copy 123 = .ok (.iload 5, 2) := by decide +kernel
theorem dX4_copy_125 : decode cX4_copy 125 = .ok (.invokestatic 211, 3) := by decide +kernel
theorem dX4_copy_128 : decode cX4_copy 128 = .ok (.iload 5, 2) := by decide +kernel
theorem dX4_copy_130 : decode cX4_copy 130 = .ok (.ireturn, 1) := by decide +kernel
theorem dX4_lays_0 : decode cX4_lays 0 = .ok (.iload_n 1, 1) := by decide +kernel
theorem dX4_lays_1 : decode cX4_lays 1 = .ok (.invokestatic 181, 3) := by decide +kernel
theorem dX4_lays_4 : decode cX4_lays 4 = .ok (.ifCond .ne 10, 3) := by decide +kernel
theorem dX4_lays_7 : decode cX4_lays 7 = .ok (.aload_n 0, 1) := by decide +kernel
theorem dX4_lays_8 : decode cX4_lays 8 = .ok (.ldc 45, 2) := by decide +kernel
theorem dX4_lays_10 : decode cX4_lays 10 = .ok (.invokevirtual 46, 3) := by decide +kernel
theorem dX4_lays_13 : decode cX4_lays 13 = .ok (.ireturn, 1) := by decide +kernel
theorem dX4_lays_14 : decode cX4_lays 14 = .ok (.aload_n 0, 1) := by decide +kernel
theorem dX4_lays_15 : decode cX4_lays 15 = .ok (.getfield 31, 3) := by decide +kernel
theorem dX4_lays_18 : decode cX4_lays 18 = .ok (.iload_n 1, 1) := by decide +kernel
theorem dX4_lays_19 : decode cX4_lays 19 = .ok (.aaload, 1) := by decide +kernel
theorem dX4_lays_20 : decode cX4_lays 20 = .ok (.astore_n 2, 1) := by decide +kernel
theorem dX4_lays_21 : decode cX4_lays 21 = .ok (.aload_n 2, 1) := by decide +kernel
theorem dX4_lays_22 : decode cX4_lays 22 = .ok (.invokevirtual 194, 3) := by decide +kernel
theorem dX4_lays_25 : decode cX4_lays 25 = .ok (.ifCond .eq 10, 3) := by decide +kernel
theorem dX4_lays_28 : decode cX4_lays 28 = .ok (.aload_n 0, 1) := by decide +kernel
theorem dX4_lays_29 : decode cX4_lays 29 = .ok (.ldc 197, 2) := by decide +kernel
theorem dX4_lays_31 : decode cX4_lays 31 = .ok (.invokevirtual 46, 3) := by decide +kernel
theorem dX4_lays_34 : decode cX4_lays 34 = .ok (.ireturn, 1) := by decide +kernel
theorem dX4_lays_35 : decode cX4_lays 35 = .ok (.iconst 0, 1) := by decide +kernel
theorem dX4_lays_36 : decode cX4_lays 36 = .ok (.istore_n 3, 1) := by decide +kernel
theorem dX4_lays_37 : decode cX4_lays 37 = .ok (.aload_n 2, 1) := by decide +kernel
theorem dX4_lays_38 : decode cX4_lays 38 = .ok (.getfield 191, 3) := by decide +kernel
theorem dX4_lays_41 : decode cX4_lays 41 = .ok (.aload_n 0, 1) := by decide +kernel
theorem dX4_lays_42 : decode cX4_lays 42 = .ok (.getfield 12, 3) := by decide +kernel
theorem dX4_lays_45 : decode cX4_lays 45 = .ok (.getfield 92, 3) := by decide +kernel
theorem dX4_lays_48 : decode cX4_lays 48 = .ok (.invokestatic 217, 3) := by decide +kernel
theorem dX4_lays_51 : decode cX4_lays 51 = .ok (.istore 4, 2) := by decide +kernel
theorem dX4_lays_53 : decode cX4_lays 53 = .ok (.iconst 0, 1) := by decide +kernel
theorem dX4_lays_54 : decode cX4_lays 54 = .ok (.istore 5, 2) := by decide +kernel
theorem dX4_lays_56 : decode cX4_lays 56 = .ok (.iload 5, 2) := by decide +kernel
theorem dX4_lays_58 : decode cX4_lays 58 = .ok (.iload 4, 2) := by decide +kernel
theorem dX4_lays_60 : decode cX4_lays 60 = .ok (.if_icmp .ge 50, 3) := by decide +kernel
theorem dX4_lays_63 : decode cX4_lays 63 = .ok (.aload_n 2, 1) := by decide +kernel
theorem dX4_lays_64 : decode cX4_lays 64 = .ok (.getfield 198, 3) := by decide +kernel
theorem dX4_lays_67 : decode cX4_lays 67 = .ok (.iload 5, 2) := by decide +kernel
theorem dX4_lays_69 : decode cX4_lays 69 = .ok (.laload, 1) := by decide +kernel
theorem dX4_lays_70 : decode cX4_lays 70 = .ok (.lstore 6, 2) := by decide +kernel
theorem dX4_lays_72 : decode cX4_lays 72 = .ok (.lload 6, 2) := by decide +kernel
theorem dX4_lays_74 : decode cX4_lays 74 = .ok (.lconst 0, 1) := by decide +kernel
theorem dX4_lays_75 : decode cX4_lays 75 = .ok (.lcmp, 1) := by decide +kernel
theorem dX4_lays_76 : decode cX4_lays 76 = .ok (.ifCond .lt 28, 3) := by decide +kernel
theorem dX4_lays_79 : decode cX4_lays 79 = .ok (.lload 6, 2) := by decide +kernel
theorem dX4_lays_81 : decode cX4_lays 81 = .ok (.ldc2_w 223, 3) := by decide +kernel
theorem dX4_lays_84 : decode cX4_lays 84 = .ok (.lcmp, 1) := by decide +kernel
theorem dX4_lays_85 : decode cX4_lays 85 = .ok (.ifCond .gt 19, 3) := by decide +kernel
theorem dX4_lays_88 : decode cX4_lays 88 = .ok (.aload_n 0, 1) := by decide +kernel
theorem dX4_lays_89 : decode cX4_lays 89 = .ok (.getfield 12, 3) := by decide +kernel
theorem dX4_lays_92 : decode cX4_lays 92 = .ok (.getfield 107, 3) := by decide +kernel
theorem dX4_lays_95 : decode cX4_lays 95 = .ok (.iload 5, 2) := by decide +kernel
theorem dX4_lays_97 : decode cX4_lays 97 = .ok (.lload 6, 2) := by decide +kernel
theorem dX4_lays_99 : decode cX4_lays 99 = .ok (.l2i, 1) := by decide +kernel
theorem dX4_lays_100 : decode cX4_lays 100 = .ok (.iastore, 1) := by decide +kernel
theorem dX4_lays_101 : decode cX4_lays 101 = .ok (.iinc 3 1, 3) := by decide +kernel
theorem dX4_lays_104 : decode cX4_lays 104 = .ok (.iinc 5 1, 3) := by decide +kernel
theorem dX4_lays_107 : decode cX4_lays 107 = .ok (.goto (-51), 3) := by decide +kernel
theorem dX4_lays_110 : decode cX4_lays 110 = .ok (.iload_n 3, 1) := by decide +kernel
theorem dX4_lays_111 : decode cX4_lays 111 = .ok (.ireturn, 1) := by decide +kernel
theorem dX4_book_0 : decode cX4_book 0 = .ok (.aload_n 0, 1) := by decide +kernel
theorem dX4_book_1 : decode cX4_book 1 = .ok (.iload_n 1, 1) := by decide +kernel
theorem dX4_book_2 : decode cX4_book 2 = .ok (.iload_n 2, 1) := by decide +kernel
theorem dX4_book_3 : decode cX4_book 3 = .ok (.invokevirtual 225, 3) := by decide +kernel
theorem dX4_book_6 : decode cX4_book 6 = .ok (.istore_n 3, 1) := by decide +kernel
theorem dX4_book_7 : decode cX4_book 7 = .ok (.iload_n 3, 1) := by decide +kernel
theorem dX4_book_8 : decode cX4_book 8 = .ok (.ifCond .eq 9, 3) := by decide +kernel
theorem dX4_book_11 : decode cX4_book 11 = .ok (.aload_n 0, 1) := by decide +kernel
theorem dX4_book_12 : decode cX4_book 12 = .ok (.iload_n 3, 1) := by decide +kernel
theorem dX4_book_13 : decode cX4_book 13 = .ok (.invokevirtual 46, 3) := by decide +kernel
theorem dX4_book_16 : decode cX4_book 16 = .ok (.ireturn, 1) := by decide +kernel
theorem dX4_book_17 : decode cX4_book 17 = .ok (.aload_n 0, 1) := by decide +kernel
theorem dX4_book_18 : decode cX4_book 18 = .ok (.getfield 31, 3) := by decide +kernel
theorem dX4_book_21 : decode cX4_book 21 = .ok (.iload_n 1, 1) := by decide +kernel
theorem dX4_book_22 : decode cX4_book 22 = .ok (.aaload, 1) := by decide +kernel
theorem dX4_book_23 : decode cX4_book 23 = .ok (.astore 4, 2) := by decide +kernel
theorem dX4_book_25 : decode cX4_book 25 = .ok (.aload_n 0, 1) := by decide +kernel
theorem dX4_book_26 : decode cX4_book 26 = .ok (.invokevirtual 140, 3) := by decide +kernel
theorem dX4_book_29 : decode cX4_book 29 = .ok (.iconst 0, 1) := by decide +kernel
theorem dX4_book_30 : decode cX4_book 30 = .ok (.istore 5, 2) := by decide +kernel
theorem dX4_book_32 : decode cX4_book 32 = .ok (.iload 5, 2) := by decide +kernel
theorem dX4_book_34 : decode cX4_book 34 = .ok (.aload 4, 2) := by decide +kernel
theorem dX4_book_36 : decode cX4_book 36 = .ok (.getfield 191, 3) := by decide +kernel
theorem dX4_book_39 : decode cX4_book 39 = .ok (.if_icmp .ge 33, 3) := by decide +kernel
theorem dX4_book_42 : decode cX4_book 42 = .ok (.aload 4, 2) := by decide +kernel
theorem dX4_book_44 : decode cX4_book 44 = .ok (.iload 5, 2) := by decide +kernel
theorem dX4_book_46 : decode cX4_book 46 = .ok (.aload_n 0, 1) := by decide +kernel
theorem dX4_book_47 : decode cX4_book 47 = .ok (.getfield 16, 3) := by decide +kernel
theorem dX4_book_50 : decode cX4_book 50 = .ok (.getfield 104, 3) := by decide +kernel
theorem dX4_book_53 : decode cX4_book 53 = .ok (.iload_n 2, 1) := by decide +kernel
theorem dX4_book_54 : decode cX4_book 54 = .ok (.iaload, 1) := by decide +kernel
theorem dX4_book_55 : decode cX4_book 55 = .ok (.i2l, 1) := by decide +kernel
theorem dX4_book_56 : decode cX4_book 56 = .ok (.invokevirtual 202, 3) := by decide +kernel
theorem dX4_book_59 : decode cX4_book 59 = .ok (.aload_n 0, 1) := by decide +kernel
theorem dX4_book_60 : decode cX4_book 60 = .ok (.getfield 16, 3) := by decide +kernel
theorem dX4_book_63 : decode cX4_book 63 = .ok (.invokevirtual 146, 3) := by decide +kernel
theorem dX4_book_66 : decode cX4_book 66 = .ok (.iinc 5 1, 3) := by decide +kernel
theorem dX4_book_69 : decode cX4_book 69 = .ok (.goto (-37), 3) := by decide +kernel
theorem dX4_book_72 : decode cX4_book 72 = .ok (.aload 4, 2) := by decide +kernel
theorem dX4_book_74 : decode cX4_book 74 = .ok (.getfield 191, 3) := by decide +kernel
theorem dX4_book_77 : decode cX4_book 77 = .ok (.ireturn, 1) := by decide +kernel
theorem dX4_read_0 : decode cX4_read 0 = .ok (.aload_n 0, 1) := by decide +kernel
theorem dX4_read_1 : decode cX4_read 1 = .ok (.iload_n 1, 1) := by decide +kernel
theorem dX4_read_2 : decode cX4_read 2 = .ok (.iload_n 2, 1) := by decide +kernel
theorem dX4_read_3 : decode cX4_read 3 = .ok (.invokevirtual 225, 3) := by decide +kernel
theorem dX4_read_6 : decode cX4_read 6 = .ok (.istore_n 3, 1) := by decide +kernel
theorem dX4_read_7 : decode cX4_read 7 = .ok (.iload_n 3, 1) := by decide +kernel
theorem dX4_read_8 : decode cX4_read 8 = .ok (.ifCond .eq 9, 3) := by decide +kernel
theorem dX4_read_11 : decode cX4_read 11 = .ok (.aload_n 0, 1) := by decide +kernel
theorem dX4_read_12 : decode cX4_read 12 = .ok (.iload_n 3, 1) := by decide +kernel
theorem dX4_read_13 : decode cX4_read 13 = .ok (.invokevirtual 46, 3) := by decide +kernel
theorem dX4_read_16 : decode cX4_read 16 = .ok (.ireturn, 1) := by decide +kernel
theorem dX4_read_17 : decode cX4_read 17 = .ok (.iconst 0, 1) := by decide +kernel
theorem dX4_read_18 : decode cX4_read 18 = .ok (.istore 4, 2) := by decide +kernel
theorem dX4_read_20 : decode cX4_read 20 = .ok (.iconst 0, 1) := by decide +kernel
theorem dX4_read_21 : decode cX4_read 21 = .ok (.istore 5, 2) := by decide +kernel
theorem dX4_read_23 : decode cX4_read 23 = .ok (.iload 5, 2) := by decide +kernel
theorem dX4_read_25 : decode cX4_read 25 = .ok (.bipush 6, 2) := by decide +kernel
theorem dX4_read_27 : decode cX4_read 27 = .ok (.if_icmp .ge 66, 3) := by decide +kernel
theorem dX4_read_30 : decode cX4_read 30 = .ok (.iconst 0, 1) := by decide +kernel
theorem dX4_read_31 : decode cX4_read 31 = .ok (.istore 6, 2) := by decide +kernel
theorem dX4_read_33 : decode cX4_read 33 = .ok (.iload 6, 2) := by decide +kernel
theorem dX4_read_35 : decode cX4_read 35 = .ok (.bipush 9, 2) := by decide +kernel
theorem dX4_read_37 : decode cX4_read 37 = .ok (.if_icmp .gt 50, 3) := by decide +kernel
theorem dX4_read_40 : decode cX4_read 40 = .ok (.aload_n 0, 1) := by decide +kernel
theorem dX4_read_41 : decode cX4_read 41 = .ok (.invokevirtual 140, 3) := by decide +kernel
theorem dX4_read_44 : decode cX4_read 44 = .ok (.aload_n 0, 1) := by decide +kernel
theorem dX4_read_45 : decode cX4_read 45 = .ok (.getfield 16, 3) := by decide +kernel
theorem dX4_read_48 : decode cX4_read 48 = .ok (.getfield 95, 3) := by decide +kernel
theorem dX4_read_51 : decode cX4_read 51 = .ok (.iload_n 2, 1) := by decide +kernel
theorem dX4_read_52 : decode cX4_read 52 = .ok (.iload 5, 2) := by decide +kernel
theorem dX4_read_54 : decode cX4_read 54 = .ok (.iastore, 1) := by decide +kernel
theorem dX4_read_55 : decode cX4_read 55 = .ok (.aload_n 0, 1) := by decide +kernel
theorem dX4_read_56 : decode cX4_read 56 = .ok (.getfield 16, 3) := by decide +kernel
theorem dX4_read_59 : decode cX4_read 59 = .ok (.iload 6, 2) := by decide +kernel
theorem dX4_read_61 : decode cX4_read 61 = .ok (.putfield 61, 3) := by decide +kernel
theorem dX4_read_64 : decode cX4_read 64 = .ok (.aload_n 0, 1) := by decide +kernel
theorem dX4_read_65 : decode cX4_read 65 = .ok (.aload_n 0, 1) := by decide +kernel
theorem dX4_read_66 : decode cX4_read 66 = .ok (.getfield 31, 3) := by decide +kernel
theorem dX4_read_69 : decode cX4_read 69 = .ok (.iload_n 1, 1) := by decide +kernel
theorem dX4_read_70 : decode cX4_read 70 = .ok (.aaload, 1) := by decide +kernel
theorem dX4_read_71 : decode cX4_read 71 = .ok (.iload_n 2, 1) := by decide +kernel
theorem dX4_read_72 : decode cX4_read 72 = .ok (.invokevirtual 228, 3) := by decide +kernel
theorem dX4_read_75 : decode cX4_read 75 = .ok (.ifCond .eq 6, 3) := by decide +kernel
theorem dX4_read_78 : decode cX4_read 78 = .ok (.iinc 4 1, 3) := by decide +kernel
theorem dX4_read_81 : decode cX4_read 81 = .ok (.iinc 6 1, 3) := by decide +kernel
theorem dX4_read_84 : decode cX4_read 84 = .ok (.goto (-51), 3) := by decide +kernel
theorem dX4_read_87 : decode cX4_read 87 = .ok (.iinc 5 1, 3) := by decide +kernel
theorem dX4_read_90 : decode cX4_read 90 = .ok (.goto (-67), 3) := by decide +kernel
theorem dX4_read_93 : decode cX4_read 93 = .ok (.iload 4, 2) := by decide +kernel
theorem dX4_read_95 : decode cX4_read 95 = .ok (.ireturn, 1) := by decide +kernel
theorem dX4_image_0 : decode cX4_image 0 = .ok (.aload_n 0, 1) := by decide +kernel
theorem dX4_image_1 : decode cX4_image 1 = .ok (.getfield 19, 3) := by decide +kernel
theorem dX4_image_4 : decode cX4_image 4 = .ok (.aload_n 0, 1) := by decide +kernel
theorem dX4_image_5 : decode cX4_image 5 = .ok (.getfield 12, 3) := by decide +kernel
theorem dX4_image_8 : decode cX4_image 8 = .ok (.invokevirtual 177, 3) := by decide +kernel
theorem dX4_image_11 : decode cX4_image 11 = .ok (.aload_n 0, 1) := by decide +kernel
theorem dX4_image_12 : decode cX4_image 12 = .ok (.iconst 1, 1) := by decide +kernel
theorem dX4_image_13 : decode cX4_image 13 = .ok (.putfield 232, 3) := by decide +kernel
theorem dX4_image_16 : decode cX4_image 16 = .ok (.iconst 1, 1) := by decide +kernel
theorem dX4_image_17 : decode cX4_image 17 = .ok (.ireturn, 1) := by decide +kernel
theorem dX4_undo_0 : decode cX4_undo 0 = .ok (.aload_n 0, 1) := by decide +kernel
theorem dX4_undo_1 : decode cX4_undo 1 = .ok (.getfield 232, 3) := by decide +kernel
theorem dX4_undo_4 : decode cX4_undo 4 = .ok (.ifCond .ne 10, 3) := by decide +kernel
theorem dX4_undo_7 : decode cX4_undo 7 = .ok (.aload_n 0, 1) := by decide +kernel
theorem dX4_undo_8 : decode cX4_undo 8 = .ok (.ldc 152, 2) := by decide +kernel
theorem dX4_undo_10 : decode cX4_undo 10 = .ok (.invokevirtual 46, 3) := by decide +kernel
theorem dX4_undo_13 : decode cX4_undo 13 = .ok (.ireturn, 1) := by decide +kernel
theorem dX4_undo_14 : decode cX4_undo 14 = .ok (.aload_n 0, 1) := by decide +kernel
theorem dX4_undo_15 : decode cX4_undo 15 = .ok (.getfield 12, 3) := by decide +kernel
theorem dX4_undo_18 : decode cX4_undo 18 = .ok (.aload_n 0, 1) := by decide +kernel
theorem dX4_undo_19 : decode cX4_undo 19 = .ok (.getfield 19, 3) := by decide +kernel
theorem dX4_undo_22 : decode cX4_undo 22 = .ok (.invokevirtual 177, 3) := by decide +kernel
theorem dX4_undo_25 : decode cX4_undo 25 = .ok (.aload_n 0, 1) := by decide +kernel
theorem dX4_undo_26 : decode cX4_undo 26 = .ok (.getfield 12, 3) := by decide +kernel
theorem dX4_undo_29 : decode cX4_undo 29 = .ok (.getfield 92, 3) := by decide +kernel
theorem dX4_undo_32 : decode cX4_undo 32 = .ok (.ireturn, 1) := by decide +kernel
theorem dX4_tear_0 : decode cX4_tear 0 = .ok (.aload_n 0, 1) := by decide +kernel
theorem dX4_tear_1 : decode cX4_tear 1 = .ok (.getfield 232, 3) := by decide +kernel
theorem dX4_tear_4 : decode cX4_tear 4 = .ok (.ifCond .eq 7, 3) := by decide +kernel
theorem dX4_tear_7 : decode cX4_tear 7 = .ok (.iconst 1, 1) := by decide +kernel
theorem dX4_tear_8 : decode cX4_tear 8 = .ok (.goto 4, 3) := by decide +kernel
theorem dX4_tear_11 : decode cX4_tear 11 = .ok (.iconst 0, 1) := by decide +kernel
theorem dX4_tear_12 : decode cX4_tear 12 = .ok (.istore_n 1, 1) := by decide +kernel
theorem dX4_tear_13 : decode cX4_tear 13 = .ok (.aload_n 0, 1) := by decide +kernel
theorem dX4_tear_14 : decode cX4_tear 14 = .ok (.iconst 0, 1) := by decide +kernel
theorem dX4_tear_15 : decode cX4_tear 15 = .ok (.putfield 232, 3) := by decide +kernel
theorem dX4_tear_18 : decode cX4_tear 18 = .ok (.iload_n 1, 1) := by decide +kernel
theorem dX4_tear_19 : decode cX4_tear 19 = .ok (.ireturn, 1) := by decide +kernel
theorem dX4_count_0 : decode cX4_count 0 = .ok (.iload_n 1, 1) := by decide +kernel
theorem dX4_count_1 : decode cX4_count 1 = .ok (.tableswitch 69 0 3 #[31, 39, 50, 61], 31) := by decide +kernel
theorem dX4_count_32 : decode cX4_count 32 = .ok (.aload_n 0, 1) := by decide +kernel
theorem dX4_count_33 : decode cX4_count 33 = .ok (.getfield 12, 3) := by decide +kernel
theorem dX4_count_36 : decode cX4_count 36 = .ok (.getfield 92, 3) := by decide +kernel
theorem dX4_count_39 : decode cX4_count 39 = .ok (.ireturn, 1) := by decide +kernel
theorem dX4_count_40 : decode cX4_count 40 = .ok (.aload_n 0, 1) := by decide +kernel
theorem dX4_count_41 : decode cX4_count 41 = .ok (.getfield 25, 3) := by decide +kernel
theorem dX4_count_44 : decode cX4_count 44 = .ok (.getfield 161, 3) := by decide +kernel
theorem dX4_count_47 : decode cX4_count 47 = .ok (.getfield 165, 3) := by decide +kernel
theorem dX4_count_50 : decode cX4_count 50 = .ok (.ireturn, 1) := by decide +kernel
theorem dX4_count_51 : decode cX4_count 51 = .ok (.aload_n 0, 1) := by decide +kernel
theorem dX4_count_52 : decode cX4_count 52 = .ok (.getfield 12, 3) := by decide +kernel
theorem dX4_count_55 : decode cX4_count 55 = .ok (.getfield 50, 3) := by decide +kernel
theorem dX4_count_58 : decode cX4_count 58 = .ok (.invokestatic 236, 3) := by decide +kernel
theorem dX4_count_61 : decode cX4_count 61 = .ok (.ireturn, 1) := by decide +kernel
theorem dX4_count_62 : decode cX4_count 62 = .ok (.aload_n 0, 1) := by decide +kernel
theorem dX4_count_63 : decode cX4_count 63 = .ok (.getfield 12, 3) := by decide +kernel
theorem dX4_count_66 : decode cX4_count 66 = .ok (.invokevirtual 241, 3) := by decide +kernel
theorem dX4_count_69 : decode cX4_count 69 = .ok (.ireturn, 1) := by decide +kernel
theorem dX4_count_70 : decode cX4_count 70 = .ok (.aload_n 0, 1) := by decide +kernel
theorem dX4_count_71 : decode cX4_count 71 = .ok (.ldc 45, 2) := by decide +kernel
theorem dX4_count_73 : decode cX4_count 73 = .ok (.invokevirtual 46, 3) := by decide +kernel
theorem dX4_count_76 : decode cX4_count 76 = .ok (.ireturn, 1) := by decide +kernel
theorem dX4_status_0 : decode cX4_status 0 = .ok (.iload_n 1, 1) := by decide +kernel
theorem dX4_status_1 : decode cX4_status 1 = .ok (.iconst (-1), 1) := by decide +kernel
theorem dX4_status_2 : decode cX4_status 2 = .ok (.bipush 6, 2) := by decide +kernel
theorem dX4_status_4 : decode cX4_status 4 = .ok (.invokestatic 41, 3) := by decide +kernel
theorem dX4_status_7 : decode cX4_status 7 = .ok (.ifCond .ne 10, 3) := by decide +kernel
theorem dX4_status_10 : decode cX4_status 10 = .ok (.aload_n 0, 1) := by decide +kernel
theorem dX4_status_11 : decode cX4_status 11 = .ok (.ldc 45, 2) := by decide +kernel
theorem dX4_status_13 : decode cX4_status 13 = .ok (.invokevirtual 46, 3) := by decide +kernel
theorem dX4_status_16 : decode cX4_status 16 = .ok (.ireturn, 1) := by decide +kernel
theorem dX4_status_17 : decode cX4_status 17 = .ok (.iload_n 1, 1) := by decide +kernel
theorem dX4_status_18 : decode cX4_status 18 = .ok (.ifCond .lt 10, 3) := by decide +kernel
theorem dX4_status_21 : decode cX4_status 21 = .ok (.aload_n 0, 1) := by decide +kernel
theorem dX4_status_22 : decode cX4_status 22 = .ok (.getfield 35, 3) := by decide +kernel
theorem dX4_status_25 : decode cX4_status 25 = .ok (.iload_n 1, 1) := by decide +kernel
theorem dX4_status_26 : decode cX4_status 26 = .ok (.iaload, 1) := by decide +kernel
theorem dX4_status_27 : decode cX4_status 27 = .ok (.ireturn, 1) := by decide +kernel
theorem dX4_status_28 : decode cX4_status 28 = .ok (.iconst 0, 1) := by decide +kernel
theorem dX4_status_29 : decode cX4_status 29 = .ok (.istore_n 2, 1) := by decide +kernel
theorem dX4_status_30 : decode cX4_status 30 = .ok (.iconst 0, 1) := by decide +kernel
theorem dX4_status_31 : decode cX4_status 31 = .ok (.istore_n 3, 1) := by decide +kernel
theorem dX4_status_32 : decode cX4_status 32 = .ok (.iload_n 3, 1) := by decide +kernel
theorem dX4_status_33 : decode cX4_status 33 = .ok (.bipush 7, 2) := by decide +kernel
theorem dX4_status_35 : decode cX4_status 35 = .ok (.if_icmp .ge 18, 3) := by decide +kernel
theorem dX4_status_38 : decode cX4_status 38 = .ok (.iload_n 2, 1) := by decide +kernel
theorem dX4_status_39 : decode cX4_status 39 = .ok (.aload_n 0, 1) := by decide +kernel
theorem dX4_status_40 : decode cX4_status 40 = .ok (.getfield 35, 3) := by decide +kernel
theorem dX4_status_43 : decode cX4_status 43 = .ok (.iload_n 3, 1) := by decide +kernel
theorem dX4_status_44 : decode cX4_status 44 = .ok (.iaload, 1) := by decide +kernel
theorem dX4_status_45 : decode cX4_status 45 = .ok (.iadd, 1) := by decide +kernel
theorem dX4_status_46 : decode cX4_status 46 = .ok (.istore_n 2, 1) := by decide +kernel
theorem dX4_status_47 : decode cX4_status 47 = .ok (.iinc 3 1, 3) := by decide +kernel
theorem dX4_status_50 : decode cX4_status 50 = .ok (.goto (-18), 3) := by decide +kernel
theorem dX4_status_53 : decode cX4_status 53 = .ok (.iload_n 2, 1) := by decide +kernel
theorem dX4_status_54 : decode cX4_status 54 = .ok (.ireturn, 1) := by decide +kernel
theorem dX4_tell_0 : decode cX4_tell 0 = .ok (.ldc 45, 2) := by decide +kernel
theorem dX4_tell_2 : decode cX4_tell 2 = .ok (.iload_n 1, 1) := by decide +kernel
theorem dX4_tell_3 : decode cX4_tell 3 = .ok (.isub, 1) := by decide +kernel
theorem dX4_tell_4 : decode cX4_tell 4 = .ok (.istore_n 2, 1) := by decide +kernel
theorem dX4_tell_5 : decode cX4_tell 5 = .ok (.iload_n 2, 1) := by decide +kernel
theorem dX4_tell_6 : decode cX4_tell 6 = .ok (.iconst 0, 1) := by decide +kernel
theorem dX4_tell_7 : decode cX4_tell 7 = .ok (.bipush 6, 2) := by decide +kernel
theorem dX4_tell_9 : decode cX4_tell 9 = .ok (.invokestatic 41, 3) := by decide +kernel
theorem dX4_tell_12 : decode cX4_tell 12 = .ok (.ifCond .eq 13, 3) := by decide +kernel
theorem dX4_tell_15 : decode cX4_tell 15 = .ok (.aload_n 0, 1) := by decide +kernel
theorem dX4_tell_16 : decode cX4_tell 16 = .ok (.getfield 35, 3) := by decide +kernel
theorem dX4_tell_19 : decode cX4_tell 19 = .ok (.iload_n 2, 1) := by decide +kernel
theorem dX4_tell_20 : decode cX4_tell 20 = .ok (.dup2, 1) := by decide +kernel
theorem dX4_tell_21 : decode cX4_tell 21 = .ok (.iaload, 1) := by decide +kernel
theorem dX4_tell_22 : decode cX4_tell 22 = .ok (.iconst 1, 1) := by decide +kernel
theorem dX4_tell_23 : decode cX4_tell 23 = .ok (.iadd, 1) := by decide +kernel
theorem dX4_tell_24 : decode cX4_tell 24 = .ok (.iastore, 1) := by decide +kernel
theorem dX4_tell_25 : decode cX4_tell 25 = .ok (.iload_n 1, 1) := by decide +kernel
theorem dX4_tell_26 : decode cX4_tell 26 = .ok (.ireturn, 1) := by decide +kernel
theorem dX4_put_0 : decode cX4_put 0 = .ok (.iload_n 3, 1) := by decide +kernel
theorem dX4_put_1 : decode cX4_put 1 = .ok (.iconst 0, 1) := by decide +kernel
theorem dX4_put_2 : decode cX4_put 2 = .ok (.iload 4, 2) := by decide +kernel
theorem dX4_put_4 : decode cX4_put 4 = .ok (.invokestatic 41, 3) := by decide +kernel
theorem dX4_put_7 : decode cX4_put 7 = .ok (.ifCond .eq 15, 3) := by decide +kernel
theorem dX4_put_10 : decode cX4_put 10 = .ok (.iload_n 2, 1) := by decide +kernel
theorem dX4_put_11 : decode cX4_put 11 = .ok (.iconst 0, 1) := by decide +kernel
theorem dX4_put_12 : decode cX4_put 12 = .ok (.aload_n 1, 1) := by decide +kernel
theorem dX4_put_13 : decode cX4_put 13 = .ok (.arraylength, 1) := by decide +kernel
theorem dX4_put_14 : decode cX4_put 14 = .ok (.iconst 1, 1) := by decide +kernel
theorem dX4_put_15 : decode cX4_put 15 = .ok (.isub, 1) := by decide +kernel
theorem dX4_put_16 : decode cX4_put 16 = .ok (.invokestatic 41, 3) := by decide +kernel
theorem dX4_put_19 : decode cX4_put 19 = .ok (.ifCond .ne 10, 3) := by decide +kernel
theorem dX4_put_22 : decode cX4_put 22 = .ok (.aload_n 0, 1) := by decide +kernel
theorem dX4_put_23 : decode cX4_put 23 = .ok (.ldc 45, 2) := by decide +kernel
theorem dX4_put_25 : decode cX4_put 25 = .ok (.invokevirtual 46, 3) := by decide +kernel
theorem dX4_put_28 : decode cX4_put 28 = .ok (.ireturn, 1) := by decide +kernel
theorem dX4_put_29 : decode cX4_put 29 = .ok (.aload_n 1, 1) := by decide +kernel
theorem dX4_put_30 : decode cX4_put 30 = .ok (.iload_n 2, 1) := by decide +kernel
theorem dX4_put_31 : decode cX4_put 31 = .ok (.iaload, 1) := by decide +kernel
theorem dX4_put_32 : decode cX4_put 32 = .ok (.istore 5, 2) := by decide +kernel
theorem dX4_put_34 : decode cX4_put 34 = .ok (.aload_n 1, 1) := by decide +kernel
theorem dX4_put_35 : decode cX4_put 35 = .ok (.iload_n 2, 1) := by decide +kernel
theorem dX4_put_36 : decode cX4_put 36 = .ok (.iload_n 3, 1) := by decide +kernel
theorem dX4_put_37 : decode cX4_put 37 = .ok (.iastore, 1) := by decide +kernel
theorem dX4_put_38 : decode cX4_put 38 = .ok (.iload 5, 2) := by decide +kernel
theorem dX4_put_40 : decode cX4_put 40 = .ok (.ireturn, 1) := by decide +kernel
theorem dX4_lookAhead_0 : decode cX4_lookAhead 0 = .ok (.aload_n 0, 1) := by decide +kernel
theorem dX4_lookAhead_1 : decode cX4_lookAhead 1 = .ok (.getfield 16, 3) := by decide +kernel
theorem dX4_lookAhead_4 : decode cX4_lookAhead 4 = .ok (.aload_n 0, 1) := by decide +kernel
theorem dX4_lookAhead_5 : decode cX4_lookAhead 5 = .ok (.getfield 12, 3) := by decide +kernel
theorem dX4_lookAhead_8 : decode cX4_lookAhead 8 = .ok (.invokevirtual 177, 3) := by decide +kernel
theorem dX4_lookAhead_11 : decode cX4_lookAhead 11 = .ok (.return_, 1) := by decide +kernel
theorem dX4_stumbledIn_0 : decode cX4_stumbledIn 0 = .ok (.aload_n 0, 1) := by decide +kernel
theorem dX4_stumbledIn_1 : decode cX4_stumbledIn 1 = .ok (.getfield 16, 3) := by decide +kernel
theorem dX4_stumbledIn_4 : decode cX4_stumbledIn 4 = .ok (.iload_n 1, 1) := by decide +kernel
theorem dX4_stumbledIn_5 : decode cX4_stumbledIn 5 = .ok (.invokevirtual 137, 3) := by decide +kernel
theorem dX4_stumbledIn_8 : decode cX4_stumbledIn 8 = .ok (.aload_n 0, 1) := by decide +kernel
theorem dX4_stumbledIn_9 : decode cX4_stumbledIn 9 = .ok (.getfield 16, 3) := by decide +kernel
theorem dX4_stumbledIn_12 : decode cX4_stumbledIn 12 = .ok (.invokevirtual 77, 3) := by decide +kernel
theorem dX4_stumbledIn_15 : decode cX4_stumbledIn 15 = .ok (.ireturn, 1) := by decide +kernel
theorem dX4_findingOfBook_0 : decode cX4_findingOfBook 0 = .ok (.iload_n 1, 1) := by decide +kernel
theorem dX4_findingOfBook_1 : decode cX4_findingOfBook 1 = .ok (.invokestatic 181, 3) := by decide +kernel
theorem dX4_findingOfBook_4 : decode cX4_findingOfBook 4 = .ok (.ifCond .ne 6, 3) := by decide +kernel
theorem dX4_findingOfBook_7 : decode cX4_findingOfBook 7 = .ok (.ldc 45, 2) := by decide +kernel
theorem dX4_findingOfBook_9 : decode cX4_findingOfBook 9 = .ok (.ireturn, 1) := by decide +kernel
theorem dX4_findingOfBook_10 : decode cX4_findingOfBook 10 = .ok (.aload_n 0, 1) := by decide +kernel
theorem dX4_findingOfBook_11 : decode cX4_findingOfBook 11 = .ok (.getfield 31, 3) := by decide +kernel
theorem dX4_findingOfBook_14 : decode cX4_findingOfBook 14 = .ok (.iload_n 1, 1) := by decide +kernel
theorem dX4_findingOfBook_15 : decode cX4_findingOfBook 15 = .ok (.aaload, 1) := by decide +kernel
theorem dX4_findingOfBook_16 : decode cX4_findingOfBook 16 = .ok (.invokevirtual 194, 3) := by decide +kernel
theorem dX4_findingOfBook_19 : decode cX4_findingOfBook 19 = .ok (.ifCond .eq 6, 3) := by decide +kernel
theorem dX4_findingOfBook_22 : decode cX4_findingOfBook 22 = .ok (.ldc 197, 2) := by decide +kernel
theorem dX4_findingOfBook_24 : decode cX4_findingOfBook 24 = .ok (.ireturn, 1) := by decide +kernel
theorem dX4_findingOfBook_25 : decode cX4_findingOfBook 25 = .ok (.aload_n 0, 1) := by decide +kernel
theorem dX4_findingOfBook_26 : decode cX4_findingOfBook 26 = .ok (.getfield 12, 3) := by decide +kernel
theorem dX4_findingOfBook_29 : decode cX4_findingOfBook 29 = .ok (.iload_n 2, 1) := by decide +kernel
theorem dX4_findingOfBook_30 : decode cX4_findingOfBook 30 = .ok (.invokevirtual 54, 3) := by decide +kernel
theorem dX4_findingOfBook_33 : decode cX4_findingOfBook 33 = .ok (.ifCond .eq 7, 3) := by decide +kernel
theorem dX4_findingOfBook_36 : decode cX4_findingOfBook 36 = .ok (.iconst 0, 1) := by decide +kernel
theorem dX4_findingOfBook_37 : decode cX4_findingOfBook 37 = .ok (.goto 5, 3) := by decide +kernel
theorem dX4_findingOfBook_40 : decode cX4_findingOfBook 40 = .ok (.ldc 45, 2) := by decide +kernel
theorem dX4_findingOfBook_42 : decode cX4_findingOfBook 42 = .ok (.ireturn, 1) := by decide +kernel
theorem dX4_stumblesNoMore_0 : decode cX4_stumblesNoMore 0 = .ok (.iconst 0, 1) := by decide +kernel
theorem dX4_stumblesNoMore_1 : decode cX4_stumblesNoMore 1 = .ok (.istore_n 3, 1) := by decide +kernel
theorem dX4_stumblesNoMore_2 : decode cX4_stumblesNoMore 2 = .ok (.iload_n 3, 1) := by decide +kernel
theorem dX4_stumblesNoMore_3 : decode cX4_stumblesNoMore 3 = .ok (.iload_n 2, 1) := by decide +kernel
theorem dX4_stumblesNoMore_4 : decode cX4_stumblesNoMore 4 = .ok (.if_icmp .ge 39, 3) := by decide +kernel
theorem dX4_stumblesNoMore_7 : decode cX4_stumblesNoMore 7 = .ok (.aload_n 0, 1) := by decide +kernel
theorem dX4_stumblesNoMore_8 : decode cX4_stumblesNoMore 8 = .ok (.getfield 16, 3) := by decide +kernel
theorem dX4_stumblesNoMore_11 : decode cX4_stumblesNoMore 11 = .ok (.invokevirtual 146, 3) := by decide +kernel
theorem dX4_stumblesNoMore_14 : decode cX4_stumblesNoMore 14 = .ok (.aload_n 0, 1) := by decide +kernel
theorem dX4_stumblesNoMore_15 : decode cX4_stumblesNoMore 15 = .ok (.getfield 16, 3) := by decide +kernel
theorem dX4_stumblesNoMore_18 : decode cX4_stumblesNoMore 18 = .ok (.getfield 104, 3) := by decide +kernel
theorem dX4_stumblesNoMore_21 : decode cX4_stumblesNoMore 21 = .ok (.iload_n 1, 1) := by decide +kernel
theorem dX4_stumblesNoMore_22 : decode cX4_stumblesNoMore 22 = .ok (.iaload, 1) := by decide +kernel
theorem dX4_stumblesNoMore_23 : decode cX4_stumblesNoMore 23 = .ok (.aload_n 0, 1) := by decide +kernel
theorem dX4_stumblesNoMore_24 : decode cX4_stumblesNoMore 24 = .ok (.getfield 12, 3) := by decide +kernel
theorem dX4_stumblesNoMore_27 : decode cX4_stumblesNoMore 27 = .ok (.getfield 104, 3) := by decide +kernel
theorem dX4_stumblesNoMore_30 : decode cX4_stumblesNoMore 30 = .ok (.iload_n 1, 1) := by decide +kernel
theorem dX4_stumblesNoMore_31 : decode cX4_stumblesNoMore 31 = .ok (.iaload, 1) := by decide +kernel
theorem dX4_stumblesNoMore_32 : decode cX4_stumblesNoMore 32 = .ok (.if_icmp .le 5, 3) := by decide +kernel
theorem dX4_stumblesNoMore_35 : decode cX4_stumblesNoMore 35 = .ok (.iconst 0, 1) := by decide +kernel
theorem dX4_stumblesNoMore_36 : decode cX4_stumblesNoMore 36 = .ok (.ireturn, 1) := by decide +kernel
theorem dX4_stumblesNoMore_37 : decode cX4_stumblesNoMore 37 = .ok (.iinc 3 1, 3) := by decide +kernel
theorem dX4_stumblesNoMore_40 : decode cX4_stumblesNoMore 40 = .ok (.goto (-38), 3) := by decide +kernel
theorem dX4_stumblesNoMore_43 : decode cX4_stumblesNoMore 43 = .ok (.iconst 1, 1) := by decide +kernel
theorem dX4_stumblesNoMore_44 : decode cX4_stumblesNoMore 44 = .ok (.ireturn, 1) := by decide +kernel
theorem dX4_stumblesJustAs_0 : decode cX4_stumblesJustAs 0 = .ok (.iconst 0, 1) := by decide +kernel
theorem dX4_stumblesJustAs_1 : decode cX4_stumblesJustAs 1 = .ok (.istore_n 3, 1) := by decide +kernel
theorem dX4_stumblesJustAs_2 : decode cX4_stumblesJustAs 2 = .ok (.iload_n 3, 1) := by decide +kernel
theorem dX4_stumblesJustAs_3 : decode cX4_stumblesJustAs 3 = .ok (.aload_n 1, 1) := by decide +kernel
theorem dX4_stumblesJustAs_4 : decode cX4_stumblesJustAs 4 = .ok (.getfield 191, 3) := by decide +kernel
theorem dX4_stumblesJustAs_7 : decode cX4_stumblesJustAs 7 = .ok (.if_icmp .ge 38, 3) := by decide +kernel
theorem dX4_stumblesJustAs_10 : decode cX4_stumblesJustAs 10 = .ok (.aload_n 1, 1) := by decide +kernel
theorem dX4_stumblesJustAs_11 : decode cX4_stumblesJustAs 11 = .ok (.getfield 198, 3) := by decide +kernel
theorem dX4_stumblesJustAs_14 : decode cX4_stumblesJustAs 14 = .ok (.iload_n 3, 1) := by decide +kernel
theorem dX4_stumblesJustAs_15 : decode cX4_stumblesJustAs 15 = .ok (.laload, 1) := by decide +kernel
theorem dX4_stumblesJustAs_16 : decode cX4_stumblesJustAs 16 = .ok (.aload_n 0, 1) := by decide +kernel
theorem dX4_stumblesJustAs_17 : decode cX4_stumblesJustAs 17 = .ok (.getfield 16, 3) := by decide +kernel
theorem dX4_stumblesJustAs_20 : decode cX4_stumblesJustAs 20 = .ok (.getfield 104, 3) := by decide +kernel
theorem dX4_stumblesJustAs_23 : decode cX4_stumblesJustAs 23 = .ok (.iload_n 2, 1) := by decide +kernel
theorem dX4_stumblesJustAs_24 : decode cX4_stumblesJustAs 24 = .ok (.iaload, 1) := by decide +kernel
theorem dX4_stumblesJustAs_25 : decode cX4_stumblesJustAs 25 = .ok (.i2l, 1) := by decide +kernel
theorem dX4_stumblesJustAs_26 : decode cX4_stumblesJustAs 26 = .ok (.lcmp, 1) := by decide +kernel
theorem dX4_stumblesJustAs_27 : decode cX4_stumblesJustAs 27 = .ok (.ifCond .eq 5, 3) := by decide +kernel
theorem dX4_stumblesJustAs_30 : decode cX4_stumblesJustAs 30 = .ok (.iconst 0, 1) := by decide +kernel
theorem dX4_stumblesJustAs_31 : decode cX4_stumblesJustAs 31 = .ok (.ireturn, 1) := by decide +kernel
theorem dX4_stumblesJustAs_32 : decode cX4_stumblesJustAs 32 = .ok (.aload_n 0, 1) := by decide +kernel
theorem dX4_stumblesJustAs_33 : decode cX4_stumblesJustAs 33 = .ok (.getfield 16, 3) := by decide +kernel
theorem dX4_stumblesJustAs_36 : decode cX4_stumblesJustAs 36 = .ok (.invokevirtual 146, 3) := by decide +kernel
theorem dX4_stumblesJustAs_39 : decode cX4_stumblesJustAs 39 = .ok (.iinc 3 1, 3) := by decide +kernel
theorem dX4_stumblesJustAs_42 : decode cX4_stumblesJustAs 42 = .ok (.goto (-40), 3) := by decide +kernel
theorem dX4_stumblesJustAs_45 : decode cX4_stumblesJustAs 45 = .ok (.iconst 1, 1) := by decide +kernel
theorem dX4_stumblesJustAs_46 : decode cX4_stumblesJustAs 46 = .ok (.ireturn, 1) := by decide +kernel
theorem dX4_within_0 : decode cX4_within 0 = .ok (.iload_n 0, 1) := by decide +kernel
theorem dX4_within_1 : decode cX4_within 1 = .ok (.iload_n 1, 1) := by decide +kernel
theorem dX4_within_2 : decode cX4_within 2 = .ok (.if_icmp .lt 12, 3) := by decide +kernel
theorem dX4_within_5 : decode cX4_within 5 = .ok (.iload_n 0, 1) := by decide +kernel
theorem dX4_within_6 : decode cX4_within 6 = .ok (.iload_n 2, 1) := by decide +kernel
theorem dX4_within_7 : decode cX4_within 7 = .ok (.if_icmp .gt 7, 3) := by decide +kernel
theorem dX4_within_10 : decode cX4_within 10 = .ok (.iconst 1, 1) := by decide +kernel
theorem dX4_within_11 : decode cX4_within 11 = .ok (.goto 4, 3) := by decide +kernel
theorem dX4_within_14 : decode cX4_within 14 = .ok (.iconst 0, 1) := by decide +kernel
theorem dX4_within_15 : decode cX4_within 15 = .ok (.ireturn, 1) := by decide +kernel
theorem dX4_isIn_0 : decode cX4_isIn 0 = .ok (.iload_n 0, 1) := by decide +kernel
theorem dX4_isIn_1 : decode cX4_isIn 1 = .ok (.iload_n 1, 1) := by decide +kernel
theorem dX4_isIn_2 : decode cX4_isIn 2 = .ok (.ishr, 1) := by decide +kernel
theorem dX4_isIn_3 : decode cX4_isIn 3 = .ok (.iconst 1, 1) := by decide +kernel
theorem dX4_isIn_4 : decode cX4_isIn 4 = .ok (.iand, 1) := by decide +kernel
theorem dX4_isIn_5 : decode cX4_isIn 5 = .ok (.iconst 1, 1) := by decide +kernel
theorem dX4_isIn_6 : decode cX4_isIn 6 = .ok (.if_icmp .ne 7, 3) := by decide +kernel
theorem dX4_isIn_9 : decode cX4_isIn 9 = .ok (.iconst 1, 1) := by decide +kernel
theorem dX4_isIn_10 : decode cX4_isIn 10 = .ok (.goto 4, 3) := by decide +kernel
theorem dX4_isIn_13 : decode cX4_isIn 13 = .ok (.iconst 0, 1) := by decide +kernel
theorem dX4_isIn_14 : decode cX4_isIn 14 = .ok (.ireturn, 1) := by decide +kernel
theorem dX4_isKind_0 : decode cX4_isKind 0 = .ok (.iload_n 0, 1) := by decide +kernel
theorem dX4_isKind_1 : decode cX4_isKind 1 = .ok (.iconst 0, 1) := by decide +kernel
theorem dX4_isKind_2 : decode cX4_isKind 2 = .ok (.iconst 5, 1) := by decide +kernel
theorem dX4_isKind_3 : decode cX4_isKind 3 = .ok (.invokestatic 41, 3) := by decide +kernel
theorem dX4_isKind_6 : decode cX4_isKind 6 = .ok (.ireturn, 1) := by decide +kernel
theorem dX4_isSheet_0 : decode cX4_isSheet 0 = .ok (.iload_n 0, 1) := by decide +kernel
theorem dX4_isSheet_1 : decode cX4_isSheet 1 = .ok (.iconst 0, 1) := by decide +kernel
theorem dX4_isSheet_2 : decode cX4_isSheet 2 = .ok (.iconst 3, 1) := by decide +kernel
theorem dX4_isSheet_3 : decode cX4_isSheet 3 = .ok (.invokestatic 41, 3) := by decide +kernel
theorem dX4_isSheet_6 : decode cX4_isSheet 6 = .ok (.ireturn, 1) := by decide +kernel
theorem dX4_isWidth_0 : decode cX4_isWidth 0 = .ok (.iload_n 0, 1) := by decide +kernel
theorem dX4_isWidth_1 : decode cX4_isWidth 1 = .ok (.ifCond .eq 21, 3) := by decide +kernel
theorem dX4_isWidth_4 : decode cX4_isWidth 4 = .ok (.iload_n 0, 1) := by decide +kernel
theorem dX4_isWidth_5 : decode cX4_isWidth 5 = .ok (.bipush 8, 2) := by decide +kernel
theorem dX4_isWidth_7 : decode cX4_isWidth 7 = .ok (.if_icmp .eq 15, 3) := by decide +kernel
theorem dX4_isWidth_10 : decode cX4_isWidth 10 = .ok (.iload_n 0, 1) := by decide +kernel
theorem dX4_isWidth_11 : decode cX4_isWidth 11 = .ok (.bipush 16, 2) := by decide +kernel
theorem dX4_isWidth_13 : decode cX4_isWidth 13 = .ok (.if_icmp .eq 9, 3) := by decide +kernel
theorem dX4_isWidth_16 : decode cX4_isWidth 16 = .ok (.iload_n 0, 1) := by decide +kernel
theorem dX4_isWidth_17 : decode cX4_isWidth 17 = .ok (.bipush 64, 2) := by decide +kernel
theorem dX4_isWidth_19 : decode cX4_isWidth 19 = .ok (.if_icmp .ne 7, 3) := by decide +kernel
theorem dX4_isWidth_22 : decode cX4_isWidth 22 = .ok (.iconst 1, 1) := by decide +kernel
theorem dX4_isWidth_23 : decode cX4_isWidth 23 = .ok (.goto 4, 3) := by decide +kernel
theorem dX4_isWidth_26 : decode cX4_isWidth 26 = .ok (.iconst 0, 1) := by decide +kernel
theorem dX4_isWidth_27 : decode cX4_isWidth 27 = .ok (.ireturn, 1) := by decide +kernel
theorem dX4_isUnder_0 : decode cX4_isUnder 0 = .ok (.iload_n 0, 1) := by decide +kernel
theorem dX4_isUnder_1 : decode cX4_isUnder 1 = .ok (.istore_n 2, 1) := by decide +kernel
theorem dX4_isUnder_2 : decode cX4_isUnder 2 = .ok (.iconst 0, 1) := by decide +kernel
theorem dX4_isUnder_3 : decode cX4_isUnder 3 = .ok (.istore_n 3, 1) := by decide +kernel
theorem dX4_isUnder_4 : decode cX4_isUnder 4 = .ok (.iload_n 3, 1) := by decide +kernel
theorem dX4_isUnder_5 : decode cX4_isUnder 5 = .ok (.bipush 6, 2) := by decide +kernel
theorem dX4_isUnder_7 : decode cX4_isUnder 7 = .ok (.if_icmp .ge 29, 3) := by decide +kernel
theorem dX4_isUnder_10 : decode cX4_isUnder 10 = .ok (.iload_n 2, 1) := by decide +kernel
theorem dX4_isUnder_11 : decode cX4_isUnder 11 = .ok (.invokestatic 80, 3) := by decide +kernel
theorem dX4_isUnder_14 : decode cX4_isUnder 14 = .ok (.ifCond .eq 22, 3) := by decide +kernel
theorem dX4_isUnder_17 : decode cX4_isUnder 17 = .ok (.iload_n 2, 1) := by decide +kernel
theorem dX4_isUnder_18 : decode cX4_isUnder 18 = .ok (.iload_n 1, 1) := by decide +kernel
theorem dX4_isUnder_19 : decode cX4_isUnder 19 = .ok (.if_icmp .ne 5, 3) := by decide +kernel
theorem dX4_isUnder_22 : decode cX4_isUnder 22 = .ok (.iconst 1, 1) := by decide +kernel
theorem dX4_isUnder_23 : decode cX4_isUnder 23 = .ok (.ireturn, 1) := by decide +kernel
theorem dX4_isUnder_24 : decode cX4_isUnder 24 = .ok (.getstatic 244, 3) := by decide +kernel
theorem dX4_isUnder_27 : decode cX4_isUnder 27 = .ok (.iload_n 2, 1) := by decide +kernel
theorem dX4_isUnder_28 : decode cX4_isUnder 28 = .ok (.iaload, 1) := by decide +kernel
theorem dX4_isUnder_29 : decode cX4_isUnder 29 = .ok (.istore_n 2, 1) := by decide +kernel
theorem dX4_isUnder_30 : decode cX4_isUnder 30 = .ok (.iinc 3 1, 3) := by decide +kernel
theorem dX4_isUnder_33 : decode cX4_isUnder 33 = .ok (.goto (-29), 3) := by decide +kernel
theorem dX4_isUnder_36 : decode cX4_isUnder 36 = .ok (.iconst 0, 1) := by decide +kernel
theorem dX4_isUnder_37 : decode cX4_isUnder 37 = .ok (.ireturn, 1) := by decide +kernel
theorem dX4_shadeOf_0 : decode cX4_shadeOf 0 = .ok (.iload_n 0, 1) := by decide +kernel
theorem dX4_shadeOf_1 : decode cX4_shadeOf 1 = .ok (.lookupswitch 31 #[(1, 27), (4, 29)], 27) := by decide +kernel
theorem dX4_shadeOf_28 : decode cX4_shadeOf 28 = .ok (.iconst 1, 1) := by decide +kernel
theorem dX4_shadeOf_29 : decode cX4_shadeOf 29 = .ok (.ireturn, 1) := by decide +kernel
theorem dX4_shadeOf_30 : decode cX4_shadeOf 30 = .ok (.iconst 2, 1) := by decide +kernel
theorem dX4_shadeOf_31 : decode cX4_shadeOf 31 = .ok (.ireturn, 1) := by decide +kernel
theorem dX4_shadeOf_32 : decode cX4_shadeOf 32 = .ok (.iconst 0, 1) := by decide +kernel
theorem dX4_shadeOf_33 : decode cX4_shadeOf 33 = .ok (.ireturn, 1) := by decide +kernel
